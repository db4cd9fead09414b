/** Makes a call of DoorCalls by its name. */
final class Answers {
    private Answers() {
    }

    static long of(DoorCalls x, String name, int... a) {
        switch (name) {
            case "row": return x.row(a[0], a[1]);
            case "lay": return x.lay(a[0], a[1], a[2]);
            case "at": return x.at(a[0], a[1]);
            case "tear": return x.tear(a[0]);
            case "copy": return x.copy(a[0], a[1], a[2], a[3], a[4]);
            case "text": return x.text(a[0], a[1]);
            case "put": return x.put(a[0], a[1], a[2]);
            case "size": return x.size(a[0]);
            case "fault": return x.fault(a[0]);
            case "shape": return x.shape(a[0], a[1]);
            case "item": return x.item(a[0], a[1], a[2]);
            case "fields": return x.fields(a[0], a[1]);
            case "write": return x.write(a[0], a[1], a[2], a[3]);
            case "read": return x.read(a[0], a[1], a[2], a[3]);
            case "names": return x.names(a[0]);
            case "handOn": return x.handOn(a[0]);
            case "fits": return x.fits(a[0], a[1], a[2]);
            case "unlike": return x.unlike(a[0], a[1], a[2]);
            case "version": return x.version(a[0], a[1], a[2]);
            case "door": return x.door(a[0], a[1], a[2]);
            case "clash": return x.clash();
            case "order": return x.order();
            case "orderAt": return x.orderAt(a[0]);
            case "putIn": return x.putIn(a[0]);
            case "service": return x.service(a[0], a[1], a[2], a[3]);
            case "call": return x.call(a[0], a[1], a[2], a[3], a[4], a[5]);
            case "breaks": return x.breaks(a[0], a[1], a[2], a[3]);
            case "ping": return x.ping(a[0], a[1]);
            case "tick": return x.tick();
            case "run": return x.run(a[0]);
            case "cancel": return x.cancel(a[0]);
            case "told": return x.told(a[0], a[1]);
            case "where": return x.where(a[0], a[1]);
            case "queue": return x.queue(a[0]);
            case "kept": return x.kept(a[0]);
            case "frame": return x.frame(a[0], a[1]);
            case "mark": return x.mark(a[0], a[1]);
            case "credit": return x.credit(a[0], a[1]);
            case "piece": return x.piece(a[0]);
            case "stream": return x.stream(a[0], a[1]);
            case "mean": return x.mean();
            case "asked": return x.asked();
            case "upper": return x.upper();
            case "lower": return x.lower();
            case "count": return x.count(a[0]);
            case "finding": return x.finding();
            case "findings": return x.findings(a[0]);
            case "digest": return x.digest();
            default: throw new IllegalArgumentException(name);
        }
    }
}
