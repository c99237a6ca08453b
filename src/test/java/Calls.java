/** The calls of the face by their names, so that a test can hold them in rows. */
final class Calls {
    private Calls() {
    }

    static long answer(SeaGates x, String name, int... a) {
        switch (name) {
            case "sheet": return x.sheet(a[0], a[1], a[2]);
            case "set": return x.set(a[0], a[1], a[2]);
            case "copy": return x.copy(a[0], a[1], a[2], a[3], a[4]);
            case "drop": return x.drop(a[0]);
            case "world": return x.world(a[0], a[1], a[2]);
            case "river": return x.river(a[0], a[1]);
            case "rule": return x.rule(a[0], a[1]);
            case "best": return x.best();
            case "hour": return x.hour(a[0], a[1], a[2]);
            case "shutAt": return x.shutAt(a[0]);
            case "alarm": return x.alarm();
            case "groups": return x.groups(a[0]);
            case "gate": return x.gate(a[0], a[1]);
            case "fail": return x.fail(a[0]);
            case "mend": return x.mend(a[0]);
            case "time": return x.time(a[0], a[1]);
            case "ship": return x.ship(a[0], a[1]);
            case "waits": return x.waits(a[0], a[1], a[2]);
            case "closings": return x.closings(a[0], a[1], a[2], a[3], a[4], a[5]);
            case "tooMany": return x.tooMany(a[0], a[1], a[2], a[3], a[4], a[5]);
            case "kind": return x.kind(a[0]);
            case "as": return x.as(a[0], a[1]);
            case "ask": return x.ask(a[0], a[1]);
            case "trace": return x.trace(a[0]);
            case "count": return x.count(a[0]);
            case "status": return x.status();
            default: throw new IllegalArgumentException(name);
        }
    }
}
