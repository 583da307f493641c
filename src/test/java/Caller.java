/** Calls the class by a method's name, so that runs can be made up. */
final class Caller {
    /** Each method's name, then how many numbers it takes. */
    static final String[] NAMES = {
        "counter 0", "one 3", "type 1", "clear 0", "read 0", "lend 2", "leave 1", "evening 1", "undo 0",
        "of 2", "about 2", "fit 2", "best 1", "dumb 0", "own 0", "ring 1", "swaps 1", "steps 0", "worst 1",
        "slips 2", "note 5", "forget 0", "is 1", "listen 1", "whose 1", "asks 3", "thieves 2", "lents 2",
        "part 1", "image 1", "from 1", "status 1", "count 1", "digest 0"};

    private Caller() {
    }

    static long call(BorrowedVoice x, String name, int... a) {
        switch (name) {
            case "counter": return x.counter();
            case "one": return x.one(a[0], a[1], a[2]);
            case "type": return x.type(a[0]);
            case "clear": return x.clear();
            case "read": return x.read();
            case "lend": return x.lend(a[0], a[1]);
            case "leave": return x.leave(a[0]);
            case "evening": return x.evening(a[0]);
            case "undo": return x.undo();
            case "of": return x.of(a[0], a[1]);
            case "about": return x.about(a[0], a[1]);
            case "fit": return x.fit(a[0], a[1]);
            case "best": return x.best(a[0]);
            case "dumb": return x.dumb();
            case "own": return x.own();
            case "ring": return x.ring(a[0]);
            case "swaps": return x.swaps(a[0]);
            case "steps": return x.steps();
            case "worst": return x.worst(a[0]);
            case "slips": return x.slips(a[0], a[1]);
            case "note": return x.note(a[0], a[1], a[2], a[3], a[4]);
            case "forget": return x.forget();
            case "is": return x.is(a[0]);
            case "listen": return x.listen(a[0]);
            case "whose": return x.whose(a[0]);
            case "asks": return x.asks(a[0], a[1], a[2]);
            case "thieves": return x.thieves(a[0], a[1]);
            case "lents": return x.lents(a[0], a[1]);
            case "part": return x.part(a[0]);
            case "image": return x.image(a[0]);
            case "from": return x.from(a[0]);
            case "status": return x.status(a[0]);
            case "count": return x.count(a[0]);
            case "digest": return x.digest();
            default: throw new IllegalArgumentException(name);
        }
    }
}
