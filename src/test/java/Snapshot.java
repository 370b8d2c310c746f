/**
 * What an object's calls tell of its DREAM and of its state, as a text. Undoing and going back are looked at last, so
 * the object is used up by it; with a text of 500 bytes all stays below the 512 calls of an object.
 */
final class Snapshot {
    private final AsleepInside x;
    private final StringBuilder text = new StringBuilder();
    private final int floors;
    private final int sleepers;

    private Snapshot(AsleepInside x) {
        this.x = x;
        floors = x.size(0);
        sleepers = x.size(4);
    }

    /** All but THE TAPE and the latest FAULT. */
    static String ofDream(AsleepInside x) {
        Snapshot it = new Snapshot(x);
        for (int what = 0; what <= 11; what++) {
            it.add(" size", x.size(what));
        }
        it.told();
        it.ahead();
        it.undone();
        return it.text.toString();
    }

    /** With THE TAPE's length and the latest FAULT. */
    static String of(AsleepInside x) {
        String outside = "fault " + x.fault() + " tape " + x.size(12);
        return outside + ofDream(x);
    }

    private void add(String what, long answer) {
        text.append(what).append(' ').append(answer);
    }

    private void told() {
        for (int floor = 0; floor <= floors; floor++) {
            add(" quick", x.quick(floor));
            add(" rate", x.rate(floor));
        }
        for (int k = 0; k < x.size(7); k++) {
            add(" task", x.task(k));
        }
        for (int what = 0; what <= 2; what++) {
            add(" best", x.best(what));
        }
        add(" soonest", x.soonest());
        add(" deep", x.deep());
        add(" ask", x.ask());
        add(" rates", x.rates());
        for (int s = 0; s < sleepers; s++) {
            for (int what = 4; what <= 6; what++) {
                add(" told", x.sleeper(s, what));
            }
            add(" takes", x.takes(s));
            add(" price", x.price(s, floors));
            add(" enough", x.enough(s, floors));
            add(" mean", x.mean(s, floors, true));
        }
    }

    private void ahead() {
        add(" ticks", x.ticks());
        add(" left", x.left());
        add(" crowd", x.crowd(600));
        add(" off", x.off());
        for (int s = 0; s < sleepers; s++) {
            place(s);
            add(" lived", x.lived(s, false));
            add(" by", x.lived(s, true));
            add(" in 3", x.floorIn(s, 3));
            add(" in 40", x.floorIn(s, 40));
            add(" head", x.headIn(s, 600));
            add(" woken", x.woken(s, 600));
            add(" lonely", x.lonely(s, 600));
        }
    }

    private void place(int s) {
        for (int what = 0; what <= 3; what++) {
            add(" is", x.sleeper(s, what));
        }
    }

    private void undone() {
        for (int i = 0; i <= 12 && x.undo(); i++) {
            add(" undone", x.ticks());
            for (int s = 0; s < sleepers; s++) {
                add(" on", x.sleeper(s, 0));
                add(" since", x.sleeper(s, 3));
            }
        }
        for (int i = 0; i < 4 && x.back(i); i++) {
            add(" back", x.ticks());
            for (int s = 0; s < sleepers; s++) {
                place(s);
                add(" lived", x.lived(s, false));
            }
        }
    }
}
