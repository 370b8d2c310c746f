import java.util.ArrayList;
import java.util.List;
import java.util.function.ToLongFunction;

/**
 * Terms IV and the refusals of each promise: each by its own number of trouble(), with all as it was behind it; and each
 * call that may be refused, granted at the bounds.
 */
public final class RefusalTest {
    private static final Checks CHECKS = new Checks();
    private static final int LOW = Integer.MIN_VALUE;
    private static final int HIGH = Integer.MAX_VALUE;

    /** QUICK 1, 2, 6, 12; three FLOORS, two HEADS, four sleepers, two TASKS; by its SIGN only FLOOR 1 is DEEP. */
    private static final String BUSY = "dream rates 2,3,2 fall 4 morning 30;head g;head h"
        + ";sleeper a plain deaf 6 dread 3 chance 20;sleeper b light deaf 2 dread 0 chance 0"
        + ";sleeper c heavy deaf 3 dread 9 chance 100;sleeper d fond deaf 1 dread 50 chance 7"
        + ";down a g after 1;down a g after 9;up a after 30;down b g after 0;down b h after 9;down c h after 2"
        + ";knock g floor 0 at 6 strong 3;knock h floor 1 at 9 strong 4"
        + ";task k floor 1 minutes 9 risk 2;task l floor 0 minutes 5 risk 1;pays 5,9,2;thinks a 1;thinks d 0;came 5 2"
        + ";did 8 floor 1 awake 4";

    private static final String LEAST = "dream rates 2 fall 0 morning 1;head h;sleeper s plain deaf 1 dread 0 chance 0";

    private static final List<String> SEEN = new ArrayList<>();

    public static void main(String[] args) {
        hours();
        where();
        ahead();
        tasksAndTogether();
        letters();
        meetingsAndWages();
        ratesAndChances();
        acts();
        undoAndImages();
        theDream();
        withoutADream();
        withoutPays();
        grantedCallsLeaveAll();
        whereBehindAFault();
        eachTrouble();
        newDreamsForgetOldOnes();
        newDreamsForgetOldNames();
        CHECKS.end();
    }

    /** Four acts, two images, twenty bytes on THE TAPE; a and b in g on FLOOR 1, c in h on FLOOR 1, d awake. */
    private static AsleepInside busy() {
        AsleepInside x = Checks.of(BUSY);
        x.image();
        x.pass(0, 1);
        x.lie(3, 0);
        x.image();
        x.wake(3);
        x.pass(1, 2);
        x.feed(1, 2, 3, 4, 5);
        return x;
    }

    private static void refused(String what, int why, ToLongFunction<AsleepInside> call) {
        if (SEEN.isEmpty()) {
            SEEN.add(Snapshot.of(busy()));
        }
        AsleepInside x = busy();
        CHECKS.refused(what, x, call.applyAsLong(x), why);
        CHECKS.due(what + " leaves all", Snapshot.of(x), SEEN.get(0));
    }

    private static void refusedBoth(String what, int why, ToLongFunction<AsleepInside> one, ToLongFunction<AsleepInside> other) {
        refused(what, why, one);
        refused(what, why, other);
    }

    // ---- each promise's refusals

    private static void hours() {
        int[] noFloors = {LOW, -1, 4, HIGH};
        for (int f : noFloors) {
            refused("6 quick", 1, x -> x.quick(f));
            refused("7 clock", 1, x -> x.clock(f));
            refused("9 minutes from", 1, x -> x.minutes(f, 0, 1, true));
            refused("9 minutes to", 1, x -> x.minutes(0, f, 1, false));
            refused("9 minutes, both wrong", 1, x -> x.minutes(0, f, 10_000, false));
        }
        int[] noMinutes = {LOW, -1, 10_000, HIGH};
        for (int n : noMinutes) {
            refusedBoth("9 minutes n", 2, x -> x.minutes(0, 3, n, true), x -> x.minutes(3, 3, n, false));
        }
    }

    private static void where() {
        int[] nobody = {LOW, -1, 4, HIGH};
        for (int s : nobody) {
            refused("10 sleeper", 1, x -> x.sleeper(s, 0));
            refusedBoth("11 lived", 1, x -> x.lived(s, true), x -> x.lived(s, false));
            refusedBoth("12 meet", 1, x -> x.meet(s, 0), x -> x.meet(0, s));
        }
        int[] nothing = {LOW, -1, 7, HIGH};
        for (int what : nothing) {
            refused("10 sleeper what", 1, x -> x.sleeper(3, what));
        }
        for (int s = 0; s < 4; s++) {
            int one = s;
            refused("12 meet, unlike", 1, x -> x.meet(one, one));
            refused("16 meetsIn, unlike", 1, x -> x.meetsIn(one, one, 0));
        }
    }

    private static void ahead() {
        int[] nobody = {LOW, -1, 4, HIGH};
        for (int s : nobody) {
            refusedBoth("14 floorIn", 1, x -> x.floorIn(s, 0), x -> x.floorIn(s, 601));
            refusedBoth("15 headIn", 1, x -> x.headIn(s, 0), x -> x.headIn(s, -1));
            refusedBoth("16 meetsIn", 1, x -> x.meetsIn(s, 0, 1), x -> x.meetsIn(0, s, 601));
            refusedBoth("17 awakeIn", 1, x -> x.awakeIn(s, 0), x -> x.awakeIn(s, 601));
            refusedBoth("18 lonely", 1, x -> x.lonely(s, 0), x -> x.lonely(s, -1));
            refusedBoth("21 woken", 1, x -> x.woken(s, 0), x -> x.woken(s, 601));
        }
        int[] noSpans = {LOW, -1, 601, HIGH};
        for (int t : noSpans) {
            refused("14 floorIn t", 2, x -> x.floorIn(3, t));
            refused("15 headIn t", 2, x -> x.headIn(0, t));
            refused("16 meetsIn t", 2, x -> x.meetsIn(0, 1, t));
            refused("17 awakeIn t", 2, x -> x.awakeIn(3, t));
            refused("18 lonely t", 2, x -> x.lonely(0, t));
            refused("19 crowd t", 2, x -> x.crowd(t));
            refused("21 woken t", 2, x -> x.woken(0, t));
        }
        int[] noFloors = {LOW, -1, 4, HIGH};
        for (int f : noFloors) {
            refusedBoth("22 felt", 1, x -> x.felt(1, f, 3), x -> x.felt(1, 0, f));
            refused("22 felt, both wrong", 1, x -> x.felt(100, f, f));
        }
        for (int from = 0; from <= 3; from++) {
            for (int to = 0; to <= from; to++) {
                int upper = from;
                int lower = to;
                refused("22 felt, not lower", 1, x -> x.felt(1, upper, lower));
            }
        }
        int[] noStrength = {LOW, -1, 0, 100, HIGH};
        for (int strong : noStrength) {
            refused("22 felt strong", 2, x -> x.felt(strong, 0, 1));
        }
    }

    private static void tasksAndTogether() {
        int[] noTask = {LOW, -1, 2, HIGH};
        for (int k : noTask) {
            refused("23 task", 1, x -> x.task(k));
        }
        int[] nothing = {LOW, -1, 3, HIGH};
        for (int what : nothing) {
            refused("24 best", 1, x -> x.best(what));
        }
        int[] noSets = {LOW, -1, 0, 16, HIGH};
        for (int set : noSets) {
            refusedBoth("26 together", 2, x -> x.together(set), x -> x.togetherAt(set, 0));
        }
        // Bit 3 is awake; bits 0 and 1 are in one HEAD, bit 2 is in the other.
        int[] notSo = {8, 9, 15, 5, 6, 7};
        for (int set : notSo) {
            refusedBoth("26 together, not so", 5, x -> x.together(set), x -> x.togetherAt(set, 0));
            refused("27 togetherAt, not so, and no such i", 5, x -> x.togetherAt(set, -1));
        }
        int[] noPlace = {LOW, -1, 1, HIGH};
        for (int i : noPlace) {
            refused("27 togetherAt i", 1, x -> x.togetherAt(3, i));
        }
        refusedBoth("29, 30 fewer than two are DEEP", 6, x -> x.ask(), x -> x.askMost());
    }

    private static void letters() {
        int[] noFloors = {LOW, -1, 4, HIGH};
        for (int f : noFloors) {
            refusedBoth("31 letter", 1, x -> x.letter(f, 0, 1), x -> x.letter(3, f, 1));
            refusedBoth("32 tells", 1, x -> x.tells(f, 0, 1, 2), x -> x.tells(3, f, 1, 27));
            refusedBoth("33 words", 1, x -> x.words(f, 0, 1, 2), x -> x.words(3, f, 0, 2));
        }
        for (int from = 0; from <= 3; from++) {
            for (int to = from; to <= 3; to++) {
                int lower = from;
                int upper = to;
                refused("31 letter, not above", 1, x -> x.letter(lower, upper, 1));
                refused("32 tells, not above", 1, x -> x.tells(lower, upper, 1, 2));
                refused("33 words, not above", 1, x -> x.words(lower, upper, 1, 2));
            }
        }
        int[] noLength = {LOW, -1, 10_000, HIGH};
        for (int n : noLength) {
            refusedBoth("31, 32 words sent", 2, x -> x.letter(1, 0, n), x -> x.tells(1, 0, n, 2));
        }
        int[] noVocabulary = {LOW, -1, 0, 1, 27, HIGH};
        for (int k : noVocabulary) {
            refusedBoth("32, 33 out of k", 2, x -> x.tells(1, 0, 1, k), x -> x.words(1, 0, 1, k));
        }
        int[] noMany = {LOW, -1, 0, 1_000_001, HIGH};
        for (int m : noMany) {
            refused("33 words m", 2, x -> x.words(1, 0, m, 2));
        }
    }

    private static void meetingsAndWages() {
        int[] nobody = {LOW, -1, 4, HIGH};
        for (int s : nobody) {
            refusedBoth("34 meeting", 1, x -> x.meeting(s, 0, 1), x -> x.meeting(0, s, 1));
            refusedBoth("35 meetingHead", 1, x -> x.meetingHead(s, 0, 1), x -> x.meetingHead(0, s, 1));
            refusedBoth("36, 37 wages", 1, x -> x.takes(s), x -> x.gains(s));
            refusedBoth("38, 39 pay", 1, x -> x.price(s, 1), x -> x.enough(s, 1));
        }
        int[] noFloors = {LOW, -1, 0, 4, HIGH};
        for (int f : noFloors) {
            refusedBoth("34, 35 FLOOR", 1, x -> x.meeting(0, 1, f), x -> x.meetingHead(0, 1, f));
            refusedBoth("38, 39 FLOOR", 1, x -> x.price(0, f), x -> x.enough(0, f));
        }
        for (int s = 0; s < 4; s++) {
            int one = s;
            refusedBoth("34, 35 unlike", 1, x -> x.meeting(one, one, 1), x -> x.meetingHead(one, one, 1));
        }
    }

    private static void ratesAndChances() {
        int[] noFloors = {LOW, -1, 0, 4, HIGH};
        for (int f : noFloors) {
            refused("41 rate", 1, x -> x.rate(f));
            if (f != 0) {
                refusedBoth("42 waking", 1, x -> x.waking(0, f, 0, true), x -> x.waking(0, f, 9, false));
                refusedBoth("43 mean", 1, x -> x.mean(0, f, true), x -> x.mean(1, f, false));
            }
        }
        int[] nobody = {LOW, -1, 4, HIGH};
        for (int s : nobody) {
            refusedBoth("42 waking", 1, x -> x.waking(s, 0, 0, true), x -> x.waking(s, 0, 9, false));
            refusedBoth("43 mean", 1, x -> x.mean(s, 1, true), x -> x.mean(s, 0, false));
        }
        int[] noMinutes = {LOW, -1, 9, HIGH};
        for (int n : noMinutes) {
            refusedBoth("42 waking n", 2, x -> x.waking(0, 3, n, true), x -> x.waking(3, 0, n, false));
        }
    }

    private static void acts() {
        int[] noFloors = {LOW, -1, 4, HIGH};
        for (int f : noFloors) {
            refusedBoth("44 pass", 1, x -> x.pass(f, 1), x -> x.pass(f, 0));
        }
        int[] noMinutes = {LOW, -1, 0, 1000, HIGH};
        for (int n : noMinutes) {
            refusedBoth("44 pass n", 2, x -> x.pass(0, n), x -> x.pass(3, n));
        }
        int[] nobody = {LOW, -1, 4, HIGH};
        for (int s : nobody) {
            refusedBoth("45, 46", 1, x -> x.lie(s, 0), x -> x.wake(s));
        }
        int[] noHead = {LOW, -1, 2, HIGH};
        for (int h : noHead) {
            refusedBoth("45, 47 HEAD", 1, x -> x.lie(3, h), x -> x.knock(h, 0, 1));
            refusedBoth("45, 47 HEAD and more", 1, x -> x.lie(4, h), x -> x.knock(h, 0, 0));
        }
        refusedBoth("45 in another HEAD", 5, x -> x.lie(0, 1), x -> x.lie(2, 0));
        refused("46 awake", 5, x -> x.wake(3));
        int[] noKnock = {LOW, -1, 3, 4, HIGH};
        for (int f : noKnock) {
            refusedBoth("47 FLOOR as told knocks", 1, x -> x.knock(0, f, 1), x -> x.knock(0, f, 100));
        }
        int[] noStrength = {LOW, -1, 0, 100, HIGH};
        for (int strong : noStrength) {
            refused("47 strong", 2, x -> x.knock(0, 0, strong));
        }
        int[] noImage = {LOW, -1, 2, 3, HIGH};
        for (int i : noImage) {
            refused("50 back", 1, x -> x.back(i) ? 0 : -1);
        }
    }

    /** As late as can be, on the lowest FLOOR, with as many IMAGES as there is room for, with nothing to undo. */
    private static AsleepInside atTheBounds() {
        AsleepInside x = Checks.of(LEAST);
        x.pass(0, 999);
        x.pass(0, 201);
        x.lie(0, 0);
        x.image();
        x.image();
        x.image();
        x.back(2);
        return x;
    }

    private static void undoAndImages() {
        String before = Snapshot.of(atTheBounds());
        List<ToLongFunction<AsleepInside>> calls = List.of(x -> x.undo() ? 0 : -1, x -> x.image(), x -> x.pass(0, 1), x -> x.pass(1, 1),
            x -> x.lie(0, 0), x -> x.back(3) ? 0 : -1, x -> x.pass(0, 999));
        int[] why = {6, 3, 3, 3, 5, 1, 3};
        for (int i = 0; i < why.length; i++) {
            AsleepInside x = atTheBounds();
            CHECKS.refused("at the bounds " + i, x, calls.get(i).applyAsLong(x), why[i]);
            CHECKS.due("at the bounds " + i + " leaves all", Snapshot.of(x), before);
        }
    }

    /** "NONE: 2 (THE TAPE stays); 4 (the DREAM stays)". */
    private static void theDream() {
        int[] noLength = {LOW, -1, 21, 1000, HIGH};
        for (int n : noLength) {
            refused("3 dream", 2, x -> x.dream(n));
        }
        String before = Snapshot.ofDream(busy());
        String[] faulty = {"", "dream", BUSY + ";up q", BUSY + ";head h", LEAST + ";thinks s 5", BUSY + ";pays 1", BUSY + ";dream",
            "head h", "dream rates 9,9,9,9,9", "dream rates 12 fall 60 morning 600;head q", LEAST + ";pays 1,2"};
        int[] faults = {1, 1, 2, 3, 4, 3, 3, 6, 5, 6, 5};
        for (int i = 0; i < faulty.length; i++) {
            AsleepInside x = busy();
            x.dream(20);
            CHECKS.due("3 refused " + i, Checks.tell(x, faulty[i]), AsleepInside.NONE);
            CHECKS.due("3 trouble " + i, x.trouble(), 4);
            CHECKS.due("4 fault " + i, x.fault(), faults[i]);
            CHECKS.due("3 THE TAPE is empty " + i, x.size(12), 0);
            CHECKS.due("3 the DREAM stays " + i, Snapshot.ofDream(x), before);
        }
        AsleepInside full = busy();
        for (int i = 2; i <= 50; i++) {
            full.feed(i, i, i, i, i);
        }
        full.wake(3);
        CHECKS.due("2 no room", full.feed(0, 0, 0, 0, 0), AsleepInside.NONE);
        CHECKS.due("2 is none of the numbered refusals", full.trouble(), 5);
        CHECKS.due("2 leaves the DREAM", Snapshot.ofDream(full), before);
    }

    /** "(no DREAM)": refused by 1 whatever else is wrong; nothing comes of acts. */
    private static void withoutADream() {
        List<ToLongFunction<AsleepInside>> calls = List.of(x -> x.quick(9), x -> x.clock(-1), x -> x.ticks(),
            x -> x.minutes(0, 0, -1, true), x -> x.sleeper(0, 9), x -> x.lived(0, false), x -> x.meet(0, 1), x -> x.off(),
            x -> x.floorIn(0, 601), x -> x.headIn(0, 601), x -> x.meetsIn(0, 1, 601), x -> x.awakeIn(0, 601), x -> x.lonely(0, 601),
            x -> x.crowd(601), x -> x.left(), x -> x.woken(0, 601), x -> x.felt(0, 0, 1), x -> x.task(0), x -> x.best(0),
            x -> x.soonest(), x -> x.together(1), x -> x.together(0), x -> x.togetherAt(1, 0), x -> x.togetherAt(0, 0), x -> x.deep(),
            x -> x.ask(), x -> x.askMost(), x -> x.letter(1, 0, -1), x -> x.tells(1, 0, 1, 1), x -> x.words(1, 0, 0, 2),
            x -> x.meeting(0, 1, 1), x -> x.meetingHead(0, 1, 1), x -> x.takes(0), x -> x.gains(0), x -> x.price(0, 1),
            x -> x.enough(0, 1), x -> x.rates(), x -> x.rate(1), x -> x.waking(0, 0, 9, true), x -> x.mean(0, 0, true),
            x -> x.pass(0, 0), x -> x.lie(0, 0), x -> x.wake(0), x -> x.knock(0, 0, 0), x -> x.image(), x -> x.back(0) ? 0 : -1);
        for (int i = 0; i < calls.size(); i++) {
            AsleepInside x = new AsleepInside();
            x.undo();
            CHECKS.refused("no DREAM " + i, x, calls.get(i).applyAsLong(x), 1);
            for (int what = 0; what <= 12; what++) {
                CHECKS.due("no DREAM " + i + ": 0 for what there isn't", x.size(what), 0);
            }
            CHECKS.due("no DREAM " + i + ": then one", Checks.tell(x, LEAST), 1);
            CHECKS.due("no DREAM " + i + ": all new", Snapshot.of(x), Snapshot.of(Checks.of(LEAST)));
            AsleepInside faulty = new AsleepInside();
            Checks.tell(faulty, LEAST + ";!");
            CHECKS.refused("none by a FAULT " + i, faulty, calls.get(i).applyAsLong(faulty), 1);
        }
        AsleepInside x = new AsleepInside();
        CHECKS.refused("48 no DREAM", x, x.undo() ? 0 : -1, 6);
        CHECKS.due("51 no DREAM", Checks.throwsNoSuch(x, 0), true);
    }

    /** "6 (no pays)", behind "1"; ENOUGH needs none. */
    private static void withoutPays() {
        String before = Snapshot.of(Checks.of(LEAST));
        List<ToLongFunction<AsleepInside>> calls = List.of(x -> x.takes(0), x -> x.gains(0), x -> x.price(0, 1));
        for (ToLongFunction<AsleepInside> call : calls) {
            AsleepInside x = Checks.of(LEAST);
            CHECKS.refused("no pays", x, call.applyAsLong(x), 6);
            CHECKS.due("no pays leaves all", Snapshot.of(x), before);
        }
        AsleepInside x = Checks.of(LEAST);
        CHECKS.refused("36", x, x.takes(1), 1);
        CHECKS.refused("37", x, x.gains(-1), 1);
        CHECKS.refused("38", x, x.price(0, 0), 1);
        CHECKS.refused("38", x, x.price(0, 2), 1);
        CHECKS.granted("39", x, x.enough(0, 1), 1);
    }

    // ---- granted calls

    /** Calls that only tell change nothing, and the trouble is 0 behind them. */
    private static void grantedCallsLeaveAll() {
        List<ToLongFunction<AsleepInside>> calls = List.of(x -> x.quick(0), x -> x.quick(3), x -> x.clock(0), x -> x.clock(3), x -> x.ticks(),
            x -> x.minutes(3, 0, 9999, true), x -> x.minutes(0, 3, 0, false), x -> x.sleeper(0, 0), x -> x.sleeper(3, 6),
            x -> x.lived(3, true), x -> x.meet(0, 3), x -> x.off(), x -> x.floorIn(0, 0), x -> x.floorIn(3, 600), x -> x.headIn(0, 600),
            x -> x.meetsIn(0, 1, 0), x -> x.meetsIn(3, 2, 600), x -> x.awakeIn(0, 600), x -> x.lonely(0, 600), x -> x.crowd(0),
            x -> x.crowd(600), x -> x.left(), x -> x.woken(0, 600), x -> x.felt(1, 0, 3), x -> x.felt(99, 2, 3), x -> x.task(0),
            x -> x.task(1), x -> x.best(0), x -> x.best(2), x -> x.soonest(), x -> x.together(3), x -> x.togetherAt(3, 0), x -> x.deep(),
            x -> x.letter(3, 0, 0), x -> x.letter(3, 2, 9999), x -> x.tells(3, 0, 9999, 26), x -> x.tells(1, 0, 0, 2),
            x -> x.words(3, 0, 1_000_000, 2), x -> x.words(1, 0, 1, 26), x -> x.meeting(0, 3, 3), x -> x.meetingHead(3, 0, 1),
            x -> x.takes(3), x -> x.gains(0), x -> x.price(3, 3), x -> x.enough(0, 1), x -> x.rates(), x -> x.rate(1), x -> x.rate(3),
            x -> x.waking(0, 3, 8, true), x -> x.waking(3, 0, 0, false), x -> x.mean(3, 3, true), x -> x.mean(0, 0, false));
        String before = Snapshot.of(busy());
        for (int i = 0; i < calls.size(); i++) {
            AsleepInside x = busy();
            x.wake(-1);
            CHECKS.due("granted " + i, calls.get(i).applyAsLong(x) == AsleepInside.NONE, false);
            CHECKS.due("trouble of granted " + i, x.trouble(), 0);
            CHECKS.due("granted " + i + " leaves all", Snapshot.of(x), before);
        }
        List<ToLongFunction<AsleepInside>> acts = List.of(x -> x.pass(3, 1), x -> x.pass(0, 999), x -> x.lie(3, 1), x -> x.lie(0, 0),
            x -> x.wake(0), x -> x.knock(1, 2, 99), x -> x.knock(0, 0, 1), x -> x.undo() ? 1 : -1, x -> x.image(), x -> x.back(0) ? 1 : -1,
            x -> x.back(1) ? 1 : -1);
        for (int i = 0; i < acts.size(); i++) {
            AsleepInside x = busy();
            x.wake(-1);
            CHECKS.due("act " + i, acts.get(i).applyAsLong(x) == AsleepInside.NONE, false);
            CHECKS.due("trouble of act " + i, x.trouble(), 0);
        }
    }

    // ---- troubles and places

    /** "Its place, if the latest call that may be refused was by 4; NONE else"; calls without a number leave it. */
    private static void whereBehindAFault() {
        List<ToLongFunction<AsleepInside>> silent = List.of(x -> x.feed(0, 0, 0, 0, 0), x -> x.fault(), x -> x.where(), x -> x.size(0),
            x -> x.size(13), x -> x.trouble(), x -> x.led(0), x -> Checks.throwsNoSuch(x, 9) ? 1 : 0);
        List<ToLongFunction<AsleepInside>> numbered = List.of(x -> x.ticks(), x -> x.quick(-1), x -> x.undo() ? 1 : 0, x -> x.back(9) ? 1 : 0,
            x -> x.dream(1001), x -> x.dream(-1), x -> x.image(), x -> x.wake(3));
        AsleepInside x = busy();
        x.dream(20);
        CHECKS.due("the first FAULT", x.where(), 0);
        Checks.tell(x, LEAST + ";up q after 1");
        CHECKS.due("the place", x.where(), LEAST.length() + 4);
        for (ToLongFunction<AsleepInside> call : silent) {
            call.applyAsLong(x);
            CHECKS.due("the place stays", x.where(), LEAST.length() + 4);
            CHECKS.due("the trouble stays", x.trouble(), 4);
            CHECKS.due("the FAULT stays", x.fault(), 2);
        }
        for (int i = 0; i < numbered.size(); i++) {
            x.dream(x.size(12));
            Checks.tell(x, LEAST + ";head h");
            CHECKS.due("the place again", x.where(), LEAST.length() + 6);
            numbered.get(i).applyAsLong(x);
            CHECKS.due("no place behind " + i, x.where(), AsleepInside.NONE);
            CHECKS.due("the FAULT of the latest dream() behind " + i, x.fault(), 3);
        }
        CHECKS.due("a right one", Checks.tell(x, LEAST), 1);
        CHECKS.due("no FAULT then", x.fault(), 0);
        CHECKS.due("no place then", x.where(), AsleepInside.NONE);
    }

    /** The seven troubles, one behind the other on one object. */
    private static void eachTrouble() {
        AsleepInside x = new AsleepInside();
        CHECKS.due("0 at first", x.trouble(), 0);
        x.ticks();
        CHECKS.due("1", x.trouble(), 1);
        x.dream(1);
        CHECKS.due("2", x.trouble(), 2);
        Checks.tell(x, LEAST);
        CHECKS.due("0", x.trouble(), 0);
        x.image();
        x.image();
        x.image();
        x.image();
        CHECKS.due("3", x.trouble(), 3);
        x.dream(0);
        CHECKS.due("4", x.trouble(), 4);
        x.wake(0);
        CHECKS.due("5", x.trouble(), 5);
        x.undo();
        CHECKS.due("6", x.trouble(), 6);
        CHECKS.due("told again", x.trouble(), 6);
        x.lie(0, 0);
        CHECKS.due("0 again", x.trouble(), 0);
        x.wake(9);
        CHECKS.due("1 again", x.trouble(), 1);
        x.undo();
        CHECKS.due("0 by an undoing", x.trouble(), 0);
    }

    /** "are the DREAM from now on (NOW 0; nothing to undo, no IMAGES)": nothing of earlier ones, right or faulty, is left. */
    private static void newDreamsForgetOldOnes() {
        String other = "dream rates 3 fall 9 morning 90;head x;head y;head z;sleeper o fond deaf 99 dread 9 chance 9;down o z after 0"
            + ";up o after 2;knock z floor 0 at 2 strong 50;task m floor 0 minutes 80 risk 1;pays 3;thinks o 1;felt 2 6;did 9 floor 1 awake 3";
        String hopeless = LEAST + ";task k floor 0 minutes 999 risk 1;task l floor 1 minutes 1 risk 1";
        String[] texts = {LEAST, other, hopeless};
        for (String text : texts) {
            String fresh = Snapshot.of(Checks.of(text));
            AsleepInside asked = busy();
            asked.dream(20);
            Snapshot.of(asked);
            tellAnew(asked, text);
            CHECKS.due("behind one that was asked all", Snapshot.of(asked), fresh);
            AsleepInside once = busy();
            once.dream(20);
            tellAnew(once, text);
            CHECKS.due("behind a busy one", Snapshot.of(once), fresh);
            AsleepInside twice = busy();
            twice.dream(20);
            Checks.tell(twice, other);
            twice.lie(0, 2);
            twice.image();
            tellAnew(twice, text);
            CHECKS.due("behind two", Snapshot.of(twice), fresh);
            AsleepInside faulty = new AsleepInside();
            Checks.tell(faulty, BUSY + ";!");
            tellAnew(faulty, text);
            CHECKS.due("behind a faulty one", Snapshot.of(faulty), fresh);
            AsleepInside more = Checks.of(text);
            Checks.tell(more, BUSY + ";knock h floor 2 at 30 strong 1;!");
            tellAnew(more, text);
            CHECKS.due("behind itself and a faulty one", Snapshot.of(more), fresh);
        }
    }

    /** NAMES of an earlier text aren't told in a later one, and can be told anew. */
    private static void newDreamsForgetOldNames() {
        AsleepInside x = Checks.of(LEAST.replace("head h", "head q").replace("sleeper s", "sleeper r"));
        Checks.tell(x, LEAST + ";up r after 1");
        CHECKS.due("2 of a sleeper told earlier", x.fault(), 2);
        Checks.tell(x, LEAST + ";knock q floor 0 at 0 strong 1");
        CHECKS.due("2 of a HEAD told earlier", x.fault(), 2);
        CHECKS.due("told anew", Checks.tell(x, LEAST.replace("head h", "head r").replace("sleeper s", "sleeper q")), 1);
        CHECKS.due("told anew", x.lie(0, 0), 1);
    }

    private static void tellAnew(AsleepInside x, String text) {
        CHECKS.due("told", Checks.tell(x, text), 1);
        CHECKS.due("NOW 0", x.ticks(), 0);
        CHECKS.due("nothing to undo", x.size(10), 0);
        CHECKS.due("no IMAGES", x.size(11), 0);
        CHECKS.due("THE TAPE is empty", x.size(12), 0);
    }
}
