/** Each promise by hand: ordinary inputs, the edges that the document names, and wrong inputs. */
public final class PromisesTest {
    private static final Checks CHECKS = new Checks();

    /** FLOORS 1 and 2, QUICK 3 and 12; minutes of 12, 4 and 1 ticks. */
    private static final String A = "dream rates 3,4 fall 5 morning 20;head mia;head leo"
        + ";sleeper ann plain deaf 30 dread 2 chance 50;sleeper bob light deaf 20 dread 100 chance 0"
        + ";sleeper cat heavy deaf 10 dread 0 chance 100"
        + ";down ann mia after 1;down ann mia after 6;up ann after 24;down bob mia after 2;down bob leo after 3"
        + ";down cat leo after 0;knock mia floor 0 at 4 strong 9;knock mia floor 1 at 6 strong 5"
        + ";task essay floor 1 minutes 12 risk 3;task term floor 2 minutes 60 risk 1;pays 4,9"
        + ";thinks ann 1;thinks bob 0;felt 2 6;came 9 3;did 12 floor 1 awake 4;did 120 floor 2 awake 10";

    /** Nobody steps; QUICK 2, 4, 8, 16; two HEADS, all KINDS. */
    private static final String B = "dream rates 2,2,2,2 fall 3 morning 10;head g;head h"
        + ";sleeper p plain deaf 4 dread 1 chance 25;sleeper l light deaf 4 dread 0 chance 1"
        + ";sleeper v heavy deaf 4 dread 999 chance 99;sleeper f fond deaf 4 dread 7 chance 10"
        + ";sleeper q plain deaf 9999 dread 0 chance 0";

    public static void main(String[] args) {
        withoutDream();
        theDream();
        hours();
        whereTheyAre();
        aheadOfNow();
        knocking();
        tasks();
        together();
        howDeep();
        letters();
        meetings();
        wages();
        rates();
        chances();
        passing();
        lyingAndWaking();
        undoing();
        images();
        whatIsTold();
        largest();
        CHECKS.end();
    }

    private static void due(String what, long got, long want) {
        CHECKS.due(what, got, want);
    }

    private static void refused(String what, AsleepInside x, long got, int why) {
        CHECKS.refused(what, x, got, why);
    }

    private static void granted(String what, AsleepInside x, long got, long want) {
        CHECKS.granted(what, x, got, want);
    }

    /** Promise 1, and what each call answers without a DREAM. */
    private static void withoutDream() {
        AsleepInside x = new AsleepInside();
        due("1 NONE", AsleepInside.NONE, -1);
        due("1 trouble", x.trouble(), 0);
        due("1 fault", x.fault(), 0);
        due("1 where", x.where(), -1);
        for (int what = 0; what <= 12; what++) {
            due("52 size", x.size(what), 0);
        }
        refused("6", x, x.quick(0), 1);
        refused("7", x, x.clock(0), 1);
        refused("8", x, x.ticks(), 1);
        refused("9", x, x.minutes(0, 0, 0, false), 1);
        refused("10", x, x.sleeper(0, 0), 1);
        refused("11", x, x.lived(0, true), 1);
        refused("12", x, x.meet(0, 1), 1);
        refused("13", x, x.off(), 1);
        refused("14", x, x.floorIn(0, 0), 1);
        refused("15", x, x.headIn(0, 0), 1);
        refused("16", x, x.meetsIn(0, 1, 0), 1);
        refused("17", x, x.awakeIn(0, 0), 1);
        refused("18", x, x.lonely(0, 0), 1);
        refused("19", x, x.crowd(-1), 1);
        refused("20", x, x.left(), 1);
        refused("21", x, x.woken(0, 0), 1);
        refused("22", x, x.felt(1, 0, 1), 1);
        refused("23", x, x.task(0), 1);
        refused("24", x, x.best(0), 1);
        refused("25", x, x.soonest(), 1);
        refused("26", x, x.together(0), 1);
        refused("27", x, x.togetherAt(0, 0), 1);
        refused("28", x, x.deep(), 1);
        refused("29", x, x.ask(), 1);
        refused("30", x, x.askMost(), 1);
        refused("31", x, x.letter(1, 0, 1), 1);
        refused("32", x, x.tells(1, 0, 1, 2), 1);
        refused("33", x, x.words(1, 0, 1, 2), 1);
        refused("34", x, x.meeting(0, 1, 1), 1);
        refused("35", x, x.meetingHead(0, 1, 1), 1);
        refused("36", x, x.takes(0), 1);
        refused("37", x, x.gains(0), 1);
        refused("38", x, x.price(0, 1), 1);
        refused("39", x, x.enough(0, 1), 1);
        refused("40", x, x.rates(), 1);
        refused("41", x, x.rate(1), 1);
        refused("42", x, x.waking(0, 0, 0, false), 1);
        refused("43", x, x.mean(0, 0, false), 1);
        refused("44", x, x.pass(0, 0), 1);
        refused("45", x, x.lie(0, 0), 1);
        refused("46", x, x.wake(0), 1);
        refused("47", x, x.knock(0, 0, 1), 1);
        CHECKS.due("48", x.undo(), false);
        due("48 trouble", x.trouble(), 6);
        refused("49", x, x.image(), 1);
        CHECKS.due("50", x.back(0), false);
        due("50 trouble", x.trouble(), 1);
        CHECKS.due("51", Checks.throwsNoSuch(x, 0), true);
    }

    /** Promises 2 to 5. */
    private static void theDream() {
        AsleepInside x = new AsleepInside();
        refused("3 nothing fed", x, x.dream(1), 2);
        refused("3 below nothing", x, x.dream(-1), 2);
        for (int i = 1; i <= 50; i++) {
            due("2 feed", x.feed(-1, Integer.MIN_VALUE, 0, 7, i), 20 * i);
        }
        due("2 too much", x.feed(0, 0, 0, 0, 0), -1);
        due("2 leaves trouble", x.trouble(), 2);
        due("12 bytes", x.size(12), 1000);
        refused("3 more than fed", x, x.dream(1001), 2);
        due("3 tape stays", x.size(12), 1000);
        due("4 none yet", x.fault(), 0);
        due("3 bad text", x.dream(1000), -1);
        due("3 trouble", x.trouble(), 4);
        due("4 fault", x.fault(), 1);
        due("5 where", x.where(), 0);
        due("3 tape empty", x.size(12), 0);

        due("3 dream", Checks.tell(x, A), 3);
        due("3 trouble", x.trouble(), 0);
        due("4 no fault", x.fault(), 0);
        due("5 where", x.where(), -1);
        x.pass(0, 2);
        x.image();
        due("3 fault", Checks.tell(x, A + ";pays 1,2"), -1);
        due("5 where", x.where(), A.length() + 1);
        due("5 fault leaves where", x.fault(), 3);
        x.size(0);
        x.feed(0, 0, 0, 0, 0);
        due("5 calls without a number leave it", x.where(), A.length() + 1);
        due("3 the dream stays", x.size(4), 3);
        due("3 acts stay", x.size(10), 1);
        due("3 images stay", x.size(11), 1);
        due("3 now stays", x.ticks(), 24);
        due("5 behind another call", x.where(), -1);
        due("4 behind another call", x.fault(), 3);
        refused("3 a number", x, x.dream(21), 2);
        due("4 the latest not refused by 2", x.fault(), 3);
        due("3 the tape stays", x.size(12), 20);
        due("3 no bytes", x.dream(0), -1);
        due("4 no bytes", x.fault(), 1);
        due("5 no bytes", x.where(), 0);

        due("3 another", Checks.tell(x, B), 5);
        due("3 now 0", x.ticks(), 0);
        due("3 nothing to undo", x.size(10), 0);
        due("3 no images", x.size(11), 0);
        refused("3 no pays left over", x, x.takes(0), 6);
        due("3 thinks nothing", x.sleeper(0, 6), -2);
        Checks.feedText(x, B + ";not in it");
        due("3 the first n bytes", x.dream(B.length()), 5);
    }

    /** Promises 6 to 9. */
    private static void hours() {
        AsleepInside x = Checks.of(A);
        granted("6", x, x.quick(0), 1);
        granted("6", x, x.quick(1), 3);
        granted("6", x, x.quick(2), 12);
        refused("6", x, x.quick(3), 1);
        refused("6", x, x.quick(-1), 1);
        x.pass(2, 18);
        granted("7", x, x.clock(0), 1);
        granted("7", x, x.clock(1), 4);
        granted("7", x, x.clock(2), 18);
        refused("7", x, x.clock(3), 1);
        refused("7", x, x.clock(-1), 1);
        granted("8", x, x.ticks(), 18);
        granted("9 down", x, x.minutes(0, 2, 7, false), 84);
        granted("9 down", x, x.minutes(0, 2, 7, true), 1);
        granted("9 up", x, x.minutes(2, 0, 18, false), 3);
        granted("9 up", x, x.minutes(2, 0, 18, true), 2);
        granted("9 up by one", x, x.minutes(2, 1, 9999, false), 9999);
        granted("9 up by one", x, x.minutes(2, 1, 9999, true), 4);
        granted("9 zero", x, x.minutes(2, 0, 0, false), 0);
        granted("9 zero", x, x.minutes(2, 0, 0, true), 1);
        granted("9 like", x, x.minutes(1, 1, 6, false), 6);
        refused("9", x, x.minutes(0, 2, -1, false), 2);
        refused("9", x, x.minutes(0, 2, 10000, false), 2);
        refused("9", x, x.minutes(0, 3, 10000, false), 1);
        refused("9", x, x.minutes(-1, 0, 5, false), 1);
    }

    /** Promises 10 to 13. */
    private static void whereTheyAre() {
        AsleepInside x = Checks.of(A);
        granted("13 thinks 1, is on 0", x, x.off(), 0);
        x.pass(2, 18);
        int[][] ann = {{0, 1}, {1, 0}, {2, 1}, {3, 1}, {4, 0}, {5, 30}, {6, 1}};
        for (int[] is : ann) {
            granted("10 " + is[0], x, x.sleeper(0, is[0]), is[1]);
        }
        granted("10 awake", x, x.sleeper(1, 1), -2);
        granted("10 kind", x, x.sleeper(1, 4), 1);
        granted("10 kind", x, x.sleeper(2, 4), 2);
        granted("10 thinks nothing", x, x.sleeper(2, 6), -2);
        granted("10 since", x, x.sleeper(2, 3), 4);
        granted("10 since, awake", x, x.sleeper(1, 3), 1);
        refused("10", x, x.sleeper(0, 7), 1);
        refused("10", x, x.sleeper(0, -1), 1);
        refused("10", x, x.sleeper(3, 0), 1);
        refused("10", x, x.sleeper(-1, 0), 1);
        granted("11", x, x.lived(0, false), 5);
        granted("11", x, x.lived(0, true), 2);
        granted("11", x, x.lived(2, false), 9);
        granted("11", x, x.lived(2, true), 2);
        refused("11", x, x.lived(3, true), 1);
        granted("13 all right", x, x.off(), -2);
        granted("12 another head", x, x.meet(0, 2), 0);
        x.pass(2, 6);
        granted("12", x, x.meet(0, 1), 1);
        granted("12", x, x.meet(1, 0), 1);
        refused("12", x, x.meet(1, 1), 1);
        refused("12", x, x.meet(0, 3), 1);
        refused("12", x, x.meet(-1, 0), 1);
        granted("13 thinks 0, is on 1", x, x.off(), 1);
        AsleepInside y = Checks.of(B);
        granted("12 awake ones don't meet", y, y.meet(0, 1), 0);
        granted("13 nobody thinks", y, y.off(), -2);
        granted("11 none yet", y, y.lived(0, false), 0);
        granted("11 none yet", y, y.lived(0, true), 1);
        granted("10 fond", y, y.sleeper(3, 4), 3);
    }

    /** Promises 14 to 21. */
    private static void aheadOfNow() {
        AsleepInside x = Checks.of(A);
        int[] floors = {0, 1, 1, 2, 1, 1, 1, 1, 1, 1, 1, 1, 0, 0};
        for (int t = 0; t < floors.length; t++) {
            granted("14 in " + t, x, x.floorIn(0, t), floors[t]);
            granted("15 in " + t, x, x.headIn(0, t), floors[t] == 0 ? -2 : 0);
        }
        granted("14 at most", x, x.floorIn(2, 600), 1);
        granted("15 at most", x, x.headIn(2, 600), 1);
        granted("16", x, x.meetsIn(0, 1, 2), 2);
        granted("16 too short", x, x.meetsIn(0, 1, 1), -2);
        granted("16 never", x, x.meetsIn(0, 2, 600), -2);
        granted("17 now", x, x.awakeIn(0, 0), 0);
        granted("17 never", x, x.awakeIn(2, 600), -2);
        granted("18", x, x.lonely(0, 12), 9);
        granted("18", x, x.lonely(0, 600), 9);
        granted("18 now doesn't count", x, x.lonely(2, 0), 0);
        granted("18", x, x.lonely(2, 600), 600);
        granted("19", x, x.crowd(0), 1);
        granted("19", x, x.crowd(2), 2);
        granted("20", x, x.left(), 4);
        granted("21", x, x.woken(0, 4), 1);
        granted("21", x, x.woken(0, 3), 0);
        granted("21", x, x.woken(2, 600), 0);
        x.pass(0, 4);
        granted("21 done already", x, x.woken(0, 600), 0);
        granted("17 from now on", x, x.awakeIn(0, 600), 8);
        granted("17 too short", x, x.awakeIn(0, 7), -2);
        granted("20 later than morning", x, x.pass(0, 20) < 0 ? -1 : x.left(), 4);
        x.wake(2);
        granted("20 at now", x, x.left(), 0);
        granted("19 nobody", x, x.crowd(600), 0);
        for (int t = -1; t <= 601; t += 602) {
            refused("14", x, x.floorIn(0, t), 2);
            refused("15", x, x.headIn(0, t), 2);
            refused("16", x, x.meetsIn(0, 1, t), 2);
            refused("17", x, x.awakeIn(0, t), 2);
            refused("18", x, x.lonely(0, t), 2);
            refused("19", x, x.crowd(t), 2);
            refused("21", x, x.woken(0, t), 2);
            refused("16 like", x, x.meetsIn(1, 1, t), 1);
            refused("16 none such", x, x.meetsIn(0, 3, t), 1);
        }
        for (int s = -1; s <= 3; s += 4) {
            refused("14", x, x.floorIn(s, 601), 1);
            refused("15", x, x.headIn(s, 0), 1);
            refused("17", x, x.awakeIn(s, 0), 1);
            refused("18", x, x.lonely(s, 0), 1);
            refused("21", x, x.woken(s, 0), 1);
        }
    }

    /** Promises 22 and 47, and how KNOCKS wake each KIND. */
    private static void knocking() {
        AsleepInside x = Checks.of(B);
        granted("22", x, x.felt(99, 0, 4), 1584);
        granted("22", x, x.felt(1, 3, 4), 2);
        refused("22 not lower", x, x.felt(1, 3, 3), 1);
        refused("22 higher", x, x.felt(1, 3, 2), 1);
        refused("22", x, x.felt(1, 0, 5), 1);
        refused("22", x, x.felt(1, -1, 1), 1);
        refused("22", x, x.felt(0, 0, 1), 2);
        refused("22", x, x.felt(100, 0, 1), 2);
        for (int s = 0; s < 5; s++) {
            for (int i = 0; i < 4; i++) {
                x.lie(s, 0);
            }
        }
        granted("47 another head", x, x.knock(1, 0, 99), 0);
        granted("47 not deep enough", x, x.knock(0, 3, 1), 0);
        granted("47 just", x, x.knock(0, 3, 2), 1 + 2);
        due("47 light, to that floor at highest", x.sleeper(1, 0), 3);
        due("47 plain", x.sleeper(0, 0), 3);
        granted("47 on that floor none feels it", x, x.knock(0, 3, 4), 4);
        due("47 heavy", x.sleeper(2, 0), 3);
        due("47 fond stays on the lowest", x.sleeper(3, 0), 4);
        x.wake(3);
        granted("47 fond on the lowest but one", x, x.knock(0, 0, 1), 1 + 2 + 4 + 8);
        due("47 light, by two", x.sleeper(1, 0), 1);
        due("47 fond", x.sleeper(3, 0), 2);
        granted("47 heavy needs twice as much", x, x.knock(0, 0, 1), 1 + 8);
        granted("47 light awake at highest", x, x.knock(0, 0, 2), 1 + 2 + 4 + 8);
        due("47 awake", x.sleeper(1, 1), -2);
        due("47 deaf", x.sleeper(4, 0), 4);
        refused("47", x, x.knock(2, 0, 1), 1);
        refused("47", x, x.knock(-1, 0, 1), 1);
        refused("47 the lowest floor", x, x.knock(0, 4, 1), 1);
        refused("47", x, x.knock(0, -1, 1), 1);
        refused("47", x, x.knock(0, 3, 0), 2);
        refused("47", x, x.knock(0, 3, 100), 2);
        refused("47 both", x, x.knock(0, 4, 100), 1);

        AsleepInside y = Checks.of("dream rates 2,2 fall 0 morning 9;head h;sleeper a plain deaf 1 dread 0 chance 0"
            + ";down a h after 0;down a h after 0;down a h after 0;up a after 3;down a h after 0;knock h floor 0 at 1 strong 1");
        due("10 stays on the lowest", y.sleeper(0, 0), 2);
        due("10 steps done", y.sleeper(0, 2), 3);
        granted("47 comes anew", y, y.knock(0, 0, 1), 1);
        due("its step is counted anew", y.floorIn(0, 1), 0);
        y.undo();
        due("up, and down at once", y.floorIn(0, 1), 1);
        due("by the knock", y.woken(0, 1), 1);
    }

    /** Promises 23 to 25. */
    private static void tasks() {
        AsleepInside x = Checks.of(A);
        granted("23", x, x.task(0), 1);
        granted("23", x, x.task(1), 2);
        refused("23", x, x.task(2), 1);
        refused("23", x, x.task(-1), 1);
        granted("24", x, x.best(0), 5);
        granted("24", x, x.best(1), 188);
        granted("24", x, x.best(2), 82);
        refused("24", x, x.best(3), 1);
        refused("24", x, x.best(-1), 1);
        granted("25", x, x.soonest(), 152);

        String hurried = A.replace("morning 20", "morning 13").replace("task essay floor 1", "task essay floor 0");
        x = Checks.of(hurried);
        granted("23 lower, as time is short", x, x.task(0), 2);
        granted("24 just in time", x, x.best(1), 152);
        granted("24", x, x.best(0), 8);
        x = Checks.of(A.replace("morning 20", "morning 12"));
        granted("23 no way", x, x.task(0), -2);
        refused("23 none such", x, x.task(2), 1);
        granted("24 no way", x, x.best(0), -2);
        granted("24 no way", x, x.best(2), -2);
        granted("25", x, x.soonest(), 152);
        x = Checks.of("dream rates 2,2 fall 0 morning 15;head h;sleeper s plain deaf 1 dread 0 chance 0"
            + ";task a floor 0 minutes 10 risk 0;task b floor 0 minutes 10 risk 0");
        granted("23 of like ones the first", x, x.task(0), 0);
        granted("23 of like ones the first", x, x.task(1), 1);
        granted("24 time", x, x.best(1), 60);
        granted("25 soonest on the lowest", x, x.soonest(), 20);
        x = Checks.of("dream rates 2,2 fall 1 morning 16;head h;sleeper s plain deaf 1 dread 0 chance 0"
            + ";task a floor 0 minutes 10 risk 0;task b floor 0 minutes 10 risk 0");
        granted("24 fewest own minutes", x, x.best(2), 21);
        x = Checks.of("dream rates 2,2 fall 1 morning 14;head h;sleeper s plain deaf 1 dread 0 chance 0"
            + ";task a floor 0 minutes 10 risk 1;task b floor 0 minutes 10 risk 1");
        granted("23 fewer own minutes, though a later way", x, x.task(0), 1);
        granted("24 risk", x, x.best(0), 2);
        granted("24 own minutes", x, x.best(2), 21);
        x = Checks.of(B);
        granted("24 none", x, x.best(0), 0);
        granted("24 none", x, x.best(1), 0);
        granted("24 none", x, x.best(2), 0);
        granted("25 none", x, x.soonest(), 0);
    }

    /** Promises 26 and 27. */
    private static void together() {
        AsleepInside x = Checks.of(B);
        refused("26 awake", x, x.together(1), 5);
        refused("26", x, x.together(0), 2);
        refused("26", x, x.together(32), 2);
        refused("26", x, x.together(-1), 2);
        refused("27", x, x.togetherAt(0, 0), 2);
        refused("27", x, x.togetherAt(1, 0), 5);
        x.lie(0, 0);
        x.lie(0, 0);
        x.lie(1, 1);
        refused("26 other heads", x, x.together(3), 5);
        refused("27 other heads", x, x.togetherAt(3, 0), 5);
        x.wake(1);
        refused("26 one awake", x, x.together(3), 5);
        x.lie(1, 0);
        granted("26 alone", x, x.together(1), 2);
        granted("27", x, x.togetherAt(1, 0), 1);
        granted("27", x, x.togetherAt(1, 1), 2);
        refused("27 behind", x, x.togetherAt(1, 2), 1);
        refused("27 ahead", x, x.togetherAt(1, -1), 1);
        granted("26 light one waits", x, x.together(3), 2);
        granted("27", x, x.togetherAt(3, 0), 1);
        granted("27", x, x.togetherAt(3, 1), 2);
        x.lie(1, 0);
        granted("26 light one is up by the first", x, x.together(3), -2);
        refused("27 none", x, x.togetherAt(3, 0), 1);
        x.lie(4, 0);
        granted("26 too deaf", x, x.together(16), -2);
        due("26 changes nothing", x.sleeper(0, 0), 2);
    }

    /** Promises 28 to 30. */
    private static void howDeep() {
        AsleepInside x = Checks.of(A);
        granted("28", x, x.deep(), 2);
        refused("29 one is deep", x, x.ask(), 6);
        refused("30 one is deep", x, x.askMost(), 6);
        x = Checks.of(B);
        granted("28 no signs", x, x.deep(), 31);
        granted("29", x, x.ask(), 8);
        granted("30", x, x.askMost(), 1);
        x = Checks.of(B + ";came 7 0");
        granted("28", x, x.deep(), 8 + 16);
        granted("29", x, x.ask(), 8);
        x = Checks.of(B + ";came 3 0;came 16 2");
        granted("28", x, x.deep(), 8);
        x = Checks.of(B + ";felt 5 5");
        granted("28 awake", x, x.deep(), 1);
        x = Checks.of(B + ";felt 5 6");
        granted("28 nowhere", x, x.deep(), 0);
        refused("29 nowhere", x, x.ask(), 6);
        x = Checks.of(B + ";came 1 0;came 7 1");
        granted("28", x, x.deep(), 4);
    }

    /** Promises 31 to 33. */
    private static void letters() {
        AsleepInside x = Checks.of(A);
        granted("31", x, x.letter(2, 0, 35), 2);
        granted("31", x, x.letter(2, 1, 35), 8);
        granted("31", x, x.letter(1, 0, 0), 0);
        granted("31", x, x.letter(1, 0, 9999), 3333);
        refused("31 like", x, x.letter(1, 1, 5), 1);
        refused("31 below", x, x.letter(0, 1, 5), 1);
        refused("31", x, x.letter(3, 1, 5), 1);
        refused("31", x, x.letter(1, -1, 10000), 1);
        refused("31", x, x.letter(2, 0, -1), 2);
        refused("31", x, x.letter(2, 0, 10000), 2);
        granted("32", x, x.tells(2, 0, 30, 10), 100);
        granted("32 no words", x, x.tells(2, 0, 11, 26), 1);
        granted("32 at most", x, x.tells(1, 0, 18, 10), 1_000_000);
        granted("32 at most", x, x.tells(1, 0, 9999, 26), 1_000_000);
        granted("32 not yet", x, x.tells(1, 0, 59, 2), 524_288);
        refused("32", x, x.tells(0, 1, 5, 2), 1);
        refused("32", x, x.tells(2, 0, -1, 2), 2);
        refused("32", x, x.tells(2, 0, 10000, 2), 2);
        refused("32", x, x.tells(2, 0, 1, 1), 2);
        refused("32", x, x.tells(2, 0, 1, 27), 2);
        granted("33", x, x.words(2, 0, 101, 10), 36);
        granted("33", x, x.words(2, 0, 100, 10), 24);
        granted("33 one", x, x.words(2, 0, 1, 2), 0);
        granted("33", x, x.words(2, 0, 1_000_000, 2), 240);
        granted("33", x, x.words(2, 1, 2, 26), 4);
        refused("33", x, x.words(1, 2, 1, 2), 1);
        refused("33", x, x.words(2, 0, 0, 2), 2);
        refused("33", x, x.words(2, 0, 1_000_001, 2), 2);
        refused("33", x, x.words(2, 0, 5, 1), 2);
        refused("33", x, x.words(2, 0, 5, 27), 2);
    }

    /** Promises 34 and 35. */
    private static void meetings() {
        AsleepInside x = Checks.of(B);
        granted("34 both from awake", x, x.meeting(0, 1, 1), 48);
        granted("34", x, x.meeting(0, 1, 4), 90);
        granted("35 the first", x, x.meetingHead(0, 1, 4), 0);
        x.lie(0, 1);
        x.lie(0, 1);
        granted("34 the later one is awake", x, x.meeting(0, 1, 4), 90);
        granted("35 the first", x, x.meetingHead(0, 1, 4), 0);
        x.lie(1, 1);
        granted("34", x, x.meeting(0, 1, 4), 42);
        granted("35", x, x.meetingHead(0, 1, 4), 1);
        granted("34 up takes nothing", x, x.meeting(1, 0, 1), 0);
        granted("35", x, x.meetingHead(1, 0, 1), 1);
        refused("34 like", x, x.meeting(1, 1, 1), 1);
        refused("34", x, x.meeting(0, 5, 1), 1);
        refused("34", x, x.meeting(0, 1, 0), 1);
        refused("34", x, x.meeting(0, 1, 5), 1);
        refused("35 like", x, x.meetingHead(1, 1, 1), 1);
        refused("35", x, x.meetingHead(-1, 1, 1), 1);
        refused("35", x, x.meetingHead(0, 1, 0), 1);
        refused("35", x, x.meetingHead(0, 1, 5), 1);
    }

    /** Promises 36 to 39. */
    private static void wages() {
        AsleepInside x = Checks.of(A);
        granted("36", x, x.takes(0), 2);
        granted("36 awake", x, x.takes(1), 0);
        granted("37", x, x.gains(0), 100);
        granted("37 awake", x, x.gains(1), 0);
        refused("36", x, x.takes(3), 1);
        refused("37", x, x.gains(-1), 1);
        granted("38", x, x.price(1, 1), 34);
        granted("38", x, x.price(1, 2), 34);
        granted("38 of like gains the first", x, x.price(0, 1), 34);
        granted("38", x, x.price(0, 2), 2);
        refused("38", x, x.price(0, 0), 1);
        refused("38", x, x.price(0, 3), 1);
        refused("38", x, x.price(3, 1), 1);
        granted("39", x, x.enough(0, 1), 1);
        granted("39", x, x.enough(1, 2), 34);
        granted("39 no dread", x, x.enough(2, 2), 1);
        refused("39", x, x.enough(0, 0), 1);
        refused("39", x, x.enough(0, 3), 1);
        refused("39", x, x.enough(3, 1), 1);
        x = Checks.of(B);
        refused("36 no pays", x, x.takes(0), 6);
        refused("37 no pays", x, x.gains(0), 6);
        refused("38 no pays", x, x.price(0, 1), 6);
        refused("38 no floor", x, x.price(0, 0), 1);
        granted("39 without pays", x, x.enough(2, 4), 1000);
        granted("39", x, x.enough(3, 3), 8);
        x = Checks.of("dream rates 2,12,12,12 fall 0 morning 9;head h;sleeper s plain deaf 1 dread 0 chance 0"
            + ";sleeper t plain deaf 1 dread 1 chance 0;pays 6,0,0,999");
        granted("38 none", x, x.price(0, 1), -2);
        granted("38", x, x.price(0, 4), 1);
        String edge = "dream rates 2,2,8,8 fall 0 morning 9;head h;sleeper s plain deaf 1 dread 30 chance 0;pays 0,0,0,783";
        x = Checks.of(edge);
        granted("38 the most", x, x.price(0, 1), 99_999);
        x = Checks.of(edge.replace("783", "784"));
        granted("38 more than the most", x, x.price(0, 1), -2);
        x = Checks.of("dream rates 2,2 fall 0 morning 9;head h;sleeper s plain deaf 1 dread 0 chance 0;pays 6,3");
        granted("36 the first of like ones", x, x.takes(0), 1);
        granted("38 more than the one ahead", x, x.price(0, 2), 4);
        granted("38 as much as the one behind", x, x.price(0, 1), 6);
        x = Checks.of("dream rates 2 fall 0 morning 9;head h;sleeper s plain deaf 1 dread 0 chance 0;pays 0");
        granted("36 nothing to gain", x, x.takes(0), 0);
        granted("38 a bit", x, x.price(0, 1), 1);
    }

    /** Promises 40 and 41. */
    private static void rates() {
        AsleepInside x = Checks.of(A);
        granted("40", x, x.rates(), 1);
        granted("41", x, x.rate(1), 3);
        granted("41", x, x.rate(2), 4);
        refused("41", x, x.rate(0), 1);
        refused("41", x, x.rate(3), 1);
        x = Checks.of(B);
        granted("40 all", x, x.rates(), 14641);
        granted("41 any", x, x.rate(4), -2);
        x = Checks.of(B + ";did 60 floor 2 awake 5");
        granted("40 2 by 6, 3 by 4, 4 by 3, 6 by 2", x, x.rates(), 4 * 121);
        granted("41", x, x.rate(1), -2);
        x = Checks.of(B + ";did 10 floor 2 awake 1;did 5 floor 1 awake 1");
        granted("40", x, x.rates(), 121);
        granted("41", x, x.rate(2), 2);
        granted("41", x, x.rate(3), -2);
        x = Checks.of(B + ";did 13 floor 1 awake 1");
        granted("40 none", x, x.rates(), 0);
        granted("41 none", x, x.rate(1), -2);
        x = Checks.of(B + ";did 5 floor 1 awake 2");
        granted("40 none whole", x, x.rates(), 0);
        x = Checks.of(B + ";did 5 floor 1 awake 5");
        granted("40 none so slow", x, x.rates(), 0);
        String four = ";did 12 floor 1 awake 1;did 24 floor 2 awake 1;did 48 floor 3 awake 1;did 576 floor 4 awake 1";
        x = Checks.of(B + four);
        granted("40 one", x, x.rates(), 1);
        granted("41 the most", x, x.rate(1), 12);
        granted("41 the least", x, x.rate(2), 2);
        granted("41 the lowest floor", x, x.rate(4), 12);
        Checks.tell(x, B + four.replace("576", "144"));
        granted("41 of another dream", x, x.rate(4), 3);
    }

    /** Promises 42 and 43. */
    private static void chances() {
        AsleepInside x = Checks.of(B);
        granted("42", x, x.waking(0, 1, 2, false), 7);
        granted("42", x, x.waking(0, 1, 2, true), 16);
        granted("42", x, x.waking(0, 2, 2, false), 1);
        granted("42", x, x.waking(0, 2, 2, true), 16);
        granted("42 too few minutes", x, x.waking(0, 3, 2, false), 0);
        granted("42 too few minutes", x, x.waking(0, 3, 2, true), 1);
        granted("42 awake", x, x.waking(4, 0, 0, false), 1);
        granted("42 awake", x, x.waking(4, 0, 8, true), 1);
        granted("42 never", x, x.waking(4, 1, 8, true), 1);
        granted("42 most minutes", x, x.waking(1, 1, 8, false), 10_000_000_000_000_000L - 9_227_446_944_279_201L);
        granted("42 most minutes", x, x.waking(1, 1, 8, true), 10_000_000_000_000_000L);
        refused("42", x, x.waking(5, 0, 0, false), 1);
        refused("42", x, x.waking(0, 5, 0, false), 1);
        refused("42", x, x.waking(0, -1, 9, false), 1);
        refused("42", x, x.waking(0, 0, 9, false), 2);
        refused("42", x, x.waking(0, 0, -1, false), 2);
        granted("43", x, x.mean(2, 3, false), 100);
        granted("43", x, x.mean(2, 3, true), 33);
        granted("43", x, x.mean(0, 4, false), 16);
        granted("43", x, x.mean(0, 4, true), 1);
        granted("43 awake", x, x.mean(4, 0, false), 0);
        granted("43 awake", x, x.mean(4, 0, true), 1);
        granted("43 never", x, x.mean(4, 1, false), -2);
        granted("43 never", x, x.mean(4, 1, true), -2);
        refused("43", x, x.mean(5, 0, false), 1);
        refused("43", x, x.mean(0, 5, false), 1);
        refused("43", x, x.mean(0, -1, false), 1);
    }

    /** Promise 44. */
    private static void passing() {
        AsleepInside x = Checks.of(A);
        granted("44", x, x.pass(0, 1), 1);
        granted("44 within a minute", x, x.pass(1, 2), 1);
        granted("44", x, x.pass(2, 4), 2);
        due("44 ticks", x.ticks(), 24);
        due("44 what is due is done", x.sleeper(1, 0), 1);
        refused("44", x, x.pass(3, 1), 1);
        refused("44", x, x.pass(-1, 0), 1);
        refused("44", x, x.pass(0, 0), 2);
        refused("44", x, x.pass(0, 1000), 2);
        granted("44", x, x.pass(0, 999), 1001);
        refused("44 too late", x, x.pass(0, 200), 3);
        granted("44 as late as can be", x, x.pass(0, 199), 1200);
        refused("44 a tick too late", x, x.pass(2, 1), 3);
        due("44 stays", x.ticks(), 14400);
        due("44 refused ones are no acts", x.size(10), 5);
    }

    /** Promises 45 and 46. */
    private static void lyingAndWaking() {
        AsleepInside x = Checks.of(B);
        granted("45", x, x.lie(0, 1), 1);
        due("45 head", x.sleeper(0, 1), 1);
        refused("45 another head", x, x.lie(0, 0), 5);
        granted("45 lower", x, x.lie(0, 1), 2);
        granted("45 lower", x, x.lie(0, 1), 3);
        granted("45 lower", x, x.lie(0, 1), 4);
        refused("45 on the lowest", x, x.lie(0, 1), 5);
        refused("45", x, x.lie(5, 0), 1);
        refused("45", x, x.lie(-1, 0), 1);
        refused("45", x, x.lie(1, 2), 1);
        refused("45", x, x.lie(1, -1), 1);
        x.pass(4, 5);
        granted("46", x, x.wake(0), 3);
        due("46 anew", x.sleeper(0, 3), 0);
        x.pass(4, 5);
        due("46 since", x.sleeper(0, 3), 2);
        granted("46", x, x.wake(0), 2);
        granted("46", x, x.wake(0), 1);
        granted("46", x, x.wake(0), 0);
        due("46 no head", x.sleeper(0, 1), -2);
        refused("46 awake", x, x.wake(0), 5);
        refused("46", x, x.wake(5), 1);
        refused("46", x, x.wake(-1), 1);
        granted("45 another head then", x, x.lie(0, 0), 1);

        AsleepInside y = Checks.of("dream rates 2,3,4 fall 0 morning 9;head g;head h;sleeper a plain deaf 1 dread 0 chance 0"
            + ";up a after 1;down a g after 0;up a after 5;down a g after 0;up a after 5");
        granted("45 counted anew, on another floor", y, y.lie(0, 1), 1);
        y.pass(1, 1);
        due("45 up by a step, and down at once in the told head", y.sleeper(0, 1), 0);
        due("45 steps done", y.sleeper(0, 2), 2);
        granted("46 what is due then waits for its minutes", y, y.wake(0), 0);
        due("46 steps done", y.sleeper(0, 2), 2);
        y.pass(0, 5);
        due("46 awake he stays, and goes down", y.sleeper(0, 0), 1);
        due("46 steps done", y.sleeper(0, 2), 4);

        AsleepInside z = Checks.of("dream rates 2,3,4 fall 0 morning 9;head g;head h;sleeper a plain deaf 1 dread 0 chance 0"
            + ";down a h after 5;down a g after 0;up a after 7");
        granted("45 waits", z, z.lie(0, 1), 1);
        z.pass(1, 5);
        due("45 two steps at one tick", z.sleeper(0, 0), 3);
        due("45 whatever head is told", z.sleeper(0, 1), 1);
    }

    /** Promise 48. */
    private static void undoing() {
        AsleepInside x = Checks.of(B);
        CHECKS.due("48 nothing", x.undo(), false);
        due("48 trouble", x.trouble(), 6);
        for (int i = 0; i < 13; i++) {
            x.pass(0, 1);
        }
        due("48 twelve are kept", x.size(10), 12);
        for (int i = 12; i > 0; i--) {
            CHECKS.due("48", x.undo(), true);
            due("48 trouble", x.trouble(), 0);
            due("48 back", x.clock(0), i);
        }
        CHECKS.due("48 no more", x.undo(), false);
        due("48 stays", x.clock(0), 1);
        x.lie(0, 1);
        x.lie(0, 1);
        x.pass(1, 3);
        x.knock(1, 0, 99);
        x.wake(0);
        due("48 five acts", x.size(10), 5);
        x.undo();
        due("48 wake", x.sleeper(0, 0), 1);
        x.undo();
        due("48 knock", x.sleeper(0, 0), 2);
        due("48 knock", x.sleeper(0, 3), 6);
        x.undo();
        due("48 pass", x.ticks(), 16);
        x.undo();
        due("48 lie", x.sleeper(0, 0), 1);
        x.undo();
        due("48 lie", x.sleeper(0, 1), -2);
        due("48 none left", x.size(10), 0);
        x.knock(0, 0, 1);
        due("48 a knock that wakes nobody is an act", x.size(10), 1);
    }

    /** Promises 49 and 50. */
    private static void images() {
        AsleepInside x = Checks.of(B);
        granted("49", x, x.image(), 0);
        x.lie(0, 1);
        granted("49", x, x.image(), 1);
        x.pass(0, 3);
        granted("49", x, x.image(), 2);
        refused("49 no room", x, x.image(), 3);
        due("49 acts stay", x.size(10), 2);
        CHECKS.due("50", x.back(1), true);
        due("50 trouble", x.trouble(), 0);
        due("50 as then", x.ticks(), 0);
        due("50 as then", x.sleeper(0, 0), 1);
        due("50 nothing to undo", x.size(10), 0);
        CHECKS.due("50 nothing to undo", x.undo(), false);
        due("50 all images stay", x.size(11), 3);
        x.lie(0, 1);
        CHECKS.due("50 later", x.back(2), true);
        due("50 later", x.ticks(), 48);
        due("50 later", x.sleeper(0, 0), 1);
        CHECKS.due("50 first", x.back(0), true);
        due("50 first", x.sleeper(0, 0), 0);
        CHECKS.due("50 none such", x.back(3), false);
        due("50 trouble", x.trouble(), 1);
        CHECKS.due("50 none such", x.back(-1), false);
    }

    /** Promises 51 to 53. */
    private static void whatIsTold() {
        AsleepInside x = Checks.of(A);
        int[] sizes = {2, 5, 20, 2, 3, 6, 2, 2, 2, 2, 0, 0, 0};
        for (int what = 0; what < sizes.length; what++) {
            due("52 size " + what, x.size(what), sizes[what]);
        }
        due("52", x.size(13), -1);
        due("52", x.size(-1), -1);
        due("51", x.led(0), 2);
        CHECKS.due("51", Checks.throwsNoSuch(x, 1), true);
        x.pass(0, 2);
        due("51", x.led(0), 0);
        due("51", x.led(1), 1);
        due("51", x.led(2), 2);
        CHECKS.due("51", Checks.throwsNoSuch(x, 3), true);
        CHECKS.due("51", Checks.throwsNoSuch(x, -1), true);
        CHECKS.due("51", Checks.throwsNoSuch(x, Integer.MIN_VALUE), true);
        x.quick(-1);
        x.size(99);
        x.feed(0, 0, 0, 0, 0);
        Checks.throwsNoSuch(x, 9);
        x.fault();
        x.where();
        due("53 calls without a number leave it", x.trouble(), 1);
        x.quick(0);
        due("53", x.trouble(), 0);
    }

    /** The largest numbers that can come. */
    private static void largest() {
        AsleepInside x = Checks.of("dream rates 12,12,12,12 fall 60 morning 600;head h"
            + ";sleeper a plain deaf 9999 dread 999 chance 1;sleeper b plain deaf 9999 dread 0 chance 1"
            + ";down a h after 0;down a h after 0;down a h after 0;down a h after 0;down b h after 999"
            + ";task k floor 0 minutes 999 risk 99;task l floor 4 minutes 999 risk 99;pays 999,999,999,999");
        due("6", x.quick(4), 20_736);
        due("9", x.minutes(0, 4, 9999, false), 207_339_264);
        due("22", x.felt(99, 0, 4), 2_052_864);
        due("25", x.soonest(), 60L * (20_736 + 1728 + 144 + 12) + 2 * 999);
        due("33", x.words(4, 0, 1_000_000, 2), 414_720);
        due("34", x.meeting(0, 1, 4), 60L * (20_736 + 1728 + 144 + 12));
        due("37", x.gains(1), 20_715_264);
        due("37", x.gains(0), 20_715_264 - 15_984);
        due("38", x.price(0, 1), -2);
        due("39", x.enough(0, 1), 84);
        x.pass(0, 999);
        due("10 at one tick with its step", x.sleeper(1, 0), 1);
        due("44", x.pass(0, 201), 1200);
        due("8", x.ticks(), 24_883_200);
        due("7", x.clock(4), 24_883_200);
        due("10", x.sleeper(0, 3), 24_883_200);
        due("11", x.lived(0, false), 24_883_200);
        due("11", x.lived(0, true), 1);
        due("11", x.lived(1, false), 999 + 12 * 201);
        due("18", x.lonely(0, 600), 600);
        due("14", x.floorIn(0, 600), 4);
    }
}
