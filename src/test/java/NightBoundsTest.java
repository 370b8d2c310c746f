/** Terms II, and III as far as hours go, sentence by sentence: to the tick, the FLOOR and the minute. */
public final class NightBoundsTest {
    private static final Checks CHECKS = new Checks();

    /** QUICK 1, 2, 6; a minute is 6, 3, 1 ticks. */
    private static final String TWO = "dream rates 2,3 fall 4 morning 10;head g;head h";
    private static final String ONE = "dream rates 2 fall 4 morning 600;head g;head h";
    private static final String FOUR = "dream rates 2,2,2,2 fall 4 morning 600;head g;head h";

    public static void main(String[] args) {
        quickIsOfAllRatesToIt();
        clocksGoDownwards();
        whatIsDueAtZeroIsDone();
        stepsComeDueToTheTick();
        whoStaysHasComeAnew();
        lowerHeStaysInHisHead();
        allStepsAtOneTick();
        actsCountAnew();
        minutesLived();
        asMuchAsHeIsDeaf();
        lightByTwo();
        heavyByTwiceAsMuch();
        fondAboveTheLowest();
        onlyLowerOnesInThatHead();
        knocksAheadOfSteps();
        knocksOneBehindTheOther();
        knocksInTheirHeadOnTheirFloor();
        knocksAtZeroAndAtMorning();
        twoMeet();
        upToSixHundredMinutes();
        wholeMinutesAlone();
        leftAtMorning();
        lonelyMinutes();
        crowds();
        offAFloor();
        allStepsAndKnocksInARow();
        CHECKS.end();
    }

    private static String sleeper(String name, String kind, int deaf) {
        return ";sleeper " + name + " " + kind + " deaf " + deaf + " dread 0 chance 0";
    }

    private static AsleepInside of(String text) {
        return Checks.of(text);
    }

    private static void due(String what, long got, long want) {
        CHECKS.due(what, got, want);
    }

    // ---- hours

    /** "QUICK of a FLOOR: all rates from 1 to it multiplied (of 0: 1)"; "a minute of a FLOOR is BOTTOM by its QUICK ticks". */
    private static void quickIsOfAllRatesToIt() {
        String[] rates = {"2", "2,3", "2,3,5", "2,3,5,7"};
        int[] quicks = {1, 2, 6, 30, 210};
        for (int floors = 1; floors <= 4; floors++) {
            AsleepInside x = of("dream rates " + rates[floors - 1] + " fall 0 morning 1;head h" + sleeper("a", "plain", 1));
            long now = 0;
            for (int floor = 0; floor <= floors; floor++) {
                CHECKS.granted("quick", x, x.quick(floor), quicks[floor]);
                x.pass(floor, 1);
                now += quicks[floors] / quicks[floor];
                due("ticks of a minute", x.ticks(), now);
            }
            CHECKS.refused("one lower than the lowest", x, x.quick(floors + 1), 1);
            CHECKS.refused("one higher than awake", x, x.quick(-1), 1);
        }
        AsleepInside x = of("dream rates 12,12,12,12 fall 0 morning 1;head h" + sleeper("a", "plain", 1));
        due("the quickest", x.quick(4), 20_736);
        due("its minutes", x.minutes(4, 0, 1, true), 20_736);
        due("its minutes in lowest terms", x.minutes(4, 0, 9999, false), 1111);
        due("its minutes in lowest terms", x.minutes(4, 0, 9999, true), 2304);
        due("0 by 1", x.minutes(4, 0, 0, true), 1);
        due("most", x.minutes(0, 4, 9999, false), 207_339_264);
    }

    /** "CLOCK of a FLOOR: ticks that have gone by since the beginning, in its minutes, downwards". */
    private static void clocksGoDownwards() {
        AsleepInside x = of(TWO + sleeper("a", "plain", 1));
        int[][] clocks = {{0, 0, 0}, {0, 0, 1}, {0, 0, 2}, {0, 1, 3}, {0, 1, 4}, {0, 1, 5}, {1, 2, 6}, {1, 2, 7}};
        for (int tick = 0; tick < clocks.length; tick++) {
            due("ticks", x.ticks(), tick);
            for (int floor = 0; floor <= 2; floor++) {
                due("clock at " + tick, x.clock(floor), clocks[tick][floor]);
            }
            due("pass tells the CLOCK of FLOOR 0", x.pass(2, 1), (tick + 1) / 6);
        }
    }

    // ---- STEPS

    /** "NOW is a tick; what is due at NOW is done already. (At first: what is due at 0 is done.)" */
    private static void whatIsDueAtZeroIsDone() {
        AsleepInside x = of(TWO + sleeper("a", "plain", 1) + sleeper("b", "plain", 1) + sleeper("c", "plain", 1)
            + ";down a g after 0;down a g after 0;up a after 1;down b h after 1");
        due("due at 0", x.sleeper(0, 0), 2);
        due("due at 0", x.sleeper(0, 2), 2);
        due("not due at 0", x.sleeper(1, 0), 0);
        due("not due at 0", x.sleeper(1, 2), 0);
        due("all are awake at first", x.sleeper(2, 0), 0);
        due("in no HEAD", x.sleeper(2, 1), -2);
        due("TICK 0", x.ticks(), 0);
        due("IN 0 is NOW", x.floorIn(0, 0), 2);
        x.pass(2, 1);
        due("due at NOW", x.sleeper(0, 0), 1);
    }

    /** "so many minutes (of the FLOOR where he is) as it is told behind his latest coming". */
    private static void stepsComeDueToTheTick() {
        AsleepInside x = of(TWO + sleeper("a", "plain", 1) + ";down a g after 2;down a g after 2;up a after 2;up a after 2;up a after 2");
        int[] dueAt = {12, 18, 20, 26, 38};
        int[] floors = {0, 1, 2, 1, 0, 0};
        int done = 0;
        for (int tick = 0; tick <= 40; tick++) {
            done += done < 5 && tick == dueAt[done] ? 1 : 0;
            due("steps done at " + tick, x.sleeper(0, 2), done);
            due("FLOOR at " + tick, x.sleeper(0, 0), floors[done]);
            x.pass(2, 1);
        }
        x = of(ONE + sleeper("a", "plain", 1) + ";down a g after 999");
        x.pass(0, 998);
        x.pass(1, 1);
        due("a tick ahead of the longest wait", x.sleeper(0, 0), 0);
        x.pass(1, 1);
        due("the longest wait", x.sleeper(0, 0), 1);
    }

    /** "on the lowest he stays", "awake he stays", "(Who stays where he is by a STEP has come there anew, too.)" */
    private static void whoStaysHasComeAnew() {
        AsleepInside x = of(TWO + sleeper("a", "plain", 1) + ";down a g after 0;down a g after 0;down a h after 4;up a after 3");
        x.pass(2, 3);
        due("minutes since he came", x.sleeper(0, 3), 3);
        x.pass(2, 1);
        due("on the lowest he stays", x.sleeper(0, 0), 2);
        due("in his HEAD", x.sleeper(0, 1), 0);
        due("by a STEP", x.sleeper(0, 2), 3);
        due("anew", x.sleeper(0, 3), 0);
        x.pass(2, 2);
        due("not yet", x.sleeper(0, 0), 2);
        x.pass(2, 1);
        due("from his coming anew on", x.sleeper(0, 0), 1);
        x = of(TWO + sleeper("a", "plain", 1) + ";up a after 2;down a h after 3");
        x.pass(0, 2);
        due("awake he stays", x.sleeper(0, 0), 0);
        due("awake in no HEAD", x.sleeper(0, 1), -2);
        due("by a STEP", x.sleeper(0, 2), 1);
        due("anew", x.sleeper(0, 3), 0);
        x.pass(2, 17);
        due("not yet", x.sleeper(0, 0), 0);
        due("minutes downwards", x.sleeper(0, 3), 2);
        x.pass(2, 1);
        due("from his coming anew on", x.sleeper(0, 0), 1);
        due("in the told HEAD", x.sleeper(0, 1), 1);
    }

    /** "lower he goes one FLOOR lower in the HEAD where he is, whatever HEAD is told". */
    private static void lowerHeStaysInHisHead() {
        AsleepInside x = of(TWO + sleeper("a", "plain", 1) + ";down a h after 0;down a g after 1;up a after 1;up a after 1;down a g after 0");
        due("awake he lies down in that HEAD", x.sleeper(0, 1), 1);
        due("one FLOOR lower", x.sleeper(0, 0), 1);
        x.pass(1, 1);
        due("whatever HEAD is told", x.sleeper(0, 1), 1);
        due("one FLOOR lower", x.sleeper(0, 0), 2);
        x.pass(2, 1);
        due("up in his HEAD", x.sleeper(0, 1), 1);
        due("up by one", x.sleeper(0, 0), 1);
        x.pass(1, 1);
        due("awake, then down in another HEAD", x.sleeper(0, 1), 0);
        due("down at once", x.sleeper(0, 0), 1);
    }

    /** "all that are due of him": as many STEPS as there is room for, at one tick. */
    private static void allStepsAtOneTick() {
        AsleepInside x = of(FOUR + sleeper("a", "plain", 1) + ";down a h after 0".repeat(17) + ";up a after 0".repeat(3));
        due("all done", x.sleeper(0, 2), 20);
        due("four down, thirteen in vain, three up", x.sleeper(0, 0), 1);
        x = of(FOUR + sleeper("a", "plain", 1) + ";down a g after 5" + ";up a after 0;down a h after 0".repeat(9) + ";up a after 0");
        due("none done", x.sleeper(0, 2), 0);
        x.pass(0, 5);
        due("all done at once", x.sleeper(0, 2), 20);
        due("awake", x.sleeper(0, 0), 0);
        x = of(FOUR + sleeper("a", "plain", 1) + sleeper("b", "plain", 1) + ";down b h after 3".repeat(2) + ";down a g after 0".repeat(4)
            + ";up b after 1");
        due("of each as they are told", x.sleeper(0, 2), 4);
        due("his own alone", x.sleeper(1, 2), 0);
        due("his own alone", x.floorIn(1, 3), 1);
    }

    /** "his lying down or waking by ACTS": what comes next is counted from there; "what is due of STEPS then is done at once". */
    private static void actsCountAnew() {
        AsleepInside x = of(TWO + sleeper("a", "plain", 1) + sleeper("b", "plain", 1) + ";down a g after 3;down a g after 0;up a after 4;up a after 0");
        x.pass(0, 2);
        due("lies", x.lie(0, 1), 1);
        x.pass(1, 2);
        due("not at the third minute", x.sleeper(0, 2), 0);
        x.pass(1, 1);
        due("three minutes of FLOOR 1 behind", x.sleeper(0, 2), 2);
        due("on the lowest", x.sleeper(0, 0), 2);
        x.pass(2, 3);
        due("wakes", x.wake(0), 1);
        x.pass(1, 3);
        due("not yet", x.sleeper(0, 0), 1);
        x.pass(1, 1);
        due("both steps up", x.sleeper(0, 0), 0);
        due("all done", x.sleeper(0, 2), 4);

        String atOnce = TWO + sleeper("a", "plain", 1) + ";down a g after 1;down a g after 0;up a after 1;up a after 0;down a h after 5";
        x = of(atOnce);
        x.pass(0, 1);
        due("two at once", x.sleeper(0, 0), 2);
        CHECKS.granted("wakes by one", x, x.wake(0), 1);
        due("nothing is due of one minute", x.sleeper(0, 2), 2);
        x = of(TWO + sleeper("a", "plain", 1) + ";down a g after 1;up a after 0;up a after 0;down a g after 0");
        CHECKS.granted("lies", x, x.lie(0, 0), 1);
        due("waits a minute", x.sleeper(0, 2), 0);
        x.pass(1, 1);
        due("down, up, up, down", x.sleeper(0, 0), 1);
        due("all done", x.sleeper(0, 2), 4);
    }

    /** "LIVED: of his own minutes on all FLOORS together: ticks times QUICK by BOTTOM"; "in lowest terms (0 by 1)". */
    private static void minutesLived() {
        AsleepInside x = of(TWO + sleeper("a", "plain", 1) + sleeper("b", "plain", 1) + ";down a g after 1;down a g after 1;up a after 2");
        int[] uppers = {0, 1, 1, 1, 2, 5, 1, 4, 5, 2, 3, 4, 13, 14};
        int[] lowers = {1, 6, 3, 2, 3, 6, 1, 3, 3, 1, 1, 1, 3, 3};
        for (int tick = 0; tick < uppers.length; tick++) {
            due("upper at " + tick, x.lived(0, false), uppers[tick]);
            due("lower at " + tick, x.lived(0, true), lowers[tick]);
            x.pass(2, 1);
        }
        due("awake all the time", x.lived(1, false), 7);
        due("awake all the time", x.lived(1, true), 3);
        x.image();
        x.pass(0, 9);
        x.back(0);
        due("as by the image", x.lived(0, false), 5);
        due("as by the image", x.lived(0, true), 1);
    }

    // ---- KNOCKS

    /** One asleep in g on a FLOOR, and a KNOCK there: on which FLOOR he is then. */
    private static int behind(String dream, String kind, int deaf, int floor, int on, int strong) {
        AsleepInside x = of(dream + sleeper("a", kind, deaf));
        for (int i = 0; i < floor; i++) {
            x.lie(0, 0);
        }
        int bits = x.knock(0, on, strong);
        int there = x.sleeper(0, 0);
        due("who comes up, as bits", bits, there < floor ? 1 : 0);
        due("HEAD", x.sleeper(0, 1), there == 0 ? -2 : 0);
        return there;
    }

    /** "strong times QUICK of his FLOOR by QUICK of that FLOOR; if that is as much as he is deaf, or more, he comes up by one". */
    private static void asMuchAsHeIsDeaf() {
        int[][] rows = {{2, 0, 3, 18}, {1, 0, 3, 6}, {2, 1, 3, 9}, {2, 0, 1, 6}, {2, 0, 99, 594}, {1, 0, 99, 198}, {2, 1, 99, 297}, {2, 1, 1, 3}};
        for (int[] row : rows) {
            String what = "a KNOCK of " + row[2] + " on " + row[1] + " for one on " + row[0];
            due(what + ", less deaf", behind(TWO, "plain", row[3] - 1, row[0], row[1], row[2]), row[0] - 1);
            due(what + ", as deaf", behind(TWO, "plain", row[3], row[0], row[1], row[2]), row[0] - 1);
            due(what + ", more deaf", behind(TWO, "plain", row[3] + 1, row[0], row[1], row[2]), row[0]);
        }
        due("by one alone", behind(FOUR, "plain", 1, 4, 0, 99), 3);
        String quickest = "dream rates 12,12,12,12 fall 0 morning 1;head g";
        due("the most deaf", behind(quickest, "plain", 9999, 4, 1, 5), 4);
        due("the most deaf", behind(quickest, "plain", 9999, 4, 1, 6), 3);
    }

    /** "light: by two, to that FLOOR at highest". */
    private static void lightByTwo() {
        for (int floor = 1; floor <= 4; floor++) {
            for (int on = 0; on < 4; on++) {
                int want = floor <= on ? floor : Math.max(on, floor - 2);
                due("light on " + floor + ", KNOCK on " + on, behind(FOUR, "light", 1, floor, on, 1), want);
            }
        }
        due("light, as deaf", behind(FOUR, "light", 48, 4, 0, 3), 2);
        due("light, more deaf", behind(FOUR, "light", 49, 4, 0, 3), 4);
    }

    /** "heavy: only if it is twice as much as he is deaf". */
    private static void heavyByTwiceAsMuch() {
        due("heavy, less than twice", behind(TWO, "heavy", 4, 1, 0, 3), 1);
        due("heavy, just twice", behind(TWO, "heavy", 3, 1, 0, 3), 0);
        due("heavy, more than twice", behind(TWO, "heavy", 2, 1, 0, 3), 0);
        due("heavy, one less than twice", behind(TWO, "heavy", 5, 2, 1, 3), 2);
        due("heavy, one more than twice", behind(TWO, "heavy", 4, 2, 1, 3), 1);
        due("heavy, by one alone", behind(FOUR, "heavy", 1, 4, 0, 99), 3);
        due("heavy and the most deaf", behind("dream rates 12,12,12,12 fall 0 morning 1;head g", "heavy", 9999, 4, 1, 11), 4);
        due("heavy and the most deaf", behind("dream rates 12,12,12,12 fall 0 morning 1;head g", "heavy", 9999, 4, 1, 12), 3);
    }

    /** "fond: only if his own FLOOR is the lowest but one, or higher". */
    private static void fondAboveTheLowest() {
        due("fond on the lowest of one", behind(ONE, "fond", 1, 1, 0, 99), 1);
        due("fond on the lowest of two", behind(TWO, "fond", 1, 2, 0, 99), 2);
        due("fond on the lowest but one of two", behind(TWO, "fond", 1, 1, 0, 99), 0);
        due("fond on the lowest of four", behind(FOUR, "fond", 1, 4, 3, 99), 4);
        due("fond on the lowest but one of four", behind(FOUR, "fond", 1, 3, 2, 99), 2);
        due("fond, higher", behind(FOUR, "fond", 1, 2, 0, 99), 1);
        due("fond, higher", behind(FOUR, "fond", 1, 1, 0, 99), 0);
        due("fond, as deaf", behind(TWO, "fond", 6, 1, 0, 3), 0);
        due("fond, more deaf", behind(TWO, "fond", 7, 1, 0, 3), 1);
    }

    /** "all in that HEAD on lower FLOORS feel it". */
    private static void onlyLowerOnesInThatHead() {
        AsleepInside x = of(FOUR + sleeper("a", "plain", 1) + sleeper("b", "plain", 1) + sleeper("c", "plain", 1) + sleeper("d", "plain", 1)
            + sleeper("e", "plain", 1));
        for (int s = 0; s < 4; s++) {
            for (int i = 0; i <= s; i++) {
                x.lie(s, s == 3 ? 1 : 0);
            }
        }
        due("on that FLOOR not, lower yes, in another HEAD not, awake not", x.knock(0, 2, 99), 4);
        due("another HEAD", x.knock(1, 3, 99), 8);
        due("nobody lower", x.knock(1, 3, 99), 0);
        due("all of that HEAD", x.knock(0, 0, 99), 7);
        due("awake", x.sleeper(0, 0), 0);
        due("one came up twice", x.sleeper(2, 0), 1);
    }

    /** "At one tick first KNOCKS told for it ... then STEPS due": who is brought up is counted from there. */
    private static void knocksAheadOfSteps() {
        String text = TWO + sleeper("a", "plain", 6) + ";down a g after 0;up a after 4;down a h after 1;knock g floor 0 at 2 strong ";
        AsleepInside x = of(text + "3");
        x.pass(0, 2);
        due("awake by the KNOCK", x.sleeper(0, 0), 0);
        due("the STEP isn't done", x.sleeper(0, 2), 1);
        x.pass(0, 4);
        due("awake he stays", x.sleeper(0, 2), 2);
        x.pass(0, 1);
        due("down", x.sleeper(0, 1), 1);
        x = of(text + "2");
        x.pass(0, 2);
        due("awake by the STEP", x.sleeper(0, 0), 0);
        due("the STEP is done", x.sleeper(0, 2), 2);
        due("no KNOCK brought him up", x.woken(0, 0), 0);
        x = of(TWO + sleeper("a", "plain", 1) + ";down a g after 2;knock g floor 0 at 2 strong 99");
        due("who lies down at that tick feels nothing", x.floorIn(0, 2), 1);
        due("who lies down at that tick feels nothing", x.woken(0, 600), 0);
        x = of(TWO + sleeper("a", "plain", 1) + ";down a g after 0;up a after 9;down a h after 0;knock g floor 0 at 1 strong 9");
        due("by the KNOCK", x.floorIn(0, 1), 0);
        due("nine awake minutes behind: up, and down at once", x.floorIn(0, 9), 0);
        due("nine awake minutes behind: up, and down at once", x.headIn(0, 10), 1);
        x = of(TWO + sleeper("a", "plain", 1) + ";down a g after 0;down a h after 0;down a h after 9;knock g floor 0 at 1 strong 9");
        due("anew on another FLOOR", x.floorIn(0, 1), 1);
        due("nine minutes of FLOOR 1 aren't over", x.floorIn(0, 5), 1);
        due("nine minutes of FLOOR 1 are over", x.floorIn(0, 6), 2);
    }

    /** "KNOCKS told for it, one behind the other": as they are told. */
    private static void knocksOneBehindTheOther() {
        String text = TWO + sleeper("a", "plain", 6) + ";down a g after 0;down a g after 0";
        String weak = ";knock g floor 0 at 3 strong 1";
        String strong = ";knock g floor 0 at 3 strong 3";
        AsleepInside x = of(text + weak + strong);
        due("ahead", x.floorIn(0, 2), 2);
        due("weak, strong: up twice", x.floorIn(0, 3), 0);
        due("by both", x.woken(0, 3), 2);
        x = of(text + strong + weak);
        due("strong, weak: up once", x.floorIn(0, 3), 1);
        due("by one", x.woken(0, 3), 1);
        x = of(text + ";knock g floor 1 at 3 strong 2;knock h floor 0 at 3 strong 99" + strong);
        due("on FLOOR 1, in another HEAD, on FLOOR 0", x.floorIn(0, 3), 0);
        x = of(text + strong.replace("at 3", "at 4") + weak);
        due("the earlier one first", x.floorIn(0, 3), 1);
        due("the later one then", x.floorIn(0, 4), 0);
    }

    /** "knock HEAD floor WHOLE": told ones come just there. */
    private static void knocksInTheirHeadOnTheirFloor() {
        String text = FOUR + sleeper("a", "plain", 8) + sleeper("b", "plain", 8) + ";down a g after 0".repeat(4) + ";down b h after 0".repeat(4);
        String[] heads = {"g", "h"};
        // On FLOOR 4 a KNOCK of 1 is felt as 16, 8, 4, 2, whence it comes from FLOOR 0, 1, 2, 3.
        for (int head = 0; head < 2; head++) {
            for (int on = 0; on < 4; on++) {
                AsleepInside x = of(text + ";knock " + heads[head] + " floor " + on + " at 2 strong 1");
                due("who is in that HEAD, on " + on, x.floorIn(head, 2), on < 2 ? 3 : 4);
                due("who is in that HEAD, on " + on, x.woken(head, 2), on < 2 ? 1 : 0);
                due("who is in the other", x.floorIn(1 - head, 2), 4);
                due("who is in the other", x.woken(1 - head, 600), 0);
            }
        }
    }

    /** "at WHOLE (an awake minute, 0 up to morning)". */
    private static void knocksAtZeroAndAtMorning() {
        AsleepInside x = of(TWO + sleeper("a", "plain", 1) + ";down a g after 0;knock g floor 0 at 0 strong 99;knock g floor 0 at 10 strong 1");
        due("at 0 all are awake", x.sleeper(0, 0), 1);
        due("at 0 nobody comes up", x.woken(0, 9), 0);
        due("one ahead of morning", x.floorIn(0, 9), 1);
        due("at morning", x.floorIn(0, 10), 0);
        due("at morning", x.woken(0, 10), 1);
        due("who comes up at morning isn't left", x.left(), 0);
        x.pass(2, 59);
        due("a tick ahead", x.sleeper(0, 0), 1);
        due("a tick ahead IN 0", x.woken(0, 0), 0);
        due("a tick ahead IN 1", x.woken(0, 1), 1);
        x.pass(2, 1);
        due("to the tick", x.sleeper(0, 0), 0);
        due("done already", x.woken(0, 600), 0);
        x.lie(0, 0);
        due("no KNOCK comes twice", x.woken(0, 600), 0);
        due("no KNOCK comes twice", x.floorIn(0, 600), 1);
        x.undo();
        x.undo();
        due("unless it is undone", x.woken(0, 600), 1);
    }

    // ---- who meets whom

    /** "MEET: two on one FLOOR but 0 of one HEAD". */
    private static void twoMeet() {
        for (int one = 0; one <= 2; one++) {
            for (int other = 0; other <= 2; other++) {
                for (int head = 0; head < 2; head++) {
                    AsleepInside x = of(TWO + sleeper("a", "plain", 1) + sleeper("b", "plain", 1) + ";down a g after 0".repeat(one)
                        + (";down b " + (head == 0 ? "g" : "h") + " after 0").repeat(other));
                    boolean met = one == other && one > 0 && head == 0;
                    String what = one + ", " + other + " in HEAD " + head;
                    CHECKS.granted("NOW " + what, x, x.meet(0, 1), met ? 1 : 0);
                    CHECKS.granted("NOW " + what, x, x.meet(1, 0), met ? 1 : 0);
                    CHECKS.granted("IN 0 " + what, x, x.meetsIn(1, 0, 0), met ? 0 : -2);
                    CHECKS.granted("IN 600 " + what, x, x.meetsIn(0, 1, 600), met ? 0 : -2);
                }
            }
        }
    }

    // ---- IN t

    /** "IN t awake minutes (0 .. 600) from NOW on". */
    private static void upToSixHundredMinutes() {
        AsleepInside x = of(ONE + sleeper("a", "plain", 1) + sleeper("b", "plain", 1) + sleeper("c", "plain", 1)
            + ";down a g after 600;down b h after 601;down c g after 0;down c g after 999;down c g after 199");
        due("at 600", x.floorIn(0, 600), 1);
        due("HEAD at 600", x.headIn(0, 600), 0);
        due("ahead of 600", x.floorIn(0, 599), 0);
        due("HEAD ahead of 600", x.headIn(0, 599), -2);
        due("behind 600", x.floorIn(1, 600), 0);
        due("MEET at 600", x.meetsIn(0, 2, 600), 600);
        due("ahead of that not", x.meetsIn(0, 2, 599), -2);
        due("LONELY", x.lonely(2, 600), 599);
        due("LONELY", x.lonely(2, 599), 599);
        due("CROWD at 600", x.crowd(600), 2);
        due("CROWD ahead of that", x.crowd(599), 1);
        due("awake IN 0", x.awakeIn(0, 0), 0);
        due("never awake", x.awakeIn(2, 600), -2);
        CHECKS.refused("601", x, x.floorIn(1, 601), 2);
        x.pass(0, 1);
        due("from NOW on", x.floorIn(1, 600), 1);
        due("from NOW on", x.meetsIn(0, 2, 600), 599);
        x = of(ONE + sleeper("c", "plain", 1) + sleeper("d", "plain", 1) + ";down c g after 0;down c g after 999;up c after 201;down d g after 0"
            + ";knock g floor 0 at 600 strong 50".repeat(2));
        due("awake at 600", x.awakeIn(0, 600), 600);
        due("awake at 600, not ahead", x.awakeIn(0, 599), -2);
        due("KNOCKS at 600", x.woken(1, 600), 1);
        due("KNOCKS at 600, not ahead", x.woken(1, 599), 0);
    }

    /** "whole ones alone looked at". */
    private static void wholeMinutesAlone() {
        AsleepInside x = of(TWO + sleeper("a", "plain", 1) + sleeper("b", "plain", 1) + ";down a g after 1;up a after 1;down b g after 1;up b after 1");
        due("both are on FLOOR 1 at minute 1", x.meetsIn(0, 1, 1), 1);
        x.pass(2, 3);
        due("from half a minute later on they MEET within a minute only", x.meetsIn(0, 1, 600), -2);
        due("nobody is asleep at a whole minute", x.crowd(600), 0);
        due("nobody is lonely at a whole minute", x.lonely(0, 600), 0);
        x.pass(2, 3);
        due("NOW is minute 0", x.meetsIn(0, 1, 0), 0);
        due("NOW is minute 0", x.crowd(600), 2);
        due("MEET NOW", x.meet(0, 1), 1);
        x = of(TWO + sleeper("a", "plain", 1) + ";down a g after 0;up a after 1;down a g after 0;up a after 4;up a after 0;down a h after 0");
        due("awake within a minute alone", x.awakeIn(0, 600), -2);
        due("alone all the time", x.lonely(0, 600), 600);
    }

    /** "LEFT: who isn't awake at morning (NOW, if that is later)". */
    private static void leftAtMorning() {
        String text = TWO + sleeper("a", "plain", 1) + sleeper("b", "plain", 1) + sleeper("c", "plain", 1) + sleeper("d", "plain", 1)
            + sleeper("e", "plain", 1) + ";down a g after 10;down b g after 11;down c g after 0;up c after 20;down d h after 0;up d after 21"
            + ";down e g after 0;down e g after 0;down e g after 120;up e after 6";
        AsleepInside x = of(text);
        due("a lies down at morning, c wakes at morning, d a bit later", x.left(), 1 + 8 + 16);
        due("that changes nothing", x.ticks(), 0);
        x.pass(2, 59);
        due("a tick ahead", x.left(), 1 + 8 + 16);
        x.pass(2, 1);
        due("at morning", x.left(), 1 + 8 + 16);
        x.pass(2, 3);
        due("NOW is later", x.left(), 1 + 16);
        x.pass(2, 3);
        due("NOW is later", x.left(), 1 + 2 + 16);
        x.wake(0);
        due("NOW is later", x.left(), 2 + 16);
        x.pass(0, 13);
        due("e stays as he isn't awake", x.left(), 2 + 16);
        x = of(TWO + sleeper("a", "plain", 1));
        due("nobody", x.left(), 0);
        x.lie(0, 0);
        due("who lay down", x.left(), 1);
    }

    /** "LONELY: of whole awake minutes from NOW on, 1 to t, those in which one isn't awake and MEETS nobody". */
    private static void lonelyMinutes() {
        AsleepInside x = of(TWO + sleeper("a", "plain", 1) + sleeper("b", "plain", 1) + ";down a g after 3;up a after 8;down b g after 5;up b after 1");
        int[] lonely = {0, 0, 0, 1, 2, 2, 3, 3, 3};
        for (int t = 0; t < lonely.length; t++) {
            due("lonely of a, " + t, x.lonely(0, t), lonely[t]);
            due("lonely of b, " + t, x.lonely(1, t), 0);
        }
        x.pass(0, 3);
        due("NOW isn't counted", x.lonely(0, 0), 0);
        due("the next one is", x.lonely(0, 1), 1);
        x = of(TWO + sleeper("a", "plain", 1) + sleeper("b", "plain", 1) + ";down a g after 0;down b h after 0");
        due("in another HEAD", x.lonely(0, 2), 2);
        x = of(TWO + sleeper("a", "plain", 1) + sleeper("b", "plain", 1) + ";down a g after 0;down b g after 0;down b g after 0");
        due("on another FLOOR", x.lonely(1, 2), 2);
        x = of(TWO + sleeper("a", "plain", 1) + sleeper("b", "plain", 1) + ";down a g after 0;down b g after 0");
        due("together", x.lonely(1, 600), 0);
    }

    /** "CROWD: the most sleepers on one FLOOR but 0 of one HEAD in any whole minute, 0 to t". */
    private static void crowds() {
        AsleepInside x = of(TWO + sleeper("a", "plain", 1) + sleeper("b", "plain", 1) + sleeper("c", "plain", 1) + sleeper("d", "plain", 1)
            + sleeper("e", "plain", 1) + ";down a g after 0;up a after 1;down b g after 0;up b after 1;down c h after 1;down d h after 1"
            + ";down e h after 1;up e after 2;down a h after 2;down b h after 2;down a h after 0;down b h after 0;down c h after 999");
        due("minute 0", x.crowd(0), 2);
        due("the most of both", x.crowd(1), 3);
        due("awake ones are no crowd", x.crowd(2), 3);
        due("on another FLOOR", x.crowd(600), 3);
        x.pass(0, 2);
        due("from NOW on", x.crowd(0), 2);
        AsleepInside all = of(TWO + sleeper("a", "plain", 1) + sleeper("b", "plain", 1) + sleeper("c", "plain", 1) + sleeper("d", "plain", 1)
            + sleeper("e", "plain", 1));
        due("nobody", all.crowd(600), 0);
        for (int s = 0; s < 5; s++) {
            all.lie(s, 1);
            due("more and more", all.crowd(600), s + 1);
        }
        for (int s = 0; s < 5; s++) {
            int last = 4 - s;
            due("the last who isn't awake", all.led(last), last);
            CHECKS.due("none behind him", Checks.throwsNoSuch(all, last + 1), true);
            all.wake(last);
            due("fewer", all.crowd(0), last);
        }
    }

    /** "OFF: the first who thinks he is on another FLOOR than he is NOW". */
    private static void offAFloor() {
        AsleepInside x = of(ONE + sleeper("a", "plain", 1) + sleeper("b", "plain", 1) + sleeper("c", "plain", 1) + sleeper("d", "plain", 1)
            + ";thinks b 0;thinks c 1;thinks d 4");
        due("c, the first", x.off(), 2);
        x.lie(2, 0);
        due("d thinks of a FLOOR that there isn't", x.off(), 3);
        x.lie(1, 0);
        due("b, now", x.off(), 1);
        x = of(ONE + sleeper("a", "plain", 1) + sleeper("b", "plain", 1) + ";thinks b 0");
        due("nobody", x.off(), -2);
        x.lie(0, 0);
        due("who thinks nothing isn't off", x.off(), -2);
        x = of(ONE + sleeper("a", "plain", 1) + ";thinks a 1");
        due("the first of all", x.off(), 0);
    }

    /** Twenty STEPS and eight KNOCKS, each at a minute of its own: all of them count. */
    private static void allStepsAndKnocksInARow() {
        StringBuilder knocks = new StringBuilder();
        for (int at = 1; at <= 7; at++) {
            knocks.append(";knock g floor 0 at ").append(at).append(" strong 1");
        }
        AsleepInside x = of(ONE + sleeper("a", "plain", 1) + sleeper("b", "plain", 99) + knocks + ";knock g floor 0 at 8 strong 49"
            + ";up a after 9" + ";up a after 1".repeat(18) + ";down a g after 1");
        x.lie(1, 0);
        due("MEET behind all of them", x.meetsIn(0, 1, 600), 28);
        due("not ahead", x.meetsIn(0, 1, 27), -2);
        due("LONELY till then", x.lonely(1, 600), 27);
        due("CROWD then", x.crowd(600), 2);
        due("no CROWD ahead", x.crowd(27), 1);
        due("FLOOR then", x.floorIn(0, 28), 1);
        due("FLOOR ahead", x.floorIn(0, 27), 0);
        due("too weak", x.woken(1, 600), 0);
        x.pass(0, 28);
        due("all STEPS", x.sleeper(0, 2), 20);
        x = of(ONE + sleeper("a", "plain", 1) + sleeper("b", "plain", 99) + knocks + ";knock g floor 0 at 8 strong 49"
            + ";down a h after 9" + ";down a g after 2".repeat(18) + ";up a after 2");
        x.lie(1, 1);
        due("LONELY again behind all of them", x.lonely(1, 600), 8 + 573);
        due("not ahead", x.lonely(1, 27), 8);
        x = of(ONE + sleeper("a", "plain", 1) + sleeper("b", "plain", 99) + knocks.toString().replaceAll("at (\\d)", "at 2$1")
            + ";knock g floor 0 at 28 strong 50" + ";up a after 1".repeat(20));
        x.lie(1, 0);
        due("awake behind all of them", x.awakeIn(1, 600), 28);
        due("not ahead", x.awakeIn(1, 27), -2);
        due("by the last KNOCK", x.woken(1, 600), 1);
        due("LONELY till then", x.lonely(1, 600), 27);
        x.pass(0, 600);
        due("awake", x.sleeper(1, 0), 0);
        due("since the last KNOCK", x.sleeper(1, 3), 572);
        due("all STEPS", x.sleeper(0, 2), 20);
        due("since the last STEP", x.sleeper(0, 3), 580);
    }
}
