/** Terms III and the promises, sentence by sentence: answers at their bounds, empty cases and full ones, and -2. */
public final class AnswerBoundsTest {
    private static final Checks CHECKS = new Checks();
    private static final String ONE = "dream rates 2 fall 0 morning 5;head g";
    private static final String FOUR = "dream rates 2,2,2,2 fall 3 morning 5;head g;head h;head i";
    private static final String QUICKEST = "dream rates 12,12,12,12 fall 60 morning 600;head g";
    private static final String A = ";sleeper a plain deaf 1 dread 0 chance 0";

    public static void main(String[] args) {
        feltOnLowerFloors();
        tasksInTime();
        tasksOnTheirFloorsOrLower();
        leastRiskThenLeastMinutes();
        noTasksAndAllTasks();
        theSoonestWay();
        knocksOfOneToNine();
        allComeAwakeByTheLast();
        firstRowByNumbers();
        allSets();
        deepBySigns();
        wordsToAsk();
        lettersShrink();
        lettersUnlike();
        wordsToSend();
        meetings();
        firstFloorTaken();
        pricesUpToTheMost();
        enoughIsMoreThanNothing();
        ratesOfTwoToTwelve();
        theSameRateInAll();
        wakingInEightMinutes();
        meanTillAwake();
        passingTheLastMinute();
        lyingToTheLowest();
        wakingToTheHighest();
        twelveActs();
        threeImages();
        whoIsLed();
        sizes();
        fiveHundredAndTwelveCalls();
        CHECKS.end();
    }

    private static void due(String what, long got, long want) {
        CHECKS.due(what, got, want);
    }

    private static void due(String what, boolean got, boolean want) {
        CHECKS.due(what, got, want);
    }

    private static String sleeper(String name, String kind, int deaf) {
        return ";sleeper " + name + " " + kind + " deaf " + deaf + " dread 0 chance 0";
    }

    /** All sleepers in HEAD g, each on his FLOOR. */
    private static AsleepInside asleep(String text, int... floors) {
        AsleepInside x = Checks.of(text);
        for (int s = 0; s < floors.length; s++) {
            for (int i = 0; i < floors[s]; i++) {
                x.lie(s, 0);
            }
        }
        return x;
    }

    /** "What a KNOCK, strong on a FLOOR, is on a lower one." */
    private static void feltOnLowerFloors() {
        AsleepInside x = Checks.of(QUICKEST + A);
        CHECKS.granted("22 the weakest", x, x.felt(1, 0, 1), 12);
        CHECKS.granted("22 the strongest", x, x.felt(99, 0, 4), 2_052_864);
        CHECKS.granted("22 by one", x, x.felt(99, 3, 4), 1188);
        CHECKS.granted("22 by three", x, x.felt(2, 1, 4), 3456);
    }

    // ---- TASKS

    /** "of all ways with TIME no more than morning"; "-2 if no way is in time". */
    private static void tasksInTime() {
        // A minute awake is two ticks: morning is at ten.
        String text = ONE + A + ";task k floor 0 minutes %d risk 3";
        int[][] rows = {{1, 0, 2, 1}, {5, 0, 10, 5}, {6, 1, 6, 6}, {10, 1, 10, 10}, {11, -2, -2, -2}, {999, -2, -2, -2}};
        for (int[] row : rows) {
            AsleepInside x = Checks.of(text.formatted(row[0]));
            String what = row[0] + " minutes: ";
            CHECKS.granted(what + "task", x, x.task(0), row[1]);
            CHECKS.granted(what + "RISK", x, x.best(0), row[1] < 0 ? -2 : 3 * row[1]);
            CHECKS.granted(what + "TIME", x, x.best(1), row[2]);
            CHECKS.granted(what + "own minutes", x, x.best(2), row[3]);
            CHECKS.granted(what + "soonest", x, x.soonest(), row[0]);
            CHECKS.refused(what + "none such", x, x.task(1), 1);
            CHECKS.refused(what + "none such", x, x.best(3), 1);
            x.pass(0, 999);
            due(what + "whatever hour it is", x.task(0), row[1]);
        }
        String falling = ONE.replace("fall 0", "fall 1") + A + ";task k floor 1 minutes ";
        AsleepInside x = Checks.of(falling + 8 + " risk 0");
        due("going down counts: just in time", x.best(1), 10);
        due("going down counts: own minutes", x.best(2), 9);
        x = Checks.of(falling + 9 + " risk 0");
        due("a tick too late", x.best(1), -2);
        due("a tick too late", x.task(0), -2);
        due("the soonest is told, too", x.soonest(), 11);
    }

    /** "each is done on a FLOOR, its own or a lower one". */
    private static void tasksOnTheirFloorsOrLower() {
        for (int own = 0; own <= 4; own++) {
            AsleepInside x = Checks.of(FOUR.replace("morning 5", "morning 600") + A + ";task k floor " + own + " minutes 2 risk 1");
            due("its own", x.task(0), own);
            due("RISK", x.best(0), own);
            due("own minutes, those of going down, too", x.best(2), 2 + 3 * own);
            int[] down = {0, 48, 72, 84, 90};
            due("TIME", x.best(1), down[own] + 2 * (16 >> own));
        }
        AsleepInside x = Checks.of(FOUR.replace("fall 3", "fall 0").replace("morning 5", "morning 1") + A + ";task k floor 0 minutes 16 risk 2");
        due("a lower one, the lowest", x.task(0), 4);
        due("RISK", x.best(0), 8);
        due("just in time", x.best(1), 16);
    }

    /** "that with least RISK, of these with least own minutes in all, of like ones the first by TASKS". */
    private static void leastRiskThenLeastMinutes() {
        String ten = "dream rates 10 fall 0 morning 12;head g" + A;
        AsleepInside x = Checks.of(ten + ";task k floor 0 minutes 10 risk 0;task l floor 0 minutes 10 risk 9");
        due("no RISK lower", x.task(0), 1);
        due("no RISK awake", x.task(1), 0);
        due("RISK", x.best(0), 0);
        due("TIME", x.best(1), 110);
        due("own minutes", x.best(2), 20);
        x = Checks.of(ten + ";task k floor 0 minutes 10 risk 4;task l floor 0 minutes 10 risk 3");
        due("the lesser RISK lower", x.task(0), 0);
        due("the lesser RISK lower", x.task(1), 1);
        due("RISK", x.best(0), 3);
        x = Checks.of(ten + ";task k floor 0 minutes 10 risk 3;task l floor 0 minutes 10 risk 3");
        due("of like ones the highest FLOOR of the first TASK", x.task(0), 0);
        due("of like ones the highest FLOOR of the first TASK", x.task(1), 1);
        String deeper = "dream rates 2,6 fall 2 morning %d;head g" + A + ";task k floor 0 minutes 12 risk 0;task l floor 1 minutes 12 risk 0";
        x = Checks.of(deeper.formatted(20));
        due("least own minutes: on the higher FLOOR", x.best(2), 26);
        due("least own minutes", x.task(0), 0);
        due("least own minutes", x.task(1), 1);
        due("just in time", x.best(1), 240);
        x = Checks.of(deeper.formatted(19));
        due("still FLOOR 1, both", x.best(2), 26);
        due("both", x.task(0), 1);
        due("both", x.task(1), 1);
        due("TIME", x.best(1), 168);
        x = Checks.of(deeper.formatted(13));
        due("lower, as time is short", x.best(2), 28);
        due("of like ones the first: the first TASK higher", x.task(0), 1);
        due("of like ones the first: the second lower", x.task(1), 2);
        due("TIME", x.best(1), 24 + 12 + 72 + 12);
    }

    private static void noTasksAndAllTasks() {
        AsleepInside x = Checks.of(ONE + A);
        for (int what = 0; what <= 2; what++) {
            CHECKS.granted("nothing to do", x, x.best(what), 0);
        }
        CHECKS.granted("nothing to do", x, x.soonest(), 0);
        CHECKS.refused("no TASK", x, x.task(0), 1);
        StringBuilder b = new StringBuilder(FOUR.replace("morning 5", "morning 600") + A);
        int[] floors = {4, 3, 2, 1, 0, 4};
        for (int k = 0; k < 6; k++) {
            b.append(";task ").append((char) ('k' + k)).append(" floor ").append(floors[k]).append(" minutes 9 risk 99");
        }
        x = Checks.of(b.toString());
        for (int k = 0; k < 6; k++) {
            due("each on its own", x.task(k), floors[k]);
        }
        CHECKS.refused("one more", x, x.task(6), 1);
        due("RISK of six", x.best(0), 99 * (4 + 3 + 2 + 1 + 4));
        due("TIME of six", x.best(1), 90 + 9 * (1 + 2 + 4 + 8 + 16 + 1));
        due("own minutes of six", x.best(2), 12 + 6 * 9);
        due("the soonest of six", x.soonest(), 90 + 6 * 9);
        x = Checks.of(b.toString().replace("minutes 9", "minutes 999"));
        due("the longest six", x.best(2), 12 + 6 * 999);
        due("the soonest of the longest six", x.soonest(), 90 + 6 * 999);
    }

    /** "SOONEST: the least TIME of all ways". */
    private static void theSoonestWay() {
        String text = "dream rates 2,3 fall 1 morning 1;head g" + A + ";task k floor 0 minutes %d risk 9";
        int[][] rows = {{1, 6}, {2, 11}, {3, 12}, {4, 13}};
        for (int[] row : rows) {
            due("awake, or on the lowest " + row[0], Checks.of(text.formatted(row[0])).soonest(), row[1]);
        }
        AsleepInside x = Checks.of("dream rates 5,2 fall 9 morning 1;head g" + A + ";task k floor 0 minutes 13 risk 9");
        due("on FLOOR 1", x.soonest(), 90 + 26);
        x = Checks.of("dream rates 5,2 fall 9 morning 1;head g" + A + ";task k floor 0 minutes 13 risk 9;task l floor 2 minutes 1 risk 0");
        due("all on the lowest FLOOR used", x.soonest(), 90 + 18 + 14);
        x = Checks.of("dream rates 5,2 fall 9 morning 1;head g" + A + ";task l floor 2 minutes 1 risk 0;task k floor 0 minutes 13 risk 9");
        due("in any order", x.soonest(), 90 + 18 + 14);
    }

    // ---- TOGETHER

    /** "KNOCKS on FLOOR 0, strong 1 .. 9". */
    private static void knocksOfOneToNine() {
        for (int deaf = 1; deaf <= 20; deaf++) {
            AsleepInside x = asleep(ONE + sleeper("a", "plain", deaf), 1);
            int strong = (deaf + 1) / 2;
            CHECKS.granted("26 deaf " + deaf, x, x.together(1), strong <= 9 ? 1 : -2);
            if (strong <= 9) {
                CHECKS.granted("27 deaf " + deaf, x, x.togetherAt(1, 0), strong);
                CHECKS.refused("27 one behind", x, x.togetherAt(1, 1), 1);
            } else {
                CHECKS.refused("27 none", x, x.togetherAt(1, 0), 1);
            }
        }
        due("heavy", asleep(ONE + sleeper("a", "heavy", 9), 1).togetherAt(1, 0), 9);
        due("too heavy", asleep(ONE + sleeper("a", "heavy", 10), 1).together(1), -2);
        due("fond of the lowest", asleep(ONE + sleeper("a", "fond", 1), 1).together(1), -2);
        due("light, by two", asleep(FOUR + sleeper("a", "light", 1), 4).together(1), 2);
        due("light, by two and one", asleep(FOUR + sleeper("a", "light", 1), 3).together(1), 2);
        due("light, the highest", asleep(FOUR + sleeper("a", "light", 1), 1).together(1), 1);
    }

    /** "the fewest by which all of them come awake by the last one, each of them by that". */
    private static void allComeAwakeByTheLast() {
        String both = FOUR + sleeper("a", "plain", 1) + sleeper("b", "plain", 1);
        for (int one = 1; one <= 4; one++) {
            for (int other = 1; other <= 4; other++) {
                AsleepInside x = asleep(both, one, other);
                due("both stir by any KNOCK", x.together(3), one == other ? one : -2);
                due("one alone", x.together(1), one);
                due("the other alone", x.together(2), other);
            }
        }
        AsleepInside x = asleep(FOUR + sleeper("a", "plain", 1) + sleeper("b", "plain", 9) + sleeper("c", "plain", 1), 2, 1, 2);
        due("who isn't of the set may come up", x.together(2), 1);
        due("the set alone counts", x.together(5), 2);
        due("one waits till the last", x.together(3), 2);
        due("weak first", x.togetherAt(3, 0), 1);
        due("strong then", x.togetherAt(3, 1), 5);
        due("nobody stirs by asking", x.sleeper(0, 0), 2);
    }

    /** "of like rows the first by numbers". */
    private static void firstRowByNumbers() {
        AsleepInside x = asleep(FOUR + sleeper("a", "plain", 16) + sleeper("b", "plain", 18) + sleeper("c", "plain", 16), 4, 4, 1);
        int[][] rows = {{1, 1, 2, 4, 8}, {2, 2, 3, 5, 9}, {3, 2, 3, 5, 9}, {5, 1, 2, 4, 8}, {7, 2, 3, 5, 9}};
        for (int[] row : rows) {
            due("how many of " + row[0], x.together(row[0]), 4);
            for (int i = 0; i < 4; i++) {
                CHECKS.granted("row of " + row[0], x, x.togetherAt(row[0], i), row[i + 1]);
            }
            CHECKS.refused("behind the row", x, x.togetherAt(row[0], 4), 1);
            CHECKS.refused("ahead of the row", x, x.togetherAt(row[0], -1), 1);
        }
    }

    /** "sleepers (bits): 1 up to all". */
    private static void allSets() {
        StringBuilder b = new StringBuilder(FOUR);
        for (int n = 1; n <= 5; n++) {
            b.append(sleeper(String.valueOf((char) ('a' + n)), "plain", 16));
            int[] floors = {4, 4, 4, 4, 4};
            AsleepInside x = asleep(b.toString(), java.util.Arrays.copyOf(floors, n));
            for (int set = 1; set < 1 << n; set++) {
                due("set " + set + " of " + n, x.together(set), 4);
            }
            due("the last of a row of all", x.togetherAt((1 << n) - 1, 3), 8);
            CHECKS.refused("none", x, x.together(0), 2);
            CHECKS.refused("one more than all", x, x.together(1 << n), 2);
        }
    }

    // ---- how deep

    /** "DEEP: FLOORS by which all SIGNS are so", without one: all. */
    private static void deepBySigns() {
        int[] all = {3, 7, 15, 31};
        for (int floors = 1; floors <= 4; floors++) {
            AsleepInside x = Checks.of("dream rates 2" + ",2".repeat(floors - 1) + " fall 0 morning 1;head g" + A);
            CHECKS.granted("28 no SIGNS", x, x.deep(), all[floors - 1]);
        }
        String[] signs = {"felt 1 1", "felt 1 2", "felt 1 16", "felt 1 32", "felt 99 1584", "felt 99 1585", "came 1 1", "came 1 0", "came 2 1",
            "came 15 0", "came 15 1", "came 16 1", "came 9999 9999", "came 9999 624", "came 9999 625", "came 7 3;came 8 4", "came 7 3;came 8 5",
            "felt 3 12;came 8 2", "came 3 0;came 3 0;came 3 0;came 3 0;came 3 0;came 7 0", "felt 9 9;came 9 9;felt 1 1;felt 2 2;felt 3 3;felt 4 5"};
        int[] deep = {1, 2, 16, 0, 16, 0, 1, 30, 2, 16, 8, 16, 1, 16, 0, 2, 0, 4, 24, 0};
        for (int i = 0; i < signs.length; i++) {
            AsleepInside x = Checks.of(FOUR + A + ";" + signs[i]);
            CHECKS.granted("28 " + signs[i], x, x.deep(), deep[i]);
        }
        due("28 the lowest", Checks.of(QUICKEST + A + ";came 9999 0").deep(), 16);
        due("28 the lowest but one", Checks.of(QUICKEST + A + ";came 9999 5").deep(), 8);
    }

    /** "so that of DEEP ones at most the fewest have one answer: the fewest words"; "6 (fewer than two are DEEP)". */
    private static void wordsToAsk() {
        AsleepInside x = Checks.of(ONE + A);
        CHECKS.granted("29 awake or on FLOOR 1", x, x.ask(), 1);
        CHECKS.granted("30", x, x.askMost(), 1);
        x = Checks.of(QUICKEST + A);
        CHECKS.granted("29 any of five", x, x.ask(), 1728);
        CHECKS.granted("30", x, x.askMost(), 1);
        String[] signs = {"came 1 0", "came 3 0", "came 7 0"};
        for (String sign : signs) {
            x = Checks.of(FOUR + A + ";" + sign);
            CHECKS.granted("29 " + sign, x, x.ask(), 8);
            CHECKS.granted("30 " + sign, x, x.askMost(), 1);
        }
        String[] fewer = {"came 15 0", "felt 1 1", "felt 1 3", "came 1 0;came 15 1"};
        for (String sign : fewer) {
            x = Checks.of(FOUR + A + ";" + sign);
            CHECKS.refused("29 " + sign, x, x.ask(), 6);
            CHECKS.refused("30 " + sign, x, x.askMost(), 6);
        }
        x = Checks.of("dream rates 5,7 fall 0 morning 1;head g" + A);
        due("29 of three", x.ask(), 5);
    }

    /** "its words by QUICK of that FLOOR by QUICK of the upper one, downwards"; "2 (0 .. 9,999)". */
    private static void lettersShrink() {
        AsleepInside x = Checks.of("dream rates 5,7 fall 0 morning 1;head g" + A);
        int[][] rows = {{1, 0, 0, 0}, {1, 0, 4, 0}, {1, 0, 5, 1}, {1, 0, 9, 1}, {1, 0, 10, 2}, {1, 0, 9999, 1999}, {2, 1, 6, 0}, {2, 1, 7, 1},
            {2, 1, 9999, 1428}, {2, 0, 34, 0}, {2, 0, 35, 1}, {2, 0, 36, 1}, {2, 0, 9999, 285}};
        for (int[] row : rows) {
            CHECKS.granted("31 " + row[2] + " words", x, x.letter(row[0], row[1], row[2]), row[3]);
        }
        due("31 the quickest", Checks.of(QUICKEST + A).letter(4, 0, 9999), 0);
        due("31 the quickest", Checks.of(QUICKEST + A).letter(4, 1, 9999), 5);
    }

    /** "letters of words out of k (2 .. 26), each as long as comes, are unlike (0 words: 1), 1,000,000 at most". */
    private static void lettersUnlike() {
        AsleepInside x = Checks.of(ONE + A);
        int[][] rows = {{0, 2, 1}, {1, 2, 1}, {2, 2, 2}, {3, 26, 26}, {38, 2, 524_288}, {40, 2, 1_000_000}, {9999, 2, 1_000_000}, {10, 10, 100_000},
            {12, 10, 1_000_000}, {14, 10, 1_000_000}, {8, 26, 456_976}, {10, 26, 1_000_000}, {9999, 26, 1_000_000}, {0, 26, 1}, {6, 99, -1}};
        for (int[] row : rows) {
            due("32 " + row[0] + " words out of " + row[1], x.tells(1, 0, row[0], row[1]), row[2]);
        }
        CHECKS.granted("32 no words", x, x.tells(1, 0, 0, 26), 1);
        CHECKS.granted("32 most words", x, x.tells(1, 0, 9999, 2), 1_000_000);
    }

    /** "The fewest words to send so that m (1 .. 1,000,000) can be told apart." */
    private static void wordsToSend() {
        AsleepInside x = Checks.of(ONE + A);
        int[][] rows = {{1, 2, 0}, {2, 2, 2}, {3, 2, 4}, {4, 2, 4}, {5, 2, 6}, {26, 26, 2}, {27, 26, 4}, {524_288, 2, 38}, {524_289, 2, 40},
            {1_000_000, 2, 40}, {1_000_000, 10, 12}, {100_000, 10, 10}, {100_001, 10, 12}, {999_999, 10, 12}, {456_976, 26, 8}, {456_977, 26, 10},
            {1_000_000, 26, 10}, {1, 26, 0}};
        for (int[] row : rows) {
            CHECKS.granted("33 " + row[0] + " out of " + row[1], x, x.words(1, 0, row[0], row[1]), row[2]);
        }
        x = Checks.of(QUICKEST + A);
        CHECKS.granted("33 the most", x, x.words(4, 0, 1_000_000, 2), 414_720);
        CHECKS.granted("33 to the next", x, x.words(4, 3, 1_000_000, 2), 240);
    }

    // ---- meetings, wages

    /** "MEETING of two on a FLOOR (1 ..) of some HEAD"; "the HEAD by which the later of both is soonest, the first such". */
    private static void meetings() {
        String three = FOUR + sleeper("a", "plain", 1) + sleeper("b", "plain", 1) + sleeper("c", "plain", 1);
        AsleepInside x = Checks.of(three);
        int[] down = {0, 48, 72, 84, 90};
        for (int floor = 1; floor <= 4; floor++) {
            CHECKS.granted("34 both awake", x, x.meeting(0, 1, floor), down[floor]);
            CHECKS.granted("35 the first", x, x.meetingHead(0, 1, floor), 0);
        }
        x.lie(0, 2);
        x.lie(1, 2);
        x.lie(1, 2);
        x.lie(1, 2);
        int[] from = {0, 0, 24, 36, 42};
        for (int floor = 1; floor <= 4; floor++) {
            CHECKS.granted("34 in one HEAD", x, x.meeting(0, 1, floor), from[floor]);
            CHECKS.granted("35 the last HEAD", x, x.meetingHead(1, 0, floor), 2);
            CHECKS.granted("34 one is awake", x, x.meeting(1, 2, floor), down[floor]);
            CHECKS.granted("35 like ones", x, x.meetingHead(2, 1, floor), 0);
        }
        x.lie(2, 1);
        due("34 in two HEADS", x.meeting(1, 2, 3), 84);
        due("35 in two HEADS", x.meetingHead(1, 2, 3), 0);
        x = Checks.of(three.replace("fall 3", "fall 0"));
        due("34 falling takes nothing", x.meeting(0, 2, 4), 0);
        x = Checks.of(QUICKEST + sleeper("a", "plain", 1) + sleeper("b", "plain", 1));
        due("34 the longest", x.meeting(0, 1, 4), 60L * (20_736 + 1728 + 144 + 12));
        due("35 one HEAD", x.meetingHead(0, 1, 4), 0);
    }

    /** "He TAKES the FLOOR by which that is most, the first such"; "awake 0". */
    private static void firstFloorTaken() {
        String text = FOUR + ";sleeper a plain deaf 1 dread %d chance 0;pays %s";
        Object[][] rows = {{0, "0,0,0,0", 0, 0}, {0, "1,0,0,0", 1, 2}, {0, "2,1,0,0", 1, 4}, {0, "1,1,0,0", 2, 4}, {0, "8,4,2,1", 1, 16},
            {0, "7,4,2,1", 2, 16}, {0, "7,3,2,1", 3, 16}, {0, "7,3,1,1", 4, 16}, {2, "1,0,0,0", 0, 0}, {1, "1,0,0,0", 1, 1}, {3, "1,3,0,0", 0, 0},
            {3, "1,4,0,0", 2, 4}, {999, "999,999,999,999", 1, 999}, {999, "0,999,0,999", 0, 0}, {998, "0,0,0,999", 4, 16}};
        for (Object[] row : rows) {
            AsleepInside x = Checks.of(text.formatted(row[0], row[1]));
            CHECKS.granted("36 dread " + row[0] + " pays " + row[1], x, x.takes(0), (int) row[2]);
            CHECKS.granted("37 dread " + row[0] + " pays " + row[1], x, x.gains(0), (int) row[3]);
        }
    }

    /** "PRICE of a FLOOR: the least pay there (0 .. 99,999) with which he TAKES it, all others as told"; "-2 none". */
    private static void pricesUpToTheMost() {
        String text = "dream rates 2,2,8,8 fall 0 morning 9;head g;sleeper a plain deaf 1 dread %d chance 0;pays 0,0,0,%d";
        int[][] rows = {{30, 782, 99_871}, {30, 783, 99_999}, {30, 784, -2}, {47, 784, -2}, {48, 784, 99_992}, {0, 781, 99_968}, {0, 782, -2}, {0, 0, 1}, {1, 0, 1}, {2, 0, 2}, {999, 0, 500}};
        for (int[] row : rows) {
            AsleepInside x = Checks.of(text.formatted(row[0], row[1]));
            CHECKS.granted("38 dread " + row[0] + " pay " + row[1], x, x.price(0, 1), row[2]);
        }
        AsleepInside x = Checks.of(ONE + A + ";pays 9");
        CHECKS.granted("38 more than awake, whatever is told there", x, x.price(0, 1), 1);
        x = Checks.of(FOUR + A + ";pays 8,4,2,1");
        int[] prices = {8, 5, 3, 2};
        for (int floor = 1; floor <= 4; floor++) {
            due("38 those behind are met, those ahead outdone", x.price(0, floor), prices[floor - 1]);
        }
    }

    /** "ENOUGH: the least pay (0 .. 99,999) on a FLOOR with which he gains more than 0 there". */
    private static void enoughIsMoreThanNothing() {
        String text = FOUR + ";sleeper a plain deaf 1 dread %d chance 0";
        int[][] rows = {{0, 1, 1}, {0, 4, 1}, {1, 1, 1}, {2, 1, 2}, {3, 1, 2}, {4, 1, 3}, {1, 2, 2}, {2, 2, 3}, {1, 4, 2}, {999, 1, 500}, {999, 4, 1000}, {7, 3, 8}};
        for (int[] row : rows) {
            AsleepInside x = Checks.of(text.formatted(row[0]));
            CHECKS.granted("39 dread " + row[0] + " on " + row[1], x, x.enough(0, row[1]), row[2]);
        }
    }

    // ---- rates, chances

    private static void rates(String dids, int floors, int rows, int... same) {
        AsleepInside x = Checks.of("dream rates 3" + ",3".repeat(floors - 1) + " fall 0 morning 1;head g" + A + dids);
        CHECKS.granted("40" + dids, x, x.rates(), rows);
        for (int floor = 1; floor <= floors; floor++) {
            CHECKS.granted("41 of " + floor + dids, x, x.rate(floor), same[floor - 1]);
        }
        CHECKS.refused("41 below" + dids, x, x.rate(floors + 1), 1);
        CHECKS.refused("41 above" + dids, x, x.rate(0), 1);
    }

    /** "RATES that fit: rows of 2 .. 12, one for each FLOOR, by which each did is so". */
    private static void ratesOfTwoToTwelve() {
        rates("", 1, 11, -2);
        rates("", 2, 121, -2, -2);
        rates("", 3, 1331, -2, -2, -2);
        rates("", 4, 14_641, -2, -2, -2, -2);
        rates(";did 1 floor 1 awake 1", 1, 0, -2);
        rates(";did 2 floor 1 awake 1", 1, 1, 2);
        rates(";did 12 floor 1 awake 1", 1, 1, 12);
        rates(";did 13 floor 1 awake 1", 1, 0, -2);
        rates(";did 1 floor 1 awake 999", 1, 0, -2);
        rates(";did 1998 floor 1 awake 999", 1, 1, 2);
        rates(";did 1997 floor 1 awake 999", 1, 0, -2);
        rates(";did 1999 floor 1 awake 999", 1, 0, -2);
        rates(";did 9990 floor 1 awake 999", 1, 1, 10);
        rates(";did 9999 floor 1 awake 909", 1, 1, 11);
        rates(";did 9999 floor 1 awake 1", 1, 0, -2);
        rates(";did 3 floor 2 awake 1", 2, 0, -2, -2);
        rates(";did 4 floor 2 awake 1", 2, 1, 2, 2);
        rates(";did 144 floor 2 awake 1", 2, 1, 12, 12);
        rates(";did 143 floor 2 awake 1", 2, 0, -2, -2);
        rates(";did 1728 floor 3 awake 1", 3, 1, 12, 12, 12);
        rates(";did 16 floor 4 awake 1", 4, 1, 2, 2, 2, 2);
    }

    /** "The rate of a FLOOR if it is the same in all that fit; -2 else." */
    private static void theSameRateInAll() {
        rates(";did 6 floor 2 awake 1", 2, 2, -2, -2);
        rates(";did 22 floor 2 awake 1", 2, 2, -2, -2);
        rates(";did 33 floor 2 awake 1", 3, 22, -2, -2, -2);
        rates(";did 6 floor 2 awake 1;did 2 floor 1 awake 1", 2, 1, 2, 3);
        rates(";did 2 floor 1 awake 1;did 3 floor 1 awake 1", 1, 0, -2);
        rates(";did 3 floor 1 awake 1;did 2 floor 1 awake 1;did 3 floor 1 awake 1", 1, 0, -2);
        rates(";did 5 floor 1 awake 2;did 6 floor 1 awake 2", 1, 0, -2);
        rates(";did 6 floor 1 awake 2;did 9 floor 1 awake 3", 2, 11, 3, -2);
        rates(";did 10 floor 2 awake 1;did 30 floor 3 awake 1", 4, 22, -2, -2, 3, -2);
        rates(";did 2 floor 1 awake 1;did 4 floor 2 awake 1;did 8 floor 3 awake 1;did 16 floor 4 awake 1;did 32 floor 4 awake 2;did 48 floor 4 awake 3",
            4, 1, 2, 2, 2, 2);
        rates(";did 2 floor 1 awake 1;did 4 floor 2 awake 1;did 8 floor 3 awake 1;did 16 floor 4 awake 1;did 32 floor 4 awake 2;did 48 floor 4 awake 2",
            4, 0, -2, -2, -2, -2);
    }

    /** "how likely he is awake behind n, as a fraction", "in lowest terms (0 by 1)", "2 (n 0 .. 8)". */
    private static void wakingInEightMinutes() {
        String text = FOUR + ";sleeper a plain deaf 1 dread 0 chance %d";
        long[][] rows = {{50, 0, 0, 1, 1}, {50, 0, 8, 1, 1}, {50, 1, 0, 0, 1}, {50, 1, 1, 1, 2}, {50, 1, 8, 255, 256}, {50, 4, 3, 0, 1}, {50, 4, 4, 1, 16},
            {50, 4, 8, 163, 256}, {0, 1, 8, 0, 1}, {0, 0, 8, 1, 1}, {100, 1, 0, 0, 1}, {100, 1, 1, 1, 1}, {100, 4, 3, 0, 1}, {100, 4, 4, 1, 1},
            {100, 4, 8, 1, 1}, {1, 4, 4, 1, 100_000_000}, {1, 1, 1, 1, 100}, {99, 1, 2, 9999, 10_000}, {1, 1, 8, 772_553_055_720_799L, 10_000_000_000_000_000L},
            {99, 1, 8, 9_999_999_999_999_999L, 10_000_000_000_000_000L}};
        for (long[] row : rows) {
            AsleepInside x = Checks.of(text.formatted(row[0]));
            String what = "42 chance " + row[0] + " on " + row[1] + " in " + row[2];
            CHECKS.granted(what, x, x.waking(0, (int) row[1], (int) row[2], false), row[3]);
            CHECKS.granted(what, x, x.waking(0, (int) row[1], (int) row[2], true), row[4]);
        }
    }

    /** "the MEAN of minutes till he is"; "-2 if he never is". */
    private static void meanTillAwake() {
        String text = FOUR + ";sleeper a plain deaf 1 dread 0 chance %d";
        int[][] rows = {{0, 0, 0, 1}, {0, 1, -2, -2}, {0, 4, -2, -2}, {1, 0, 0, 1}, {1, 1, 100, 1}, {1, 4, 400, 1}, {100, 0, 0, 1}, {100, 1, 1, 1},
            {100, 4, 4, 1}, {99, 1, 100, 99}, {99, 3, 100, 33}, {8, 2, 25, 1}, {3, 4, 400, 3}};
        for (int[] row : rows) {
            AsleepInside x = Checks.of(text.formatted(row[0]));
            CHECKS.granted("43 chance " + row[0] + " on " + row[1], x, x.mean(0, row[1], false), row[2]);
            CHECKS.granted("43 chance " + row[0] + " on " + row[1], x, x.mean(0, row[1], true), row[3]);
        }
    }

    // ---- acts

    /** "PASS n minutes (1 .. 999) of a FLOOR"; "3 (NOW would be above 1,200 awake minutes)". */
    private static void passingTheLastMinute() {
        AsleepInside x = Checks.of(ONE + A);
        CHECKS.granted("44 one", x, x.pass(1, 1), 0);
        CHECKS.granted("44 most", x, x.pass(0, 999), 999);
        CHECKS.refused("44 a tick too much", x, x.pass(0, 201), 3);
        CHECKS.granted("44 half a minute short", x, x.pass(0, 200), 1199);
        CHECKS.refused("44 a tick too much", x, x.pass(0, 1), 3);
        CHECKS.refused("44 a tick too much", x, x.pass(1, 2), 3);
        CHECKS.granted("44 to the last tick", x, x.pass(1, 1), 1200);
        CHECKS.refused("44 no more", x, x.pass(1, 1), 3);
        due("44 stays", x.ticks(), 2400);
        due("44 four were acts", x.size(10), 4);
        due("14 ahead of that is told still", x.floorIn(0, 600), 0);
        x.undo();
        CHECKS.granted("44 again", x, x.pass(1, 1), 1200);
        x = Checks.of(QUICKEST + A);
        CHECKS.granted("44 of the lowest", x, x.pass(4, 999), 0);
        due("44 of the lowest", x.ticks(), 999);
        CHECKS.granted("44 of FLOOR 1", x, x.pass(1, 12), 1);
        x.undo();
        x.undo();
        x.pass(0, 999);
        CHECKS.granted("44 to the last tick", x, x.pass(0, 201), 1200);
        due("44 to the last tick", x.ticks(), 1200L * 20_736);
        CHECKS.refused("44 a tick more", x, x.pass(4, 1), 3);
    }

    /** "LIE down in a HEAD (one lower)"; "5 (he is on the lowest, or in another HEAD)". */
    private static void lyingToTheLowest() {
        for (int floors = 1; floors <= 4; floors++) {
            AsleepInside x = Checks.of("dream rates 2" + ",2".repeat(floors - 1) + " fall 0 morning 1;head g;head h;head i" + A);
            for (int floor = 1; floor <= floors; floor++) {
                CHECKS.granted("45 one lower", x, x.lie(0, 2), floor);
                due("45 in that HEAD", x.sleeper(0, 1), 2);
                CHECKS.refused("45 in another", x, x.lie(0, 0), 5);
            }
            CHECKS.refused("45 on the lowest", x, x.lie(0, 2), 5);
            CHECKS.refused("45 no such HEAD", x, x.lie(0, 3), 1);
            due("45 acts", x.size(10), floors);
        }
    }

    /** "WAKE (one higher)"; "5 (he is awake)". */
    private static void wakingToTheHighest() {
        AsleepInside x = asleep(FOUR + sleeper("a", "light", 1) + sleeper("b", "fond", 1), 4, 4);
        for (int floor = 3; floor >= 0; floor--) {
            CHECKS.granted("46 by one, though light", x, x.wake(0), floor);
            CHECKS.granted("46 by one, though fond", x, x.wake(1), floor);
        }
        CHECKS.refused("46 awake", x, x.wake(0), 5);
        CHECKS.refused("46 nobody", x, x.wake(2), 1);
        due("46 in no HEAD", x.sleeper(0, 1), -2);
        CHECKS.granted("45 in any HEAD then", x, x.lie(0, 2), 1);
    }

    /** "UNDO: the latest (12 are kept)". */
    private static void twelveActs() {
        for (int acts = 0; acts <= 15; acts++) {
            AsleepInside x = Checks.of(FOUR + A);
            for (int i = 0; i < acts; i++) {
                x.pass(0, 1);
            }
            int kept = Math.min(acts, 12);
            due("52 acts kept of " + acts, x.size(10), kept);
            for (int i = 1; i <= kept; i++) {
                CHECKS.due("48 of " + acts, x.undo(), true);
                due("48 of " + acts + ": trouble", x.trouble(), 0);
                due("48 of " + acts + ": NOW", x.clock(0), acts - i);
                due("48 of " + acts + ": left", x.size(10), kept - i);
            }
            CHECKS.due("48 no more of " + acts, x.undo(), false);
            due("48 no more of " + acts + ": trouble", x.trouble(), 6);
            due("48 no more of " + acts + ": NOW", x.clock(0), acts - kept);
        }
        AsleepInside x = Checks.of(FOUR + A + ";down a g after 9");
        String before = Snapshot.ofDream(Checks.of(FOUR + A + ";down a g after 9"));
        x.lie(0, 1);
        x.knock(1, 0, 1);
        x.pass(0, 9);
        x.lie(0, 0);
        x.wake(0);
        x.knock(0, 0, 1);
        for (int i = 0; i < 6; i++) {
            CHECKS.due("48 each sort of acts", x.undo(), true);
        }
        CHECKS.due("48 all is as it was", Snapshot.ofDream(x), before);
    }

    /** "IMAGES: up to 3; gone back to one, nothing can be undone"; "All is as by an IMAGE (all IMAGES stay)". */
    private static void threeImages() {
        AsleepInside x = Checks.of(FOUR + A);
        for (int i = 0; i < 3; i++) {
            CHECKS.due("50 not yet", x.back(i), false);
            due("50 not yet: trouble", x.trouble(), 1);
            CHECKS.granted("49", x, x.image(), i);
            due("52 images", x.size(11), i + 1);
            x.pass(0, 5);
            x.lie(0, 1);
        }
        CHECKS.refused("49 no room", x, x.image(), 3);
        due("52 images", x.size(11), 3);
        due("49 is no act", x.size(10), 6);
        for (int i = 2; i >= 0; i--) {
            CHECKS.due("50 back", x.back(i), true);
            due("50 trouble", x.trouble(), 0);
            due("50 NOW", x.clock(0), 5 * i);
            due("50 FLOOR", x.sleeper(0, 0), i);
            due("50 HEAD", x.sleeper(0, 1), i == 0 ? -2 : 1);
            due("50 all stay", x.size(11), 3);
            due("50 nothing to undo", x.size(10), 0);
            CHECKS.due("50 nothing to undo", x.undo(), false);
            x.pass(0, 1);
            due("50 acts from there on", x.size(10), 1);
            CHECKS.due("50 can be undone", x.undo(), true);
            due("50 to the image", x.clock(0), 5 * i);
        }
        CHECKS.due("50 later ones, too", x.back(2), true);
        due("50 later ones, too", x.clock(0), 10);
        CHECKS.refused("49 still no room", x, x.image(), 3);
        CHECKS.due("50 behind the last", x.back(3), false);
        due("50 behind the last: trouble", x.trouble(), 1);
    }

    // ---- what is told

    /** "The i-th sleeper who isn't awake NOW. NoSuchElementException if there is none such." */
    private static void whoIsLed() {
        AsleepInside x = Checks.of(FOUR + sleeper("a", "plain", 1) + sleeper("b", "plain", 1) + sleeper("c", "plain", 1));
        int[] none = {Integer.MIN_VALUE, -1, 0, 1, Integer.MAX_VALUE};
        for (int i : none) {
            CHECKS.due("51 all are awake", Checks.throwsNoSuch(x, i), true);
        }
        x.lie(2, 0);
        due("51", x.led(0), 2);
        CHECKS.due("51", Checks.throwsNoSuch(x, 1), true);
        x.lie(0, 1);
        due("51 by sleepers' numbers", x.led(0), 0);
        due("51 by sleepers' numbers", x.led(1), 2);
        CHECKS.due("51", Checks.throwsNoSuch(x, 2), true);
        x.lie(1, 1);
        due("51 all of them", x.led(2), 2);
        CHECKS.due("51", Checks.throwsNoSuch(x, 3), true);
        CHECKS.due("51", Checks.throwsNoSuch(x, -1), true);
        x.wake(9);
        Checks.throwsNoSuch(x, 3);
        due("53 led leaves it", x.trouble(), 1);
    }

    /** "NONE for others; 0 for what there isn't." */
    private static void sizes() {
        AsleepInside x = new AsleepInside();
        int[] others = {Integer.MIN_VALUE, -2, -1, 13, 14, Integer.MAX_VALUE};
        for (int what : others) {
            due("52 others, no DREAM", x.size(what), AsleepInside.NONE);
        }
        for (int what = 0; what <= 12; what++) {
            due("52 no DREAM", x.size(what), 0);
        }
        x.feed(0, 0, 0, 0, 0);
        due("52 bytes", x.size(12), 20);
        due("52 leaves trouble", x.trouble(), 0);
        x = Checks.of("dream rates 2,3,4 fall 5 morning 6;head a;head b;sleeper c plain deaf 1 dread 0 chance 0;sleeper d plain deaf 1 dread 0 chance 0"
            + ";sleeper e plain deaf 1 dread 0 chance 0;sleeper f plain deaf 1 dread 0 chance 0" + ";up c after 1".repeat(7)
            + ";knock a floor 0 at 0 strong 1".repeat(8) + ";task g floor 0 minutes 1 risk 0;felt 1 1;came 1 1;felt 1 1;did 2 floor 1 awake 1;did 3 floor 1 awake 1");
        int[] sizes = {3, 5, 6, 2, 4, 7, 8, 1, 3, 2, 0, 0, 0};
        for (int what = 0; what <= 12; what++) {
            due("52 size " + what, x.size(what), sizes[what]);
        }
        for (int what : others) {
            due("52 others", x.size(what), AsleepInside.NONE);
        }
    }

    /** "An object is used for at most 512 calls after it has been made": the last of them is answered as the first. */
    private static void fiveHundredAndTwelveCalls() {
        String text = FOUR + A;
        AsleepInside x = new AsleepInside();
        Checks.feedText(x, text);
        int calls = x.size(12) / 20 + 1;
        due("512 told", x.dream(text.length()), 1);
        calls += 1;
        for (int round = 0; calls + 5 < 512; round++) {
            due("512 lies", x.lie(0, 1), 1);
            due("512 passes", x.pass(0, 1), round % 200 + 1);
            due("512 knocks", x.knock(1, 0, 1), 1);
            due("512 feeds", x.feed(1, 2, 3, 4, 5), round < 50 ? 20 * round + 20 : -1);
            due("512 looks", x.sleeper(0, 3), 0);
            calls += 5;
        }
        due("512 a few are left", calls < 512, true);
        for (; calls < 511; calls++) {
            due("512 wakes", x.wake(0), -1);
        }
        due("512 the last", x.size(10), 12);
    }
}
