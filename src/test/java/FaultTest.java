import java.util.Random;

/** FAULTS and their places: written ones, and those of texts spoilt by chance (from written seeds) against tables. */
public final class FaultTest {
    private static final Checks CHECKS = new Checks();
    private static final String DREAM = "dream rates 2,3 fall 1 morning 5";
    private static final String PEOPLE = DREAM + ";head h;sleeper s plain deaf 1 dread 0 chance 0";

    public static void main(String[] args) {
        form();
        names();
        bounds();
        many();
        lacks();
        rightOnes();
        allNames();
        int seeds = args.length > 0 ? Integer.parseInt(args[0]) : 60;
        for (int seed = 1; seed <= seeds; seed++) {
            spoilt(new Random(seed));
        }
        CHECKS.end();
    }

    private static void due(String text, int fault, int place) {
        AsleepInside x = new AsleepInside();
        int sleepers = Checks.tell(x, text);
        CHECKS.due("refused: " + text, sleepers == AsleepInside.NONE, fault != 0);
        CHECKS.due("fault: " + text, x.fault(), fault);
        CHECKS.due("where: " + text, x.where(), place);
        int[] plain = PlainFaults.of(text);
        CHECKS.due("fault by tables: " + text, plain[0], fault);
        CHECKS.due("where by tables: " + text, plain[1], place);
    }

    /** The place is where the last token of the text begins. */
    private static void dueAtLast(String text, int fault) {
        int place = text.length();
        while (place > 0 && !" ;,".contains(text.substring(place - 1, place))) {
            place--;
        }
        due(text, fault, place);
    }

    private static void dueAtEnd(String text, int fault) {
        due(text, fault, text.length());
    }

    private static void form() {
        dueAtEnd("", 1);
        dueAtEnd("   ", 1);
        due("Dream", 1, 0);
        due("dreams rates", 1, 0);
        due("7", 1, 0);
        due(";", 1, 0);
        due(",", 1, 0);
        due("  foo", 1, 2);
        dueAtLast("dream rate", 1);
        dueAtLast("dream rates x", 1);
        dueAtEnd("dream rates 2,", 1);
        due("dream rates 2,,", 1, 14);
        due("dream rates 2 3", 1, 14);
        dueAtEnd("dream rates 2 fall 1 morning", 1);
        dueAtEnd(DREAM + ";", 1);
        dueAtEnd(DREAM + ";  ", 1);
        due(DREAM + ";;", 1, DREAM.length() + 1);
        due(DREAM + " head h", 1, DREAM.length() + 1);
        due(DREAM + ".", 1, DREAM.length());
        due(DREAM + "\t", 1, DREAM.length());
        due(DREAM + (char) 200, 1, DREAM.length());
        due(PEOPLE + (char) 0, 1, PEOPLE.length());
        due(PEOPLE + "\n", 1, PEOPLE.length());
        due(DREAM + ";headed h", 1, DREAM.length() + 1);
        for (String word : "dream head sleeper down up knock task pays thinks felt came did".split(" ")) {
            dueAtLast(DREAM + ";head " + word, 1);
            dueAtLast(PEOPLE + ";down " + word, 1);
            dueAtLast(PEOPLE + ";thinks " + word, 1);
        }
        dueAtLast(DREAM + ";head abcdefghi", 1);
        dueAtLast(DREAM + ";head 5", 1);
        dueAtLast(DREAM + ";head h;sleeper s dread", 1);
        dueAtLast(PEOPLE + ";down s h 5", 1);
        dueAtLast(PEOPLE + ";up s h", 1);
        dueAtLast(PEOPLE + ";up s after 00000", 1);
        dueAtLast(PEOPLE + ";up s after x", 1);
        due(PEOPLE + ";felt 5;", 1, PEOPLE.length() + 7);
        due(PEOPLE + ";felt 5,6", 1, PEOPLE.length() + 7);
        due(PEOPLE + ";pays 1 2", 1, PEOPLE.length() + 8);
        dueAtEnd(PEOPLE + ";pays 1,", 1);
        dueAtEnd(PEOPLE + ";pays", 1);
    }

    private static void names() {
        dueAtLast(PEOPLE + ";down t", 2);
        dueAtLast(PEOPLE + ";up h", 2);
        dueAtLast(PEOPLE + ";down s g", 2);
        dueAtLast(PEOPLE + ";down s s", 2);
        dueAtLast(PEOPLE + ";knock s", 2);
        dueAtLast(PEOPLE + ";thinks h", 2);
        dueAtLast(PEOPLE + ";task t floor 1 minutes 1 risk 1;down t", 2);
        dueAtLast(DREAM + ";down s", 2);
        dueAtLast(DREAM + ";dream", 3);
        dueAtLast(PEOPLE + ";head s", 3);
        dueAtLast(PEOPLE + ";sleeper h", 3);
        dueAtLast(PEOPLE + ";task s", 3);
        dueAtLast(PEOPLE + ";task t floor 1 minutes 1 risk 1;task t", 3);
        dueAtLast(PEOPLE + ";thinks s 4;thinks s", 3);
        dueAtLast(PEOPLE + ";pays 1,2;pays", 3);
    }

    private static void bounds() {
        dueAtLast("dream rates 1", 4);
        dueAtLast("dream rates 13", 4);
        dueAtLast("dream rates 12,0", 4);
        dueAtLast("dream rates 2 fall 61", 4);
        dueAtLast("dream rates 2 fall 60 morning 0", 4);
        dueAtLast("dream rates 2 fall 0 morning 601", 4);
        dueAtLast(DREAM + ";sleeper s fond deaf 0", 4);
        dueAtLast(DREAM + ";sleeper s fond deaf 9999 dread 1000", 4);
        dueAtLast(DREAM + ";sleeper s fond deaf 9999 dread 999 chance 101", 4);
        dueAtLast(PEOPLE + ";down s h after 1000", 4);
        dueAtLast(PEOPLE + ";up s after 1000", 4);
        dueAtLast(PEOPLE + ";knock h floor 2", 4);
        dueAtLast(PEOPLE + ";knock h floor 1 at 6", 4);
        dueAtLast(PEOPLE + ";knock h floor 1 at 5 strong 0", 4);
        dueAtLast(PEOPLE + ";knock h floor 1 at 5 strong 100", 4);
        dueAtLast(PEOPLE + ";task t floor 3", 4);
        dueAtLast(PEOPLE + ";task t floor 2 minutes 0", 4);
        dueAtLast(PEOPLE + ";task t floor 2 minutes 1000", 4);
        dueAtLast(PEOPLE + ";task t floor 2 minutes 999 risk 100", 4);
        dueAtLast(PEOPLE + ";pays 1000", 4);
        dueAtLast(PEOPLE + ";thinks s 5", 4);
        dueAtLast(PEOPLE + ";felt 0", 4);
        dueAtLast(PEOPLE + ";felt 100", 4);
        dueAtLast(PEOPLE + ";felt 99 0", 4);
        dueAtLast(PEOPLE + ";came 0", 4);
        dueAtLast(PEOPLE + ";did 0", 4);
        dueAtLast(PEOPLE + ";did 1 floor 0", 4);
        dueAtLast(PEOPLE + ";did 1 floor 3", 4);
        dueAtLast(PEOPLE + ";did 1 floor 2 awake 0", 4);
        dueAtLast(PEOPLE + ";did 1 floor 2 awake 1000", 4);
    }

    private static void many() {
        dueAtLast("dream rates 2,2,2,2,2", 5);
        dueAtLast("dream rates 2,2,2,2,13", 4);
        dueAtLast("dream rates 2,2,2,2,x", 1);
        dueAtLast(PEOPLE + ";pays 1,2,3", 5);
        dueAtLast(PEOPLE + ";pays 1,2,1000", 4);
        dueAtLast(PEOPLE.replace("2,3", "2,2,2,2") + ";pays 1,2,3,4,5", 5);
        dueAtLast(DREAM + ";head a;head b;head c;head", 5);
        StringBuilder b = new StringBuilder(DREAM + ";head h");
        for (char c = 'a'; c < 'f'; c++) {
            b.append(";sleeper ").append(c).append(" fond deaf 1 dread 1 chance 1");
        }
        dueAtLast(b + ";sleeper", 5);
        dueAtLast(PEOPLE + ";down s h after 1".repeat(10) + ";up s after 1".repeat(10) + ";up", 5);
        dueAtLast(PEOPLE + ";down s h after 1".repeat(19) + ";up s after 1" + ";down", 5);
        dueAtLast(PEOPLE + ";knock h floor 0 at 0 strong 1".repeat(8) + ";knock", 5);
        StringBuilder t = new StringBuilder(PEOPLE);
        for (char c = 'a'; c < 'g'; c++) {
            t.append(";task ").append(c).append(" floor 0 minutes 1 risk 0");
        }
        dueAtLast(t + ";task", 5);
        dueAtLast(PEOPLE + ";felt 1 1;came 1 0".repeat(3) + ";felt", 5);
        dueAtLast(PEOPLE + ";felt 1 1;came 1 0".repeat(3) + ";came", 5);
        dueAtLast(PEOPLE + ";did 1 floor 1 awake 1".repeat(6) + ";did", 5);
    }

    private static void lacks() {
        for (String word : "head sleeper down up knock task pays thinks felt came did".split(" ")) {
            due(" " + word, 6, 1);
            due(word + " ;" + DREAM, 6, 0);
        }
        due(PEOPLE + ";pays 1 ;felt 1 1", 6, PEOPLE.length() + 8);
        dueAtEnd(PEOPLE + ";pays 1  ", 6);
        dueAtEnd(DREAM, 6);
        dueAtEnd(DREAM + ";head h ", 6);
        dueAtEnd(DREAM + ";sleeper s fond deaf 1 dread 1 chance 1", 6);
    }

    private static void rightOnes() {
        due(PEOPLE, 0, -1);
        due("  " + PEOPLE + "  ", 0, -1);
        due(PEOPLE.replace(" ", "   ").replace(";", " ; ").replace(",", " , "), 0, -1);
        due("dream rates2,3fall1morning5;head h;sleeper s plain deaf1dread0chance0", 0, -1);
        due("dream rates 0002,012 fall 0060 morning 0600;head rates;sleeper fall plain deaf 9999 dread 999 chance 100"
            + ";down fall rates after 999;thinks fall 4;task abcdefgh floor 2 minutes 999 risk 99;pays 999,0", 0, -1);
        due(PEOPLE + ";felt 99 9999;came 9999 9999;did 9999 floor 2 awake 999;knock h floor 1 at 5 strong 99", 0, -1);
    }

    /** Three HEADS, six TASKS, five sleepers: no more NAMES can be told. */
    private static void allNames() {
        StringBuilder b = new StringBuilder(DREAM);
        for (String head : "x y z".split(" ")) {
            b.append(";head ").append(head);
        }
        for (String task : "k l m n o p".split(" ")) {
            b.append(";task ").append(task).append(" floor 1 minutes 1 risk 1");
        }
        for (String sleeper : "a b c d e".split(" ")) {
            b.append(";sleeper ").append(sleeper).append(" fond deaf 1 dread 1 chance 1");
        }
        due(b + ";down e z after 0;thinks e 1", 0, -1);
        AsleepInside x = Checks.of(b + ";down e z after 0;thinks e 3");
        CHECKS.due("the last sleeper", x.led(0), 4);
        CHECKS.due("the last head", x.sleeper(4, 1), 2);
        CHECKS.due("what he thinks", x.sleeper(4, 6), 3);
        due(b + ";down p", 2, b.length() + 6);
    }

    private static void spoilt(Random r) {
        String right = Spec.chance(r).text();
        compare(right);
        for (int i = 0; i < 60; i++) {
            StringBuilder b = new StringBuilder(right);
            for (int k = r.nextInt(3); k >= 0 && b.length() > 0; k--) {
                spoil(r, b);
            }
            compare(b.toString());
        }
    }

    private static void spoil(Random r, StringBuilder b) {
        int at = r.nextInt(b.length());
        switch (r.nextInt(6)) {
            case 0:
                b.setCharAt(at, " ;,059azx.D".charAt(r.nextInt(11)));
                break;
            case 1:
                b.deleteCharAt(at);
                break;
            case 2:
                b.insert(at, " ;,059azx".charAt(r.nextInt(9)));
                break;
            case 3:
                b.setLength(at);
                break;
            case 4:
                String[] lines = b.toString().split(";");
                b.append(';').append(lines[r.nextInt(lines.length)]);
                break;
            default:
                String[] words = b.toString().split(" ");
                words[r.nextInt(words.length)] = words[r.nextInt(words.length)];
                b.setLength(0);
                b.append(String.join(" ", words));
        }
    }

    private static void compare(String text) {
        if (text.length() > 1000) {
            return;
        }
        AsleepInside x = new AsleepInside();
        Checks.tell(x, text);
        int[] plain = PlainFaults.of(text);
        CHECKS.due("fault: " + text, x.fault(), plain[0]);
        CHECKS.due("where: " + text, x.where(), plain[1]);
    }
}
