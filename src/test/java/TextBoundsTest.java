import java.util.ArrayList;
import java.util.List;
import java.util.function.IntFunction;

/** Terms I, sentence by sentence: THE TAPE, TOKENS, the bounds of each WHOLE, the room for LINES, NAMES, and FAULTS. */
public final class TextBoundsTest {
    private static final Checks CHECKS = new Checks();
    private static final String DREAM = "dream rates 2,3 fall 1 morning 5";
    private static final String HEAD = ";head h";
    private static final String SLEEPER = ";sleeper s plain deaf 1 dread 0 chance 0";
    private static final String TASK = ";task t floor 0 minutes 1 risk 0";
    private static final String PEOPLE = DREAM + HEAD + SLEEPER;
    private static final String LINE_WORDS = "dream head sleeper down up knock task pays thinks felt came did";

    private static final int FORM = 1;
    private static final int UNTOLD = 2;
    private static final int TWICE = 3;
    private static final int BOUNDS = 4;
    private static final int MANY = 5;
    private static final int LACKS = 6;

    public static void main(String[] args) {
        roomOfTheTape();
        howManyBytesAreRead();
        theLongestText();
        bytesThatBeginNoToken();
        wordsOfOneToEightLetters();
        wholesOfOneToFourDigits();
        blanksMeanNothingElse();
        wholesOfTheDream();
        wholesOfSleepersAndSteps();
        wholesOfKnocks();
        wholesOfTasks();
        wholesOfPaysAndThinks();
        wholesOfSignsAndDids();
        numbersAreTakenAsTold();
        roomForLines();
        onePayForEachFloor();
        oneThoughtForEach();
        theLeastDream();
        namesAreNoLineWords();
        namesOfTheSortThatMustStandThere();
        namesToldOnce();
        namesAheadOfTheirUse();
        formAtEachPlace();
        lackingAtTheEnd();
        firstFromTheLeft();
        leastOfOnePlace();
        everyBeginningOfAText();
        CHECKS.end();
    }

    private static AsleepInside right(String text) {
        AsleepInside x = new AsleepInside();
        CHECKS.due("is read: " + text, Checks.tell(x, text) > 0, true);
        CHECKS.due("trouble: " + text, x.trouble(), 0);
        CHECKS.due("fault: " + text, x.fault(), 0);
        CHECKS.due("where: " + text, x.where(), AsleepInside.NONE);
        return x;
    }

    private static void wrong(String text, int fault, int place) {
        AsleepInside x = new AsleepInside();
        CHECKS.due("is refused: " + text, Checks.tell(x, text), AsleepInside.NONE);
        CHECKS.due("trouble: " + text, x.trouble(), 4);
        CHECKS.due("fault: " + text, x.fault(), fault);
        CHECKS.due("where: " + text, x.where(), place);
        CHECKS.due("no DREAM: " + text, x.size(4), 0);
    }

    // ---- THE TAPE

    /** "THE TAPE has 1,000 bytes"; "how many it has; NONE, and none comes, if there would be more than 1,000". */
    private static void roomOfTheTape() {
        AsleepInside x = new AsleepInside();
        String text = padded(PEOPLE, 1000);
        for (int i = 0; i < 980; i += 20) {
            Checks.feedText(x, text.substring(i, i + 20));
            CHECKS.due("how many it has", x.size(12), i + 20);
        }
        int blanks = 0x20202020;
        CHECKS.due("room for the last twenty", x.feed(blanks, blanks, blanks, blanks, blanks), 1000);
        for (int i = 0; i < 2; i++) {
            CHECKS.due("no room", x.feed(0x7a7a7a7a, 0, 0, 0, 0), AsleepInside.NONE);
            CHECKS.due("none came", x.size(12), 1000);
        }
        CHECKS.due("trouble is left alone", x.trouble(), 0);
        CHECKS.due("all bytes are as they were", x.dream(1000), 1);
        CHECKS.due("it is empty then", x.size(12), 0);
        CHECKS.due("twenty come again", x.feed(0, 0, 0, 0, 0), 20);
    }

    /** "The first n bytes of THE TAPE (it is empty then)"; "NONE: 2 (THE TAPE stays)". */
    private static void howManyBytesAreRead() {
        int length = PEOPLE.length();
        AsleepInside x = new AsleepInside();
        int[] tooFew = {-1, Integer.MIN_VALUE, 1, Integer.MAX_VALUE};
        for (int n : tooFew) {
            CHECKS.refused("an empty tape, " + n, x, x.dream(n), 2);
        }
        Checks.feedText(x, PEOPLE);
        int fed = x.size(12);
        CHECKS.due("whole twenties", fed, (length + 19) / 20 * 20);
        int[] bad = {-1, Integer.MIN_VALUE, fed + 1, 1000, 1001, Integer.MAX_VALUE};
        for (int n : bad) {
            CHECKS.refused("no such number " + n, x, x.dream(n), 2);
            CHECKS.due("THE TAPE stays", x.size(12), fed);
            CHECKS.due("no FAULT by 2", x.fault(), 0);
        }
        CHECKS.due("all of them", x.dream(fed), 1);
        CHECKS.due("empty", x.size(12), 0);
        CHECKS.refused("nothing is left", x, x.dream(1), 2);

        Checks.feedText(x, PEOPLE + "!" + " ".repeat(40));
        CHECKS.due("those behind n are not read", x.dream(length), 1);
        CHECKS.due("those behind n are gone", x.size(12), 0);
        Checks.feedText(x, PEOPLE + "!");
        CHECKS.due("one more is read", x.dream(length + 1), AsleepInside.NONE);
        CHECKS.due("one more is at fault", x.where(), length);
        CHECKS.due("empty by a FAULT, too", x.size(12), 0);
        Checks.feedText(x, PEOPLE);
        CHECKS.due("one less", x.dream(length - 1), AsleepInside.NONE);
        CHECKS.due("one less lacks a WHOLE", x.fault(), FORM);
        CHECKS.due("one less: the end", x.where(), length - 1);
        Checks.feedText(x, PEOPLE);
        CHECKS.due("no byte", x.dream(0), AsleepInside.NONE);
        CHECKS.due("no byte: the end", x.where(), 0);
        CHECKS.due("no byte: THE TAPE", x.size(12), 0);
    }

    private static void theLongestText() {
        right(padded(PEOPLE, 1000));
        right(" ".repeat(1000 - PEOPLE.length()) + PEOPLE);
        wrong(padded(PEOPLE, 999) + "z", FORM, 999);
        wrong(padded(PEOPLE, 999) + ";", FORM, 1000);
        wrong(padded(DREAM + HEAD, 1000), LACKS, 1000);
        wrong(padded(PEOPLE + ";pays 1", 999) + ";", LACKS, 999);
        wrong(" ".repeat(1000), FORM, 1000);
    }

    private static String padded(String text, int length) {
        return text + " ".repeat(length - text.length());
    }

    // ---- TOKENS

    /** "FORM: the first byte that begins no TOKEN". */
    private static void bytesThatBeginNoToken() {
        for (int b = 0; b < 256; b++) {
            String text = PEOPLE + (char) b;
            if (b == ' ' || (b >= '0' && b <= '9')) {
                right(text);
            } else {
                wrong(text, FORM, PEOPLE.length() + (b == ';' ? 1 : 0));
            }
            boolean letter = b >= 'a' && b <= 'z';
            if (letter) {
                right(DREAM + ";head " + (char) b + SLEEPER.replace(" s ", " ss "));
            } else if (b != ' ') {
                wrong(DREAM + ";head " + (char) b + SLEEPER, FORM, DREAM.length() + 6);
            }
            if (b != ' ' && b != 'd') {
                wrong((char) b + PEOPLE, FORM, 0);
            }
        }
        wrong(DREAM + ";head h-", FORM, DREAM.length() + 7);
        wrong(DREAM + ";head hA", FORM, DREAM.length() + 7);
        wrong(DREAM + ";he_ad", FORM, DREAM.length() + 1);
    }

    /** "WORDS of 1 to 8 small letters that stand together". */
    private static void wordsOfOneToEightLetters() {
        right(DREAM + ";head a" + SLEEPER);
        right(DREAM + ";head abcdefgh" + SLEEPER);
        wrong(DREAM + ";head abcdefghi" + SLEEPER, FORM, DREAM.length() + 6);
        wrong(DREAM + ";head abcdefghijklmnopq" + SLEEPER, FORM, DREAM.length() + 6);
        wrong(PEOPLE + ";abcdefghi", FORM, PEOPLE.length() + 1);
        wrong(PEOPLE + ";up sssssssss after 1", FORM, PEOPLE.length() + 4);
        wrong("dreamrates 2", FORM, 0);
        AsleepInside x = right(DREAM + ";head aaaaaaaa;head aaaaaaa;head aaaaaaab" + SLEEPER + ";down s aaaaaaab after 0");
        CHECKS.due("names unlike in the last letter", x.sleeper(0, 1), 2);
        x = right(DREAM + ";head b;head bb;head zb" + SLEEPER + ";down s bb after 0");
        CHECKS.due("names unlike in length", x.sleeper(0, 1), 1);
        x = right(DREAM + ";head xaaaaaaa;head yaaaaaaa;head aaaaaaa" + SLEEPER + ";down s yaaaaaaa after 0");
        CHECKS.due("names unlike in the first of eight", x.sleeper(0, 1), 1);
    }

    /** "WHOLES of 1 to 4 digits that do". */
    private static void wholesOfOneToFourDigits() {
        CHECKS.due("one digit", right(PEOPLE.replace("morning 5", "morning 7")).size(2), 7);
        CHECKS.due("four digits", right(PEOPLE.replace("morning 5", "morning 0123")).size(2), 123);
        CHECKS.due("only zeros", right(PEOPLE.replace("fall 1", "fall 0000")).size(1), 0);
        int place = DREAM.length() - 1;
        wrong(PEOPLE.replace("morning 5", "morning 00005"), FORM, place);
        wrong(PEOPLE.replace("morning 5", "morning 0000000005"), FORM, place);
        wrong(PEOPLE.replace("morning 5", "morning 99999"), FORM, place);
        wrong(PEOPLE.replace("morning 5", "morning 4294967301"), FORM, place);
        wrong(PEOPLE.replace("morning 5", "morning 4 5"), FORM, place + 2);
    }

    /** "blanks, 32, part TOKENS and mean nothing else". */
    private static void blanksMeanNothingElse() {
        String text = PEOPLE + ";pays 4,5;down s h after 2;felt 7 8";
        String plain = Snapshot.of(right(text));
        CHECKS.due("many blanks", Snapshot.of(right(text.replace(" ", "    ").replace(";", "  ;").replace(",", " ,  "))), plain);
        CHECKS.due("blanks around", Snapshot.of(right("   " + text + "   ")), plain);
        String tight = "dream rates2,3fall1morning5;head h;sleeper s plain deaf1dread0chance0;pays4,5;down s h after2;felt7 8";
        CHECKS.due("no blank where TOKENS part by themselves", Snapshot.of(right(tight)), plain);
        wrong("dre am rates 2", FORM, 0);
        wrong(PEOPLE + ";felt 7 8 9", FORM, PEOPLE.length() + 10);
        wrong(PEOPLE + ";felt 78", FORM, PEOPLE.length() + 8);
        wrong(PEOPLE + "\t", FORM, PEOPLE.length());
    }

    // ---- the bounds of WHOLES

    /** At the least and the most, one below and one above; what is no TOKEN at all is FORM. */
    private static void bounds(String lead, int least, int most, String tail) {
        right(lead + least + tail);
        right(lead + most + tail);
        wrong(lead + (least - 1) + tail, least == 0 ? FORM : BOUNDS, lead.length());
        wrong(lead + (most + 1) + tail, most == 9999 ? FORM : BOUNDS, lead.length());
        if (most < 9999) {
            wrong(lead + 9999 + tail, BOUNDS, lead.length());
        }
        if (least > 0) {
            wrong(lead + "0000" + tail, BOUNDS, lead.length());
        }
    }

    private static String dreamOf(int floors, int morning) {
        return "dream rates 2" + ",2".repeat(floors - 1) + " fall 1 morning " + morning;
    }

    private static String peopleOf(int floors, int morning) {
        return dreamOf(floors, morning) + HEAD + SLEEPER;
    }

    /** "dream rates WHOLE {, WHOLE} fall WHOLE morning WHOLE (2 .. 12, 1 to 4 of these; 0 .. 60; 1 .. 600)". */
    private static void wholesOfTheDream() {
        String tail = HEAD + SLEEPER;
        for (int ahead = 0; ahead < 4; ahead++) {
            for (int behind = 0; ahead + behind < 4; behind++) {
                String more = ",3".repeat(behind) + " fall 1 morning 5" + tail;
                bounds("dream rates " + "3,".repeat(ahead), 2, 12, more);
            }
        }
        bounds("dream rates 2 fall ", 0, 60, " morning 5" + tail);
        bounds("dream rates 2 fall 1 morning ", 1, 600, tail);
        for (int rates = 1; rates <= 4; rates++) {
            CHECKS.due("rates told", right(peopleOf(rates, 5)).size(0), rates);
        }
        wrong("dream rates fall 1 morning 5", FORM, 12);
        wrong(peopleOf(5, 5), MANY, 20);
        wrong(peopleOf(6, 5), MANY, 20);
    }

    /** "sleeper NAME KIND deaf WHOLE dread WHOLE chance WHOLE"; "down SLEEPER HEAD after WHOLE, or up SLEEPER after WHOLE". */
    private static void wholesOfSleepersAndSteps() {
        for (String kind : "plain light heavy fond".split(" ")) {
            String lead = DREAM + HEAD + ";sleeper s " + kind;
            bounds(lead + " deaf ", 1, 9999, " dread 0 chance 0");
            bounds(lead + " deaf 1 dread ", 0, 999, " chance 0");
            bounds(lead + " deaf 1 dread 0 chance ", 0, 100, "");
        }
        bounds(PEOPLE + ";down s h after ", 0, 999, "");
        bounds(PEOPLE + ";up s after ", 0, 999, "");
        bounds(PEOPLE + ";up s after 1;down s h after ", 0, 999, ";up s after 1");
    }

    /** "knock HEAD floor WHOLE at WHOLE strong WHOLE (0 up to one less than there are; 0 up to morning; 1 .. 99)". */
    private static void wholesOfKnocks() {
        for (int floors = 1; floors <= 4; floors++) {
            bounds(peopleOf(floors, 5) + ";knock h floor ", 0, floors - 1, " at 1 strong 1");
        }
        int[] mornings = {1, 2, 599, 600};
        for (int morning : mornings) {
            bounds(peopleOf(2, morning) + ";knock h floor 0 at ", 0, morning, " strong 1");
        }
        bounds(PEOPLE + ";knock h floor 0 at 0 strong ", 1, 99, "");
    }

    /** "task NAME floor WHOLE minutes WHOLE risk WHOLE (0 up to how many FLOORS there are; 1 .. 999; 0 .. 99)". */
    private static void wholesOfTasks() {
        for (int floors = 1; floors <= 4; floors++) {
            bounds(peopleOf(floors, 5) + ";task t floor ", 0, floors, " minutes 1 risk 0");
        }
        bounds(PEOPLE + ";task t floor 0 minutes ", 1, 999, " risk 0");
        bounds(PEOPLE + ";task t floor 0 minutes 1 risk ", 0, 99, "");
    }

    /** "pays WHOLE {, WHOLE} (0 .. 999, one for each FLOOR from 1 on)"; "thinks SLEEPER WHOLE (0 .. 4)". */
    private static void wholesOfPaysAndThinks() {
        for (int ahead = 0; ahead < 4; ahead++) {
            bounds(peopleOf(4, 5) + ";pays " + "7,".repeat(ahead), 0, 999, ",7".repeat(3 - ahead));
        }
        for (int floors = 1; floors <= 4; floors++) {
            bounds(peopleOf(floors, 5) + ";thinks s ", 0, 4, "");
        }
    }

    /** "felt WHOLE WHOLE, or came WHOLE WHOLE", "did WHOLE floor WHOLE awake WHOLE". */
    private static void wholesOfSignsAndDids() {
        bounds(PEOPLE + ";felt ", 1, 99, " 1");
        bounds(PEOPLE + ";felt 1 ", 1, 9999, "");
        bounds(PEOPLE + ";came ", 1, 9999, " 1");
        bounds(PEOPLE + ";came 1 ", 0, 9999, "");
        bounds(PEOPLE + ";did ", 1, 9999, " floor 1 awake 1");
        for (int floors = 1; floors <= 4; floors++) {
            bounds(peopleOf(floors, 5) + ";did 1 floor ", 1, floors, " awake 1");
        }
        bounds(PEOPLE + ";did 1 floor 1 awake ", 1, 999, "");
    }

    private static void numbersAreTakenAsTold() {
        AsleepInside x = right("dream rates 12,2,12,2 fall 60 morning 600" + HEAD
            + ";sleeper s heavy deaf 9999 dread 999 chance 100;thinks s 4;pays 999,0,0,0");
        int[] quicks = {1, 12, 24, 288, 576};
        for (int floor = 0; floor <= 4; floor++) {
            CHECKS.due("rates", x.quick(floor), quicks[floor]);
        }
        CHECKS.due("fall", x.size(1), 60);
        CHECKS.due("morning", x.size(2), 600);
        CHECKS.due("KIND", x.sleeper(0, 4), 2);
        CHECKS.due("deaf", x.sleeper(0, 5), 9999);
        CHECKS.due("thinks", x.sleeper(0, 6), 4);
        CHECKS.due("dread", x.enough(0, 1), 84);
        CHECKS.due("chance", x.mean(0, 3, false), 3);
        CHECKS.due("pays", x.gains(0), 999 * 12 - 999);
        x = right("dream rates 2 fall 0 morning 1" + HEAD
            + ";sleeper s plain deaf 1 dread 0 chance 0;thinks s 0;pays 0");
        CHECKS.due("rates", x.quick(1), 2);
        CHECKS.due("fall", x.size(1), 0);
        CHECKS.due("morning", x.size(2), 1);
        CHECKS.due("KIND", x.sleeper(0, 4), 0);
        CHECKS.due("deaf", x.sleeper(0, 5), 1);
        CHECKS.due("thinks", x.sleeper(0, 6), 0);
        CHECKS.due("dread", x.enough(0, 1), 1);
        CHECKS.due("chance", x.mean(0, 1, false), -2);
        CHECKS.due("pays", x.gains(0), 0);
        String[] kinds = {"plain", "light", "heavy", "fond"};
        for (int kind = 0; kind < 4; kind++) {
            CHECKS.due("KIND", right(PEOPLE.replace("plain", kinds[kind])).sleeper(0, 4), kind);
        }
        wrong(PEOPLE.replace("plain", "plai"), FORM, PEOPLE.indexOf("plain"));
        wrong(PEOPLE.replace("plain", "dread"), FORM, PEOPLE.indexOf("plain"));
    }

    // ---- the room for LINES

    /** None up to as many as there is room for; one more is at fault at its first WORD, whatever stands behind that. */
    private static void room(int size, int most, String base, IntFunction<String> line) {
        StringBuilder b = new StringBuilder(base);
        for (int count = 1; count <= most; count++) {
            b.append(line.apply(count - 1));
            CHECKS.due("how many", right(b.toString()).size(size), count);
        }
        String more = line.apply(most);
        wrong(b + more, MANY, b.length() + 1);
        wrong(b + more + ";head !", MANY, b.length() + 1);
        String word = more.replaceAll("^;([a-z]+).*", ";$1");
        wrong(b + word, MANY, b.length() + 1);
        wrong(b + word + " !", MANY, b.length() + 1);
    }

    private static void roomForLines() {
        room(3, 3, DREAM + SLEEPER, i -> ";head " + letter(i));
        sleepersAreCounted();
        room(4, 5, DREAM + HEAD, i -> ";sleeper " + letter(i) + " fond deaf 1 dread 0 chance 0");
        room(5, 20, PEOPLE, i -> ";down s h after " + i);
        room(5, 20, PEOPLE, i -> ";up s after " + i);
        room(5, 20, PEOPLE, i -> i % 2 == 0 ? ";down s h after " + i : ";up s after " + i);
        room(5, 20, PEOPLE, i -> i < 19 ? ";down s h after " + i : ";up s after " + i);
        room(6, 8, PEOPLE, i -> ";knock h floor 0 at 0 strong " + (i + 1));
        room(7, 6, PEOPLE, i -> ";task " + letter(i) + " floor 0 minutes 1 risk " + i);
        room(8, 6, PEOPLE, i -> ";felt 1 " + (i + 1));
        room(8, 6, PEOPLE, i -> ";came 1 " + i);
        room(8, 6, PEOPLE, i -> i % 2 == 0 ? ";felt 1 1" : ";came 1 1");
        room(8, 6, PEOPLE, i -> i < 5 ? ";came 1 1" : ";felt 1 1");
        room(9, 6, PEOPLE, i -> ";did 2 floor 1 awake " + (i + 1));
    }

    /** "how many sleepers". */
    private static void sleepersAreCounted() {
        String text = DREAM + HEAD;
        for (int count = 1; count <= 5; count++) {
            text += ";sleeper " + letter(count) + " fond deaf 1 dread 0 chance 0";
            CHECKS.due("3 how many sleepers", Checks.tell(new AsleepInside(), text), count);
        }
    }

    private static char letter(int i) {
        return (char) ('a' + i);
    }

    /** "one for each FLOOR from 1 on; once"; "a WHOLE of pays more than FLOORS: at it"; "too few of pays: at ; or the end". */
    private static void onePayForEachFloor() {
        for (int floors = 1; floors <= 4; floors++) {
            String base = peopleOf(floors, 5) + ";pays 1";
            for (int pays = 1; pays <= 6; pays++) {
                String told = base + ",1".repeat(pays - 1);
                if (pays < floors) {
                    wrong(told, LACKS, told.length());
                    wrong(told + "  ", LACKS, told.length() + 2);
                    wrong(told + ";felt 1 1", LACKS, told.length());
                    wrong(told + "  ;felt 1 1", LACKS, told.length() + 2);
                    wrong(told + " felt", FORM, told.length() + 1);
                } else if (pays == floors) {
                    right(told + ";felt 1 1");
                    wrong(told + ";pays", TWICE, told.length() + 1);
                    wrong(told + ";" + "pays 1" + ",1".repeat(pays - 1), TWICE, told.length() + 1);
                } else {
                    wrong(told, MANY, base.length() + 2 * floors - 1);
                }
            }
            wrong(peopleOf(floors, 5) + ";pays", FORM, base.length() - 2);
        }
    }

    /** "thinks SLEEPER WHOLE (once for each)"; "one who thinks already; at it". */
    private static void oneThoughtForEach() {
        StringBuilder b = new StringBuilder(DREAM + HEAD);
        for (int i = 0; i < 5; i++) {
            b.append(";sleeper ").append(letter(i)).append(" fond deaf 1 dread 0 chance 0");
        }
        for (int i = 0; i < 5; i++) {
            b.append(";thinks ").append(letter(i)).append(' ').append(i);
            right(b.toString());
            for (int k = 0; k <= i; k++) {
                wrong(b + ";thinks " + letter(k), TWICE, b.length() + 8);
                wrong(b + ";thinks " + letter(k) + " " + k, TWICE, b.length() + 8);
            }
        }
        AsleepInside x = right(b.toString());
        for (int s = 0; s < 5; s++) {
            CHECKS.due("thinks", x.sleeper(s, 6), s);
        }
    }

    /** All that needn't be told isn't there. */
    private static void theLeastDream() {
        AsleepInside x = right(PEOPLE);
        int[] sizes = {2, 1, 5, 1, 1, 0, 0, 0, 0, 0, 0, 0, 0};
        for (int what = 0; what < sizes.length; what++) {
            CHECKS.due("size " + what, x.size(what), sizes[what]);
        }
        CHECKS.due("thinks nothing", x.sleeper(0, 6), -2);
        CHECKS.refused("no pays", x, x.takes(0), 6);
        right("dream rates 2 fall 0 morning 1;sleeper s plain deaf 1 dread 0 chance 0;head h");
    }

    // ---- NAMES

    /** "NAMES are WORDS but dream, head, sleeper, down, up, knock, task, pays, thinks, felt, came, did". */
    private static void namesAreNoLineWords() {
        for (String word : LINE_WORDS.split(" ")) {
            wrong(DREAM + ";head " + word + SLEEPER, FORM, DREAM.length() + 6);
            wrong(DREAM + HEAD + ";sleeper " + word + " plain deaf 1 dread 0 chance 0", FORM, DREAM.length() + HEAD.length() + 9);
            wrong(PEOPLE + ";task " + word + " floor 0 minutes 1 risk 0", FORM, PEOPLE.length() + 6);
            wrong(PEOPLE + ";down " + word + " h after 1", FORM, PEOPLE.length() + 6);
            wrong(PEOPLE + ";down s " + word + " after 1", FORM, PEOPLE.length() + 8);
            wrong(PEOPLE + ";up " + word + " after 1", FORM, PEOPLE.length() + 4);
            wrong(PEOPLE + ";knock " + word + " floor 0 at 0 strong 1", FORM, PEOPLE.length() + 7);
            wrong(PEOPLE + ";thinks " + word + " 1", FORM, PEOPLE.length() + 8);
            right(DREAM + ";head x" + word.substring(1) + SLEEPER);
        }
        for (String word : "rates fall morning plain light heavy fond deaf dread chance after floor at strong minutes risk awake".split(" ")) {
            right(DREAM + ";head " + word + SLEEPER + ";down s " + word + " after 1;knock " + word + " floor 0 at 0 strong 1");
            right(DREAM + HEAD + ";sleeper " + word + " plain deaf 1 dread 0 chance 0;up " + word + " after 1;thinks " + word + " 1");
            right(PEOPLE + ";task " + word + " floor 0 minutes 1 risk 0");
        }
    }

    /** "a NAME that isn't told, or is of another sort than must stand there; at it". */
    private static void namesOfTheSortThatMustStandThere() {
        String[][] uses = {{"s", ";down ", " h after 1"}, {"h", ";down s ", " after 1"}, {"s", ";up ", " after 1"},
            {"h", ";knock ", " floor 0 at 0 strong 1"}, {"s", ";thinks ", " 1"}};
        for (String[] use : uses) {
            for (String name : "h s t q".split(" ")) {
                String lead = PEOPLE + TASK + use[1];
                if (name.equals(use[0])) {
                    right(lead + name + use[2]);
                } else {
                    wrong(lead + name + use[2], UNTOLD, lead.length());
                    wrong(lead + name, UNTOLD, lead.length());
                }
            }
        }
    }

    /** "each told once"; "a NAME told again; at it". */
    private static void namesToldOnce() {
        String base = PEOPLE + TASK;
        String[][] tellings = {{";head ", ""}, {";sleeper ", " plain deaf 1 dread 0 chance 0"},
            {";task ", " floor 0 minutes 1 risk 0"}};
        for (String[] telling : tellings) {
            for (String name : "h s t".split(" ")) {
                wrong(base + telling[0] + name + telling[1], TWICE, base.length() + telling[0].length());
                wrong(base + telling[0] + name, TWICE, base.length() + telling[0].length());
            }
            right(base + telling[0] + "q" + telling[1]);
        }
        StringBuilder all = new StringBuilder(DREAM);
        List<String> names = new ArrayList<>();
        int[] room = {3, 5, 6};
        for (int sort = 0; sort < 3; sort++) {
            for (int i = 0; i < room[sort]; i++) {
                names.add("n" + letter(names.size()));
                all.append(tellings[sort][0]).append(names.get(names.size() - 1)).append(tellings[sort][1]);
            }
        }
        right(all.toString());
        wrong(all + ";up " + names.get(13), UNTOLD, all.length() + 4);
        right(all + ";up " + names.get(7) + " after 1;knock " + names.get(2) + " floor 0 at 0 strong 1");
        int tasks = all.indexOf(";task");
        String lastSleeper = DREAM + all.substring(tasks) + all.substring(DREAM.length(), tasks);
        right(lastSleeper + ";up " + names.get(7) + " after 1");
    }

    /** "ahead of its use". */
    private static void namesAheadOfTheirUse() {
        wrong(DREAM + HEAD + ";up s after 1" + SLEEPER, UNTOLD, DREAM.length() + HEAD.length() + 4);
        wrong(DREAM + SLEEPER + ";down s h after 1" + HEAD, UNTOLD, DREAM.length() + SLEEPER.length() + 8);
        wrong(DREAM + SLEEPER + ";knock h floor 0 at 0 strong 1" + HEAD, UNTOLD, DREAM.length() + SLEEPER.length() + 7);
        wrong(DREAM + HEAD + ";thinks s 1" + SLEEPER, UNTOLD, DREAM.length() + HEAD.length() + 8);
    }

    // ---- FAULTS

    /** "TOKEN with which no DREAM goes on (the end: its place)": at each TOKEN of each LINE. */
    private static void formAtEachPlace() {
        String[] lines = {"dream rates 2 fall 1 morning 5", "head g", "sleeper r fond deaf 1 dread 0 chance 0", "down s h after 1",
            "up s after 1", "knock h floor 0 at 0 strong 1", "task t floor 0 minutes 1 risk 0", "thinks s 1", "felt 1 1", "came 1 1",
            "did 2 floor 1 awake 1"};
        for (String line : lines) {
            String lead = line.startsWith("dream") ? "" : PEOPLE + ";";
            for (String token : line.split(" ")) {
                formInsteadOf(token, lead);
                lead += token + " ";
            }
            wrong(lead + "zz", FORM, lead.length());
            wrong(lead + "7", FORM, lead.length());
            wrong(lead + ",", FORM, lead.length());
        }
        formInsteadOf("1", PEOPLE + ";pays ");
        formInsteadOf("2", PEOPLE + ";pays 1 , ");
        formInsteadOf("2", "dream rates 2 , ");
        wrong(PEOPLE + ";pays 1 2", FORM, PEOPLE.length() + 8);
        wrong(PEOPLE + ";pays 1,2 zz", FORM, PEOPLE.length() + 10);
        wrong("dream rates 2 3", FORM, 14);
    }

    private static void formInsteadOf(String token, String lead) {
        boolean whole = token.matches("\\d");
        wrong(lead, FORM, lead.length());
        wrong(lead + "!", FORM, lead.length());
        wrong(lead + ";", FORM, lead.length());
        wrong(lead + (whole ? "zz" : "7"), FORM, lead.length());
        // Behind a WHOLE of rates a comma goes on.
        if (!token.equals("fall")) {
            wrong(lead + ",", FORM, lead.length());
        }
        if (!whole) {
            wrong(lead + (token.length() == 1 ? "up" : "zz"), FORM, lead.length());
        }
    }

    /** "any LINE ahead of the dream; at its WORD"; "at the end: no head, no sleeper"; "a second dream: at that WORD". */
    private static void lackingAtTheEnd() {
        for (String word : LINE_WORDS.split(" ")) {
            if (!word.equals("dream")) {
                wrong(word, LACKS, 0);
                wrong("  " + word + " ! ;" + PEOPLE, LACKS, 2);
            }
        }
        wrong(DREAM, LACKS, DREAM.length());
        wrong(DREAM + "   ", LACKS, DREAM.length() + 3);
        wrong(DREAM + HEAD, LACKS, DREAM.length() + HEAD.length());
        wrong(DREAM + SLEEPER, LACKS, DREAM.length() + SLEEPER.length());
        wrong(DREAM + TASK + ";felt 1 1", LACKS, DREAM.length() + TASK.length() + 9);
        wrong(DREAM + ";" + DREAM, TWICE, DREAM.length() + 1);
        wrong(PEOPLE + ";dream", TWICE, PEOPLE.length() + 1);
        wrong(peopleOf(1, 1) + ";dream", TWICE, peopleOf(1, 1).length() + 1);
    }

    /** "FAULTS, the first that is met from the left". */
    private static void firstFromTheLeft() {
        String[] lines = {";head 5", ";up q after 1", ";head h", ";up s after 1000", ";pays 1,2,3", ";pays 1"};
        int[] at = {6, 4, 6, 12, 10, 7};
        for (int i = 0; i < 6; i++) {
            wrong(PEOPLE + lines[i], i + 1, PEOPLE.length() + at[i]);
            for (int k = 0; k < 6; k++) {
                wrong(PEOPLE + lines[i] + lines[k], i + 1, PEOPLE.length() + at[i]);
                wrong(PEOPLE + ";felt 1 1" + lines[i] + ";!" + lines[k], i + 1, PEOPLE.length() + 9 + at[i]);
            }
        }
    }

    /** "of one place the least number". */
    private static void leastOfOnePlace() {
        wrong("", FORM, 0);
        wrong(DREAM + ";", FORM, DREAM.length() + 1);
        wrong("dream rates 2", FORM, 13);
        wrong(PEOPLE + ";pays 1,", FORM, PEOPLE.length() + 8);
        wrong(PEOPLE + ";pays 1,;", FORM, PEOPLE.length() + 8);
        wrong("dream rates 2,2,2,2,1", BOUNDS, 20);
        wrong("dream rates 2,2,2,2,13", BOUNDS, 20);
        wrong("dream rates 2,2,2,2,12", MANY, 20);
        wrong("dream rates 2,2,2,2,2", MANY, 20);
        wrong("dream rates 2,2,2,2,", FORM, 20);
        wrong("dream rates 2,2,2,2,00002", FORM, 20);
        wrong(PEOPLE + ";pays 1,2,1000", BOUNDS, PEOPLE.length() + 10);
        wrong(PEOPLE + ";pays 1,2,999", MANY, PEOPLE.length() + 10);
        wrong(PEOPLE + ";pays 1,2,0", MANY, PEOPLE.length() + 10);
        wrong(PEOPLE + ";pays 1,2,", FORM, PEOPLE.length() + 10);
    }

    /** Against the reader by tables: wherever a text may end. */
    private static void everyBeginningOfAText() {
        String text = PEOPLE + ";head hh;down s hh after 12;up s after 3;knock hh floor 1 at 5 strong 99;task t floor 2 minutes 999 risk 99"
            + ";pays 10 , 999;thinks s 4;felt 99 9999;came 9999 0;did 9999 floor 2 awake 999 ";
        for (int n = 0; n <= text.length(); n++) {
            String beginning = text.substring(0, n);
            int[] due = PlainFaults.of(beginning);
            if (due[0] == 0) {
                right(beginning);
            } else {
                wrong(beginning, due[0], due[1]);
            }
        }
    }
}
