import java.util.NoSuchElementException;

/**
 * Floors of dreaming, told as a text: hours, sleepers, knocks, tasks, letters, meetings, wages, rates and chances.
 * Words in capitals are those of the document's terms.
 */
public final class AsleepInside {
    public static final int NONE = -1;

    /** An answer "there is none" that is no refusal. */
    private static final int NOTHING = -2;

    private static final int FINE = 0;
    private static final int NO_SUCH = 1;
    private static final int BAD_NUMBER = 2;
    private static final int NO_ROOM = 3;
    private static final int FAULTY = 4;
    private static final int NOT_SO = 5;
    private static final int LACKING = 6;

    private static final int TAPE_ROOM = 1000;
    private static final int FLOORS_ROOM = 4;
    private static final int HEADS_ROOM = 3;
    private static final int SLEEPERS_ROOM = 5;
    private static final int STEPS_ROOM = 20;
    private static final int KNOCKS_ROOM = 8;
    private static final int TASKS_ROOM = 6;
    private static final int SIGNS_ROOM = 6;
    private static final int DIDS_ROOM = 6;
    private static final int ACTS_ROOM = 12;
    private static final int IMAGES_ROOM = 3;

    private static final int LEAST_RATE = 2;
    private static final int MOST_RATE = 12;
    private static final int MOST_STRONG = 99;
    private static final int MOST_ROUSING = 9;
    private static final int MOST_WORDS = 9999;
    private static final int MOST_LETTERS = 1_000_000;
    private static final int MOST_SPAN = 600;
    private static final int MOST_PASS = 999;
    private static final int MOST_CLOCK = 1200;
    private static final int MOST_PAY = 99_999;

    private static final int PLAIN = 0;
    private static final int LIGHT = 1;
    private static final int HEAVY = 2;
    private static final int FOND = 3;

    // Columns of the told rows.
    private static final int S_KIND = 0;
    private static final int S_DEAF = 1;
    private static final int S_DREAD = 2;
    private static final int S_CHANCE = 3;
    private static final int S_THINKS = 4;
    private static final int S_STEPS = 5;
    private static final int STEP_WHO = 0;
    private static final int STEP_HEAD = 1;
    private static final int STEP_AFTER = 2;
    private static final int KNOCK_HEAD = 0;
    private static final int KNOCK_FLOOR = 1;
    private static final int KNOCK_AT = 2;
    private static final int KNOCK_STRONG = 3;
    private static final int TASK_FLOOR = 0;
    private static final int TASK_MINUTES = 1;
    private static final int TASK_RISK = 2;
    private static final int SIGN_CAME = 0;
    private static final int SIGN_SENT = 1;
    private static final int SIGN_GOT = 2;
    private static final int DID_DONE = 0;
    private static final int DID_FLOOR = 1;
    private static final int DID_AWAKE = 2;

    /** What stands in STEP_HEAD of a step up. */
    private static final int UPWARDS = -1;

    /** Later than any tick that can come: those stay below 2 ** 32. */
    private static final long NEVER = 1L << 60;

    private final byte[] tape = new byte[TAPE_ROOM];
    private final Reader reader = new Reader();
    private final Night night = new Night();
    private final Night ahead = new Night();
    private final Outlook outlook = new Outlook();
    private final Plan plan = new Plan();
    private final Rousing rousing = new Rousing();
    private final Fitting fitting = new Fitting();
    private final Night[] acts = new Night[ACTS_ROOM];
    private final Night[] images = new Night[IMAGES_ROOM];
    private Dream told = new Dream();
    private Dream spare = new Dream();
    private boolean dreaming;
    private int tapeSize;
    private int actCount;
    private int imageCount;
    private int trouble;
    private int fault;
    private int place;

    public AsleepInside() {
        for (int i = 0; i < ACTS_ROOM; i++) {
            acts[i] = new Night();
        }
        for (int i = 0; i < IMAGES_ROOM; i++) {
            images[i] = new Night();
        }
    }

    // ---- the dream

    public int feed(int a, int b, int c, int d, int e) {
        if (tapeSize + 20 > TAPE_ROOM) {
            return NONE;
        }
        feedNumber(a);
        feedNumber(b);
        feedNumber(c);
        feedNumber(d);
        feedNumber(e);
        return tapeSize;
    }

    private void feedNumber(int number) {
        for (int shift = 24; shift >= 0 && tapeSize < TAPE_ROOM; shift -= 8) {
            tape[tapeSize] = (byte) (number >>> shift);
            tapeSize++;
        }
    }

    public int dream(int n) {
        if (n < 0 || n > tapeSize) {
            return refuse(BAD_NUMBER);
        }
        tapeSize = 0;
        fault = reader.read(tape, n, spare);
        if (fault != 0) {
            place = reader.place;
            return refuse(FAULTY);
        }
        Dream old = told;
        told = spare;
        spare = old;
        dreaming = true;
        night.begin(told);
        plan.ready = false;
        fitting.ready = false;
        actCount = 0;
        imageCount = 0;
        return allow(told.sleepers.count);
    }

    public int fault() {
        return fault;
    }

    public int where() {
        return trouble == FAULTY ? place : NONE;
    }

    // ---- hours

    public int quick(int floor) {
        return isFloor(floor) ? allow(told.quickOf(floor)) : refuse(NO_SUCH);
    }

    public long clock(int floor) {
        return isFloor(floor) ? allow(clockOf(floor)) : refuse(NO_SUCH);
    }

    private long clockOf(int floor) {
        return quotient(night.now, told.minuteOf(floor));
    }

    public long ticks() {
        return dreaming ? allow(night.now) : refuse(NO_SUCH);
    }

    public long minutes(int from, int to, int n, boolean lower) {
        if (!isFloor(from) || !isFloor(to)) {
            return refuse(NO_SUCH);
        }
        if (n < 0 || n > 9999) {
            return refuse(BAD_NUMBER);
        }
        return allow(inLowestTerms((long) n * told.quickOf(to), told.quickOf(from), lower));
    }

    // ---- where they are

    public int sleeper(int s, int what) {
        if (!isSleeper(s)) {
            return refuse(NO_SUCH);
        }
        switch (what) {
            case 0:
                return allow(night.floors[s]);
            case 1:
                return allow(night.heads[s]);
            case 2:
                return allow(night.done[s]);
            case 3:
                return allow((int) quotient(night.now - night.came[s], told.minuteOf(night.floors[s])));
            case 4:
                return allow(told.sleepers.at(s, S_KIND));
            case 5:
                return allow(told.sleepers.at(s, S_DEAF));
            case 6:
                return allow(told.sleepers.at(s, S_THINKS));
            default:
                return refuse(NO_SUCH);
        }
    }

    public long lived(int s, boolean lower) {
        if (!isSleeper(s)) {
            return refuse(NO_SUCH);
        }
        return allow(inLowestTerms(night.livedBy(told, s), told.bottom(), lower));
    }

    public int meet(int s, int q) {
        if (!isPair(s, q)) {
            return refuse(NO_SUCH);
        }
        return allow(night.haveMet(s, q) ? 1 : 0);
    }

    public int off() {
        if (!dreaming) {
            return refuse(NO_SUCH);
        }
        for (int s = 0; s < told.sleepers.count; s++) {
            int thinks = told.sleepers.at(s, S_THINKS);
            if (thinks != NOTHING && thinks != night.floors[s]) {
                return allow(s);
            }
        }
        return allow(NOTHING);
    }

    public int floorIn(int s, int t) {
        int why = whyNotIn(s, t);
        if (why != FINE) {
            return refuse(why);
        }
        lookAhead(t);
        return allow(ahead.floors[s]);
    }

    public int headIn(int s, int t) {
        int why = whyNotIn(s, t);
        if (why != FINE) {
            return refuse(why);
        }
        lookAhead(t);
        return allow(ahead.heads[s]);
    }

    public int meetsIn(int s, int q, int t) {
        if (!isPair(s, q)) {
            return refuse(NO_SUCH);
        }
        if (!isSpan(t)) {
            return refuse(BAD_NUMBER);
        }
        return allow(outlook.firstMeeting(told, night, s, q, t));
    }

    public int awakeIn(int s, int t) {
        int why = whyNotIn(s, t);
        return why != FINE ? refuse(why) : allow(outlook.firstAwake(told, night, s, t));
    }

    public int lonely(int s, int t) {
        int why = whyNotIn(s, t);
        return why != FINE ? refuse(why) : allow(outlook.countLonely(told, night, s, t));
    }

    public int crowd(int t) {
        if (!dreaming) {
            return refuse(NO_SUCH);
        }
        return isSpan(t) ? allow(outlook.mostTogether(told, night, t)) : refuse(BAD_NUMBER);
    }

    public int left() {
        if (!dreaming) {
            return refuse(NO_SUCH);
        }
        ahead.copyFrom(night);
        ahead.runTo(told, Math.max(night.now, told.morningTick()));
        int bits = 0;
        for (int s = 0; s < told.sleepers.count; s++) {
            if (ahead.floors[s] > 0) {
                bits |= 1 << s;
            }
        }
        return allow(bits);
    }

    public int woken(int s, int t) {
        int why = whyNotIn(s, t);
        if (why != FINE) {
            return refuse(why);
        }
        lookAhead(t);
        return allow(ahead.roused[s] - night.roused[s]);
    }

    public long felt(int strong, int from, int to) {
        if (!isFloor(from) || !isFloor(to) || to <= from) {
            return refuse(NO_SUCH);
        }
        return isStrong(strong) ? allow(told.feltOn(strong, from, to)) : refuse(BAD_NUMBER);
    }

    private int whyNotIn(int s, int t) {
        if (!isSleeper(s)) {
            return NO_SUCH;
        }
        return isSpan(t) ? FINE : BAD_NUMBER;
    }

    private void lookAhead(int t) {
        ahead.copyFrom(night);
        ahead.runTo(told, night.now + (long) t * told.bottom());
    }

    // ---- tasks

    public int task(int k) {
        if (!dreaming || k < 0 || k >= told.tasks.count) {
            return refuse(NO_SUCH);
        }
        plan.make(told);
        return allow(plan.found ? plan.chosen[k] : NOTHING);
    }

    public long best(int what) {
        if (!dreaming || what < 0 || what > 2) {
            return refuse(NO_SUCH);
        }
        plan.make(told);
        if (!plan.found) {
            return allow(NOTHING);
        }
        if (what == 0) {
            return allow(plan.risk);
        }
        return allow(what == 1 ? plan.ticks : plan.own);
    }

    public long soonest() {
        return dreaming ? allow(Plan.leastTicks(told)) : refuse(NO_SUCH);
    }

    // ---- together

    public int together(int set) {
        int why = whyNotTogether(set);
        return why != FINE ? refuse(why) : allow(rousing.seek(told, night, set));
    }

    public int togetherAt(int set, int i) {
        int why = whyNotTogether(set);
        if (why != FINE) {
            return refuse(why);
        }
        int length = rousing.seek(told, night, set);
        return i < 0 || i >= length ? refuse(NO_SUCH) : allow(rousing.row[i]);
    }

    private int whyNotTogether(int set) {
        if (!dreaming) {
            return NO_SUCH;
        }
        if (set < 1 || set >= 1 << told.sleepers.count) {
            return BAD_NUMBER;
        }
        int head = NOTHING;
        for (int s = 0; s < told.sleepers.count; s++) {
            if ((set >> s & 1) == 0) {
                continue;
            }
            boolean elsewhere = head != NOTHING && head != night.heads[s];
            if (night.floors[s] == 0 || elsewhere) {
                return NOT_SO;
            }
            head = night.heads[s];
        }
        return FINE;
    }

    // ---- how deep

    public int deep() {
        return dreaming ? allow(told.deepOnes()) : refuse(NO_SUCH);
    }

    public int ask() {
        int why = whyNotAsk();
        return why != FINE ? refuse(why) : allow(fewestAsked(told.deepOnes()));
    }

    public int askMost() {
        int why = whyNotAsk();
        if (why != FINE) {
            return refuse(why);
        }
        int deepOnes = told.deepOnes();
        return allow(mostOfOneAnswer(deepOnes, fewestAsked(deepOnes)));
    }

    private int whyNotAsk() {
        if (!dreaming) {
            return NO_SUCH;
        }
        return Integer.bitCount(told.deepOnes()) < 2 ? LACKING : FINE;
    }

    /**
     * Rates are at least 2, so two FLOORS answer alike only if both answer 0: the fewest words are the QUICK of the
     * lowest DEEP one but one, which is 12 * 12 * 12 at most.
     */
    private int fewestAsked(int deepOnes) {
        int lowest = NOTHING;
        int nextLowest = NOTHING;
        for (int floor = 0; floor <= told.floors; floor++) {
            if ((deepOnes >> floor & 1) == 1) {
                nextLowest = lowest;
                lowest = floor;
            }
        }
        return told.quickOf(nextLowest);
    }

    private int mostOfOneAnswer(int deepOnes, int words) {
        int most = 0;
        for (int floor = 0; floor <= told.floors; floor++) {
            int alike = 0;
            for (int other = 0; other <= told.floors; other++) {
                boolean both = (deepOnes >> floor & deepOnes >> other & 1) == 1;
                if (both && told.shrunk(words, floor, 0) == told.shrunk(words, other, 0)) {
                    alike++;
                }
            }
            most = Math.max(most, alike);
        }
        return most;
    }

    public int letter(int from, int to, int n) {
        if (!isAbove(from, to)) {
            return refuse(NO_SUCH);
        }
        return n < 0 || n > MOST_WORDS ? refuse(BAD_NUMBER) : allow(told.shrunk(n, from, to));
    }

    public int tells(int from, int to, int n, int k) {
        if (!isAbove(from, to)) {
            return refuse(NO_SUCH);
        }
        if (n < 0 || n > MOST_WORDS || !isVocabulary(k)) {
            return refuse(BAD_NUMBER);
        }
        int come = told.shrunk(n, from, to);
        long unlike = 1;
        for (int i = 0; i < come && unlike < MOST_LETTERS; i++) {
            unlike *= k;
        }
        return allow((int) Math.min(unlike, MOST_LETTERS));
    }

    public long words(int from, int to, int m, int k) {
        if (!isAbove(from, to)) {
            return refuse(NO_SUCH);
        }
        if (m < 1 || m > MOST_LETTERS || !isVocabulary(k)) {
            return refuse(BAD_NUMBER);
        }
        long come = 0;
        for (long unlike = 1; unlike < m && come < MOST_LETTERS; unlike *= k) {
            come++;
        }
        return allow(come * told.ratio(to, from));
    }

    private boolean isAbove(int from, int to) {
        return isFloor(from) && isFloor(to) && to < from;
    }

    private static boolean isVocabulary(int k) {
        return k >= 2 && k <= 26;
    }

    // ---- meetings, wages

    public long meeting(int s, int q, int floor) {
        if (!isPair(s, q) || !isDreamFloor(floor)) {
            return refuse(NO_SUCH);
        }
        return allow(laterOfBoth(s, q, floor, soonestHead(s, q, floor)));
    }

    public int meetingHead(int s, int q, int floor) {
        if (!isPair(s, q) || !isDreamFloor(floor)) {
            return refuse(NO_SUCH);
        }
        return allow(soonestHead(s, q, floor));
    }

    private int soonestHead(int s, int q, int floor) {
        int soonest = 0;
        for (int head = 1; head < told.heads; head++) {
            if (laterOfBoth(s, q, floor, head) < laterOfBoth(s, q, floor, soonest)) {
                soonest = head;
            }
        }
        return soonest;
    }

    private long laterOfBoth(int s, int q, int floor, int head) {
        return Math.max(ticksTo(s, floor, head), ticksTo(q, floor, head));
    }

    private long ticksTo(int s, int floor, int head) {
        return told.falling(night.heads[s] == head ? night.floors[s] : 0, floor);
    }

    public int takes(int s) {
        int why = whyNoWages(s);
        return why != FINE ? refuse(why) : allow(floorTaken(s));
    }

    public long gains(int s) {
        int why = whyNoWages(s);
        return why != FINE ? refuse(why) : allow(told.gainOn(s, floorTaken(s)));
    }

    private int whyNoWages(int s) {
        if (!isSleeper(s)) {
            return NO_SUCH;
        }
        return told.paid ? FINE : LACKING;
    }

    private int floorTaken(int s) {
        int taken = 0;
        for (int floor = 1; floor <= told.floors; floor++) {
            if (told.gainOn(s, floor) > told.gainOn(s, taken)) {
                taken = floor;
            }
        }
        return taken;
    }

    public int price(int s, int floor) {
        if (!isSleeper(s) || !isDreamFloor(floor)) {
            return refuse(NO_SUCH);
        }
        if (!told.paid) {
            return refuse(LACKING);
        }
        long need = 0;
        for (int other = 0; other <= told.floors; other++) {
            if (other != floor) {
                // Of like gains the first FLOOR is taken: those ahead must be outdone, those behind only met.
                need = Math.max(need, told.gainOn(s, other) + (other < floor ? 1 : 0));
            }
        }
        return allow(leastPay(s, floor, need));
    }

    public int enough(int s, int floor) {
        if (!isSleeper(s) || !isDreamFloor(floor)) {
            return refuse(NO_SUCH);
        }
        return allow(leastPay(s, floor, 1));
    }

    /** The least pay on a FLOOR with which one gains so much there, or more. */
    private int leastPay(int s, int floor, long need) {
        int quick = told.quickOf(floor);
        long pay = quotient(need + told.dreadOn(s, floor) + quick - 1, quick);
        return pay > MOST_PAY ? NOTHING : (int) pay;
    }

    // ---- rates, chances

    public int rates() {
        if (!dreaming) {
            return refuse(NO_SUCH);
        }
        fitting.make(told);
        return allow(fitting.rows);
    }

    public int rate(int floor) {
        if (!isDreamFloor(floor)) {
            return refuse(NO_SUCH);
        }
        fitting.make(told);
        return allow(fitting.onlyRate(floor));
    }

    public long waking(int s, int floor, int n, boolean lower) {
        if (!isSleeper(s) || !isFloor(floor)) {
            return refuse(NO_SUCH);
        }
        if (n < 0 || n > 8) {
            return refuse(BAD_NUMBER);
        }
        long likely = wakingParts(floor, n, told.sleepers.at(s, S_CHANCE));
        return allow(inLowestTerms(likely, hundreds(n), lower));
    }

    /** Of 100 ** minutes even parts, those by which one on a FLOOR is awake behind so many minutes. */
    private static long wakingParts(int floor, int minutes, int chance) {
        if (floor <= 0) {
            return hundreds(minutes);
        }
        if (minutes <= 0) {
            return 0;
        }
        return chance * wakingParts(floor - 1, minutes - 1, chance)
            + (100 - chance) * wakingParts(floor, minutes - 1, chance);
    }

    private static long hundreds(int power) {
        long product = 1;
        for (int i = 0; i < power; i++) {
            product *= 100;
        }
        return product;
    }

    public long mean(int s, int floor, boolean lower) {
        if (!isSleeper(s) || !isFloor(floor)) {
            return refuse(NO_SUCH);
        }
        int chance = told.sleepers.at(s, S_CHANCE);
        if (floor > 0 && chance == 0) {
            return allow(NOTHING);
        }
        return allow(inLowestTerms(100L * floor, chance, lower));
    }

    // ---- acts

    public int pass(int floor, int n) {
        if (!isFloor(floor)) {
            return refuse(NO_SUCH);
        }
        if (n < 1 || n > MOST_PASS) {
            return refuse(BAD_NUMBER);
        }
        long till = night.now + (long) n * told.minuteOf(floor);
        if (till > (long) MOST_CLOCK * told.bottom()) {
            return refuse(NO_ROOM);
        }
        keepAct();
        night.runTo(told, till);
        return allow((int) clockOf(0));
    }

    public int lie(int s, int head) {
        if (!isSleeper(s) || !isHead(head)) {
            return refuse(NO_SUCH);
        }
        boolean elsewhere = night.floors[s] > 0 && night.heads[s] != head;
        if (night.floors[s] >= told.floors || elsewhere) {
            return refuse(NOT_SO);
        }
        keepAct();
        night.comeTo(told, s, night.floors[s] + 1, head);
        night.takeDueSteps(told);
        return allow(night.floors[s]);
    }

    public int wake(int s) {
        if (!isSleeper(s)) {
            return refuse(NO_SUCH);
        }
        if (night.floors[s] == 0) {
            return refuse(NOT_SO);
        }
        keepAct();
        night.comeTo(told, s, night.floors[s] - 1, night.heads[s]);
        night.takeDueSteps(told);
        return allow(night.floors[s]);
    }

    public int knock(int head, int floor, int strong) {
        if (!isHead(head) || !isFloor(floor) || floor >= told.floors) {
            return refuse(NO_SUCH);
        }
        if (!isStrong(strong)) {
            return refuse(BAD_NUMBER);
        }
        keepAct();
        int bits = night.hearKnock(told, head, floor, strong);
        night.takeDueSteps(told);
        return allow(bits);
    }

    private void keepAct() {
        if (actCount >= ACTS_ROOM) {
            Night oldest = acts[0];
            for (int i = 1; i < ACTS_ROOM; i++) {
                acts[i - 1] = acts[i];
            }
            acts[ACTS_ROOM - 1] = oldest;
            actCount = ACTS_ROOM - 1;
        }
        acts[actCount].copyFrom(night);
        actCount++;
    }

    public boolean undo() {
        if (actCount <= 0) {
            trouble = LACKING;
            return false;
        }
        actCount--;
        night.copyFrom(acts[actCount]);
        trouble = FINE;
        return true;
    }

    public int image() {
        if (!dreaming) {
            return refuse(NO_SUCH);
        }
        if (imageCount >= IMAGES_ROOM) {
            return refuse(NO_ROOM);
        }
        images[imageCount].copyFrom(night);
        imageCount++;
        return allow(imageCount - 1);
    }

    public boolean back(int image) {
        if (image < 0 || image >= imageCount) {
            trouble = NO_SUCH;
            return false;
        }
        night.copyFrom(images[image]);
        actCount = 0;
        trouble = FINE;
        return true;
    }

    // ---- what is told

    public int led(int i) throws NoSuchElementException {
        int before = 0;
        for (int s = 0; dreaming && s < told.sleepers.count; s++) {
            if (night.floors[s] > 0) {
                if (before == i) {
                    return s;
                }
                before++;
            }
        }
        throw new NoSuchElementException();
    }

    public int size(int what) {
        switch (what) {
            case 10:
                return actCount;
            case 11:
                return imageCount;
            case 12:
                return tapeSize;
            default:
                return what < 0 || what > 12 ? NONE : toldSize(what);
        }
    }

    private int toldSize(int what) {
        if (!dreaming) {
            return 0;
        }
        switch (what) {
            case 0:
                return told.floors;
            case 1:
                return told.fall;
            case 2:
                return told.morning;
            case 3:
                return told.heads;
            case 4:
                return told.sleepers.count;
            case 5:
                return told.steps.count;
            case 6:
                return told.knocks.count;
            case 7:
                return told.tasks.count;
            case 8:
                return told.signs.count;
            default:
                return told.dids.count;
        }
    }

    public int trouble() {
        return trouble;
    }

    // ---- what the calls share

    private int refuse(int why) {
        trouble = why;
        return NONE;
    }

    private int allow(int answer) {
        trouble = FINE;
        return answer;
    }

    private long allow(long answer) {
        trouble = FINE;
        return answer;
    }

    private boolean isFloor(int floor) {
        return dreaming && floor >= 0 && floor <= told.floors;
    }

    private boolean isDreamFloor(int floor) {
        return isFloor(floor) && floor > 0;
    }

    private boolean isHead(int head) {
        return dreaming && head >= 0 && head < told.heads;
    }

    private boolean isSleeper(int s) {
        return dreaming && s >= 0 && s < told.sleepers.count;
    }

    private boolean isPair(int s, int q) {
        return isSleeper(s) && isSleeper(q) && s != q;
    }

    private static boolean isSpan(int t) {
        return t >= 0 && t <= MOST_SPAN;
    }

    private static boolean isStrong(int strong) {
        return strong >= 1 && strong <= MOST_STRONG;
    }

    /** Downwards; the divisors here are never 0, but no machine shall have to throw if one were. */
    private static long quotient(long upper, long lower) {
        return lower == 0 ? 0 : upper / lower;
    }

    private static long inLowestTerms(long upper, long lower, boolean wantLower) {
        if (upper == 0) {
            return wantLower ? 1 : 0;
        }
        long a = upper;
        long b = lower;
        for (int i = 0; i < 200 && b != 0; i++) {
            long rest = a % b;
            a = b;
            b = rest;
        }
        return quotient(wantLower ? lower : upper, a);
    }

    /** Told rows of one sort, so many as there is room for. */
    private static final class Rows {
        private final int room;
        private final int columns;
        private final int[] cells;
        int count;

        Rows(int room, int columns) {
            this.room = Math.max(room, 0);
            this.columns = Math.max(columns, 0);
            this.cells = new int[this.room * this.columns];
        }

        boolean isFull() {
            return count >= room;
        }

        void add() {
            if (!isFull()) {
                count++;
                for (int column = 0; column < columns; column++) {
                    put(column, 0);
                }
            }
        }

        /** Into the latest row. */
        void put(int column, int value) {
            putAt(count - 1, column, value);
        }

        void putAt(int row, int column, int value) {
            if (row >= 0 && row < count && column >= 0 && column < columns) {
                cells[row * columns + column] = value;
            }
        }

        int at(int row, int column) {
            boolean there = row >= 0 && row < count && column >= 0 && column < columns;
            return there ? cells[row * columns + column] : 0;
        }
    }

    /** A DREAM as it is told, and what follows from its numbers alone. */
    private static final class Dream {
        final int[] quicks = new int[FLOORS_ROOM + 1];
        final int[] pay = new int[FLOORS_ROOM + 1];
        /** Rows of steps, of each sleeper as they are told. */
        private final int[] order = new int[SLEEPERS_ROOM * STEPS_ROOM];
        final Rows sleepers = new Rows(SLEEPERS_ROOM, 6);
        final Rows steps = new Rows(STEPS_ROOM, 3);
        final Rows knocks = new Rows(KNOCKS_ROOM, 4);
        final Rows tasks = new Rows(TASKS_ROOM, 3);
        final Rows signs = new Rows(SIGNS_ROOM, 3);
        final Rows dids = new Rows(DIDS_ROOM, 3);
        int floors;
        int fall;
        int morning;
        int heads;
        boolean paid;

        void clear() {
            sleepers.count = 0;
            steps.count = 0;
            knocks.count = 0;
            tasks.count = 0;
            signs.count = 0;
            dids.count = 0;
            quicks[0] = 1;
            floors = 0;
            fall = 0;
            morning = 0;
            heads = 0;
            paid = false;
        }

        void addRate(int rate) {
            if (floors < FLOORS_ROOM) {
                floors++;
                quicks[floors] = quicks[floors - 1] * rate;
            }
        }

        /** Puts the latest of all steps behind those of its sleeper. */
        void orderStep() {
            int s = steps.at(steps.count - 1, STEP_WHO);
            int nth = sleepers.at(s, S_STEPS);
            if (s >= 0 && s < SLEEPERS_ROOM && nth >= 0 && nth < STEPS_ROOM) {
                order[s * STEPS_ROOM + nth] = steps.count - 1;
                sleepers.putAt(s, S_STEPS, nth + 1);
            }
        }

        /** The row of a sleeper's n-th step; NONE if he has fewer. */
        int stepOf(int s, int nth) {
            boolean there = s >= 0 && s < SLEEPERS_ROOM && nth >= 0 && nth < sleepers.at(s, S_STEPS);
            return there && nth < STEPS_ROOM ? order[s * STEPS_ROOM + nth] : NONE;
        }

        int quickOf(int floor) {
            return floor < 0 || floor > floors ? 1 : quicks[floor];
        }

        int bottom() {
            return quickOf(floors);
        }

        /** How many ticks a minute of a FLOOR is. */
        int minuteOf(int floor) {
            return ratio(floor, floors);
        }

        /** By how much a lower FLOOR is quicker; whole, as its QUICK is that of the upper one times rates. */
        int ratio(int upper, int lower) {
            boolean there = upper >= 0 && upper <= floors && lower >= 0 && lower <= floors;
            return there && quicks[upper] > 0 ? quicks[lower] / quicks[upper] : 1;
        }

        long morningTick() {
            return (long) morning * bottom();
        }

        long knockTick(int k) {
            return (long) knocks.at(k, KNOCK_AT) * bottom();
        }

        long feltOn(int strong, int from, int to) {
            return (long) strong * ratio(from, to);
        }

        /** How many words of a letter come to a FLOOR above. */
        int shrunk(int words, int from, int to) {
            return (int) quotient(words, ratio(to, from));
        }

        /** The ticks of going down; none, if it isn't down. */
        long falling(int from, int to) {
            long sum = 0;
            for (int floor = from; floor < to; floor++) {
                sum += (long) fall * minuteOf(floor);
            }
            return sum;
        }

        /** The FLOOR of one behind a KNOCK that is in his HEAD on the FLOOR knocked. */
        int floorBehind(int s, int floor, int knocked, int strong) {
            if (floor <= knocked) {
                return floor;
            }
            int kind = sleepers.at(s, S_KIND);
            int deaf = sleepers.at(s, S_DEAF) * (kind == HEAVY ? 2 : 1);
            boolean tooFond = kind == FOND && floor >= floors;
            if (tooFond || strong * ratio(knocked, floor) < deaf) {
                return floor;
            }
            return Math.max(knocked, floor - (kind == LIGHT ? 2 : 1));
        }

        int deepOnes() {
            int bits = 0;
            for (int floor = 0; floor <= floors; floor++) {
                if (fitsSigns(floor)) {
                    bits |= 1 << floor;
                }
            }
            return bits;
        }

        private boolean fitsSigns(int floor) {
            for (int i = 0; i < signs.count; i++) {
                int sent = signs.at(i, SIGN_SENT);
                long got = signs.at(i, SIGN_CAME) == 1 ? shrunk(sent, floor, 0) : feltOn(sent, 0, floor);
                if (got != signs.at(i, SIGN_GOT)) {
                    return false;
                }
            }
            return true;
        }

        long gainOn(int s, int floor) {
            return floor < 1 || floor > floors ? 0 : (long) pay[floor] * quickOf(floor) - dreadOn(s, floor);
        }

        long dreadOn(int s, int floor) {
            return (long) sleepers.at(s, S_DREAD) * floor * floor;
        }
    }

    /** Where everybody is at one tick. */
    private static final class Night {
        final int[] floors = new int[SLEEPERS_ROOM];
        final int[] heads = new int[SLEEPERS_ROOM];
        final int[] done = new int[SLEEPERS_ROOM];
        /** By how many KNOCKS one was brought up. */
        final int[] roused = new int[SLEEPERS_ROOM];
        final long[] came = new long[SLEEPERS_ROOM];
        /** Ticks times QUICK, up to his latest coming. */
        private final long[] spent = new long[SLEEPERS_ROOM];
        long now;

        void begin(Dream dream) {
            now = 0;
            for (int s = 0; s < SLEEPERS_ROOM; s++) {
                floors[s] = 0;
                heads[s] = NOTHING;
                done[s] = 0;
                roused[s] = 0;
                came[s] = 0;
                spent[s] = 0;
            }
            takeDueSteps(dream);
        }

        void copyFrom(Night other) {
            now = other.now;
            for (int s = 0; s < SLEEPERS_ROOM; s++) {
                floors[s] = other.floors[s];
                heads[s] = other.heads[s];
                done[s] = other.done[s];
                roused[s] = other.roused[s];
                came[s] = other.came[s];
                spent[s] = other.spent[s];
            }
        }

        /** Each tick at which something comes uses up a step or a told knock. */
        void runTo(Dream dream, long tick) {
            for (int i = 0; i <= STEPS_ROOM + KNOCKS_ROOM; i++) {
                long next = nextChange(dream);
                if (next > tick) {
                    break;
                }
                now = next;
                hearToldKnocks(dream);
                takeDueSteps(dream);
            }
            now = tick;
        }

        /** The first tick behind now at which a step or a told knock comes; NEVER if none does. */
        long nextChange(Dream dream) {
            long next = NEVER;
            for (int s = 0; s < dream.sleepers.count; s++) {
                next = Math.min(next, dueTick(dream, s));
            }
            for (int k = 0; k < dream.knocks.count; k++) {
                long tick = dream.knockTick(k);
                if (tick > now) {
                    next = Math.min(next, tick);
                }
            }
            return next;
        }

        private long dueTick(Dream dream, int s) {
            int row = dream.stepOf(s, done[s]);
            return row < 0 ? NEVER : came[s] + (long) dream.steps.at(row, STEP_AFTER) * dream.minuteOf(floors[s]);
        }

        private void hearToldKnocks(Dream dream) {
            Rows knocks = dream.knocks;
            for (int k = 0; k < knocks.count; k++) {
                if (dream.knockTick(k) == now) {
                    hearKnock(dream, knocks.at(k, KNOCK_HEAD), knocks.at(k, KNOCK_FLOOR), knocks.at(k, KNOCK_STRONG));
                }
            }
        }

        /** Who comes up, as bits. */
        int hearKnock(Dream dream, int head, int knocked, int strong) {
            int bits = 0;
            for (int s = 0; s < dream.sleepers.count; s++) {
                int floor = heads[s] == head ? dream.floorBehind(s, floors[s], knocked, strong) : floors[s];
                if (floor != floors[s]) {
                    comeTo(dream, s, floor, head);
                    roused[s]++;
                    bits |= 1 << s;
                }
            }
            return bits;
        }

        void takeDueSteps(Dream dream) {
            for (int s = 0; s < dream.sleepers.count; s++) {
                for (int i = 0; i < STEPS_ROOM && dueTick(dream, s) <= now; i++) {
                    takeStep(dream, s);
                }
            }
        }

        private void takeStep(Dream dream, int s) {
            int head = dream.steps.at(dream.stepOf(s, done[s]), STEP_HEAD);
            done[s]++;
            comeTo(dream, s, head == UPWARDS ? floors[s] - 1 : floors[s] + 1, head);
        }

        /** He comes to a FLOOR, or stays where there is none such; the HEAD matters only if he has been awake. */
        void comeTo(Dream dream, int s, int floor, int head) {
            spent[s] += (now - came[s]) * dream.quickOf(floors[s]);
            came[s] = now;
            if (floors[s] == 0) {
                heads[s] = head;
            }
            floors[s] = Math.max(0, Math.min(floor, dream.floors));
            if (floors[s] == 0) {
                heads[s] = NOTHING;
            }
        }

        /** Ticks times QUICK. */
        long livedBy(Dream dream, int s) {
            return spent[s] + (now - came[s]) * dream.quickOf(floors[s]);
        }

        boolean haveMet(int s, int q) {
            return floors[s] > 0 && floors[s] == floors[q] && heads[s] == heads[q];
        }

        /** How many are where one is, himself too; 0 if he is awake. */
        int companyOf(Dream dream, int s) {
            int company = 0;
            for (int q = 0; q < dream.sleepers.count; q++) {
                if (haveMet(s, q)) {
                    company++;
                }
            }
            return company;
        }
    }

    /** Whole awake minutes from NOW on, in stretches in which nobody stirs. */
    private static final class Outlook {
        private static final int MOST_STRETCHES = STEPS_ROOM + KNOCKS_ROOM + 1;

        private final Night ahead = new Night();
        private long start;
        private int span;
        private int first;
        private int last;

        int firstMeeting(Dream dream, Night night, int s, int q, int t) {
            begin(dream, night, t);
            for (int i = 0; i < MOST_STRETCHES && first <= t; i++) {
                if (ahead.haveMet(s, q)) {
                    return first;
                }
                goOn(dream);
            }
            return NOTHING;
        }

        int firstAwake(Dream dream, Night night, int s, int t) {
            begin(dream, night, t);
            for (int i = 0; i < MOST_STRETCHES && first <= t; i++) {
                if (ahead.floors[s] == 0) {
                    return first;
                }
                goOn(dream);
            }
            return NOTHING;
        }

        int countLonely(Dream dream, Night night, int s, int t) {
            int minutes = 0;
            begin(dream, night, t);
            for (int i = 0; i < MOST_STRETCHES && first <= t; i++) {
                if (ahead.companyOf(dream, s) == 1) {
                    // NOW itself, minute 0, doesn't count.
                    minutes += last - Math.max(first, 1) + 1;
                }
                goOn(dream);
            }
            return minutes;
        }

        int mostTogether(Dream dream, Night night, int t) {
            int most = 0;
            begin(dream, night, t);
            for (int i = 0; i < MOST_STRETCHES && first <= t; i++) {
                for (int s = 0; s < dream.sleepers.count; s++) {
                    most = Math.max(most, ahead.companyOf(dream, s));
                }
                goOn(dream);
            }
            return most;
        }

        private void begin(Dream dream, Night night, int t) {
            ahead.copyFrom(night);
            start = night.now;
            span = t;
            first = 0;
            last = lastAlike(dream);
        }

        private void goOn(Dream dream) {
            first = last + 1;
            if (first <= span) {
                ahead.runTo(dream, start + (long) first * dream.bottom());
                last = lastAlike(dream);
            }
        }

        /** The last minute of the span ahead of the next change. */
        private int lastAlike(Dream dream) {
            long next = ahead.nextChange(dream);
            return next == NEVER ? span : (int) Math.min(span, quotient(next - start - 1, dream.bottom()));
        }
    }

    /** The best way to do all TASKS by morning. */
    private static final class Plan {
        final int[] chosen = new int[TASKS_ROOM];
        private final int[] tried = new int[TASKS_ROOM];
        boolean ready;
        boolean found;
        long risk;
        long ticks;
        long own;
        private long minutes;

        void make(Dream dream) {
            if (!ready) {
                ready = true;
                found = false;
                minutes = allMinutes(dream);
                choose(dream, 0, 0, 0, 0);
            }
        }

        /** Ways come in the order of TASKS, the highest FLOOR first, so that a later one must be better to be taken. */
        private void choose(Dream dream, int k, int lowest, long riskSoFar, long ticksSoFar) {
            if (ticksSoFar > dream.morningTick() || (found && riskSoFar > risk)) {
                return;
            }
            if (k >= dream.tasks.count || k >= TASKS_ROOM) {
                weigh(dream, lowest, riskSoFar, ticksSoFar + dream.falling(0, lowest));
                return;
            }
            int length = dream.tasks.at(k, TASK_MINUTES);
            int each = dream.tasks.at(k, TASK_RISK);
            for (int floor = dream.tasks.at(k, TASK_FLOOR); floor <= dream.floors; floor++) {
                tried[k] = floor;
                long spent = ticksSoFar + (long) length * dream.minuteOf(floor);
                choose(dream, k + 1, Math.max(lowest, floor), riskSoFar + (long) each * floor, spent);
            }
        }

        private void weigh(Dream dream, int lowest, long triedRisk, long triedTicks) {
            long triedOwn = (long) dream.fall * lowest + minutes;
            boolean better = !found || triedRisk < risk || (triedRisk == risk && triedOwn < own);
            if (triedTicks > dream.morningTick() || !better) {
                return;
            }
            found = true;
            risk = triedRisk;
            ticks = triedTicks;
            own = triedOwn;
            for (int k = 0; k < TASKS_ROOM; k++) {
                chosen[k] = tried[k];
            }
        }

        private static long allMinutes(Dream dream) {
            long sum = 0;
            for (int k = 0; k < dream.tasks.count; k++) {
                sum += dream.tasks.at(k, TASK_MINUTES);
            }
            return sum;
        }

        /** Minutes are shortest on the lowest FLOOR used, so the soonest way does all TASKS on one. */
        static long leastTicks(Dream dream) {
            int highest = 0;
            for (int k = 0; k < dream.tasks.count; k++) {
                highest = Math.max(highest, dream.tasks.at(k, TASK_FLOOR));
            }
            long least = NEVER;
            for (int floor = highest; floor <= dream.floors; floor++) {
                least = Math.min(least, dream.falling(0, floor) + allMinutes(dream) * dream.minuteOf(floor));
            }
            return least;
        }
    }

    /** KNOCKS by which some sleepers come awake together: the shortest row, found breadth first. */
    private static final class Rousing {
        /** Two bits for each sleeper who is still on a FLOOR of 1 .. 4. */
        private static final int STATES = 1 << 2 * SLEEPERS_ROOM;
        private static final int ALL_AWAKE = -1;
        private static final int SOME_AWAKE = -2;

        final int[] row = new int[SLEEPERS_ROOM * FLOORS_ROOM];
        private final int[] members = new int[SLEEPERS_ROOM];
        /** For each member, FLOOR and strength: the FLOOR behind such a KNOCK. */
        private final int[] floorsBehind = new int[SLEEPERS_ROOM * FLOORS_ROOM * (MOST_ROUSING + 1)];
        private final int[] queue = new int[STATES];
        private final int[] parents = new int[STATES];
        private final int[] strengths = new int[STATES];
        /** The number of the search that met a state last, so that nothing must be wiped between searches. */
        private final int[] metBy = new int[STATES];
        private int search;
        private int size;
        private int queued;

        /** How many KNOCKS, which stand in the row then; NOTHING if it can't be. */
        int seek(Dream dream, Night night, int set) {
            search++;
            queued = 0;
            enqueue(gather(night, set), NONE, 0);
            tryKnocks(dream);
            for (int at = 0; at < queued && at < STATES; at++) {
                // Weak ones first, so that of like rows the first by numbers is met first.
                for (int strong = 1; strong <= MOST_ROUSING; strong++) {
                    int next = behindKnock(queue[at], strong);
                    if (next == ALL_AWAKE) {
                        return trace(at, strong);
                    }
                    if (next != SOME_AWAKE) {
                        enqueue(next, at, strong);
                    }
                }
            }
            return NOTHING;
        }

        private int gather(Night night, int set) {
            int state = 0;
            size = 0;
            for (int s = 0; s < SLEEPERS_ROOM; s++) {
                if ((set >> s & 1) == 1) {
                    members[size] = s;
                    state |= (night.floors[s] - 1 & 3) << 2 * size;
                    size++;
                }
            }
            return state;
        }

        private void enqueue(int state, int parent, int strong) {
            if (state < 0 || state >= STATES || queued >= STATES || metBy[state] == search) {
                return;
            }
            metBy[state] = search;
            queue[queued] = state;
            parents[queued] = parent;
            strengths[queued] = strong;
            queued++;
        }

        private void tryKnocks(Dream dream) {
            for (int m = 0; m < size; m++) {
                for (int floor = 1; floor <= FLOORS_ROOM; floor++) {
                    for (int strong = 1; strong <= MOST_ROUSING; strong++) {
                        floorsBehind[place(m, floor, strong)] = dream.floorBehind(members[m], floor, 0, strong);
                    }
                }
            }
        }

        private static int place(int member, int floor, int strong) {
            return (member * FLOORS_ROOM + floor - 1) * (MOST_ROUSING + 1) + strong;
        }

        private int behindKnock(int state, int strong) {
            int next = 0;
            int awake = 0;
            for (int m = 0; m < size; m++) {
                int floor = floorsBehind[place(m, (state >> 2 * m & 3) + 1, strong)];
                if (floor == 0) {
                    awake++;
                } else {
                    next |= floor - 1 << 2 * m;
                }
            }
            if (awake == size) {
                return ALL_AWAKE;
            }
            return awake > 0 ? SOME_AWAKE : next;
        }

        private int trace(int at, int lastStrong) {
            int length = 1;
            for (int i = at; i > 0 && length < row.length; i = parents[i]) {
                length++;
            }
            row[length - 1] = lastStrong;
            int i = at;
            for (int k = length - 2; k >= 0 && i > 0; k--) {
                row[k] = strengths[i];
                i = parents[i];
            }
            return length;
        }
    }

    /** RATES by which each did is so. */
    private static final class Fitting {
        private static final int ANY = 0;
        private static final int IMPOSSIBLE = -1;

        boolean ready;
        int rows;
        /** Of each FLOOR the rates in rows that fit, as bits. */
        private final int[] ratesSeen = new int[FLOORS_ROOM + 1];
        /** Of each FLOOR the QUICK by which its dids are so. */
        private final int[] needed = new int[FLOORS_ROOM + 1];

        void make(Dream dream) {
            if (ready) {
                return;
            }
            ready = true;
            for (int floor = 0; floor <= FLOORS_ROOM; floor++) {
                ratesSeen[floor] = 0;
                needed[floor] = ANY;
            }
            for (int i = 0; i < dream.dids.count; i++) {
                need(dream.dids.at(i, DID_FLOOR), dream.dids.at(i, DID_DONE), dream.dids.at(i, DID_AWAKE));
            }
            rows = countFrom(dream, 1, 1);
        }

        private void need(int floor, int amount, int minutes) {
            if (floor < 1 || floor > FLOORS_ROOM) {
                return;
            }
            int quick = (int) quotient(amount, minutes);
            boolean whole = quick * minutes == amount;
            boolean same = needed[floor] == ANY || needed[floor] == quick;
            needed[floor] = whole && same ? quick : IMPOSSIBLE;
        }

        /** How many rows fit from a FLOOR on, below one with that QUICK. */
        private int countFrom(Dream dream, int floor, int quickAbove) {
            if (floor > dream.floors || floor > FLOORS_ROOM) {
                return 1;
            }
            int sum = 0;
            for (int rate = LEAST_RATE; rate <= MOST_RATE; rate++) {
                int quick = quickAbove * rate;
                boolean fits = needed[floor] == ANY || needed[floor] == quick;
                int below = fits ? countFrom(dream, floor + 1, quick) : 0;
                if (below > 0) {
                    ratesSeen[floor] |= 1 << rate;
                    sum += below;
                }
            }
            return sum;
        }

        /** NOTHING if several rates fit, or none. */
        int onlyRate(int floor) {
            if (floor < 1 || floor > FLOORS_ROOM) {
                return NOTHING;
            }
            for (int rate = LEAST_RATE; rate <= MOST_RATE; rate++) {
                if (ratesSeen[floor] == 1 << rate) {
                    return rate;
                }
            }
            return NOTHING;
        }
    }

    /** Reads the text of a DREAM from the left, up to its first FAULT. */
    private static final class Reader {
        private static final int FORM = 1;
        private static final int UNTOLD = 2;
        private static final int TWICE = 3;
        private static final int BOUNDS = 4;
        private static final int MANY = 5;
        private static final int LACKS = 6;

        // Kinds of tokens.
        private static final int BAD = 0;
        private static final int WORD = 1;
        private static final int WHOLE = 2;
        private static final int SEMICOLON = 3;
        private static final int COMMA = 4;
        private static final int END = 5;

        private static final int HEAD = 0;
        private static final int SLEEPER = 1;
        private static final int TASK = 2;
        private static final int NAMES_ROOM = HEADS_ROOM + SLEEPERS_ROOM + TASKS_ROOM;

        /** Names have 8 letters at most: a long holds one. */
        private final long[] names = new long[NAMES_ROOM];
        private final int[] sorts = new int[NAMES_ROOM];
        private final int[] numbers = new int[NAMES_ROOM];
        private int nameCount;
        private byte[] text;
        private int end;
        private Dream dream;
        private int fault;
        /** Of the token that is looked at: where it begins, where it ends, and what it is. */
        int place;
        private int behind;
        private int kind;
        private int number;
        private long name;

        /** The FAULT, whose place stands in place then; 0 without one. */
        int read(byte[] bytes, int length, Dream into) {
            text = bytes;
            end = Math.min(length, bytes.length);
            dream = into;
            dream.clear();
            nameCount = 0;
            fault = 0;
            behind = 0;
            next();
            for (int i = 0; i <= end && readLine(); i++) {
                if (kind == END) {
                    return dream.heads == 0 || dream.sleepers.count == 0 ? LACKS : 0;
                }
                if (kind != SEMICOLON) {
                    return FORM;
                }
                next();
            }
            return fault;
        }

        private boolean readLine() {
            if (!isLineWord()) {
                return fail(FORM);
            }
            if (spells("dream")) {
                return readDream();
            }
            if (dream.floors == 0) {
                return fail(LACKS);
            }
            if (spells("head")) {
                return readHead();
            }
            if (spells("sleeper")) {
                return addRow(dream.sleepers) && readSleeper();
            }
            if (spells("down")) {
                return addRow(dream.steps) && readDown() && readAfter();
            }
            if (spells("up")) {
                return addRow(dream.steps) && readUp() && readAfter();
            }
            if (spells("knock")) {
                return addRow(dream.knocks) && readKnock();
            }
            if (spells("task")) {
                return addRow(dream.tasks) && readTask();
            }
            if (spells("pays")) {
                return readPays();
            }
            if (spells("thinks")) {
                return readThinks();
            }
            if (spells("felt")) {
                return addRow(dream.signs) && readFelt();
            }
            if (spells("came")) {
                return addRow(dream.signs) && readCame();
            }
            return addRow(dream.dids) && readDid();
        }

        private boolean isLineWord() {
            return spells("dream") || spells("head") || spells("sleeper") || spells("down") || spells("up")
                || spells("knock") || spells("task") || spells("pays") || spells("thinks") || spells("felt")
                || spells("came") || spells("did");
        }

        /** A row for the line whose first word is looked at. */
        private boolean addRow(Rows rows) {
            if (rows.isFull()) {
                return fail(MANY);
            }
            rows.add();
            next();
            return true;
        }

        private boolean readDream() {
            if (dream.floors > 0) {
                return fail(TWICE);
            }
            next();
            if (!word("rates") || !readRates() || !word("fall") || !isWhole(0, 60)) {
                return false;
            }
            dream.fall = number;
            next();
            if (!word("morning") || !isWhole(1, 600)) {
                return false;
            }
            dream.morning = number;
            next();
            return true;
        }

        private boolean readRates() {
            for (int i = 0; i <= FLOORS_ROOM; i++) {
                if (!isWhole(LEAST_RATE, MOST_RATE)) {
                    return false;
                }
                if (i == FLOORS_ROOM) {
                    return fail(MANY);
                }
                dream.addRate(number);
                next();
                if (kind != COMMA) {
                    return true;
                }
                next();
            }
            return true;
        }

        private boolean readPays() {
            if (dream.paid) {
                return fail(TWICE);
            }
            dream.paid = true;
            next();
            for (int floor = 1; floor <= FLOORS_ROOM + 1; floor++) {
                if (!isWhole(0, 999)) {
                    return false;
                }
                if (floor > dream.floors) {
                    return fail(MANY);
                }
                dream.pay[floor] = number;
                next();
                if (kind != COMMA) {
                    boolean over = kind == SEMICOLON || kind == END;
                    return !over || floor == dream.floors || fail(LACKS);
                }
                next();
            }
            return true;
        }

        private boolean readThinks() {
            next();
            if (!isTold(SLEEPER)) {
                return false;
            }
            int s = number;
            if (dream.sleepers.at(s, S_THINKS) != NOTHING) {
                return fail(TWICE);
            }
            next();
            if (!isWhole(0, 4)) {
                return false;
            }
            dream.sleepers.putAt(s, S_THINKS, number);
            next();
            return true;
        }

        private boolean readHead() {
            if (dream.heads >= HEADS_ROOM) {
                return fail(MANY);
            }
            next();
            dream.heads++;
            return newName(HEAD, dream.heads - 1);
        }

        private boolean readSleeper() {
            Rows rows = dream.sleepers;
            rows.put(S_THINKS, NOTHING);
            return newName(SLEEPER, rows.count - 1) && readKind(rows)
                && word("deaf") && isWhole(1, 9999) && take(rows, S_DEAF)
                && word("dread") && isWhole(0, 999) && take(rows, S_DREAD)
                && word("chance") && isWhole(0, 100) && take(rows, S_CHANCE);
        }

        private boolean readKind(Rows rows) {
            if (spells("plain")) {
                rows.put(S_KIND, PLAIN);
            } else if (spells("light")) {
                rows.put(S_KIND, LIGHT);
            } else if (spells("heavy")) {
                rows.put(S_KIND, HEAVY);
            } else if (spells("fond")) {
                rows.put(S_KIND, FOND);
            } else {
                return fail(FORM);
            }
            next();
            return true;
        }

        private boolean readDown() {
            Rows rows = dream.steps;
            return isTold(SLEEPER) && take(rows, STEP_WHO) && isTold(HEAD) && take(rows, STEP_HEAD);
        }

        private boolean readUp() {
            dream.steps.put(STEP_HEAD, UPWARDS);
            return isTold(SLEEPER) && take(dream.steps, STEP_WHO);
        }

        private boolean readAfter() {
            if (!word("after") || !isWhole(0, 999) || !take(dream.steps, STEP_AFTER)) {
                return false;
            }
            dream.orderStep();
            return true;
        }

        private boolean readKnock() {
            Rows rows = dream.knocks;
            return isTold(HEAD) && take(rows, KNOCK_HEAD)
                && word("floor") && isWhole(0, dream.floors - 1) && take(rows, KNOCK_FLOOR)
                && word("at") && isWhole(0, dream.morning) && take(rows, KNOCK_AT)
                && word("strong") && isWhole(1, MOST_STRONG) && take(rows, KNOCK_STRONG);
        }

        private boolean readTask() {
            Rows rows = dream.tasks;
            return newName(TASK, rows.count - 1)
                && word("floor") && isWhole(0, dream.floors) && take(rows, TASK_FLOOR)
                && word("minutes") && isWhole(1, 999) && take(rows, TASK_MINUTES)
                && word("risk") && isWhole(0, 99) && take(rows, TASK_RISK);
        }

        private boolean readFelt() {
            Rows rows = dream.signs;
            rows.put(SIGN_CAME, 0);
            return isWhole(1, MOST_STRONG) && take(rows, SIGN_SENT) && isWhole(1, 9999) && take(rows, SIGN_GOT);
        }

        private boolean readCame() {
            Rows rows = dream.signs;
            rows.put(SIGN_CAME, 1);
            return isWhole(1, MOST_WORDS) && take(rows, SIGN_SENT) && isWhole(0, 9999) && take(rows, SIGN_GOT);
        }

        private boolean readDid() {
            Rows rows = dream.dids;
            return isWhole(1, 9999) && take(rows, DID_DONE)
                && word("floor") && isWhole(1, dream.floors) && take(rows, DID_FLOOR)
                && word("awake") && isWhole(1, 999) && take(rows, DID_AWAKE);
        }

        // ---- what may stand in a line; what is read is left behind

        private boolean word(String wanted) {
            if (!spells(wanted)) {
                return fail(FORM);
            }
            next();
            return true;
        }

        /** The number of the whole, or of the told name, that is looked at goes into the latest row. */
        private boolean take(Rows rows, int column) {
            rows.put(column, number);
            next();
            return true;
        }

        private boolean newName(int sort, int which) {
            if (kind != WORD || isLineWord()) {
                return fail(FORM);
            }
            if (nameIndex() >= 0) {
                return fail(TWICE);
            }
            if (nameCount < NAMES_ROOM) {
                names[nameCount] = name;
                sorts[nameCount] = sort;
                numbers[nameCount] = which;
                nameCount++;
            }
            next();
            return true;
        }

        // ---- the token that is looked at

        /** Whether a name of that sort is looked at; which one stands in number then. */
        private boolean isTold(int sort) {
            if (kind != WORD || isLineWord()) {
                return fail(FORM);
            }
            int index = nameIndex();
            if (index < 0 || sorts[index] != sort) {
                return fail(UNTOLD);
            }
            number = numbers[index];
            return true;
        }

        private int nameIndex() {
            for (int i = 0; i < nameCount && i < NAMES_ROOM; i++) {
                if (names[i] == name) {
                    return i;
                }
            }
            return NONE;
        }

        private boolean isWhole(int least, int most) {
            if (kind != WHOLE) {
                return fail(FORM);
            }
            return (number >= least && number <= most) || fail(BOUNDS);
        }

        private boolean spells(String wanted) {
            if (kind != WORD) {
                return false;
            }
            long spelt = 0;
            for (int i = 0; i < wanted.length(); i++) {
                spelt = spelt << 8 | wanted.charAt(i);
            }
            return spelt == name;
        }

        private boolean fail(int why) {
            fault = why;
            return false;
        }

        private void next() {
            place = behind;
            for (int i = place; i < end && byteAt(i) == ' '; i++) {
                place = i + 1;
            }
            int first = byteAt(place);
            behind = place + 1;
            if (first < 0) {
                kind = END;
                behind = end;
            } else if (first == ';') {
                kind = SEMICOLON;
            } else if (first == ',') {
                kind = COMMA;
            } else if (isLetter(first)) {
                nextWord();
            } else if (isDigit(first)) {
                nextWhole();
            } else {
                kind = BAD;
            }
        }

        private void nextWord() {
            name = 0;
            behind = place;
            for (int i = place; i < end && isLetter(byteAt(i)); i++) {
                name = name << 8 | byteAt(i);
                behind = i + 1;
            }
            kind = behind - place <= 8 ? WORD : BAD;
        }

        private void nextWhole() {
            number = 0;
            behind = place;
            for (int i = place; i < end && isDigit(byteAt(i)); i++) {
                number = number * 10 + byteAt(i) - '0';
                behind = i + 1;
            }
            kind = behind - place <= 4 ? WHOLE : BAD;
        }

        private static boolean isLetter(int sign) {
            return sign >= 'a' && sign <= 'z';
        }

        private static boolean isDigit(int sign) {
            return sign >= '0' && sign <= '9';
        }

        /** NONE behind the end. */
        private int byteAt(int i) {
            return i < 0 || i >= end || text == null || i >= text.length ? NONE : text[i] & 255;
        }
    }
}
