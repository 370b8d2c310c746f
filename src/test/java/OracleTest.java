import java.math.BigInteger;
import java.util.ArrayList;
import java.util.HashMap;
import java.util.List;
import java.util.Map;
import java.util.NoSuchElementException;
import java.util.Random;

/** Compares answers with those of plain ways to find them, on DREAMS made by chance from written seeds. */
public final class OracleTest {
    private static final Checks CHECKS = new Checks();

    private final Random r;
    private final Spec spec;
    private final AsleepInside x;
    private final String at;
    private PlainNight night;
    private final List<PlainNight> acts = new ArrayList<>();
    private final List<PlainNight> images = new ArrayList<>();

    private OracleTest(int seed, boolean deep) {
        r = new Random(seed);
        spec = deep ? Spec.deepSleep(r) : Spec.chance(r);
        String text = spec.text();
        x = new AsleepInside();
        at = "seed " + seed + ": " + text + ": ";
        night = new PlainNight(spec);
        if (text.length() <= 1000) {
            due("dream", Checks.tell(x, text), spec.sleepers);
        }
    }

    public static void main(String[] args) {
        int seeds = args.length > 0 ? Integer.parseInt(args[0]) : 300;
        int told = 0;
        for (int seed = 1; seed <= seeds; seed++) {
            OracleTest one = new OracleTest(seed, false);
            if (one.x.size(4) > 0) {
                told++;
                one.go();
            }
        }
        for (int seed = 1; seed <= 40; seed++) {
            OracleTest one = new OracleTest(seed, true);
            one.together();
            one.act();
            one.together();
        }
        CHECKS.due("few of the texts are too long", told > seeds / 2, true);
        CHECKS.end();
    }

    private void due(String what, long got, long want) {
        CHECKS.due(at + what, got, want);
    }

    private void go() {
        tasks();
        wages();
        rates();
        signs();
        letters();
        chances();
        lookNow();
        for (int i = 0; i < 14; i++) {
            act();
            lookNow();
            if (i % 4 == 0) {
                lookAhead();
                meetings();
                together();
            }
        }
    }

    // ---- acts

    private void act() {
        int s = r.nextInt(spec.sleepers);
        int h = r.nextInt(spec.heads);
        PlainNight before = night.copy();
        switch (r.nextInt(9)) {
            case 0:
            case 1:
            case 2:
                actPass();
                break;
            case 3:
            case 4:
                boolean low = night.floor[s] == spec.floors() || (night.floor[s] > 0 && night.head[s] != h);
                int laid = x.lie(s, h);
                if (!low) {
                    acts.add(before);
                    night.down(s, h);
                    night.steps();
                }
                due("lie", laid, low ? -1 : night.floor[s]);
                due("lie's trouble", x.trouble(), low ? 5 : 0);
                break;
            case 5:
                boolean awake = night.floor[s] == 0;
                int woke = x.wake(s);
                if (!awake) {
                    acts.add(before);
                    night.up(s);
                    night.steps();
                }
                due("wake", woke, awake ? -1 : night.floor[s]);
                due("wake's trouble", x.trouble(), awake ? 5 : 0);
                break;
            case 6:
                int on = r.nextInt(spec.floors());
                int strong = 1 + r.nextInt(99);
                acts.add(before);
                due("knock", x.knock(h, on, strong), night.knock(h, on, strong));
                night.steps();
                break;
            case 7:
                due("undo", x.undo() ? 1 : 0, acts.isEmpty() ? 0 : 1);
                if (!acts.isEmpty()) {
                    night = acts.remove(acts.size() - 1);
                }
                break;
            default:
                actImage();
        }
        while (acts.size() > 12) {
            acts.remove(0);
        }
    }

    private void actPass() {
        int floor = r.nextInt(spec.floors() + 1);
        int n = 1 + r.nextInt(r.nextInt(20) == 0 ? 999 : 12);
        long ticks = (long) n * (spec.bottom() / spec.quick(floor));
        boolean late = night.now + ticks > 1200L * spec.bottom();
        int clock = x.pass(floor, n);
        if (!late) {
            acts.add(night.copy());
            night.ticks(ticks);
        }
        due("pass", clock, late ? -1 : night.now / spec.bottom());
        due("pass's trouble", x.trouble(), late ? 3 : 0);
    }

    private void actImage() {
        if (r.nextBoolean()) {
            due("image", x.image(), images.size() < 3 ? images.size() : -1);
            if (images.size() < 3) {
                images.add(night.copy());
            }
        } else {
            int i = r.nextInt(3);
            due("back", x.back(i) ? 1 : 0, i < images.size() ? 1 : 0);
            if (i < images.size()) {
                night = images.get(i).copy();
                acts.clear();
            }
        }
    }

    // ---- where they are

    private void lookNow() {
        due("ticks", x.ticks(), night.now);
        due("acts kept", x.size(10), acts.size());
        due("images", x.size(11), images.size());
        for (int f = 0; f <= spec.floors(); f++) {
            due("clock", x.clock(f), night.now * spec.quick(f) / spec.bottom());
        }
        int off = -2;
        int before = 0;
        for (int s = 0; s < spec.sleepers; s++) {
            due("floor", x.sleeper(s, 0), night.floor[s]);
            due("head", x.sleeper(s, 1), night.head[s]);
            due("done", x.sleeper(s, 2), night.done[s]);
            due("since", x.sleeper(s, 3), (night.now - night.came[s]) * spec.quick(night.floor[s]) / spec.bottom());
            due("thinks", x.sleeper(s, 6), spec.thinks[s] < 0 ? -2 : spec.thinks[s]);
            if (off == -2 && spec.thinks[s] >= 0 && spec.thinks[s] != night.floor[s]) {
                off = s;
            }
            if (night.floor[s] > 0) {
                due("led", x.led(before++), s);
            }
            lived(s);
            for (int q = 0; q < spec.sleepers; q++) {
                due("meet", x.meet(s, q), s == q ? -1 : night.meet(s, q) ? 1 : 0);
            }
        }
        due("off", x.off(), off);
        boolean thrown = false;
        try {
            x.led(before);
        } catch (NoSuchElementException e) {
            thrown = true;
        }
        due("led throws", thrown ? 1 : 0, 1);
    }

    private void lived(int s) {
        long sum = 0;
        for (int f = 0; f <= spec.floors(); f++) {
            sum += night.ticksOn[s][f] * spec.quick(f);
        }
        fraction("lived", x.lived(s, false), x.lived(s, true), BigInteger.valueOf(sum), BigInteger.valueOf(spec.bottom()));
    }

    private void fraction(String what, long upper, long lower, BigInteger wantUpper, BigInteger wantLower) {
        BigInteger common = wantUpper.gcd(wantLower);
        due(what + " upper", upper, wantUpper.divide(common).longValueExact());
        due(what + " lower", lower, wantLower.divide(common).longValueExact());
    }

    private void lookAhead() {
        int t = r.nextInt(r.nextInt(10) == 0 ? 601 : 40);
        PlainNight later = night.copy();
        int n = spec.sleepers;
        int[][] firstMeet = new int[n][n];
        int[] firstAwake = new int[n];
        int[] lonely = new int[n];
        int crowd = 0;
        for (int s = 0; s < n; s++) {
            firstAwake[s] = -2;
            java.util.Arrays.fill(firstMeet[s], -2);
        }
        for (int minute = 0; minute <= t; minute++) {
            for (int s = 0; s < n; s++) {
                int met = 0;
                for (int q = 0; q < n; q++) {
                    if (s != q && later.meet(s, q)) {
                        met++;
                        firstMeet[s][q] = firstMeet[s][q] == -2 ? minute : firstMeet[s][q];
                    }
                }
                crowd = Math.max(crowd, later.floor[s] > 0 ? met + 1 : 0);
                lonely[s] += minute > 0 && later.floor[s] > 0 && met == 0 ? 1 : 0;
                firstAwake[s] = firstAwake[s] == -2 && later.floor[s] == 0 ? minute : firstAwake[s];
            }
            if (minute < t) {
                later.ticks(spec.bottom());
            }
        }
        due("crowd " + t, x.crowd(t), crowd);
        for (int s = 0; s < n; s++) {
            due("floorIn " + t, x.floorIn(s, t), later.floor[s]);
            due("headIn " + t, x.headIn(s, t), later.head[s]);
            due("woken " + t, x.woken(s, t), later.roused[s] - night.roused[s]);
            due("awakeIn " + t, x.awakeIn(s, t), firstAwake[s]);
            due("lonely " + t, x.lonely(s, t), lonely[s]);
            for (int q = 0; q < n; q++) {
                due("meetsIn " + t, x.meetsIn(s, q, t), s == q ? -1 : firstMeet[s][q]);
            }
        }
        left();
    }

    private void left() {
        PlainNight morning = night.copy();
        morning.ticks(Math.max(0, (long) spec.morning * spec.bottom() - night.now));
        int bits = 0;
        for (int s = 0; s < spec.sleepers; s++) {
            bits |= morning.floor[s] > 0 ? 1 << s : 0;
        }
        due("left", x.left(), bits);
    }

    // ---- tasks

    private void tasks() {
        int n = spec.tasks.size();
        int ways = 1;
        for (int i = 0; i < n; i++) {
            ways *= spec.floors() + 1;
        }
        long soonest = Long.MAX_VALUE;
        long[] best = null;
        int[] bestWay = null;
        for (int w = 0; w < ways; w++) {
            int[] way = new int[n];
            int rest = w;
            for (int k = n - 1; k >= 0; k--) {
                way[k] = rest % (spec.floors() + 1);
                rest /= spec.floors() + 1;
            }
            long[] it = weigh(way);
            if (it == null) {
                continue;
            }
            soonest = Math.min(soonest, it[1]);
            boolean inTime = it[1] <= (long) spec.morning * spec.bottom();
            if (inTime && (best == null || it[0] < best[0] || (it[0] == best[0] && it[2] < best[2]))) {
                best = it;
                bestWay = way;
            }
        }
        due("soonest", x.soonest(), soonest);
        for (int what = 0; what < 3; what++) {
            due("best " + what, x.best(what), best == null ? -2 : best[what]);
        }
        for (int k = 0; k < n; k++) {
            due("task " + k, x.task(k), best == null ? -2 : bestWay[k]);
        }
        due("task " + n, x.task(n), -1);
    }

    private long[] weigh(int[] way) {
        long risk = 0;
        long time = 0;
        long own = 0;
        int lowest = 0;
        for (int k = 0; k < way.length; k++) {
            int[] t = spec.tasks.get(k);
            if (way[k] < t[0]) {
                return null;
            }
            lowest = Math.max(lowest, way[k]);
            risk += t[2] * way[k];
            own += t[1];
            time += t[1] * (long) (spec.bottom() / spec.quick(way[k]));
        }
        for (int f = 0; f < lowest; f++) {
            own += spec.fall;
            time += spec.fall * (long) (spec.bottom() / spec.quick(f));
        }
        return new long[] {risk, time, own};
    }

    // ---- together

    private void together() {
        for (int set = 1; set < 1 << spec.sleepers; set++) {
            List<Integer> floors = new ArrayList<>();
            List<Integer> who = new ArrayList<>();
            boolean fit = true;
            for (int s = 0; s < spec.sleepers; s++) {
                if ((set >> s & 1) == 1) {
                    fit &= night.floor[s] > 0 && (who.isEmpty() || night.head[who.get(0)] == night.head[s]);
                    who.add(s);
                    floors.add(night.floor[s]);
                }
            }
            if (!fit) {
                due("together " + set, x.together(set), -1);
                due("together's trouble", x.trouble(), 5);
                continue;
            }
            List<Integer> row = shortest(who, floors, new HashMap<>());
            due("together " + set, x.together(set), row == null ? -2 : row.size());
            for (int i = 0; row != null && i < row.size(); i++) {
                due("togetherAt " + set, x.togetherAt(set, i), row.get(i));
            }
            due("togetherAt behind", x.togetherAt(set, row == null ? 0 : row.size()), -1);
        }
    }

    /** The shortest row, of like ones the first by numbers; null if there is none. */
    private List<Integer> shortest(List<Integer> who, List<Integer> floors, Map<List<Integer>, List<Integer>> known) {
        if (known.containsKey(floors)) {
            return known.get(floors);
        }
        List<Integer> best = null;
        for (int strong = 1; strong <= 9; strong++) {
            List<Integer> next = new ArrayList<>();
            int awake = 0;
            for (int i = 0; i < who.size(); i++) {
                next.add(PlainNight.behind(spec, who.get(i), floors.get(i), 0, strong));
                awake += next.get(i) == 0 ? 1 : 0;
            }
            if (next.equals(floors) || (awake > 0 && awake < who.size())) {
                continue;
            }
            List<Integer> rest = awake > 0 ? new ArrayList<>() : shortest(who, next, known);
            if (rest != null && (best == null || rest.size() + 1 < best.size())) {
                best = new ArrayList<>();
                best.add(strong);
                best.addAll(rest);
            }
        }
        known.put(floors, best);
        return best;
    }

    // ---- how deep

    private void signs() {
        int bits = 0;
        List<Integer> deep = new ArrayList<>();
        for (int f = 0; f <= spec.floors(); f++) {
            boolean fits = true;
            for (int[] sign : spec.signs) {
                int got = sign[0] == 1 ? sign[1] / spec.quick(f) : sign[1] * spec.quick(f);
                fits &= got == sign[2];
            }
            if (fits) {
                bits += 1 << f;
                deep.add(f);
            }
        }
        due("deep", x.deep(), bits);
        int fewest = Integer.MAX_VALUE;
        int words = -1;
        for (int n = 1; n <= 9999 && deep.size() >= 2; n++) {
            Map<Integer, Integer> answers = new HashMap<>();
            int most = 0;
            for (int f : deep) {
                most = Math.max(most, answers.merge(n / spec.quick(f), 1, Integer::sum));
            }
            if (most < fewest) {
                fewest = most;
                words = n;
            }
        }
        due("ask", x.ask(), words);
        due("ask's trouble", x.trouble(), words < 0 ? 6 : 0);
        due("askMost", x.askMost(), words < 0 ? -1 : fewest);
    }

    private void letters() {
        for (int from = 0; from <= spec.floors(); from++) {
            for (int to = 0; to <= spec.floors(); to++) {
                int n = r.nextInt(r.nextBoolean() ? 100 : 10000);
                int k = 2 + r.nextInt(25);
                boolean above = to < from;
                int come = n / (above ? spec.quick(from) / spec.quick(to) : 1);
                due("letter", x.letter(from, to, n), above ? come : -1);
                due("tells", x.tells(from, to, n, k), above ? capped(k, come) : -1);
                int m = 1 + r.nextInt(r.nextBoolean() ? 40 : 1_000_000);
                int words = 0;
                while (above && capped(k, words / (spec.quick(from) / spec.quick(to))) < m) {
                    words++;
                }
                due("words", x.words(from, to, m, k), above ? words : -1);
                int strong = 1 + r.nextInt(99);
                due("felt", x.felt(strong, from, to), to > from ? strong * spec.quick(to) / spec.quick(from) : -1);
                fraction("minutes", x.minutes(from, to, n, false), x.minutes(from, to, n, true),
                    BigInteger.valueOf((long) n * spec.quick(to)), BigInteger.valueOf(spec.quick(from)));
            }
        }
    }

    private static int capped(int k, int power) {
        double product = Math.pow(k, power);
        return product >= 1_000_000 ? 1_000_000 : (int) Math.round(product);
    }

    // ---- meetings, wages

    private void meetings() {
        for (int s = 0; s < spec.sleepers; s++) {
            for (int q = 0; q < spec.sleepers; q++) {
                for (int f = 1; f <= spec.floors() && s != q; f++) {
                    long least = Long.MAX_VALUE;
                    int head = -1;
                    for (int h = 0; h < spec.heads; h++) {
                        long both = Math.max(way(s, h, f), way(q, h, f));
                        if (both < least) {
                            least = both;
                            head = h;
                        }
                    }
                    due("meeting", x.meeting(s, q, f), least);
                    due("meetingHead", x.meetingHead(s, q, f), head);
                }
            }
        }
    }

    private long way(int s, int h, int f) {
        int from = night.floor[s] > 0 && night.head[s] == h ? night.floor[s] : 0;
        long ticks = 0;
        while (from < f) {
            ticks += (long) spec.fall * (spec.bottom() / spec.quick(from));
            from++;
        }
        return ticks;
    }

    private void wages() {
        for (int s = 0; s < spec.sleepers; s++) {
            int taken = spec.pays == null ? -1 : taken(s, spec.pays);
            due("takes", x.takes(s), taken);
            due("gains", x.gains(s), spec.pays == null ? -1 : gain(s, spec.pays, taken));
            for (int f = 1; f <= spec.floors(); f++) {
                int price = -2;
                int enough = -2;
                int[] pays = spec.pays == null ? new int[spec.floors()] : spec.pays.clone();
                for (int p = 0; p <= 99_999 && (price < 0 || enough < 0); p++) {
                    pays[f - 1] = p;
                    price = price < 0 && taken(s, pays) == f ? p : price;
                    enough = enough < 0 && gain(s, pays, f) > 0 ? p : enough;
                }
                due("price", x.price(s, f), spec.pays == null ? -1 : price);
                due("enough", x.enough(s, f), enough);
            }
        }
    }

    private int taken(int s, int[] pays) {
        int best = 0;
        for (int f = 0; f <= spec.floors(); f++) {
            best = gain(s, pays, f) > gain(s, pays, best) ? f : best;
        }
        return best;
    }

    private long gain(int s, int[] pays, int f) {
        return f == 0 ? 0 : (long) pays[f - 1] * spec.quick(f) - spec.dread[s] * f * f;
    }

    // ---- rates, chances

    private void rates() {
        int rows = 1;
        for (int f = 0; f < spec.floors(); f++) {
            rows *= 11;
        }
        int fit = 0;
        int[] only = {0, 0, 0, 0, 0};
        for (int w = 0; w < rows; w++) {
            int[] quick = {1, 0, 0, 0, 0};
            int rest = w;
            for (int f = 1; f <= spec.floors(); f++) {
                quick[f] = quick[f - 1] * (2 + rest % 11);
                rest /= 11;
            }
            boolean all = true;
            for (int[] did : spec.dids) {
                all &= did[2] * quick[did[1]] == did[0];
            }
            if (all) {
                fit++;
                for (int f = 1; f <= spec.floors(); f++) {
                    int rate = quick[f] / quick[f - 1];
                    only[f] = only[f] == 0 || only[f] == rate ? rate : -2;
                }
            }
        }
        due("rates", x.rates(), fit);
        for (int f = 1; f <= spec.floors(); f++) {
            due("rate", x.rate(f), only[f] == 0 ? -2 : only[f]);
        }
    }

    private void chances() {
        for (int s = 0; s < spec.sleepers; s++) {
            for (int f = 0; f <= spec.floors(); f++) {
                int n = r.nextInt(9);
                BigInteger likely = BigInteger.ZERO;
                for (int outcome = 0; outcome < 1 << n; outcome++) {
                    int ups = Integer.bitCount(outcome);
                    if (ups >= f) {
                        likely = likely.add(BigInteger.valueOf(spec.chance[s]).pow(ups)
                            .multiply(BigInteger.valueOf(100 - spec.chance[s]).pow(n - ups)));
                    }
                }
                fraction("waking", x.waking(s, f, n, false), x.waking(s, f, n, true), likely, BigInteger.valueOf(100).pow(n));
                if (spec.chance[s] == 0 && f > 0) {
                    due("mean", x.mean(s, f, false), -2);
                    due("mean", x.mean(s, f, true), -2);
                } else {
                    fraction("mean", x.mean(s, f, false), x.mean(s, f, true), BigInteger.valueOf(100L * f),
                        BigInteger.valueOf(f == 0 ? 1 : spec.chance[s]));
                }
            }
        }
    }
}
