import java.util.ArrayList;
import java.util.List;
import java.util.Random;

/** A DREAM by its numbers, made by chance from a seed, with its text. */
final class Spec {
    static final String[] KINDS = {"plain", "light", "heavy", "fond"};

    int[] rates;
    int fall;
    int morning;
    int heads;
    int sleepers;
    int[] kind;
    int[] deaf;
    int[] dread;
    int[] chance;
    int[] thinks;
    final List<int[]> steps = new ArrayList<>();
    final List<int[]> knocks = new ArrayList<>();
    final List<int[]> tasks = new ArrayList<>();
    int[] pays;
    final List<int[]> signs = new ArrayList<>();
    final List<int[]> dids = new ArrayList<>();

    static Spec chance(Random r) {
        Spec spec = new Spec();
        int floors = 1 + r.nextInt(4);
        spec.rates = new int[floors];
        int most = r.nextInt(10) == 0 ? 5 : r.nextBoolean() ? 2 : 3;
        for (int i = 0; i < floors; i++) {
            spec.rates[i] = 2 + r.nextInt(most - 1);
        }
        spec.fall = r.nextInt(3) == 0 ? 0 : r.nextInt(61);
        spec.morning = 1 + r.nextInt(r.nextInt(8) == 0 ? 600 : 40);
        spec.heads = 1 + r.nextInt(3);
        spec.sleepers = 1 + r.nextInt(5);
        spec.addSleepers(r);
        spec.addComings(r);
        spec.addTellings(r);
        return spec;
    }

    /** Five sleepers on the lowest of four FLOORS in one HEAD, so deaf that few KNOCKS wake them at once. */
    static Spec deepSleep(Random r) {
        Spec spec = new Spec();
        spec.rates = new int[] {2, 2 + r.nextInt(2), 2, 2 + r.nextInt(2)};
        spec.morning = 1;
        spec.heads = 1;
        spec.sleepers = 5;
        spec.addSleepers(r);
        for (int s = 0; s < 5; s++) {
            spec.kind[s] = r.nextInt(4) == 0 ? r.nextInt(3) : 0;
            spec.deaf[s] = spec.quick(1) * (3 + r.nextInt(7)) - r.nextInt(2);
            for (int i = 0; i < 4; i++) {
                spec.steps.add(new int[] {s, 0, 0});
            }
        }
        return spec;
    }

    int floors() {
        return rates.length;
    }

    int quick(int floor) {
        int product = 1;
        for (int i = 0; i < floor; i++) {
            product *= rates[i];
        }
        return product;
    }

    int bottom() {
        return quick(floors());
    }

    private void addSleepers(Random r) {
        kind = new int[sleepers];
        deaf = new int[sleepers];
        dread = new int[sleepers];
        chance = new int[sleepers];
        thinks = new int[sleepers];
        int mostDeaf = r.nextInt(6) == 0 ? 9999 : r.nextBoolean() ? 12 : 100;
        for (int s = 0; s < sleepers; s++) {
            kind[s] = r.nextInt(4);
            deaf[s] = 1 + r.nextInt(mostDeaf);
            dread[s] = r.nextInt(4) == 0 ? 0 : r.nextInt(1000);
            chance[s] = r.nextInt(5) == 0 ? 100 * r.nextInt(2) : r.nextInt(101);
            thinks[s] = r.nextInt(6) - 1;
        }
    }

    private void addComings(Random r) {
        int stepCount = r.nextInt(21);
        int mostAfter = r.nextInt(8) == 0 ? 999 : 1 + r.nextInt(12);
        int downs = 50 + r.nextInt(50);
        for (int i = 0; i < stepCount; i++) {
            int head = r.nextInt(100) < downs ? r.nextInt(heads) : -1;
            steps.add(new int[] {r.nextInt(sleepers), head, r.nextInt(3) == 0 ? 0 : r.nextInt(mostAfter + 1)});
        }
        int knockCount = r.nextInt(9);
        int last = Math.min(morning, r.nextBoolean() ? 12 : 600);
        for (int i = 0; i < knockCount; i++) {
            int strong = r.nextBoolean() ? 1 + r.nextInt(9) : 1 + r.nextInt(99);
            knocks.add(new int[] {r.nextInt(heads), r.nextInt(floors()), r.nextInt(last + 1), strong});
        }
    }

    private void addTellings(Random r) {
        int taskCount = r.nextInt(7);
        for (int i = 0; i < taskCount; i++) {
            int minutes = 1 + r.nextInt(r.nextBoolean() ? 20 : 999);
            tasks.add(new int[] {r.nextInt(floors() + 1), minutes, r.nextInt(3) == 0 ? 0 : r.nextInt(100)});
        }
        if (r.nextInt(4) != 0) {
            pays = new int[floors()];
            for (int i = 0; i < pays.length; i++) {
                pays[i] = r.nextInt(r.nextBoolean() ? 30 : 1000);
            }
        }
        int there = r.nextInt(floors() + 1);
        int signCount = r.nextInt(3) == 0 ? 0 : r.nextInt(r.nextInt(4) == 0 ? 7 : 3);
        for (int i = 0; i < signCount; i++) {
            boolean came = r.nextBoolean();
            int sent = 1 + r.nextInt(came ? 30 : 99);
            int got = came ? sent / quick(there) : Math.min(9999, sent * quick(there));
            signs.add(new int[] {came ? 1 : 0, sent, r.nextInt(12) == 0 ? 1 + r.nextInt(50) : got});
        }
        int didCount = r.nextInt(3) == 0 ? 0 : r.nextInt(5);
        for (int i = 0; i < didCount; i++) {
            int floor = 1 + r.nextInt(floors());
            int awake = 1 + r.nextInt(15);
            int done = awake * quick(floor);
            dids.add(new int[] {r.nextInt(12) == 0 ? done + 1 : done, floor, awake});
        }
    }

    String text() {
        StringBuilder b = new StringBuilder("dream rates ");
        b.append(joined(rates)).append(" fall ").append(fall).append(" morning ").append(morning);
        for (int h = 0; h < heads; h++) {
            b.append(";head ").append(headName(h));
        }
        for (int s = 0; s < sleepers; s++) {
            b.append(";sleeper ").append(sleeperName(s)).append(' ').append(KINDS[kind[s]]).append(" deaf ").append(deaf[s])
                .append(" dread ").append(dread[s]).append(" chance ").append(chance[s]);
        }
        for (int[] step : steps) {
            b.append(step[1] < 0 ? ";up " : ";down ").append(sleeperName(step[0])).append(' ');
            b.append(step[1] < 0 ? "" : headName(step[1]) + " ").append("after ").append(step[2]);
        }
        for (int[] k : knocks) {
            b.append(";knock ").append(headName(k[0])).append(" floor ").append(k[1]).append(" at ").append(k[2])
                .append(" strong ").append(k[3]);
        }
        tellings(b);
        return b.toString();
    }

    private void tellings(StringBuilder b) {
        for (int k = 0; k < tasks.size(); k++) {
            int[] t = tasks.get(k);
            b.append(";task ").append((char) ('k' + k)).append(" floor ").append(t[0]).append(" minutes ").append(t[1])
                .append(" risk ").append(t[2]);
        }
        if (pays != null) {
            b.append(";pays ").append(joined(pays));
        }
        for (int s = 0; s < sleepers; s++) {
            if (thinks[s] >= 0) {
                b.append(";thinks ").append(sleeperName(s)).append(' ').append(thinks[s]);
            }
        }
        for (int[] sign : signs) {
            b.append(sign[0] == 1 ? ";came " : ";felt ").append(sign[1]).append(' ').append(sign[2]);
        }
        for (int[] did : dids) {
            b.append(";did ").append(did[0]).append(" floor ").append(did[1]).append(" awake ").append(did[2]);
        }
    }

    private static String headName(int h) {
        return String.valueOf((char) ('x' + h));
    }

    private static String sleeperName(int s) {
        return String.valueOf((char) ('a' + s));
    }

    private static String joined(int[] numbers) {
        StringBuilder b = new StringBuilder();
        for (int i = 0; i < numbers.length; i++) {
            b.append(i == 0 ? "" : ",").append(numbers[i]);
        }
        return b.toString();
    }
}
