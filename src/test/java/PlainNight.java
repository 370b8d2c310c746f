/** Where everybody is, gone through tick by tick as the terms say it. */
final class PlainNight {
    final Spec spec;
    long now;
    int[] floor;
    int[] head;
    int[] done;
    int[] roused;
    long[] came;
    long[][] ticksOn;

    PlainNight(Spec spec) {
        this.spec = spec;
        int n = spec.sleepers;
        floor = new int[n];
        head = new int[n];
        java.util.Arrays.fill(head, -2);
        done = new int[n];
        roused = new int[n];
        came = new long[n];
        ticksOn = new long[n][5];
        toldKnocks();
        steps();
    }

    private PlainNight(PlainNight other) {
        spec = other.spec;
        now = other.now;
        floor = other.floor.clone();
        head = other.head.clone();
        done = other.done.clone();
        roused = other.roused.clone();
        came = other.came.clone();
        ticksOn = new long[other.ticksOn.length][];
        for (int s = 0; s < ticksOn.length; s++) {
            ticksOn[s] = other.ticksOn[s].clone();
        }
    }

    PlainNight copy() {
        return new PlainNight(this);
    }

    PlainNight in(int t) {
        PlainNight later = copy();
        later.ticks((long) t * spec.bottom());
        return later;
    }

    void ticks(long n) {
        for (long i = 0; i < n; i++) {
            for (int s = 0; s < floor.length; s++) {
                ticksOn[s][floor[s]]++;
            }
            now++;
            toldKnocks();
            steps();
        }
    }

    private void toldKnocks() {
        for (int[] k : spec.knocks) {
            if ((long) k[2] * spec.bottom() == now) {
                knock(k[0], k[1], k[3]);
            }
        }
    }

    int knock(int inHead, int on, int strong) {
        int bits = 0;
        for (int s = 0; s < floor.length; s++) {
            if (head[s] != inHead || floor[s] <= on) {
                continue;
            }
            int to = behind(spec, s, floor[s], on, strong);
            if (to < floor[s]) {
                floor[s] = to;
                head[s] = to == 0 ? -2 : head[s];
                came[s] = now;
                roused[s]++;
                bits += 1 << s;
            }
        }
        return bits;
    }

    static int behind(Spec spec, int s, int from, int on, int strong) {
        int felt = strong * spec.quick(from) / spec.quick(on);
        switch (Spec.KINDS[spec.kind[s]]) {
            case "light":
                return felt < spec.deaf[s] ? from : from - 2 < on ? on : from - 2;
            case "heavy":
                return felt < 2 * spec.deaf[s] ? from : from - 1;
            case "fond":
                return felt < spec.deaf[s] || from > spec.floors() - 1 ? from : from - 1;
            default:
                return felt < spec.deaf[s] ? from : from - 1;
        }
    }

    void steps() {
        for (int s = 0; s < floor.length; s++) {
            boolean again = true;
            while (again) {
                again = stepOf(s);
            }
        }
    }

    private boolean stepOf(int s) {
        int nth = 0;
        for (int[] step : spec.steps) {
            if (step[0] != s) {
                continue;
            }
            if (nth++ < done[s]) {
                continue;
            }
            long minute = spec.bottom() / spec.quick(floor[s]);
            if (came[s] + step[2] * minute > now) {
                return false;
            }
            done[s]++;
            if (step[1] < 0) {
                up(s);
            } else {
                down(s, step[1]);
            }
            return true;
        }
        return false;
    }

    void up(int s) {
        if (floor[s] > 0) {
            floor[s]--;
        }
        if (floor[s] == 0) {
            head[s] = -2;
        }
        came[s] = now;
    }

    void down(int s, int inHead) {
        if (floor[s] == 0) {
            head[s] = inHead;
            floor[s] = 1;
        } else if (floor[s] < spec.floors()) {
            floor[s]++;
        }
        came[s] = now;
    }

    boolean meet(int s, int q) {
        return floor[s] != 0 && floor[s] == floor[q] && head[s] == head[q];
    }
}
