import java.util.ArrayList;
import java.util.List;

/** All that can be seen of an object. It ends with calls that change it: look at an object only once. */
final class Look {
    private static final int MOST_RECORDS = 20;

    private final TallyLogs x;
    private final List<Long> seen = new ArrayList<>();

    private Look(TallyLogs x) {
        this.x = x;
    }

    static List<Long> at(TallyLogs x) {
        Look look = new Look(x);
        look.cluster();
        look.groups();
        look.logs();
        look.hidden();
        return look.seen;
    }

    private void cluster() {
        for (int what = 0; what < 8; what++) {
            seen.add((long) x.count(what));
            seen.add((long) x.seen(what));
        }
    }

    private void groups() {
        for (int group = 0; group < 4; group++) {
            for (int p = 0; p < 4; p++) {
                seen.add((long) x.owner(group, p));
                seen.add((long) x.position(group, p));
            }
        }
    }

    private void logs() {
        int records = 0;
        for (int p = 0; p < 4; p++) {
            if (x.state(p, 1) < 0) {
                continue;
            }
            for (int what = 0; what < 4; what++) {
                seen.add((long) x.state(p, what));
            }
            for (int n = 0; n < 5; n++) {
                for (int what = 0; what < 6; what++) {
                    seen.add((long) x.log(n, p, what));
                }
                int last = x.log(n, p, 1) - 1;
                if (last >= 0 && records < MOST_RECORDS) {
                    records++;
                    record(n, p, last);
                }
            }
        }
    }

    private void record(int n, int p, int offset) {
        for (int what = 0; what < 7; what++) {
            seen.add(x.record(n, p, offset, what));
        }
    }

    /** What is shown by changes alone: what producers have left, their generations, and the rounds of groups. */
    private void hidden() {
        for (int k = 0; k < 6; k++) {
            seen.add((long) x.settle(k));
            seen.add((long) x.register(k));
        }
        for (int group = 0; group < 4; group++) {
            for (int m = 0; m < 8; m++) {
                seen.add((long) x.member(group, m));
            }
            for (int p = 0; p < 4; p++) {
                seen.add((long) x.owner(group, p));
            }
        }
    }
}
