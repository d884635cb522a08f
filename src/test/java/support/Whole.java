import java.util.ArrayList;
import java.util.List;
import java.util.function.LongSupplier;

/** What an object answers of its whole state, so that a test can say that nothing happened by a call. */
final class Whole {
    private Whole() {
    }

    /** A large store is asked for its sums alone: an object is promised for 512 calls. */
    static long[] of(RerootStore x) {
        List<Long> all = new ArrayList<>();
        for (int what = 0; what <= 8; what++) {
            all.add((long) x.count(what));
        }
        int versions = x.count(3);
        int cells = x.count(0);
        for (long sum : Due.all(x.fault(0), x.fault(1), x.ledger(), x.ways(), x.longest(), x.direct(), x.busiest(), x.dearest(), x.by(0), x.by(1), x.by(2), x.room((1L << versions) - 1), x.first(versions - 1))) {
            all.add(sum);
        }
        if (versions * (cells + 5) <= 80) {
            addVersions(x, all, versions, cells);
        }
        return all.stream().mapToLong(n -> n).toArray();
    }

    private static void addVersions(RerootStore x, List<Long> all, int versions, int cells) {
        for (int v = 0; v < versions; v++) {
            for (int i = 0; i < cells; i++) {
                all.add((long) x.cell(v, i));
            }
            for (long tie : Due.all(x.state(v, 0), x.state(v, 1), x.state(v, 2), x.version(v, 0), x.version(v, 1))) {
                all.add(tie);
            }
        }
        int deeds = x.count(5);
        for (int deed = 0; deed < deeds; deed++) {
            all.add((long) x.spent(deed));
        }
    }

    /** Each of the calls answers so, and nothing happens by all of them. */
    static void stays(String what, RerootStore x, long want, LongSupplier... calls) {
        long[] before = of(x);
        Due.each(what, want, calls);
        Due.row(what + ": nothing happens", of(x), before);
    }
}
