/** The edges of promises 23 to 30: each method is one sentence of the document. */
public final class LedgerEdgesTest {
    private static final int LEAST = Integer.MIN_VALUE;
    private static final int MOST = Integer.MAX_VALUE;

    public static void main(String[] args) {
        ledgerOfNone();
        spentFromFirstToLast();
        sixtyDeeds();
        dearestOfNone();
        dearestFirstOfSeveral();
        costOfNoneSuch();
        costAtTheCut();
        byNoSuchLaw();
        bySnapsNoDirectOne();
        cuttingFrom0To20();
        cutIsTheLeast();
        withoutNoneSuch();
        withoutEachKind();
        withoutWhatMadeOneDirect();
        nothingIsDone();
        Due.finish("LedgerEdgesTest");
    }

    /** "STEPS of all DEEDS": none at first, each STEP from the first on. */
    private static void ledgerOfNone() {
        RerootStore x = Due.told("store size 3 law 0 cut 0;pair 0 1;");
        Due.row("none", Due.all(x.ledger(), x.reads(0, 0), x.ledger(), x.sets(0, 0, 0), x.ledger()), 0, 0, 0, 1, 1);
    }

    /** "STEPS of a DEED (from 0, acts behind those told). -2: there is none such." */
    private static void spentFromFirstToLast() {
        RerootStore none = Due.told("store size 3 law 0 cut 0;pair 0 1;");
        Whole.stays("no DEED", none, -2, () -> none.spent(0), () -> none.spent(-1), () -> none.spent(1));
        RerootStore x = Due.told("store size 3 law 1 cut 0;set 0 0 1;read 1 2;");
        Whole.stays("two told", x, -2, () -> x.spent(-1), () -> x.spent(2), () -> x.spent(LEAST), () -> x.spent(MOST));
        x.snaps(1);
        x.finds(0, 2);
        Due.row("two told, two acts", Due.all(x.spent(0), x.spent(1), x.spent(2), x.spent(3), x.spent(4), x.spent(-1)), 1, 1, 4, 0, -2, -2);
        x.undo();
        Due.row("one act less", Due.all(x.spent(2), x.spent(3), x.without(2), x.without(3)), 4, -2, 2, -2);
    }

    /** Thirty told, thirty acts: the last DEED is 59. */
    private static void sixtyDeeds() {
        RerootStore x = Due.told("store size 2 law 0 cut 0;set 0 0 1;" + "read 0 0;read 1 0;".repeat(14) + "read 0 0;");
        for (int act = 0; act < 30; act++) {
            x.reads((act + 1) % 2, 0);
        }
        Due.row("sixty", Due.all(x.count(5), x.ledger(), x.spent(29), x.spent(30), x.spent(59), x.spent(60), x.without(59), x.without(60)), 60, 60, 1, 1, 1, -2, 59, -2);
    }

    /** "NONE: none took any". */
    private static void dearestOfNone() {
        RerootStore x = Due.told("store size 3 law 0 cut 0;");
        Due.due("no DEEDS", x.dearest(), -1);
        x.reads(0, 0);
        x.finds(0, 1);
        x.merges(0, 0);
        Due.row("none took any", Due.all(x.ledger(), x.dearest()), 0, -1);
        x.sets(0, 0, 1);
        Due.row("one took one", Due.all(x.ledger(), x.dearest(), x.undo(), x.dearest()), 1, 3, 3, -1);
    }

    /** "The DEED that took most, the first of several." */
    private static void dearestFirstOfSeveral() {
        RerootStore x = Due.told("store size 3 law 0 cut 0;read 0 0;set 0 0 1;set 1 0 1;set 2 0 1;");
        Due.due("three took one", x.dearest(), 1);
        Due.row("one took as much", Due.all(x.reads(2, 0), x.spent(4), x.dearest()), 1, 1, 1);
        Due.row("one took one more", Due.all(x.reads(1, 0), x.spent(5), x.dearest(), x.reads(2, 0), x.reads(3, 0), x.dearest()), 1, 1, 1, 1, 1, 1);
        Due.row("three LINKS", Due.all(x.reads(0, 0), x.spent(8), x.dearest(), x.reads(3, 0), x.spent(9), x.dearest()), 0, 3, 8, 1, 3, 8);
    }

    /** "-2: there are none such." */
    private static void costOfNoneSuch() {
        for (int law = 0; law <= 2; law++) {
            RerootStore x = Due.told("store size 3 law " + law + " cut 1;set 0 0 1;");
            Whole.stays("cost", x, -2, () -> x.cost(-1, 0), () -> x.cost(2, 0), () -> x.cost(0, -1), () -> x.cost(0, 3), () -> x.cost(2, 3), () -> x.cost(LEAST, 0), () -> x.cost(MOST, 0), () -> x.cost(1, LEAST), () -> x.cost(1, MOST));
            Due.row("cost at both ends", Due.all(x.cost(0, 0), x.cost(1, 0), x.cost(0, 2), x.cost(1, 2)), law == 1 ? 0 : 1, 0, law == 1 ? 0 : 1, law == 1 ? 1 : 0);
        }
    }

    /** "STEPS that reading .. would take now": at CUT LINKS and one more; asking takes none. */
    private static void costAtTheCut() {
        RerootStore x = Due.told("store size 3 law 2 cut 2;set 0 0 1;set 1 0 1;set 2 0 1;");
        long[] before = Whole.of(x);
        Due.row("cost", Due.all(x.cost(3, 0), x.cost(2, 0), x.cost(1, 0), x.cost(0, 0)), 0, 1, 2, 6);
        Due.row("nothing happens", Whole.of(x), before);
        Due.row("reading takes so many", Due.all(x.reads(0, 1), x.spent(3), x.reads(1, 1), x.spent(4)), 1, 6, 1, 2);
    }

    /** "were LAW this one (0 .. 2) .. -2: there is none such". */
    private static void byNoSuchLaw() {
        for (int law = 0; law <= 2; law++) {
            RerootStore x = Due.told("store size 3 law " + law + " cut 1;set 0 0 1;set 1 0 1;read 0 0;");
            Whole.stays("by", x, -2, () -> x.by(-1), () -> x.by(3), () -> x.by(LEAST), () -> x.by(MOST));
            Due.row("by each", Due.all(x.by(0), x.by(1), x.by(2), x.ledger()), 4, 2, 7, law == 0 ? 4 : law == 1 ? 2 : 7);
        }
    }

    /** "(snapping one that is DIRECT then: none, nothing happens; so below)". */
    private static void bySnapsNoDirectOne() {
        // By LAW 0 and 2 the newest one is DIRECT, by LAW 1 the first one.
        RerootStore x = Due.told("store size 3 law 1 cut 0;set 0 0 1;snap 1;read 1 1;");
        Due.row("told by LAW 1", Due.all(x.ledger(), x.by(1), x.by(0), x.by(2), x.cutting(0), x.cutting(20)), 5, 5, 1, 1, 1, 1);
        RerootStore y = Due.told("store size 3 law 0 cut 0;set 0 0 1;snap 0;read 1 1;");
        Due.row("told by LAW 0", Due.all(y.ledger(), y.by(0), y.by(1), y.by(2), y.cutting(0), y.cutting(20)), 5, 5, 2, 5, 5, 5);
        // By CUT 0 and 1 the reading gives 0 a row of its own, so that 2 stays DIRECT, and its snap is none.
        RerootStore z = Due.told("store size 3 law 1 cut 0;set 0 0 1;set 1 0 1;read 0 1;snap 2;snap 1;");
        Due.row("told by LAW 1, cut", Due.all(z.ledger(), z.by(0), z.cutting(0), z.cutting(1), z.cutting(2)), 11, 13, 11, 11, 13);
    }

    /** "Likewise, were LAW 2, and CUT k (0 .. 20)." */
    private static void cuttingFrom0To20() {
        for (int law = 0; law <= 2; law++) {
            RerootStore x = Due.told("store size 3 law " + law + " cut 3;set 0 0 1;read 0 0;");
            Whole.stays("cutting", x, -2, () -> x.cutting(-1), () -> x.cutting(21), () -> x.cutting(LEAST), () -> x.cutting(MOST));
            Due.row("cutting at both ends", Due.all(x.cutting(0), x.cutting(1), x.cutting(19), x.cutting(20)), 5, 2, 2, 2);
        }
    }

    /** "The least CUT (0 .. 20) by which they are fewest": so many as the LINKS of the one long WAY that is read. */
    private static void cutIsTheLeast() {
        for (int law = 0; law <= 2; law++) {
            for (int links : new int[] {0, 1, 2, 19, 20, 21}) {
                RerootStore x = Due.told("store size 2 law " + law + " cut 5;");
                for (int v = 0; v < links; v++) {
                    x.sets(v, 0, 0);
                }
                x.reads(0, 1);
                // A WAY of 21 is cut by every CUT: all are alike then, and 0 is the least.
                Due.row(links + " LINKS", Due.all(x.cut(), x.cutting(20), x.cutting(0)), links == 21 ? 0 : links, links == 21 ? 44 : 2 * links, links == 0 ? 0 : 2 * links + 2);
            }
        }
        Due.due("no DEEDS", Due.told("store size 2 law 2 cut 20;").cut(), 0);
    }

    /** "-2: there is none such, it makes a VERSION." */
    private static void withoutNoneSuch() {
        RerootStore x = Due.told("store size 3 law 0 cut 2;read 0 0;set 0 0 1;join 1 1 2;find 0 0;");
        x.sets(0, 0, 2);
        x.joins(0, 0, 2);
        x.merges(0, 1);
        x.patches(0, 1, 2);
        x.reads(0, 0);
        int last = x.count(5) - 1;
        Due.due("nine DEEDS", last, 8);
        Whole.stays("none such", x, -2, () -> x.without(-1), () -> x.without(last + 1), () -> x.without(LEAST), () -> x.without(MOST), () -> x.without(60));
        Whole.stays("it makes a VERSION", x, -2, () -> x.without(1), () -> x.without(2), () -> x.without(4), () -> x.without(5), () -> x.without(6), () -> x.without(7));
        // The first and the last one: neither is ahead of what would be dearer or cheaper without it.
        Due.row("the first, the last", Due.all(x.without(0), x.without(last)), x.ledger(), x.ledger() - x.spent(last));
    }

    /** "(a reading, finding, snapping)": told ones, and acts. */
    private static void withoutEachKind() {
        String text = "store size 3 law 1 cut 2;set 0 0 1;read 1 1;find 1 2;snap 1;";
        RerootStore x = Due.told(text);
        Due.row("told", Due.all(x.ledger(), x.without(0), x.without(1), x.without(2), x.without(3), x.without(4)), 7, -2, 6, 6, 3, -2);
        RerootStore y = Due.told("store size 3 law 1 cut 2;set 0 0 1;");
        y.reads(1, 1);
        y.finds(1, 2);
        y.snaps(1);
        Due.row("acts", Due.all(y.ledger(), y.without(0), y.without(1), y.without(2), y.without(3), y.without(4)), 7, -2, 6, 6, 3, -2);
    }

    /** Without the reading 1 stays DIRECT, so that its snap is none, and takes no STEPS. */
    private static void withoutWhatMadeOneDirect() {
        RerootStore x = Due.told("store size 3 law 0 cut 2;set 0 0 1;read 0 0;snap 1;");
        Due.row("without the reading", Due.all(x.ledger(), x.without(1), x.without(2)), 6, 1, 2);
    }

    /** What would be is asked alone: the STORE stays as it is. */
    private static void nothingIsDone() {
        for (int law = 0; law <= 2; law++) {
            RerootStore x = Due.told("store size 3 law " + law + " cut 1;set 0 0 1;set 1 1 2;read 0 0;find 2 1;");
            x.reads(1, 2);
            long[] before = Whole.of(x);
            for (int n = 0; n <= 2; n++) {
                x.by(n);
                x.cutting(10 * n);
                x.without(2 + n);
            }
            x.cut();
            Due.row("nothing is done", Whole.of(x), before);
        }
    }
}
