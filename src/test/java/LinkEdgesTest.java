/** The edges of LINKS (II) and of promises 16 to 22 and 47 to 49: each method is one sentence of the document. */
public final class LinkEdgesTest {
    private static final int LEAST = Integer.MIN_VALUE;
    private static final int MOST = Integer.MAX_VALUE;

    public static void main(String[] args) {
        firstIsDirect();
        for (int cut : new int[] {0, 1, 2, 19, 20}) {
            readingAtCut(cut);
            settingAtCut(cut);
        }
        cutIsOfLaw2Alone();
        readingFromLinkToDirect();
        settingTheSame();
        snapChangesNoOther();
        snapByLaw1();
        noSuchVersion();
        noSuchWhat();
        noneIfDirect();
        lengthFromNone();
        fortyByLaw0();
        fortyByLaw1();
        directFromOneToAll();
        snappingOneThatIsDirect();
        snapOfNone();
        snapOfSeveral();
        keepsOfNone();
        keepsOfOthers();
        roomOfNoneToAll();
        busiestOfNone();
        busiestOfSeveral();
        Due.finish("LinkEdgesTest");
    }

    /** Each VERSION set on the newest one: by LAW 0 and 2 all LINKS lead to the newest, by LAW 1 to the first. */
    private static RerootStore line(int size, int law, int cut, int sets) {
        int told = Math.min(sets, 19);
        StringBuilder text = new StringBuilder("store size " + size + " law " + law + " cut " + cut + ";");
        for (int v = 0; v < told; v++) {
            text.append("set ").append(v).append(' ').append(v % size).append(" 0;");
        }
        RerootStore x = Due.told(text.toString());
        for (int v = told; v < sets; v++) {
            x.sets(v, v % size, 0);
        }
        return x;
    }

    private static long[] state(RerootStore x, int v) {
        return Due.all(x.state(v, 0), x.state(v, 1), x.state(v, 2), x.state(v, 3));
    }

    /** "At first VERSION 0 is DIRECT." */
    private static void firstIsDirect() {
        for (int law = 0; law <= 2; law++) {
            RerootStore x = line(3, law, 0, 0);
            Due.row("at first", state(x, 0), 1, -1, -1, -1);
            Due.row("at first", Due.all(x.length(0), x.longest(), x.direct(), x.ways(), x.snapping(0), x.snap(), x.busiest(), x.keeps(1), x.room(1), x.cost(0, 0)), 0, 0, 1, 0, 0, -1, -1, 1, 3, 0);
            Due.row("a DIRECT one is REACHED without a STEP", Due.all(x.reads(0, 2), x.finds(0, 1), x.ledger(), x.sets(0, 0, 0), x.ledger()), 2, 1, 0, 1, 1);
        }
    }

    /** "LAW 2: likewise, if the WAY has CUT LINKS or fewer; else SNAP", one fewer, CUT, one more. */
    private static void readingAtCut(int cut) {
        for (int links = Math.max(cut - 1, 0); links <= cut + 1; links++) {
            RerootStore x = line(2, 2, cut, links);
            boolean isCut = links > cut;
            int took = isCut ? links + 2 : links;
            Due.row("reading " + links + " by CUT " + cut, Due.all(x.length(0), x.cost(0, 1), x.reads(0, 1), x.spent(links), x.direct(), x.state(0, 0)), links, took, 1, took, isCut ? 2 : 1, 1);
            // Turned, the newest one leads to it; cut, all others stay as they are.
            Due.row("behind it", Due.all(x.length(links), x.ways()), isCut ? 0 : links, isCut ? links * (links - 1) / 2 : links * (links + 1) / 2);
        }
    }

    /** "V is REACHED": setting is cut at the same length. */
    private static void settingAtCut(int cut) {
        for (int links = Math.max(cut - 1, 0); links <= cut + 1; links++) {
            RerootStore x = line(2, 2, cut, links);
            boolean isCut = links > cut;
            Due.row("setting by " + links + ", CUT " + cut, Due.all(x.sets(0, 1, 0), x.spent(links), x.direct()), links + 1, isCut ? links + 3 : links + 1, isCut ? 2 : 1);
            Due.row("the set one", state(x, links + 1), 1, -1, -1, -1);
            Due.row("what it was set on", state(x, 0), 0, links + 1, 1, 1);
        }
    }

    /** By LAW 0 and 1 no CUT is looked at, the least one not, and the longest WAY not. */
    private static void cutIsOfLaw2Alone() {
        RerootStore x = line(2, 0, 0, 39);
        Due.row("LAW 0", Due.all(x.length(0), x.cost(0, 1), x.reads(0, 1), x.spent(39), x.direct(), x.length(39)), 39, 39, 1, 39, 1, 39);
        RerootStore y = line(2, 1, 0, 39);
        Due.row("LAW 1", Due.all(y.length(39), y.cost(39, 0), y.cost(39, 1), y.reads(39, 1), y.spent(39), y.direct(), y.length(39)), 39, 0, 1, 0, 1, 1, 39);
    }

    /** "from it to the first LINK of that CELL, or to the DIRECT one: a STEP for each LINK gone along (not for that one)". */
    private static void readingFromLinkToDirect() {
        // 1 to 0 by cell 0, 2 to 1 by cell 1, 3 to 2 by cell 0.
        RerootStore x = Due.told("store size 4 law 1 cut 0;set 0 0 3;set 1 1 3;set 2 0 2;");
        Due.row("its own LINK", Due.all(x.cost(3, 0), x.cost(2, 1), x.cost(1, 0)), 0, 0, 0);
        Due.row("the next one", Due.all(x.cost(3, 1), x.cost(2, 0)), 1, 1);
        Due.row("to the DIRECT one", Due.all(x.cost(3, 2), x.cost(3, 3), x.cost(2, 2), x.cost(1, 1), x.cost(0, 0), x.cost(0, 3)), 3, 3, 2, 1, 0, 0);
        Due.row("reading", Due.all(x.reads(3, 0), x.spent(3), x.reads(3, 1), x.spent(4), x.reads(3, 2), x.spent(5), x.reads(0, 0), x.spent(6), x.ways()), 2, 0, 3, 1, 2, 3, 0, 0, 6);
    }

    /** A CELL set to the number that it has makes a VERSION and a LINK all the same. */
    private static void settingTheSame() {
        RerootStore x = Due.told("store size 1 law 0 cut 0;set 0 0 0;");
        Due.row("LAW 0", state(x, 0), 0, 1, 0, 0);
        RerootStore y = Due.told("store size 1 law 1 cut 0;set 0 0 0;");
        Due.row("LAW 1", state(y, 1), 0, 0, 0, 0);
        Due.row("one STEP", Due.all(x.ledger(), y.ledger(), x.count(3), x.first(1), x.unlike(0, 1)), 1, 1, 2, 0, 0);
    }

    /** "SNAP: it gets a row of its own .. (no other VERSION is changed): a STEP for each LINK of its WAY, and SIZE." */
    private static void snapChangesNoOther() {
        for (int size : new int[] {1, 2, 12}) {
            RerootStore x = line(size, 0, 0, 3);
            long[] other = state(x, 0);
            long[] newest = state(x, 3);
            Due.row("snap of two LINKS", Due.all(x.length(1), x.snaps(1), x.spent(3), x.direct(), x.length(1), x.length(0), x.length(2)), 2, 2 + size, 2 + size, 2, 0, 1, 1);
            Due.row("one ahead of it", state(x, 0), other);
            Due.row("the DIRECT one", state(x, 3), newest);
            Due.row("snap of one LINK", Due.all(x.snaps(2), x.direct(), x.length(0)), 1 + size, 3, 1);
        }
    }

    private static void snapByLaw1() {
        RerootStore x = line(2, 1, 0, 3);
        Due.row("by LAW 1, too", Due.all(x.snaps(3), x.state(3, 0), x.cost(3, 0), x.cost(3, 1), x.direct(), x.length(2)), 5, 1, 0, 0, 2, 2);
        Due.row("it has what it had", Due.all(x.reads(3, 0), x.reads(3, 1), x.cell(3, 0)), 0, 0, 0);
    }

    /** "-2: there is none such." */
    private static void noSuchVersion() {
        for (int law = 0; law <= 2; law++) {
            RerootStore x = line(3, law, 1, 2);
            long[] before = Whole.of(x);
            for (int v : new int[] {-1, 3, LEAST, MOST}) {
                Due.each("VERSION " + v, -2, () -> x.state(v, 0), () -> x.state(v, 1), () -> x.state(v, 2), () -> x.state(v, 3), () -> x.length(v), () -> x.snapping(v));
            }
            Due.row("nothing happens", Whole.of(x), before);
            Due.row("the first, the last", Due.all(x.length(law == 1 ? 2 : 0), x.length(law == 1 ? 0 : 2), x.snapping(1)), 2, 0, 1);
        }
    }

    private static void noSuchWhat() {
        RerootStore x = line(3, 0, 0, 1);
        Whole.stays("state, what", x, -2, () -> x.state(0, -1), () -> x.state(0, 4), () -> x.state(1, -1), () -> x.state(1, 4), () -> x.state(0, LEAST), () -> x.state(1, MOST));
        Due.row("what 0, 3", Due.all(x.state(0, 0), x.state(0, 3), x.state(1, 0), x.state(1, 3)), 0, 0, 1, -1);
    }

    /** "(NONE each: it is DIRECT)": each law, and one that was given a row of its own. */
    private static void noneIfDirect() {
        RerootStore x = Due.told("store size 2 law 1 cut 0;set 0 1 0;");
        Due.row("with a LINK", state(x, 1), 0, 0, 1, 0);
        Due.row("DIRECT", state(x, 0), 1, -1, -1, -1);
        x.snaps(1);
        Due.row("DIRECT by a snap", state(x, 1), 1, -1, -1, -1);
        x.undo();
        Due.row("with a LINK once more", state(x, 1), 0, 0, 1, 0);
    }

    /** "How many LINKS lead from a VERSION to a DIRECT one", "The most of all VERSIONS", from none to 39. */
    private static void lengthFromNone() {
        for (int links = 0; links <= 39; links++) {
            RerootStore x = line(2, 0, 0, links);
            RerootStore y = line(2, 1, 0, links);
            Due.row("a line of " + links, Due.all(x.length(0), x.length(links), x.longest(), x.ways(), y.length(0), y.length(links), y.longest(), y.ways()), links, 0, links, links * (links + 1) / 2, 0, links, links, links * (links + 1) / 2);
        }
    }

    /** 39 LINKS to the newest: snapped, 19 shortens 20 WAYS by 20 each, its neighbours 19 by 21, 21 by 19. */
    private static void fortyByLaw0() {
        RerootStore x = line(2, 0, 0, 39);
        Due.row("snapping", Due.all(x.snapping(0), x.snapping(18), x.snapping(19), x.snapping(20), x.snapping(38), x.snapping(39), x.snapping(40)), 741, 381, 380, 381, 741, 780, -2);
        Due.row("all but the last lie on WAYS", Due.all(x.snap(), x.busiest(), x.keeps(1), x.room(1), x.keeps(1L << 39), x.room(1L << 39)), 19, 38, (1L << 40) - 1, 2 + 39 * 3, 1L << 39, 2);
    }

    private static void fortyByLaw1() {
        RerootStore x = line(2, 1, 0, 39);
        Due.row("snapping", Due.all(x.snapping(0), x.snapping(1), x.snapping(19), x.snapping(20), x.snapping(21), x.snapping(39), x.snapping(40)), 780, 741, 381, 380, 381, 741, -2);
        Due.row("all but the first lie on WAYS", Due.all(x.snap(), x.busiest(), x.keeps(1L << 39), x.room(1L << 39), x.keeps(1), x.room(1)), 20, 1, (1L << 40) - 1, 2 + 39 * 3, 1, 2);
    }

    /** "How many VERSIONS are DIRECT": one at least, up to all. */
    private static void directFromOneToAll() {
        RerootStore x = line(2, 1, 0, 3);
        Due.row("more and more", Due.all(x.direct(), x.snaps(2), x.direct(), x.snaps(3), x.direct(), x.snaps(1), x.direct()), 1, 4, 2, 3, 3, 3, 4);
        Due.row("all", Due.all(x.ways(), x.longest(), x.snap(), x.busiest(), x.keeps(15), x.room(15)), 0, 0, -1, -1, 15, 8);
    }

    /** "(one that is DIRECT: as it is)"; nothing is snapped by asking. */
    private static void snappingOneThatIsDirect() {
        RerootStore x = line(2, 1, 0, 2);
        Due.row("snapping", Due.all(x.ways(), x.snapping(0), x.snapping(1), x.snapping(2), x.ways(), x.direct(), x.ledger()), 3, 3, 1, 1, 3, 1, 2);
        x.snaps(1);
        Due.row("a second one", Due.all(x.snapping(1), x.snapping(0), x.snapping(2), x.ways()), 1, 1, 0, 1);
    }

    /** "NONE: by none less than it is". */
    private static void snapOfNone() {
        RerootStore x = line(2, 1, 0, 0);
        Due.due("no LINK", x.snap(), -1);
        x.sets(0, 0, 1);
        Due.row("one LINK", Due.all(x.snap(), x.snaps(1), x.snap(), x.undo(), x.snap()), 1, 3, -1, 1, 1);
    }

    /** "the least of several". */
    private static void snapOfSeveral() {
        RerootStore fork = Due.told("store size 2 law 1 cut 0;set 0 0 0;set 0 1 1;set 0 1 0;");
        Due.row("three of one LINK", Due.all(fork.snapping(1), fork.snapping(2), fork.snapping(3), fork.snap()), 2, 2, 2, 1);
        RerootStore line = line(2, 1, 0, 4);
        // 4 ways by 1, 3 by 2, 2 by 3, 1 by 4: the second and the third are best.
        Due.row("two of six", Due.all(line.snapping(1), line.snapping(2), line.snapping(3), line.snapping(4), line.snap()), 6, 4, 4, 6, 2);
    }

    /** "a set of VERSIONS (bits) alone to stay": none, each, all. */
    private static void keepsOfNone() {
        RerootStore x = line(3, 1, 0, 2);
        Due.row("none", Due.all(x.keeps(0), x.room(0)), 0, 0);
        Due.row("each", Due.all(x.keeps(1), x.keeps(2), x.keeps(4), x.keeps(7), x.room(1), x.room(2), x.room(4), x.room(7)), 1, 3, 7, 7, 3, 6, 9, 9);
    }

    /** "-2: it has others than there are". */
    private static void keepsOfOthers() {
        for (int sets : new int[] {0, 1, 38, 39}) {
            RerootStore x = line(2, 1, 0, sets);
            long all = (1L << (sets + 1)) - 1;
            long behind = 1L << (sets + 1);
            Due.row("all there are", Due.all(x.keeps(all), x.room(all)), all, 2 + 3 * sets);
            Due.row("the last one", Due.all(x.keeps(1L << sets), x.room(1L << sets)), all, 2 + 3 * sets);
            Whole.stays("others", x, -2, () -> x.keeps(behind), () -> x.room(behind), () -> x.keeps(behind | 1), () -> x.room(behind | all), () -> x.keeps(1L << 40), () -> x.room(1L << 40), () -> x.keeps(1L << 62), () -> x.keeps(Long.MIN_VALUE), () -> x.room(Long.MIN_VALUE), () -> x.keeps(Long.MIN_VALUE | 1), () -> x.keeps(-1), () -> x.room(-1), () -> x.keeps(Long.MAX_VALUE), () -> x.room(Long.MAX_VALUE));
        }
    }

    /** "SIZE each DIRECT one, three each LINK". */
    private static void roomOfNoneToAll() {
        for (int size : new int[] {1, 2, 3, 12}) {
            RerootStore x = line(size, 1, 0, 2);
            Due.row("size " + size, Due.all(x.room(0), x.room(1), x.room(2), x.room(4)), 0, size, size + 3, size + 6);
            x.snaps(1);
            Due.row("size " + size + ", one snapped", Due.all(x.room(1), x.room(2), x.room(4), x.room(7)), size, size, size + 3, 2 * size + 3);
        }
    }

    /** "The VERSION (not DIRECT) that lies on most WAYS of other ones .. NONE: none does". */
    private static void busiestOfNone() {
        Due.due("no LINK", line(2, 0, 0, 0).busiest(), -1);
        Due.row("one LINK, to a DIRECT one", Due.all(line(2, 0, 0, 1).busiest(), line(2, 1, 0, 1).busiest()), -1, -1);
        Due.row("two LINKS", Due.all(line(2, 0, 0, 2).busiest(), line(2, 1, 0, 2).busiest()), 1, 1);
        RerootStore x = line(2, 1, 0, 2);
        x.snaps(1);
        Due.due("it is DIRECT now", x.busiest(), -1);
    }

    /** "the least of several". */
    private static void busiestOfSeveral() {
        RerootStore x = Due.told("store size 2 law 1 cut 0;set 0 0 0;set 0 0 0;set 2 0 0;set 1 0 0;");
        Due.due("1 and 2, on one WAY each", x.busiest(), 1);
        x.sets(3, 0, 0);
        Due.due("2 on two", x.busiest(), 2);
        x.sets(4, 0, 0);
        Due.due("both on two", x.busiest(), 1);
    }
}
