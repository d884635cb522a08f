import java.util.function.LongSupplier;

/** The edges of merging (V) and of promises 31 to 35, 42 to 46, 53 to 56: each method is one sentence of the document. */
public final class ActEdgesTest {
    private static final int LEAST = Integer.MIN_VALUE;
    private static final int MOST = Integer.MAX_VALUE;
    private static final String HEAD = "store size 3 law 0 cut 0;";
    // 0: 0 1 2, and leads to 1: 1 1 2
    private static final String TWO = HEAD + "set 0 0 1;";

    public static void main(String[] args) {
        noSuchVersion();
        noSuchCell();
        noSuchNumber();
        noSuchWhat();
        firstAndLast();
        thirtiethAct();
        thirtyFirstAct();
        actTakenBackLeavesRoom();
        thirtyActsBehindThirtyTold();
        fortiethVersion();
        fortyFirstVersion();
        versionsByMerging();
        versionsByPatching();
        joinsOfOneRoot();
        snapsOfDirect();
        mergedWithIts();
        conflictOfThreeUnlike();
        mergesNone();
        patchesNone();
        noSuchImage();
        imageWithoutStore();
        imageOfNothing();
        imagesKeepThree();
        undoOfNone();
        anewOfNone();
        Due.finish("ActEdgesTest");
    }

    /** "-2: there are none such": each VERSION that an act or a question of this part names. */
    private static void noSuchVersion() {
        RerootStore x = Due.told(TWO);
        long[] before = Whole.of(x);
        for (int v : new int[] {-1, 2, LEAST, MOST}) {
            Due.each("acts on VERSION " + v, -2, () -> x.reads(v, 0), () -> x.sets(v, 0, 0), () -> x.joins(v, 0, 2), () -> x.finds(v, 0), () -> x.snaps(v), () -> x.merges(v, 0), () -> x.merges(0, v), () -> x.merges(v, v), () -> x.patches(v, 0, 0), () -> x.patches(0, v, 0), () -> x.patches(0, 0, v), () -> x.patches(v, v, v));
            Due.each("asked of VERSION " + v, -2, () -> x.merging(v, 0, 0), () -> x.merging(0, v, 0), () -> x.merging(v, 1, 1), () -> x.merging(1, v, 1), () -> x.merged(v, 0, 0), () -> x.merged(0, v, 0), () -> x.patching(v, 0, 0), () -> x.patching(0, v, 0), () -> x.patching(0, 0, v));
        }
        Due.row("no act by a VERSION that is none", Whole.of(x), before);
    }

    /** The same of each cell. */
    private static void noSuchCell() {
        RerootStore x = Due.told(TWO);
        long[] before = Whole.of(x);
        for (int i : new int[] {-1, 3, 12, LEAST, MOST}) {
            Due.each("cell " + i, -2, () -> x.reads(0, i), () -> x.sets(0, i, 0), () -> x.joins(0, i, 0), () -> x.joins(0, 0, i), () -> x.joins(0, i, i), () -> x.finds(0, i), () -> x.merged(0, 1, i));
        }
        Due.row("no act by a cell that is none", Whole.of(x), before);
    }

    /** "(number 0 .. SIZE less 1)". */
    private static void noSuchNumber() {
        for (int size : new int[] {1, 3, 12}) {
            RerootStore x = Due.told("store size " + size + " law 0 cut 0;");
            Whole.stays("number, SIZE " + size, x, -2, () -> x.sets(0, 0, -1), () -> x.sets(0, 0, size), () -> x.sets(0, size - 1, size), () -> x.sets(0, 0, LEAST), () -> x.sets(0, 0, MOST));
            Due.row("numbers at both ends", Due.all(x.sets(0, 0, 0), x.sets(1, 0, size - 1), x.cell(1, 0), x.cell(2, 0)), 1, 2, 0, size - 1);
        }
    }

    /** "what 0 .., 1 ..". */
    private static void noSuchWhat() {
        RerootStore x = Due.told(TWO);
        Whole.stays("merging, what", x, -2, () -> x.merging(0, 1, -1), () -> x.merging(0, 1, 2), () -> x.merging(0, 0, LEAST), () -> x.merging(1, 1, MOST));
        Due.row("what 0, 1", Due.all(x.merging(0, 1, 0), x.merging(0, 1, 1)), 1, 0);
    }

    /** The first VERSION and the last one, the first cell and the last one, are there. */
    private static void firstAndLast() {
        Due.row("reads", Due.all(Due.told(TWO).reads(0, 0), Due.told(TWO).reads(1, 0), Due.told(TWO).reads(0, 2), Due.told(TWO).reads(1, 2)), 0, 1, 2, 2);
        Due.row("sets", Due.all(Due.told(TWO).sets(0, 0, 0), Due.told(TWO).sets(1, 2, 2)), 2, 2);
        Due.row("joins", Due.all(Due.told(TWO).joins(0, 0, 2), Due.told(TWO).joins(1, 2, 0)), 2, 2);
        Due.row("finds", Due.all(Due.told(TWO).finds(0, 0), Due.told(TWO).finds(1, 0), Due.told(TWO).finds(1, 2)), 0, 1, 2);
        Due.row("snaps", Due.all(Due.told(TWO).snaps(0), Due.told("store size 3 law 1 cut 0;set 0 0 1;").snaps(1)), 4, 4);
        Due.row("merges", Due.all(Due.told(TWO).merges(0, 1), Due.told(TWO).merges(1, 0)), 2, 1);
        Due.row("merged", Due.all(Due.told(TWO).merged(0, 1, 0), Due.told(TWO).merged(1, 0, 2)), 1, 2);
        Due.row("patches", Due.all(Due.told(TWO).patches(0, 1, 0), Due.told(TWO).patches(1, 0, 1), Due.told(TWO).patches(0, 1, 1)), 2, 2, 1);
    }

    /** Twenty-nine acts that take no STEP, on a new object. */
    private static RerootStore behind29() {
        RerootStore x = Due.told(TWO);
        for (int act = 0; act < 29; act++) {
            x.reads(1, 0);
        }
        return x;
    }

    private static LongSupplier[] acts(RerootStore x) {
        return new LongSupplier[] {() -> x.reads(0, 0), () -> x.sets(0, 0, 0), () -> x.joins(0, 0, 1), () -> x.finds(0, 1), () -> x.snaps(0), () -> x.merges(0, 1), () -> x.patches(0, 1, 0), () -> x.merges(0, 0), () -> x.patches(0, 0, 1)};
    }

    /** "-5: there were 30 acts": there were 29, so each kind of act is done. */
    private static void thirtiethAct() {
        long[] due = {0, 2, 2, 1, 4, 2, 2, 0, 1};
        for (int kind = 0; kind < due.length; kind++) {
            RerootStore x = behind29();
            Due.row("the thirtieth, kind " + kind, Due.all(x.count(6), acts(x)[kind].getAsLong(), x.count(6), x.count(5)), 29, due[kind], 30, 31);
            Whole.stays("the next, kind " + kind, x, -5, acts(x)[kind]);
        }
    }

    /** "-5: there were 30 acts": none of any kind, and nothing happens; also what makes no VERSION. */
    private static void thirtyFirstAct() {
        RerootStore x = behind29();
        x.reads(1, 2);
        Whole.stays("the 31st", x, -5, acts(x));
        Due.row("thirty, as they were", Due.all(x.count(6), x.count(5), x.count(3), x.ledger()), 30, 31, 2, 1);
    }

    private static void actTakenBackLeavesRoom() {
        RerootStore x = behind29();
        Due.row("one is taken back", Due.all(x.finds(1, 2), x.finds(1, 2), x.undo(), x.finds(0, 2), x.count(6), x.finds(0, 2)), 2, -5, 29, 2, 30, -5);
        Due.row("all are", Due.all(x.anew(), x.reads(1, 0), x.count(6)), 30, 1, 1);
        RerootStore y = behind29();
        y.image(0);
        y.reads(1, 0);
        Due.row("an image of 29", Due.all(y.reads(1, 0), y.back(0), y.count(6), y.reads(1, 0), y.reads(1, 0)), -5, 0, 29, 1, -5);
    }

    /** DEEDS told are no acts: thirty of them leave room for thirty acts. */
    private static void thirtyActsBehindThirtyTold() {
        RerootStore x = Due.told(HEAD + "read 0 0;".repeat(30));
        for (int act = 1; act <= 30; act++) {
            Due.row("act " + act, Due.all(x.finds(0, 2), x.count(6), x.count(5)), 2, act, 30 + act);
        }
        Whole.stays("the 31st behind thirty told", x, -5, () -> x.finds(0, 2), () -> x.reads(0, 0));
    }

    /** 20 VERSIONS are told, the rest are set; each is 0 set to 0, on VERSION 0. */
    private static RerootStore behind(int versions) {
        RerootStore x = Due.told(HEAD + "set 0 0 0;".repeat(19));
        for (int v = 20; v < versions; v++) {
            x.sets(0, 0, 0);
        }
        return x;
    }

    /** "-5: there are 40 VERSIONS": there were 39, so one more is made. */
    private static void fortiethVersion() {
        Due.row("by sets", Due.all(behind(39).count(3), behind(39).sets(38, 2, 2), behind(38).sets(0, 0, 1)), 39, 39, 38);
        Due.row("by joins", Due.all(behind(39).joins(38, 0, 2), behind(38).joins(0, 0, 1)), 39, 38);
        RerootStore x = behind(39);
        Due.row("it is there", Due.all(x.joins(0, 1, 2), x.count(3), x.cell(39, 2), x.cell(40, 2), x.first(39)), 39, 40, 1, -2, 39);
    }

    /** "-5: there are 40 VERSIONS": nothing happens; what makes none is done all the same. */
    private static void fortyFirstVersion() {
        RerootStore x = behind(40);
        Whole.stays("the 41st", x, -5, () -> x.sets(0, 0, 0), () -> x.sets(39, 2, 2), () -> x.joins(0, 0, 1), () -> x.joins(39, 2, 0));
        Due.row("forty, as they were", Due.all(x.count(3), x.count(6)), 40, 20);
        Due.row("what makes none", Due.all(x.reads(0, 2), x.finds(0, 1), x.snaps(39), x.merges(3, 7), x.patches(1, 2, 39), x.count(6), x.count(3)), 2, 1, 4, 3, 39, 25, 40);
        Due.row("one is taken back", Due.all(x.undo(), x.undo(), x.undo(), x.undo(), x.undo(), x.undo(), x.count(3), x.sets(0, 0, 0), x.sets(0, 0, 0)), 24, 23, 22, 21, 20, 19, 39, 39, -5);
    }

    /** So many VERSIONS: of the first twelve on, VERSION n differs from 0 in its first n cells. */
    private static RerootStore unlikeByMany(int versions) {
        StringBuilder text = new StringBuilder("store size 12 law 0 cut 0;");
        for (int v = 0; v < 12; v++) {
            text.append("set ").append(v).append(' ').append(v).append(' ').append((v + 1) % 12).append(';');
        }
        RerootStore x = Due.told(text + "set 0 0 0;".repeat(7));
        for (int v = 20; v < versions; v++) {
            x.sets(0, 0, 0);
        }
        return x;
    }

    /** "-5: there would be more than 40 VERSIONS": one fewer, 40, one more, by one to twelve new ones. */
    private static void versionsByMerging() {
        for (int many : new int[] {1, 2, 11, 12}) {
            for (int behind = 39; behind <= 41; behind++) {
                RerootStore x = unlikeByMany(behind - many);
                Due.row("merging " + many, Due.all(x.merging(0, many, 0), x.merging(0, many, 1)), many, 0);
                if (behind > 40) {
                    Whole.stays("merges to " + behind, x, -5, () -> x.merges(0, many));
                } else {
                    Due.row("merges to " + behind, Due.all(x.merges(0, many), x.count(3), x.unlike(behind - 1, many), x.version(behind - 1, 1)), behind - 1, behind, 0, many - 1);
                }
            }
        }
    }

    private static void versionsByPatching() {
        for (int many : new int[] {1, 2, 11, 12}) {
            for (int behind = 39; behind <= 41; behind++) {
                RerootStore x = unlikeByMany(behind - many);
                Due.due("patching " + many, x.patching(0, many, 0), many);
                if (behind > 40) {
                    Whole.stays("patches to " + behind, x, -5, () -> x.patches(0, many, 0), () -> x.patches(many, 0, many));
                } else {
                    Due.row("patches to " + behind, Due.all(x.patches(0, many, 0), x.count(3), x.unlike(behind - 1, many), x.version(behind - 1, 1)), behind - 1, behind, 0, many - 1);
                }
            }
        }
    }

    /** "they are of one ROOT": a cell with itself, too, and only there where they are. */
    private static void joinsOfOneRoot() {
        RerootStore x = Due.told(TWO);
        Whole.stays("one ROOT", x, -5, () -> x.joins(1, 0, 1), () -> x.joins(1, 1, 0), () -> x.joins(0, 0, 0), () -> x.joins(0, 2, 2), () -> x.joins(1, 0, 0), () -> x.joins(1, 2, 2));
        Due.row("two of them", Due.all(x.joins(0, 0, 1), x.joins(1, 0, 2), x.joins(3, 1, 2), x.version(2, 1), x.version(3, 1), x.version(3, 2)), 2, 3, -5, 1, 2, 1);
        RerootStore one = Due.told("store size 1 law 0 cut 0;");
        Whole.stays("one cell", one, -5, () -> one.joins(0, 0, 0));
    }

    /** "-5: it is DIRECT". */
    private static void snapsOfDirect() {
        for (int law = 0; law <= 2; law++) {
            RerootStore x = Due.told("store size 3 law " + law + " cut 0;set 0 0 1;");
            int linked = law == 1 ? 1 : 0;
            Whole.stays("it is DIRECT", x, -5, () -> x.snaps(1 - linked));
            Due.row("it has a LINK", Due.all(x.snaps(linked), x.count(6)), 4, 1);
            Whole.stays("both are now", x, -5, () -> x.snaps(0), () -> x.snaps(1));
        }
        RerootStore first = Due.told(HEAD);
        Whole.stays("the first one", first, -5, () -> first.snaps(0));
    }

    /** "(or one of them)": merged with itself, with what it was made of, with what was made of it. */
    private static void mergedWithIts() {
        RerootStore x = Due.told(TWO + "set 1 2 0;");
        Due.row("with itself", Due.all(x.merging(2, 2, 0), x.merging(2, 2, 1), x.merged(2, 2, 0), x.merged(2, 2, 2)), 0, 0, 1, 0);
        Due.row("with its elder", Due.all(x.merging(2, 0, 0), x.merging(2, 0, 1), x.merged(2, 0, 0), x.merged(2, 0, 2)), 0, 0, 1, 0);
        Due.row("with its younger", Due.all(x.merging(0, 2, 0), x.merging(0, 2, 1), x.merged(0, 2, 0), x.merged(0, 2, 2)), 2, 0, 1, 0);
    }

    /** "if V has it as that ..; else if W has it as that, or as V ..; else it is in CONFLICT: the lesser number of both". */
    private static void conflictOfThreeUnlike() {
        // Of 0: 0 1 2: 1 has 1 1 2, 2 has 2 1 2, 3 has 1 1 2, and 4, 5 set cell 0 of 1 back to 0, and to 2.
        RerootStore x = Due.told(TWO + "set 0 0 2;set 0 0 1;set 1 0 0;set 1 0 2;");
        Due.row("both unlike it", Due.all(x.merging(1, 2, 1), x.merged(1, 2, 0), x.merging(1, 2, 0), x.merging(2, 1, 1), x.merged(2, 1, 0), x.merging(2, 1, 0)), 1, 1, 0, 1, 1, 1);
        Due.row("both have the same", Due.all(x.merging(1, 3, 1), x.merged(1, 3, 0), x.merging(1, 3, 0)), 0, 1, 0);
        Due.row("one has it as that", Due.all(x.merging(4, 2, 1), x.merged(4, 2, 0), x.merging(2, 4, 1), x.merged(2, 4, 0)), 0, 2, 0, 2);
        Due.row("of 1, not of 0", Due.all(x.meet(4, 5), x.merging(4, 5, 1), x.merged(4, 5, 0), x.merging(5, 4, 0)), 1, 1, 0, 1);
        // In all of twelve cells, and in none.
        StringBuilder text = new StringBuilder("store size 12 law 1 cut 0;");
        for (int i = 0; i < 9; i++) {
            text.append("set ").append(i).append(' ').append(i).append(' ').append(i + 1).append(';');
        }
        for (int i = 0; i < 9; i++) {
            text.append("set ").append(i == 0 ? 0 : i + 9).append(' ').append(i).append(' ').append(i + 2).append(';');
        }
        RerootStore y = Due.told(text.toString());
        for (int i = 9; i < 12; i++) {
            y.sets(i == 9 ? 9 : y.count(3) - 1, i, (i + 1) % 12);
        }
        for (int i = 9; i < 12; i++) {
            y.sets(i == 9 ? 18 : y.count(3) - 1, i, (i + 2) % 12);
        }
        Due.row("in all", Due.all(y.count(3), y.merging(21, 24, 1), y.merging(24, 21, 1), y.merging(21, 24, 0), y.merging(21, 18, 1), y.merging(9, 18, 1), y.merging(0, 18, 1)), 25, 12, 12, 1, 9, 9, 0);
        Due.row("the lesser of both", Due.all(y.merged(21, 24, 0), y.merged(21, 24, 9), y.merged(21, 24, 10), y.merged(21, 24, 11)), 1, 10, 0, 0);
    }

    /** "the last new VERSION (the first of both, if none is made)": one act, no STEP, nothing is REACHED. */
    private static void mergesNone() {
        RerootStore x = Due.told(TWO + "set 0 1 2;");
        Due.row("the first of both", Due.all(x.merges(1, 0), x.merges(0, 0), x.merges(2, 2), x.count(3), x.count(6), x.ledger(), x.spent(2), x.state(1, 0), x.dearest()), 1, 0, 2, 3, 3, 3, 0, 0, 1);
        Due.row("one new, two new", Due.all(x.merges(1, 2), x.count(3), x.version(3, 0), x.merges(0, 3), x.count(3), x.version(5, 0), x.version(5, 1)), 3, 4, 1, 5, 6, 4, 1);
    }

    /** "the last new VERSION (the third, if none is made)". */
    private static void patchesNone() {
        RerootStore x = Due.told(TWO + "set 0 1 2;");
        Due.row("the third", Due.all(x.patches(0, 0, 1), x.patches(0, 1, 1), x.patches(2, 2, 0), x.count(3), x.count(6), x.ledger(), x.spent(2), x.state(1, 0)), 1, 1, 0, 3, 3, 3, 0, 0);
        Due.row("one new, two new", Due.all(x.patches(0, 1, 2), x.count(3), x.version(3, 0), x.patches(0, 3, 0), x.count(3), x.version(5, 0), x.version(5, 1)), 3, 4, 2, 5, 6, 4, 1);
        // A cell in which X has not what V has, either, gets what W has.
        Due.row("another in X", Due.all(x.sets(0, 0, 2), x.patching(0, 1, 6), x.patches(0, 1, 6), x.cell(7, 0)), 6, 1, 7, 1);
    }

    /** "IMAGE k (0 .. 2)", "-2: no such k". */
    private static void noSuchImage() {
        RerootStore x = Due.told(TWO);
        Whole.stays("no such k", x, -2, () -> x.image(-1), () -> x.image(3), () -> x.image(LEAST), () -> x.image(MOST), () -> x.back(-1), () -> x.back(3), () -> x.back(LEAST), () -> x.back(MOST));
        Whole.stays("it has nothing", x, -6, () -> x.back(0), () -> x.back(1), () -> x.back(2));
        Whole.stays("image", x, 0, () -> x.image(0), () -> x.image(2), () -> x.back(0), () -> x.back(2));
        Due.row("1 has nothing still", Due.all(x.back(1), x.image(1), x.back(1)), -6, 0, 0);
    }

    /** "-2: .. no STORE": and the IMAGE has what it had. */
    private static void imageWithoutStore() {
        RerootStore x = Due.told(TWO);
        x.image(0);
        Due.tell(x, "");
        Due.each("no STORE", -2, () -> x.image(0), () -> x.image(1), () -> x.image(2), () -> x.image(3));
        Due.row("what they had", Due.all(x.back(1), x.back(2), x.back(0), x.count(3), x.cell(1, 0), x.image(1), x.back(1)), -6, -6, 0, 2, 1, 0, 0);
    }

    /** "-6: it has nothing": nothing happens, with a STORE and without one; a STORE without DEEDS is something. */
    private static void imageOfNothing() {
        RerootStore x = new RerootStore();
        Whole.stays("nothing, and no STORE", x, -6, () -> x.back(0), () -> x.back(1), () -> x.back(2));
        Due.tell(x, HEAD);
        Due.row("a STORE alone", Due.all(x.image(1), x.sets(0, 0, 1), x.back(0), x.back(2), x.count(3), x.back(1), x.count(3), x.count(6), x.count(7)), 0, 1, -6, -6, 2, 0, 1, 0, 1);
    }

    /** Three IMAGES, each its own; the latest of one k is what it has. */
    private static void imagesKeepThree() {
        RerootStore x = Due.told(HEAD);
        for (int k = 0; k <= 2; k++) {
            Due.row("kept in " + k, Due.all(x.sets(k, 0, 1), x.image(k)), k + 1, 0);
        }
        x.sets(3, 0, 0);
        for (int k : new int[] {2, 0, 1, 0}) {
            Due.row("back to " + k, Due.all(x.back(k), x.count(3), x.count(6), x.ledger()), 0, k + 2, k + 1, k + 1);
        }
        Due.row("laid over", Due.all(x.anew(), x.image(2), x.back(1), x.count(6), x.back(2), x.count(6), x.undo()), 1, 0, 0, 2, 0, 0, -5);
    }

    /** "-5: there is none": DEEDS that were told stay. */
    private static void undoOfNone() {
        RerootStore x = Due.told(TWO);
        Whole.stays("none yet", x, -5, x::undo);
        Due.row("one, two", Due.all(x.reads(0, 0), x.undo(), x.reads(0, 0), x.reads(1, 0), x.undo(), x.undo()), 0, 0, 0, 1, 1, 0);
        Whole.stays("none left", x, -5, x::undo);
        Due.row("as it was told", Due.all(x.count(5), x.count(6), x.ledger(), x.state(0, 0), x.state(1, 0)), 1, 0, 1, 0, 1);
        for (int act = 0; act < 30; act++) {
            x.reads(act % 2, 0);
        }
        for (int left = 29; left >= 0; left--) {
            Due.row("left", Due.all(x.undo(), x.count(6), x.ledger()), left, left, 1 + left);
        }
        Whole.stays("none of thirty", x, -5, x::undo);
    }

    /** "All are: how many there were": none, too. */
    private static void anewOfNone() {
        RerootStore x = Due.told(TWO);
        Whole.stays("none yet", x, 0, x::anew);
        x.reads(0, 0);
        Due.row("one", Due.all(x.anew(), x.anew(), x.undo(), x.ledger(), x.state(0, 0)), 1, 0, -5, 1, 0);
        for (int act = 0; act < 30; act++) {
            x.sets(0, 0, 0);
        }
        Due.row("thirty", Due.all(x.count(3), x.count(6), x.anew(), x.count(3), x.count(6), x.count(5), x.anew()), 32, 30, 30, 2, 0, 1, 0);
    }
}
