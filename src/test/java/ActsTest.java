/** Promises 31 to 35, 42 to 46, 53 to 56: acts, merging, patching, images, acts taken back. */
public final class ActsTest {
    // 0: 0 1 2 3; 1 of 0: 3 1 2 3; 2 of 1: 3 1 0 3; 3 of 0: 1 1 2 3; 4 of 3: 1 2 2 3; 5 of 4: 1 2 0 3
    private static final String FORKED = "set 0 0 3;set 1 2 0;set 0 0 1;set 3 1 2;set 4 2 0;";

    public static void main(String[] args) {
        readingActs();
        settingActs();
        joiningActs();
        findingActs();
        snappingActs();
        merging();
        patching();
        thirtyActs();
        sixtyDeeds();
        fortyVersions();
        images();
        imagesWhole();
        takingBack();
        Due.finish("ActsTest");
    }

    private static void readingActs() {
        RerootStore x = Due.told("store size 4 law 0 cut 0;set 0 0 3;");
        Due.row("reads", Due.all(x.reads(0, 0), x.count(6), x.spent(1), x.state(0, 0), x.state(1, 1), x.state(1, 3)), 0, 1, 1, 1, 0, 3);
        Due.row("reads, none such", Due.all(x.reads(2, 0), x.reads(-1, 0), x.reads(0, 4), x.reads(0, -1), x.count(6)), -2, -2, -2, -2, 1);
        RerootStore y = Due.told("store size 4 law 1 cut 0;set 0 0 3;");
        Due.row("reads by LAW 1", Due.all(y.reads(1, 0), y.reads(1, 1), y.spent(1), y.spent(2), y.state(0, 0)), 3, 1, 0, 1, 1);
    }

    private static void settingActs() {
        RerootStore x = Due.told("store size 4 law 0 cut 0;");
        Due.row("sets", Due.all(x.sets(0, 2, 1), x.sets(0, 3, 0), x.cell(1, 2), x.cell(2, 3), x.cell(0, 2), x.count(3), x.count(6)), 1, 2, 1, 0, 2, 3, 2);
        Due.row("sets: steps", Due.all(x.spent(0), x.spent(1)), 1, 2);
        Due.row("sets, none such", Due.all(x.sets(3, 0, 0), x.sets(-1, 0, 0), x.sets(0, 4, 0), x.sets(0, -1, 0), x.sets(0, 0, 4), x.sets(0, 0, -1), x.count(6)), -2, -2, -2, -2, -2, -2, 2);
    }

    private static void joiningActs() {
        RerootStore x = Due.told("store size 4 law 0 cut 0;");
        Due.row("joins", Due.all(x.joins(0, 1, 3), x.cell(1, 3), x.cell(1, 1), x.version(1, 1), x.version(1, 2)), 1, 1, 1, 3, 1);
        // 3 has the root 1: in the greater root 1 the lesser one 0 is set.
        Due.row("joins of joined", Due.all(x.joins(1, 3, 0), x.version(2, 1), x.version(2, 2), x.root(2, 3)), 2, 1, 0, 0);
        Due.row("joins of one root", Due.all(x.joins(2, 0, 3), x.joins(1, 1, 3), x.joins(0, 2, 2), x.count(6)), -5, -5, -5, 2);
        Due.row("joins, none such", Due.all(x.joins(3, 0, 1), x.joins(-1, 0, 1), x.joins(0, 4, 1), x.joins(0, -1, 1), x.joins(0, 0, 4), x.joins(0, 0, -1)), -2, -2, -2, -2, -2, -2);
        RerootStore round = Due.told("store size 3 law 0 cut 0;set 0 0 1;set 1 1 0;");
        Due.row("joins in a round", Due.all(round.joins(2, 0, 1), round.version(3, 1), round.version(3, 2)), 3, 1, 0);
    }

    private static void findingActs() {
        RerootStore x = Due.told("store size 4 law 1 cut 0;set 0 0 3;set 1 2 0;");
        Due.row("finds", Due.all(x.finds(2, 2), x.spent(2), x.finds(0, 2), x.finds(1, 2), x.count(6)), 3, 3, 2, 2, 3);
        Due.row("finds, none such", Due.all(x.finds(3, 0), x.finds(-1, 0), x.finds(0, 4), x.finds(0, -1), x.count(6)), -2, -2, -2, -2, 3);
        RerootStore round = Due.told("store size 3 law 1 cut 0;set 0 0 1;set 1 1 0;");
        Due.row("finds in a round", Due.all(round.finds(2, 0), round.spent(2), round.finds(2, 1), round.spent(3)), 1, 2, 0, 1);
    }

    private static void snappingActs() {
        RerootStore x = Due.told("store size 4 law 0 cut 0;set 0 0 3;set 1 2 0;");
        Due.row("snaps", Due.all(x.snaps(0), x.spent(2), x.direct(), x.state(1, 0), x.state(1, 1), x.snaps(0), x.snaps(2), x.count(6)), 6, 6, 2, 0, 2, -5, -5, 1);
        Due.row("snaps, none such", Due.all(x.snaps(3), x.snaps(-1)), -2, -2);
        Due.row("a row of its own", Due.all(x.reads(0, 0), x.spent(3), x.reads(1, 0), x.spent(4)), 0, 0, 3, 1);
    }

    private static void merging() {
        RerootStore x = Due.told("store size 4 law 1 cut 0;" + FORKED);
        Due.row("merging", Due.all(x.merging(2, 4, 0), x.merging(2, 4, 1), x.merging(4, 2, 0), x.merging(4, 2, 1)), 2, 1, 1, 1);
        Due.row("both have the same", Due.all(x.merging(2, 5, 0), x.merging(2, 5, 1), x.merged(2, 5, 2)), 2, 1, 0);
        Due.row("merged", Due.all(x.merged(2, 4, 0), x.merged(2, 4, 1), x.merged(2, 4, 2), x.merged(2, 4, 3)), 1, 2, 0, 3);
        Due.row("by itself, by its elder", Due.all(x.merging(2, 2, 0), x.merging(2, 1, 0), x.merging(1, 2, 0), x.merging(0, 5, 0), x.merging(5, 0, 1)), 0, 0, 1, 3, 0);
        Due.row("merging, none such", Due.all(x.merging(6, 0, 0), x.merging(0, 6, 0), x.merging(-1, 0, 0), x.merging(0, -1, 0), x.merging(0, 0, 2), x.merging(0, 0, -1)), -2, -2, -2, -2, -2, -2);
        Due.row("merged, none such", Due.all(x.merged(6, 0, 0), x.merged(0, 6, 0), x.merged(-1, 0, 0), x.merged(0, -1, 0), x.merged(0, 0, 4), x.merged(0, 0, -1)), -2, -2, -2, -2, -2, -2);
        Due.row("nothing has happened", Due.all(x.count(3), x.count(6), x.ledger()), 6, 0, 5);
        Due.row("merges", Due.all(x.merges(2, 4), x.count(3), x.count(6), x.count(5), x.spent(5)), 7, 8, 1, 6, 2);
        Due.row("merges: the one ahead", Due.all(x.version(6, 0), x.version(6, 1), x.version(6, 2), x.cell(6, 1)), 2, 0, 1, 1);
        Due.row("merges: the last", Due.all(x.version(7, 0), x.version(7, 1), x.version(7, 2)), 6, 1, 2);
        Due.row("merges of nothing", Due.all(x.merges(2, 1), x.merges(3, 3), x.count(3), x.count(6), x.spent(6)), 2, 3, 8, 3, 0);
        Due.row("merges, none such", Due.all(x.merges(8, 0), x.merges(0, 8), x.merges(-1, 0), x.merges(0, -1), x.count(6)), -2, -2, -2, -2, 3);
        // By LAW 0 1 is DIRECT at last; nothing is read, so a merge of nothing reaches nothing.
        RerootStore y = Due.told("store size 3 law 0 cut 0;set 0 0 1;");
        Due.row("LAW 0, nothing", Due.all(y.merges(0, 0), y.spent(1), y.state(0, 0)), 0, 0, 0);
        Due.row("LAW 0, one", Due.all(y.merges(0, 1), y.spent(2), y.state(2, 0), y.state(0, 1), y.state(1, 1)), 2, 2, 1, 2, 0);
    }

    private static void patching() {
        RerootStore x = Due.told("store size 4 law 1 cut 0;" + FORKED);
        Due.row("patching", Due.all(x.patching(0, 2, 4), x.patching(2, 0, 4), x.patching(1, 1, 3), x.patching(0, 2, 2), x.patching(0, 2, 5), x.patching(2, 4, 0)), 2, 1, 0, 0, 1, 2);
        Due.row("patching, none such", Due.all(x.patching(6, 0, 0), x.patching(0, 6, 0), x.patching(0, 0, 6), x.patching(-1, 0, 0), x.patching(0, -1, 0), x.patching(0, 0, -1)), -2, -2, -2, -2, -2, -2);
        Due.row("patches", Due.all(x.patches(0, 2, 4), x.count(3), x.count(6), x.spent(5)), 7, 8, 1, 2);
        Due.row("patches: made", Due.all(x.version(6, 0), x.version(6, 1), x.version(6, 2), x.version(7, 0), x.version(7, 1), x.version(7, 2)), 4, 0, 3, 6, 2, 0);
        Due.row("patches: cells", Due.all(x.cell(7, 0), x.cell(7, 1), x.cell(7, 2), x.cell(7, 3)), 3, 2, 0, 3);
        Due.row("patches of nothing", Due.all(x.patches(1, 1, 3), x.count(3), x.count(6), x.spent(6)), 3, 8, 2, 0);
        Due.row("patches, none such", Due.all(x.patches(8, 0, 0), x.patches(0, 8, 0), x.patches(0, 0, 8), x.patches(-1, 0, 0), x.patches(0, -1, 0), x.patches(0, 0, -1), x.count(6)), -2, -2, -2, -2, -2, -2, 2);
    }

    private static void thirtyActs() {
        RerootStore x = Due.told("store size 3 law 0 cut 0;set 0 0 1;");
        for (int i = 0; i < 29; i++) {
            x.reads(0, i % 3);
        }
        Due.row("the thirtieth", Due.all(x.finds(1, 0), x.count(6), x.count(5)), 1, 30, 31);
        Due.row("no more", Due.all(x.reads(0, 0), x.sets(0, 0, 0), x.joins(0, 0, 1), x.finds(0, 0), x.snaps(0), x.merges(0, 0), x.patches(0, 0, 0)), -5, -5, -5, -5, -5, -5, -5);
        Due.row("none such all the same", Due.all(x.reads(2, 0), x.sets(0, 3, 0), x.joins(0, 0, 3), x.finds(0, 3), x.snaps(2), x.merges(0, 2), x.patches(0, 0, 2)), -2, -2, -2, -2, -2, -2, -2);
        Due.row("nothing has happened", Due.all(x.count(6), x.count(3), x.undo(), x.reads(0, 0), x.reads(0, 0)), 30, 2, 29, 0, -5);
    }

    private static void sixtyDeeds() {
        RerootStore x = Due.told("store size 2 law 0 cut 0;set 0 0 1;" + "read 0 0;read 1 0;".repeat(14) + "read 0 0;");
        for (int i = 0; i < 30; i++) {
            Due.due("act " + i, x.reads((i + 1) % 2, 0), (i + 1) % 2);
        }
        Due.row("sixty deeds", Due.all(x.count(5), x.count(6), x.spent(59), x.spent(60), x.ledger(), x.by(1), x.without(59), x.undo(), x.anew(), x.count(5)), 60, 30, 1, -2, 60, 1, 59, 29, 29, 30);
    }

    private static void fortyVersions() {
        RerootStore x = Due.told("store size 3 law 1 cut 0;" + "set 0 0 0;".repeat(19));
        for (int v = 20; v < 38; v++) {
            Due.due("set", x.sets(0, 1, 1), v);
        }
        Due.row("to 39", Due.all(x.sets(0, 0, 1), x.sets(38, 1, 0), x.count(3)), 38, 39, 40);
        Due.row("the forty-first", Due.all(x.sets(0, 0, 1), x.joins(0, 0, 1), x.merges(0, 39), x.patches(0, 39, 0), x.merging(0, 39, 0), x.patching(0, 39, 0)), -5, -5, -5, -5, 2, 2);
        Due.row("others may be", Due.all(x.reads(39, 0), x.finds(39, 1), x.snaps(39), x.merges(39, 0), x.patches(0, 0, 3), x.count(6)), 1, 0, 5, 39, 3, 25);
        x.anew();
        for (int v = 20; v < 37; v++) {
            x.sets(0, 1, 1);
        }
        x.sets(0, 0, 1);
        x.sets(37, 1, 0);
        Due.row("room for one, not for two", Due.all(x.count(3), x.merges(0, 38), x.patches(0, 38, 1), x.merges(37, 38), x.count(3)), 39, -5, -5, 39, 40);
        x.undo();
        Due.row("room for one", Due.all(x.patches(37, 38, 0), x.count(3)), 39, 40);
    }

    private static void images() {
        RerootStore x = Due.told("store size 3 law 0 cut 2;pair 0 2;set 0 0 1;");
        x.reads(0, 0);
        Due.row("image", Due.all(x.image(0), x.image(3), x.image(-1)), 0, -2, -2);
        x.reads(1, 0);
        x.sets(0, 1, 2);
        Due.row("another image", Due.all(x.image(2), x.back(1), x.count(6)), 0, -6, 3);
        x.feed(1, 1, 1, 1, 1);
        Due.row("back", Due.all(x.back(0), x.count(6), x.count(5), x.count(3), x.count(4), x.count(7), x.count(8), x.ledger(), x.spent(1), x.state(0, 0), x.state(1, 1)), 0, 1, 2, 2, 1, 3, 20, 2, 1, 1, 0);
        x.sets(0, 2, 0);
        Due.row("an image stays as it is", Due.all(x.back(0), x.count(3), x.ledger(), x.state(0, 0)), 0, 2, 2, 1);
        Due.row("acts of an image", Due.all(x.undo(), x.ledger(), x.state(1, 0), x.undo()), 0, 1, 1, -5);
        Due.row("the other one", Due.all(x.back(2), x.count(3), x.count(6), x.ledger(), x.cell(2, 1), x.state(2, 0)), 0, 3, 3, 5, 2, 1);
        Due.tell(x, "");
        Due.row("without a store", Due.all(x.image(0), x.image(1), x.back(1), x.back(3), x.back(-1)), -2, -2, -6, -2, -2);
        Due.row("from nothing back", Due.all(x.back(0), x.ledger(), x.count(0), x.count(4)), 0, 2, 3, 1);
        Due.tell(x, "store size 12 law 1 cut 0;");
        x.image(0);
        Due.row("laid over", Due.all(x.back(2), x.count(0), x.back(0), x.count(0), x.count(4), x.count(5)), 0, 3, 0, 12, 0, 0);
    }

    /** Between an image and going back all is another: each part of it must come back. */
    private static void imagesWhole() {
        RerootStore x = imaged();
        Due.tell(x, "store size 5 law 2 cut 1;pair 3 4;join 0 3 4;join 1 0 1;join 0 1 2;read 1 1;snap 2;join 3 2 4;find 4 4;read 0 2;");
        x.sets(2, 2, 2);
        x.joins(2, 2, 3);
        x.merges(1, 3);
        x.image(2);
        x.back(1);
        // Others are asked what is due: an object is promised for 512 calls.
        long[] due = all(imaged());
        Due.row("as it was", all(x), due);
        RerootStore y = imaged();
        Due.tell(y, "");
        y.back(1);
        Due.row("as it was, from nothing", all(y), due);
        Due.row("some of it", Due.all(x.count(1), x.count(2), x.version(7, 0), x.version(7, 1), x.state(7, 2), x.colours(), x.spent(5), x.spent(6), x.spent(7)), 1, 3, 6, 2, 2, 3, 3, 2, 6);
        x.undo();
        x.undo();
        Due.row("taken back there", Due.all(x.count(3), x.ledger(), x.direct(), x.count(6), x.by(1), x.without(5)), 8, 10, 1, 2, 10, 7);
        x.anew();
        Due.row("all of them", Due.all(x.count(3), x.ledger(), x.spent(4), x.spent(5)), 6, 5, 1, -2);
    }

    private static RerootStore imaged() {
        RerootStore x = Due.told("store size 4 law 1 cut 3;pair 0 1;pair 1 2;pair 2 0;" + FORKED);
        x.reads(5, 3);
        x.patches(0, 2, 4);
        x.snaps(2);
        x.finds(2, 2);
        x.image(1);
        return x;
    }

    /** Every answer that tells something of a store, one behind the other. */
    private static long[] all(RerootStore x) {
        java.util.List<Long> all = new java.util.ArrayList<>();
        for (int what = 0; what < 8; what++) {
            all.add((long) x.count(what));
        }
        for (int v = 0; v < x.count(3); v++) {
            for (int i = 0; i < x.count(0); i++) {
                all.add((long) x.cell(v, i));
                all.add((long) x.cost(v, i));
                all.add((long) x.blame(v, i));
                all.add((long) x.often(v, i));
            }
            for (int what = 0; what < 4; what++) {
                all.add((long) x.state(v, what));
                all.add((long) x.version(v, what));
            }
        }
        for (int deed = 0; deed < x.count(5); deed++) {
            all.add((long) x.spent(deed));
            all.add((long) x.without(deed));
        }
        for (int law = 0; law < 3; law++) {
            all.add((long) x.by(law));
            all.add((long) x.searchBy(law, 2));
            all.add((long) x.forwardBy(law, 3));
        }
        all.add((long) x.ledger());
        return all.stream().mapToLong(n -> n).toArray();
    }

    private static void takingBack() {
        RerootStore x = Due.told("store size 4 law 0 cut 0;set 0 0 3;set 1 2 0;read 0 0;");
        Due.row("none yet", Due.all(x.undo(), x.anew(), x.ledger()), -5, 0, 4);
        x.reads(2, 0);
        x.merges(0, 2);
        x.snaps(1);
        Due.row("three", Due.all(x.count(6), x.count(3), x.ledger(), x.direct()), 3, 5, 4 + 2 + 4 + 7, 2);
        Due.row("undo a snap", Due.all(x.undo(), x.direct(), x.ledger(), x.spent(5)), 2, 1, 10, -2);
        Due.row("undo a merge", Due.all(x.undo(), x.count(3), x.ledger(), x.state(2, 0), x.state(0, 1), x.state(1, 1)), 1, 3, 6, 1, 1, 2);
        Due.row("undo a reading", Due.all(x.undo(), x.ledger(), x.state(0, 0), x.state(1, 1), x.state(2, 1)), 0, 4, 1, 0, 1);
        Due.row("none left", Due.all(x.undo(), x.count(5), x.count(7)), -5, 3, 4);
        x.sets(2, 3, 0);
        x.sets(3, 1, 0);
        Due.row("anew", Due.all(x.anew(), x.count(3), x.count(6), x.ledger(), x.state(0, 0), x.anew()), 2, 3, 0, 4, 1, 0);
    }
}
