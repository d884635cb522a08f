/** Promises 1 to 6: a new object, the TAPE, what it tells, its FAULTS, counts. */
public final class TapeTest {
    private static final String HEAD = "store size 3 law 0 cut 2;";

    public static void main(String[] args) {
        newObject();
        feeding();
        ending();
        telling();
        tellingAnew();
        tokens();
        faultsOfStore();
        faultsOfPairs();
        faultsOfDeeds();
        tooMany();
        faultsTold();
        counts();
        Due.finish("TapeTest");
    }

    private static void newObject() {
        RerootStore x = new RerootStore();
        Due.due("NONE", RerootStore.NONE, -1);
        for (int what = 0; what <= 8; what++) {
            Due.due("new: count " + what, x.count(what), 0);
        }
        Due.row("new: versions", Due.all(x.cell(0, 0), x.version(0, 0), x.unlike(0, 0), x.first(0), x.meet(0, 0), x.apart(0, 0), x.root(0, 0), x.roots(0), x.together(0, 0), x.blame(0, 0), x.often(0, 0)), -2, -2, -2, -2, -2, -2, -2, -2, -2, -2, -2);
        Due.row("new: links", Due.all(x.state(0, 0), x.length(0), x.longest(), x.direct(), x.ways(), x.snapping(0), x.snap(), x.keeps(0), x.room(0), x.busiest()), -2, -2, -2, -2, -2, -2, -2, -2, -2, -2);
        Due.row("new: ledger", Due.all(x.ledger(), x.spent(0), x.dearest(), x.cost(0, 0), x.by(0), x.cutting(0), x.cut(), x.without(0)), -2, -2, -2, -2, -2, -2, -2, -2);
        Due.row("new: acts", Due.all(x.reads(0, 0), x.sets(0, 0, 0), x.joins(0, 0, 0), x.finds(0, 0), x.snaps(0), x.merging(0, 0, 0), x.merged(0, 0, 0), x.merges(0, 0), x.patching(0, 0, 0), x.patches(0, 0, 0), x.undo(), x.anew()), -2, -2, -2, -2, -2, -2, -2, -2, -2, -2, -2, -2);
        Due.row("new: searches", Due.all(x.search(1, 0), x.searchBy(0, 1), x.colour(1, 0), x.colours(), x.forward(1, 0), x.forwardBy(0, 1), x.hue(1, 0)), -2, -2, -2, -2, -2, -2, -2);
        Due.row("new: images", Due.all(x.image(0), x.back(0), x.back(2), x.back(3)), -2, -6, -6, -2);
    }

    private static void feeding() {
        RerootStore x = new RerootStore();
        for (int n = 20; n <= 500; n += 20) {
            Due.due("feed to " + n, x.feed(0, 0, 0, 0, 0), n);
        }
        Due.due("feed to 520", x.feed(0, 0, 0, 0, 0), -1);
        Due.due("none came", x.count(8), 500);
        x.end(481);
        Due.due("feed to 501", x.feed(0, 0, 0, 0, 0), -1);
        Due.due("none came", x.count(8), 481);
        x.end(480);
        Due.due("feed to 500", x.feed(0, 0, 0, 0, 0), 500);

        RerootStore y = new RerootStore();
        // "store size 12 law 1 " "cut 20;" with blanks behind it: the highest byte of each number comes first.
        y.feed(0x73746f72, 0x65207369, 0x7a652031, 0x32206c61, 0x77203120);
        y.feed(0x63757420, 0x32303b20, 0x0a202020, 0x0a0a2020, 0x20202020);
        Due.due("bytes in order", y.store(), 1);
        Due.row("bytes in order", Due.all(y.count(0), y.count(1), y.count(2)), 12, 1, 20);
        y.feed(-1, -1, -1, -1, -1);
        Due.due("bytes above 127", y.store(), -4);
        Due.row("bytes above 127", Due.all(y.fault(0), y.fault(1)), 1, 0);
    }

    private static void ending() {
        RerootStore x = new RerootStore();
        Due.row("end of an empty one", Due.all(x.end(0), x.end(1), x.end(-1)), 0, -1, -1);
        x.feed(1, 2, 3, 4, 5);
        Due.row("end", Due.all(x.end(21), x.end(Integer.MAX_VALUE), x.end(Integer.MIN_VALUE), x.count(8)), -1, -1, -1, 20);
        Due.row("end", Due.all(x.end(20), x.end(7), x.count(8), x.end(8), x.count(8)), 20, 7, 7, -1, 7);

        RerootStore y = new RerootStore();
        Due.lay(y, HEAD + "pair 0 1;");
        y.end(HEAD.length());
        Due.lay(y, "pair 1 2;pair 0 2;");
        Due.row("what was ended is gone", Due.all(y.store(), y.count(4)), 3, 2);
    }

    private static void telling() {
        RerootStore x = new RerootStore();
        Due.due("an empty text", x.store(), 0);
        Due.due("blanks alone", Due.tell(x, " \n  "), 0);
        Due.due("a store", Due.tell(x, HEAD), 1);
        Due.due("the TAPE is empty then", x.count(8), 0);
        Due.due("lines", Due.tell(x, HEAD + "pair 0 1;set 0 0 1;pair 2 1;read 1 0;"), 5);
        x.sets(1, 1, 2);
        x.image(1);
        Due.due("a fault", Due.tell(x, HEAD + "read 1 0;"), -4);
        Due.row("all else stays", Due.all(x.count(7), x.count(3), x.count(6), x.cell(2, 1), x.count(8)), 5, 3, 1, 2, 0);
        Due.due("in place of others", Due.tell(x, "store size 2 law 1 cut 0;set 0 1 0;"), 2);
        Due.row("no acts, other deeds", Due.all(x.count(0), x.count(3), x.count(4), x.count(5), x.count(6), x.ledger()), 2, 2, 0, 1, 0, 1);
        Due.due("none then", Due.tell(x, ""), 0);
        Due.row("there is none", Due.all(x.count(0), x.count(7), x.ledger(), x.cell(0, 0), x.undo()), 0, 0, -2, -2, -2);
        Due.row("there is none: counts", Due.all(x.count(1), x.count(2), x.count(3), x.count(4), x.count(5), x.count(6)), 0, 0, 0, 0, 0, 0);
        Due.row("images stay", Due.all(x.back(1), x.count(3), x.count(6), x.count(7)), 0, 3, 1, 5);
    }

    /** Nothing of a store told earlier may shine through, nor of one that had a fault. */
    private static void tellingAnew() {
        RerootStore x = new RerootStore();
        String full = "store size 3 law 2 cut 9;pair 0 1;pair 1 2;set 0 0 1;read 0 0;snap 1;";
        for (int i = 0; i < 3; i++) {
            Due.due("the same again", Due.tell(x, full), 6);
            Due.row("the same again", Due.all(x.count(4), x.count(5), x.count(6), x.ledger(), x.spent(2)), 2, 3, 0, 6, 4);
            Due.due("a fault behind all of it", Due.tell(x, full + "?"), -4);
        }
        for (int i = 0; i < 3; i++) {
            Due.tell(x, "");
            Due.row("nothing of it", Due.all(x.count(1), x.count(2), x.count(3), x.count(4), x.count(5), x.count(6)), 0, 0, 0, 0, 0, 0);
            Due.tell(x, HEAD);
            Due.row("none of it", Due.all(x.count(4), x.count(5), x.count(6), x.colours(), x.dearest(), x.ledger()), 0, 0, 0, 1, -1, 0);
        }
    }

    private static void tokens() {
        RerootStore x = new RerootStore();
        Due.due("blanks may be left out", Due.tell(x, "store size3law1cut4;pair0 1;set0 0 1;"), 3);
        Due.row("blanks left out", Due.all(x.count(0), x.count(1), x.count(2), x.count(4), x.cell(1, 0)), 3, 1, 4, 1, 1);
        Due.due("blanks and ends of lines", Due.tell(x, "\n store\nsize 3  law 0\n\ncut 2 ;\n pair 0\n1 ; \n"), 2);
        Due.due("noughts ahead", Due.tell(x, "store size 0012 law 000002 cut 020;set 00 011 00;"), 2);
        Due.row("noughts ahead", Due.all(x.count(0), x.count(1), x.count(2), x.cell(1, 11)), 12, 2, 20, 0);
        Due.faulty("storesize 3 law 0 cut 2;", 1, 0);
        Due.faulty(HEAD + "read 0 0\t;", 1, 33);
        Due.faulty(HEAD + "read 0 0\r;", 1, 33);
        Due.faulty(HEAD + "Read 0 0;", 1, 25);
        Due.faulty(HEAD + "read 0 -0;", 1, 32);
        Due.faulty(HEAD + "read 0 0,", 1, 33);
        Due.faulty("\u00e9", 1, 0);
        Due.faulty(HEAD + "\u0000", 1, 25);
        Due.faulty(HEAD + "readx 0 0;", 1, 25);
        Due.faulty(HEAD + "rea 0 0;", 1, 25);
        Due.faulty(HEAD + "lead 0 0;", 1, 25);
        Due.faulty(HEAD + "reap 0 0;", 1, 25);
        Due.faulty(HEAD + "hair 0 1;", 1, 25);
    }

    private static void faultsOfStore() {
        Due.faulty(";", 1, 0);
        Due.faulty("  ;", 1, 2);
        Due.faulty("5", 1, 0);
        Due.faulty("pair 0 1;", 1, 0);
        Due.faulty("what", 1, 0);
        Due.faulty("store", 1, 5);
        Due.faulty("store  ", 1, 7);
        Due.faulty("store 3", 1, 6);
        Due.faulty("store law 0 cut 2;", 1, 6);
        Due.faulty("store size law", 1, 11);
        Due.faulty("store size ;", 1, 11);
        Due.faulty("store size 0 law 0 cut 2;", 2, 11);
        Due.faulty("store size 13 law 0 cut 2;", 2, 11);
        Due.faulty("store size 4294967297 law 0 cut 2;", 2, 11);
        Due.faulty("store size 99999999999999999999999999 law 9", 2, 11);
        Due.faulty("store size 3 law 3 cut 2;", 2, 17);
        Due.faulty("store size 3 law 0 cut 21;", 2, 23);
        Due.faulty("store size 3 cut 2 law 0;", 1, 13);
        Due.faulty("store size 3 law 0 cut 2", 1, 24);
        Due.faulty("store size 3 law 0 cut 2 \n ", 1, 27);
        Due.faulty("store size 3 law 0 cut 2 3;", 1, 25);
        Due.faulty(HEAD + ";", 1, 25);
        Due.faulty(HEAD + "4", 1, 25);
        Due.faulty(HEAD + " " + HEAD, 1, 26);
        Due.faulty(HEAD + "size 3;", 1, 25);
        Due.due("the least and the most", Due.tell(new RerootStore(), "store size 1 law 2 cut 0;"), 1);
        Due.due("the least and the most", Due.tell(new RerootStore(), "store size 12 law 0 cut 20;"), 1);
    }

    private static void faultsOfPairs() {
        Due.faulty(HEAD + "pair 3 0;", 2, 30);
        Due.faulty(HEAD + "pair 0 3;", 2, 32);
        Due.faulty(HEAD + "pair 1 1;", 2, 32);
        Due.faulty(HEAD + "pair 0 1;pair 0 1;", 2, 41);
        Due.faulty(HEAD + "pair 0 1;pair 1 0;", 2, 41);
        Due.faulty(HEAD + "pair 0;", 1, 31);
        Due.faulty(HEAD + "pair 0 1 2;", 1, 34);
        Due.faulty(HEAD + "pair 0 1", 1, 33);
        Due.faulty("store size 1 law 0 cut 0;pair 0 0;", 2, 32);
        // The first one by its place, though another one stands behind it.
        Due.faulty(HEAD + "pair 0 7 ?", 2, 32);
    }

    private static void faultsOfDeeds() {
        Due.faulty(HEAD + "set 1 0 0;", 2, 29);
        Due.faulty(HEAD + "set 0 3 0;", 2, 31);
        Due.faulty(HEAD + "set 0 0 3;", 2, 33);
        Due.faulty(HEAD + "set 0 0;", 1, 32);
        Due.faulty(HEAD + "set 0 0 1;set 2 0 0;", 2, 39);
        Due.faulty(HEAD + "join 1 0 1;", 2, 30);
        Due.faulty(HEAD + "join 0 3 1;", 2, 32);
        Due.faulty(HEAD + "join 0 0 3;", 2, 34);
        Due.faulty(HEAD + "join 0 1 1;", 2, 34);
        Due.faulty(HEAD + "join 0 0 1;join 1 1 0;", 2, 45);
        Due.due("of one ROOT there, not here", Due.tell(new RerootStore(), HEAD + "join 0 0 1;join 0 1 0;"), 3);
        Due.faulty(HEAD + "read 1 0;", 2, 30);
        Due.faulty(HEAD + "read 0 3;", 2, 32);
        Due.faulty(HEAD + "read 0 0 0;", 1, 34);
        Due.faulty(HEAD + "find 1 0;", 2, 30);
        Due.faulty(HEAD + "find 0 3;", 2, 32);
        Due.faulty(HEAD + "snap 1;", 2, 30);
        Due.faulty(HEAD + "snap 0;", 2, 30);
        Due.faulty(HEAD + "snap;", 1, 29);
        // Which one is DIRECT then depends on the LAW, and on what was read.
        Due.faulty(HEAD + "set 0 0 1;snap 1;", 2, 40);
        Due.faulty(HEAD + "set 0 0 1;read 0 0;snap 0;", 2, 49);
        Due.faulty("store size 3 law 1 cut 2;set 0 0 1;snap 0;", 2, 40);
        Due.due("snap by LAW 0", Due.tell(new RerootStore(), HEAD + "set 0 0 1;snap 0;read 0 0;"), 4);
        Due.due("snap by LAW 1", Due.tell(new RerootStore(), "store size 3 law 1 cut 2;set 0 0 1;read 0 0;snap 1;"), 4);
    }

    private static void tooMany() {
        StringBuilder pairs = new StringBuilder("store size 7 law 0 cut 2;");
        int many = 0;
        for (int a = 0; a < 7; a++) {
            for (int b = a + 1; b < 7 && many < 16; b++) {
                pairs.append("pair ").append(b).append(' ').append(a).append(';');
                many++;
            }
        }
        Due.due("sixteen pairs", Due.tell(new RerootStore(), pairs + "read 0 0;"), 18);
        Due.faulty(pairs + "pair 5 6;", 3, pairs.length());
        Due.faulty(pairs + "pair ?", 3, pairs.length());
        Due.faulty(pairs + "pairs 5 6", 1, pairs.length());

        String reads = HEAD + "read 0 0;".repeat(30);
        Due.due("thirty deeds", Due.tell(new RerootStore(), reads + "pair 0 1;"), 32);
        Due.faulty(reads + "read 0 0;", 3, reads.length());
        Due.faulty(reads + "find 0 0;", 3, reads.length());
        Due.faulty(reads + "snap 9;", 3, reads.length());
        Due.faulty(reads + "set 0 0 0;", 3, reads.length());
        Due.faulty(reads + "join 0 0 1;", 3, reads.length());

        String sets = HEAD + "set 0 0 0;".repeat(19);
        RerootStore x = new RerootStore();
        Due.due("twenty versions", Due.tell(x, sets + "read 19 0;snap 0;"), 22);
        Due.due("twenty versions", x.count(3), 20);
        Due.faulty(sets + "set 0 0 0;", 3, sets.length());
        Due.faulty(sets + "join 0 0 1;", 3, sets.length());
    }

    private static void faultsTold() {
        RerootStore x = new RerootStore();
        Due.row("ahead of any", Due.all(x.fault(0), x.fault(1), x.fault(2), x.fault(-1)), 0, -1, -1, -1);
        Due.tell(x, "store size 3 law 4");
        Due.row("a fault", Due.all(x.fault(0), x.fault(1), x.fault(2), x.fault(-1)), 2, 17, -1, -1);
        x.feed(0, 0, 0, 0, 0);
        x.end(0);
        Due.row("of the latest store() still", Due.all(x.fault(0), x.fault(1)), 2, 17);
        Due.tell(x, HEAD);
        Due.row("without", Due.all(x.fault(0), x.fault(1), x.fault(2)), 0, -1, -1);
        x.image(0);
        Due.tell(x, "x");
        x.back(0);
        Due.row("an image has none", Due.all(x.fault(0), x.fault(1)), 1, 0);
        Due.tell(x, "");
        Due.row("of an empty text", Due.all(x.fault(0), x.fault(1)), 0, -1);
    }

    private static void counts() {
        RerootStore x = Due.told("store size 5 law 2 cut 7;pair 0 1;set 0 0 1;pair 4 1;join 1 2 3;find 1 0;");
        Due.row("counts", Due.all(x.count(0), x.count(1), x.count(2), x.count(3), x.count(4), x.count(5), x.count(6), x.count(7), x.count(8)), 5, 2, 7, 3, 2, 3, 0, 6, 0);
        x.reads(0, 0);
        x.sets(2, 0, 0);
        x.feed(0, 0, 0, 0, 0);
        Due.row("counts", Due.all(x.count(3), x.count(4), x.count(5), x.count(6), x.count(7), x.count(8)), 4, 2, 5, 2, 6, 20);
        Due.row("others", Due.all(x.count(9), x.count(-1), x.count(Integer.MAX_VALUE), x.count(Integer.MIN_VALUE)), -1, -1, -1, -1);
    }
}
