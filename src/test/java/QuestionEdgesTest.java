import java.util.NoSuchElementException;

/** Questions, sentence by sentence: trees, kin, looks, painters, experts, auctions, watches, chances, YEARS, counts. */
public final class QuestionEdgesTest extends Asked {
    private static final int THROWN = -100;
    private static final String BOY = "thief t boy skill 0 coins 0 at 0;";
    private static final String SPOTS = "spot sa; spot sb; spot sc;";
    /** PIECES 0, 2, 4, 6 have no slip, 1, 3, 5, 7 have one. */
    private static final String TWO_LOOKS = "spot a;" + BOY + times(7, "copy of % slip a with t;");
    /** PIECE 0 has no slip, all others have the same one. */
    private static final String SEVEN_ALIKE = "spot a;" + BOY + times(7, "copy of 0 slip a with t;");

    public static void main(String[] args) {
        sizesOfTrees();
        rowsOfTrees();
        treesRefused();
        kin();
        nearest();
        meeting();
        joined();
        joinedOthers();
        looks();
        fitting();
        asking();
        prices();
        painters();
        paintersAsItIsNow();
        paintersByRow();
        knowing();
        depths();
        withoutExperts();
        auctionsForTheOwnBid();
        auctionsForTheOther();
        auctionsRefused();
        watches();
        watchesRefused();
        chances();
        chancesRefused();
        yearsBounds();
        yearsDraws();
        yearsDeeds();
        yearsNights();
        yearsThatCannotBe();
        counts();
        endTest();
    }

    // ---- TREE ----

    private static void sizesOfTrees() {
        says("TREE of some PIECES (1 to 6)");
        PanelCopies x = told(SEVEN_ALIKE);
        for (int piece = 0; piece < 8; piece++) {
            due(15, "one: the sum", x.tree(1 << piece, 0), 0);
            due(15, "one: how many", x.tree(1 << piece, 1), 1);
            due(15, "one: nothing is joined", x.tree(1 << piece, 2), NONE);
        }
        int[] many = {0, 1, 1, 3, 16, 125, 1296};
        for (int size = 1; size <= 6; size++) {
            int alike = (1 << size) - 1 << 1;
            due(15, size + " alike: the sum", x.tree(alike, 0), 0);
            due(15, size + " alike: how many", x.tree(alike, 1), many[size]);
            for (int i = 0; i < size - 1; i++) {
                due(15, size + " alike: joined to the first of them", x.tree(alike, 2 + i), 1);
            }
            due(15, size + " alike: no more are joined", x.tree(alike, 1 + size), NONE);
        }
        due(15, "six, the last ones", x.tree(0xFC, 1), 1296);
        due(15, "six, the last ones", x.tree(0xFC, 6), 2);
        due(15, "six with the first", x.tree(0x3F, 0), 1);
        due(15, "five to join it to, 125 trees of these", x.tree(0x3F, 1), 625);
        for (int seven : new int[] {0x7F, 0xFE, 0xFD, 0xBF, 0xFF}) {
            for (int what = 0; what < 9; what++) {
                due(15, "seven or eight", x.tree(seven, what), NONE);
            }
        }
    }

    private static void rowsOfTrees() {
        says("each PIECE but the first of them joined to one: a row, by PIECES, of the one that is next to it on the way to the"
            + " first; the first row");
        PanelCopies alike = told(SEVEN_ALIKE);
        int[] row = {0, 1, 1, 1, 1};
        for (int i = 0; i < 5; i++) {
            due(15, "the first row", alike.tree(0x3F, 2 + i), row[i]);
        }
        // PIECE 2 lies between 0 and 1: the way from 1 leads through a later one.
        PanelCopies x = told(SPOTS + BOY + "copy of 0 slip sa sb with t; copy of 0 slip sa with t; copy of 1 slip sc with t;");
        due(15, "the sum", x.tree(7, 0), 2);
        due(15, "the only one", x.tree(7, 1), 1);
        due(15, "1 is joined to 2", x.tree(7, 2), 2);
        due(15, "2 is joined to 0", x.tree(7, 3), 0);
        due(15, "beyond", x.tree(7, 4), NONE);
        due(15, "without 2: 0, 1, 3", x.tree(11, 0), 3);
        due(15, "3 is joined to 1", x.tree(11, 3), 1);
        due(15, "1 and 3 alone", x.tree(10, 2), 1);
        due(15, "all", x.tree(15, 0), 3);
        due(15, "all: 3 is joined to 1", x.tree(15, 4), 1);
        // All three at 2 of one another: any two of three ways.
        PanelCopies even = told(SPOTS + BOY + "copy of 0 slip sa sb with t; copy of 0 slip sb sc with t;");
        due(15, "the sum", even.tree(7, 0), 4);
        due(15, "three have it", even.tree(7, 1), 3);
        due(15, "the first row", even.tree(7, 2) * 10 + even.tree(7, 3), 0);
        even.sell(0, 1);
        due(15, "a sold one is there", even.tree(7, 1), 3);
    }

    private static void treesRefused() {
        says("what 0: the sum, 1: how many, 2 + i: to which PIECE the i-th of them (from the second on) is joined; NONE: others,"
            + " one there is not.");
        PanelCopies x = told(SPOTS + BOY + "copy of 0 slip sa with t; copy of 1 slip sb with t;");
        for (int what = 0; what < 3; what++) {
            int asked = what;
            refused(15, "tree of PIECES, what " + what, pieces -> x.tree(pieces, asked), NONE, -1, 0, 8, 9, 15, 16, 128, 256, 257);
        }
        refused(15, "what of tree of three", what -> x.tree(7, what), NONE, -2, -1, 4, 5, 7, 8, 32, 34);
        refused(15, "what of tree of one", what -> x.tree(2, what), NONE, -1, 2, 3, 32, 34);
        PanelCopies full = told(SEVEN_ALIKE);
        refused(15, "tree of eight PIECES there", pieces -> full.tree(pieces, 0), NONE, -1, 0, 256, 257, 511);
        due(15, "of a new object", new PanelCopies().tree(1, 1), 1);
        due(15, "of a new object", new PanelCopies().tree(2, 1), NONE);
    }

    // ---- KIN, NEAREST, MEET ----

    private static void kin() {
        says("KIN of a PIECE: those that were copied of it, or of its KIN.");
        PanelCopies chain = told(TWO_LOOKS);
        PanelCopies star = told(SEVEN_ALIKE);
        for (int piece = 0; piece < 8; piece++) {
            due(16, "of a chain", chain.kin(piece), 254 << piece & 255);
            due(16, "of one all are copied of", star.kin(piece), piece == 0 ? 254 : 0);
        }
        PanelCopies x = told("spot a;" + BOY + "copy of 0 slip a with t; copy of 0 slip a with t; copy of 1 slip a with t;"
            + "copy of 2 slip a with t; copy of 3 slip a with t;");
        due(16, "one branch", x.kin(1), 8 | 32);
        due(16, "another branch", x.kin(2), 16);
        x.sell(0, 3);
        due(16, "sold ones are kin", x.kin(1), 8 | 32);
        due(16, "of a sold one", x.kin(3), 32);
        due(9, "a boy paints what hangs", x.paint(0, 0, 0), 6);
        due(16, "painted ones are kin", x.kin(0), 126);
        x.undo();
        due(16, "undone ones are not", x.kin(0), 62);
        says("KIN, as bits; NONE: others.");
        refused(16, "kin", x::kin, NONE, -1, 6, 7, 8, 32);
        due(16, "of a new object", new PanelCopies().kin(0), 0);
    }

    private static void nearest() {
        says("NEAREST: of the other PIECES that are not sold the one at the least DISTANCE, of equal ones the first.");
        PanelCopies x = told(SPOTS + "thief t bold skill 9 coins 0 at 0;" + "copy of 0 slip sa sb sc with t;"
            + "copy of 0 slip sa sb with t; copy of 0 slip sa with t; copy of 0 slip sa with t;");
        due(17, "of 0: 3 and 4 at 1, the first", x.nearest(0), 3);
        due(17, "of 1: 2 at 1", x.nearest(1), 2);
        due(17, "of 2: 1, 3 and 4 at 1, the first", x.nearest(2), 1);
        due(17, "of 3: 4 at 0", x.nearest(3), 4);
        due(17, "of 4: 3 at 0", x.nearest(4), 3);
        x.sell(0, 3);
        due(17, "sold ones are not meant", x.nearest(0), 4);
        due(17, "nor here", x.nearest(4), 0);
        due(17, "of a sold one", x.nearest(3), 4);
        x.sell(0, 4);
        x.sell(0, 2);
        due(17, "what is left, however far", x.nearest(1), 0);
        x.sell(0, 1);
        says("NEAREST; NONE: others, there is no other.");
        due(17, "all others are sold", x.nearest(0), NONE);
        due(17, "of a sold one what hangs is left", x.nearest(1), 0);
        refused(17, "nearest", x::nearest, NONE, -1, 5, 6, 7, 8, 32);
        due(17, "of a new object", new PanelCopies().nearest(0), NONE);
    }

    private static void meeting() {
        says("MEET: THIEVES who have an hour with one that is not guarded this night.");
        PanelCopies x = told("thief a plain skill 0 coins 0 at 0 23; thief b bold skill 0 coins 0 at 23;"
            + "thief c boy skill 0 coins 0 at 0; thief d restorer skill 0 coins 0 at 0 23 5; thief e plain skill 0 coins 0 at 6;");
        due(18, "a", x.meet(0), 2 | 4 | 8);
        due(18, "b", x.meet(1), 1 | 8);
        due(18, "c", x.meet(2), 1 | 8);
        due(18, "d", x.meet(3), 1 | 2 | 4);
        due(18, "e: himself not", x.meet(4), 0);
        x.guard(23);
        due(18, "a, 23 guarded", x.meet(0), 4 | 8);
        due(18, "b, 23 guarded", x.meet(1), 0);
        due(18, "d, 23 guarded", x.meet(3), 1 | 4);
        x.guard(0);
        due(18, "a, both guarded", x.meet(0), 0);
        x.undo();
        due(18, "a, 0 undone", x.meet(0), 4 | 8);
        x.night();
        due(18, "the next night", x.meet(0), 2 | 4 | 8);
        says("MEET, as bits (himself not); NONE: others.");
        refused(18, "meet", x::meet, NONE, -1, 5, 6, 8, 32);
        due(18, "without THIEVES", new PanelCopies().meet(0), NONE);
    }

    // ---- JOINED ----

    private static void joined() {
        says("JOINED: two other PIECES (that there are) are such that each SPOT of a PIECE is as on one of both: pairs: how many;"
            + " the first, by numbers.");
        PanelCopies x = told(TWO_LOOKS);
        // Of 21 pairs of others the 6 of which both are of the other kind are none.
        due(19, "of 0", x.joined(0, 0), 15);
        due(19, "of 0: 1 and 2", x.joined(0, 1), 8 + 2);
        due(19, "of 1", x.joined(1, 0), 15);
        due(19, "of 1: 0 and 3", x.joined(1, 1), 3);
        due(19, "of 7: 0 and 1", x.joined(7, 1), 1);
        // PIECE 0 with SPOTS sa, sb, sc: 1 has sa, 2 has sb, 3 has sc, 4 has all.
        PanelCopies y = told(SPOTS + BOY + "copy of 0 slip sa with t; copy of 0 slip sb with t; copy of 0 slip sc with t;"
            + "copy of 0 slip sa sb sc with t;");
        due(19, "of 0: any two of 1, 2, 3", y.joined(0, 0), 3);
        due(19, "the first is 1 and 2", y.joined(0, 1), 10);
        due(19, "of 4", y.joined(4, 0), 0);
        due(19, "of 4, none", y.joined(4, 1), NONE);
        // sa of 1 is as on 4 alone, sb and sc then as on 0, 2 or 3: 2 with 4 misses sb, 3 with 4 misses sc.
        due(19, "of 1: 0 and 4 alone", y.joined(1, 0), 1);
        due(19, "of 1", y.joined(1, 1), 4);
        due(19, "of 3: 0 and 4 alone", y.joined(3, 1), 4);
        y.sell(0, 1);
        due(19, "a sold one is there", y.joined(0, 1), 10);
        PanelCopies last = told(SPOTS + BOY + "copy of 0 slip sa with t; copy of 1 slip sb with t; copy of 2 slip sc with t;"
            + "copy of 3 slip sa with t; copy of 4 slip sb with t;");
        // 1 is off in sa, 2 in sa and sb, 3 in all three, 4 in sb and sc, 5 in sc: 1 with 4, 2 with 4, 2 with 5.
        due(19, "of 3", last.joined(3, 0), 3);
        due(19, "of 3: 1 and 4", last.joined(3, 1), 8 + 4);
    }

    private static void joinedOthers() {
        says("JOINED, what 0: how many pairs, 1: the first as its lesser one * 8 + the other one (NONE: none); -2: others.");
        PanelCopies one = new PanelCopies();
        due(19, "one PIECE", one.joined(0, 0), 0);
        due(19, "one PIECE", one.joined(0, 1), NONE);
        PanelCopies two = told(SPOTS + BOY + "copy of 0 slip sa with t;");
        due(19, "two PIECES", two.joined(0, 0), 0);
        due(19, "two PIECES", two.joined(1, 1), NONE);
        for (int what = 0; what < 2; what++) {
            int asked = what;
            refused(19, "joined, what " + what, piece -> two.joined(piece, asked), -2, -2, -1, 2, 3, 7, 8, 32);
        }
        refused(19, "what of joined", what -> two.joined(0, what), -2, -2, -1, 2, 3, 32);
    }

    // ---- LOOKS ----

    private static void looks() {
        says("LOOKS: that a SPOT of what hangs is off, or is not; 8 at most (whatever is so).");
        PanelCopies x = told(SPOTS + BOY + "copy of 0 slip sa with t; copy of 1 slip sb with t;");
        due(20, "not so of what hangs", x.look(0, true), true);
        due(21, "fits", x.fits(), 6);
        due(20, "the same again", x.look(0, true), true);
        due(21, "fits", x.fits(), 6);
        due(34, "two", x.count(9), 2);
        due(20, "the last SPOT", x.look(2, false), true);
        due(21, "fits", x.fits(), 6);
        due(20, "against the first", x.look(0, false), true);
        due(21, "nothing fits", x.fits(), 0);
        for (int i = 4; i < 8; i++) {
            due(20, "look " + i, x.look(i % 3, i % 2 == 0), true);
            due(34, "looks", x.count(9), i + 1);
        }
        says("A LOOK: true; false: others, 8 there are.");
        due(20, "a ninth", x.look(0, true), false);
        due(20, "a ninth", x.look(1, false), false);
        due(34, "eight", x.count(9), 8);
        x.night();
        due(34, "they stay", x.count(9), 8);
        PanelCopies y = told(SPOTS + BOY + "copy of 0 slip sa with t;");
        refused(20, "look off", spot -> y.look(spot, true) ? 1 : 0, 0, -1, 3, 4, 7, 8, 32);
        refused(20, "look right", spot -> y.look(spot, false) ? 1 : 0, 0, -1, 3, 4, 7, 8, 32);
        due(34, "none", y.count(9), 0);
        due(21, "all fit", y.fits(), 3);
        due(20, "without SPOTS", new PanelCopies().look(0, true), false);
        PanelCopies eight = told(named(8, "spot s%;"));
        due(20, "the eighth SPOT", eight.look(7, false), true);
        due(20, "a ninth SPOT", eight.look(8, false), false);
    }

    private static void fitting() {
        says("FITS: of all PIECES (sold ones not) those by which all LOOKS are so.");
        PanelCopies x = told(SPOTS + "thief t bold skill 9 coins 0 at 0; copy of 0 slip sa with t; copy of 1 slip sb with t;"
            + "copy of 0 slip sc with t;");
        due(21, "without LOOKS all", x.fits(), 15);
        x.sell(0, 3);
        due(21, "a sold one not", x.fits(), 7);
        x.look(0, true);
        due(21, "sa is off", x.fits(), 6);
        x.look(1, false);
        due(21, "sb is not", x.fits(), 2);
        x.steal(0, 1);
        due(21, "whichever hangs", x.fits(), 2);
        x.look(2, true);
        due(21, "none", x.fits(), 0);
        PanelCopies all = told(SPOTS + BOY + "copy of 0 slip sa with t; copy of 1 slip sb with t; copy of 2 slip sc with t;"
            + "copy of 3 slip sa with t;");
        all.look(0, true);
        all.look(1, true);
        due(21, "two are off: 2 and 3", all.fits(), 12);
        all.look(2, true);
        due(21, "all are off: 3", all.fits(), 8);
        PanelCopies right = told(SPOTS + BOY + "copy of 0 slip sa with t; copy of 1 slip sb with t; copy of 0 slip sb with t;");
        right.look(1, false);
        right.look(0, false);
        due(21, "neither is off: 0", right.fits(), 1);
        PanelCopies full = told(TWO_LOOKS);
        due(21, "eight", full.fits(), 255);
        full.look(0, true);
        due(21, "four", full.fits(), 0xAA);
        due(21, "of a new object", new PanelCopies().fits(), 1);
    }

    private static void asking() {
        says("ASK: the SPOT by which the greater number of those that fit, off or not, is the least, if it is less than all; of"
            + " equal ones the first.");
        // sa: 1 of 4 is off; sb: 2 of 4; sc: 2 of 4.
        PanelCopies x = told(SPOTS + BOY + "copy of 0 slip sa sb with t; copy of 0 slip sb sc with t; copy of 0 slip sc with t;");
        due(22, "sb and sc part best, the first", x.ask(), 1);
        x.look(1, true);
        due(22, "1 and 2 are left, sa and sc part them", x.ask(), 0);
        x.look(0, false);
        due(22, "one is not parted", x.ask(), NONE);
        x.look(0, true);
        due(22, "nothing fits", x.ask(), NONE);
        // More are off than not: the greater number counts.
        PanelCopies y = told(SPOTS + BOY + "copy of 0 slip sa sb with t; copy of 0 slip sa sb with t; copy of 0 slip sa with t;"
            + "copy of 0 slip sa sb with t;");
        due(22, "sa 4 of 5, sb 3 of 5", y.ask(), 1);
        PanelCopies last = told(SPOTS + BOY + "copy of 0 slip sc with t;");
        due(22, "the last SPOT", last.ask(), 2);
        says("ASK; NONE: none parts them.");
        PanelCopies alike = told(SEVEN_ALIKE);
        due(22, "7 of 8", alike.ask(), 0);
        alike.look(0, true);
        due(22, "seven alike", alike.ask(), NONE);
        due(22, "without SPOTS", new PanelCopies().ask(), NONE);
        due(22, "without copies", told(SPOTS).ask(), NONE);
    }

    private static void prices() {
        says("PRICE: of all that fit the mean of worth, in thousandths, cut.");
        String three = "spot a;" + BOY + "copy of 0 slip a with t; copy of 0 slip a with t;";
        due(23, "1 of 3", told(three + "worth age = 1;").price(), 333);
        due(23, "2 of 3", told(three + "worth (age = 1) * 2;").price(), 666);
        due(23, "0 of 3", told(three + "worth 0;").price(), 0);
        due(23, "less than 0", told(three + "worth 0 - 1;").price(), 0);
        due(23, "3 of 3", told(three + "worth age;").price(), 1000);
        due(23, "1 of 8", told(TWO_LOOKS + "worth age = 1;").price(), 125);
        due(23, "the most of 8", told(TWO_LOOKS + "worth 999;").price(), 999000);
        due(23, "more than the most", told(TWO_LOOKS + "worth 9999;").price(), 999000);
        due(23, "0 to 7", told(TWO_LOOKS + "worth age;").price(), 3500);
        PanelCopies x = told(three + "worth age * 10 + hung;");
        x.night();
        due(23, "by hung: 1, 10, 20", x.price(), 10333);
        x.sell(0, 2);
        due(23, "a sold one not", x.price(), 5500);
        x.look(0, true);
        due(23, "one fits", x.price(), 10000);
        says("PRICE; NONE: nothing fits.");
        x.look(0, false);
        due(23, "nothing fits", x.price(), NONE);
        due(23, "of a new object", new PanelCopies().price(), 100000);
    }

    // ---- PAINTERS ----

    private static PanelCopies painted(int thieves, int copies) {
        return told("spot a;" + named(thieves, "thief t% boy skill 9 coins 0 at 0;") + times(copies, "copy of 0 slip a with ta;"));
    }

    private static void painters() {
        says("two copies at most each");
        int[][] ways = {{1, 1, 1, 0, 0, 0, 0, 0}, {1, 2, 4, 6, 6, 0, 0, 0}, {1, 3, 9, 24, 54, 90, 90, 0},
            {1, 4, 16, 60, 204, 600, 1440, 2520}, {1, 5, 25, 120, 540, 2220, 8100, 25200}};
        for (int thieves = 1; thieves <= 5; thieves++) {
            for (int copies = 0; copies <= 7; copies++) {
                due(24, copies + " copies by " + thieves, painted(thieves, copies).painters(), ways[thieves - 1][copies]);
            }
        }
        due(24, "no copies, no THIEVES", new PanelCopies().painters(), 1);
        says("skill no less than the E of hard for what it was copied of");
        String base = "spot a; spot b; thief t boy skill 3 coins 0 at 0; copy of 0 slip b with t; hard ";
        due(24, "equal", told(base + "3;").painters(), 1);
        due(24, "one less", told(base + "4;").painters(), 0);
        due(24, "place 1 of 0", told(base + "2 + place;").painters(), 1);
        due(24, "place 1 of 0", told(base + "3 + place;").painters(), 0);
        due(24, "age of what it was copied of", told(base + "3 + age;").painters(), 1);
        due(24, "slips of what it was copied of", told(base + "3 + slips;").painters(), 1);
        due(24, "the least int", told(base + "9999 * 9999 * 21 + 9999 * 4790 + 8417;").painters(), 1);
        due(24, "the greatest int", told(base + "9999 * 9999 * 21 + 9999 * 4790 + 8416;").painters(), 0);
        says("and the first SPOT, by numbers, of its own slips (as told, painted)");
        String two = "spot a; spot b; spot c; thief t boy skill 1 coins 0 at 0; hard place;";
        due(24, "told as c, b", told(two + "copy of 0 slip c b with t;").painters(), 1);
        due(24, "c alone", told(two + "copy of 0 slip c with t;").painters(), 0);
        due(24, "b slips back, it is its own", told(two + "copy of 0 slip b with t; copy of 1 slip b with t;").painters(), 1);
    }

    private static void paintersAsItIsNow() {
        says("for what it was copied of, as that is now");
        // PIECE 2 was copied of 1, off in a; the restorer mends 1 when he takes it.
        PanelCopies x = told("spot a; spot b; hard slips; thief r restorer skill 0 coins 0 at 0; thief s bold skill 0 coins 0 at 0;"
            + "copy of 0 slip a with s; copy of 1 slip b with r;");
        due(24, "too hard for both", x.painters(), 0);
        x.steal(1, 1);
        due(24, "hung is not mended", x.painters(), 0);
        due(8, "taken", x.steal(0, 2), 1);
        due(24, "mended", x.painters(), 4);
        x.undo();
        due(24, "undone", x.painters(), 0);
        says("of its own slips (as told, painted)");
        // PIECE 1's own slip is b, though it is mended.
        PanelCopies own = told("spot a; spot b; hard place; thief r restorer skill 0 coins 0 at 0;"
            + "thief s bold skill 1 coins 0 at 0; copy of 0 slip b with s; copy of 0 slip a with r;");
        due(25, "s painted 1", own.painter(1, true), 1);
        own.steal(1, 1);
        due(8, "taken", own.steal(0, 2), 1);
        due(5, "nothing is off", own.piece(1, 0), 0);
        due(25, "s painted 1 all the same", own.painter(1, true), 1);
        due(9, "s paints what he has", own.paint(1, 0, 1), 3);
        due(24, "painted ones count: 1 and 3 by s, 2 by r", own.painters(), 1);
        own.sell(1, 3);
        due(24, "sold ones count", own.painters(), 1);
        due(25, "whose a sold one is", own.painter(3, false), 1);
    }

    private static void paintersByRow() {
        says("how many; whose a copy is in all (if it is so); whose by the first way (a row by copies)");
        PanelCopies full = painted(5, 7);
        for (int piece = 1; piece < 8; piece++) {
            due(25, "the first row", full.painter(piece, false), (piece - 1) / 2);
            due(25, "not the same in all", full.painter(piece, true), NONE);
        }
        PanelCopies one = painted(1, 2);
        due(25, "his alone", one.painter(1, true) + one.painter(2, true), 0);
        // Copies 2 and 3 are too hard for tb, so that 1 is his.
        PanelCopies late = told("spot a; spot b; hard place; thief ta boy skill 9 coins 0 at 0; thief tb boy skill 0 coins 0 at 0;"
            + "copy of 0 slip a with ta; copy of 0 slip b with ta; copy of 0 slip b with ta;");
        due(24, "one way", late.painters(), 1);
        due(25, "the first row looks ahead", late.painter(1, false), 1);
        due(25, "in all", late.painter(1, true), 1);
        due(25, "in all", late.painter(3, true), 0);
        says("Whose a copy is, in all ways (else by the first); NONE: others, no way, not the same in all.");
        PanelCopies none = painted(1, 3);
        for (int piece = 0; piece < 4; piece++) {
            due(25, "no way", none.painter(piece, true), NONE);
            due(25, "no way", none.painter(piece, false), NONE);
        }
        refused(25, "painter in all", piece -> late.painter(piece, true), NONE, -1, 0, 4, 5, 7, 8, 32, 33);
        refused(25, "painter by the first", piece -> late.painter(piece, false), NONE, -1, 0, 4, 5, 7, 8, 32, 33);
    }

    // ---- EXPERTS ----

    private static final String SEEN = SPOTS + BOY + "copy of 0 slip sa with t; copy of 1 slip sb with t;"
        + "copy of 0 slip sa sc with t; expert x sees sa sb; expert y sees sc;";

    private static void knowing() {
        says("KNOWS an expert of some PIECES (bits): where what hangs looks like none but these (of PIECES that there are).");
        // To x PIECES 1 and 3 look alike, to y 0, 1 and 2.
        PanelCopies x = told(SEEN);
        due(26, "of none", x.knows(0, 0), 0);
        due(26, "of all", x.knows(0, 15), 15);
        due(26, "of 1 alone", x.knows(0, 2), 0);
        due(26, "of 1 and 3", x.knows(0, 10), 10);
        due(26, "of 0 and 1", x.knows(0, 3), 1);
        due(26, "y of 0, 1 and 2", x.knows(1, 7), 7);
        due(26, "y of 3", x.knows(1, 8), 8);
        due(26, "y of all but 0", x.knows(1, 14), 8);
        x.sell(0, 1);
        due(26, "a sold one is there", x.knows(0, 8), 0);
        says("KNOWS, as bits; NONE: others.");
        refused(26, "knows by an expert", expert -> x.knows(expert, 1), NONE, -1, 2, 3, 4, 5, 32);
        refused(26, "knows of PIECES", pieces -> x.knows(0, pieces), NONE, -1, 16, 17, 31, 128, 255, 256);
        PanelCopies full = told(TWO_LOOKS + named(4, "expert e% sees a;"));
        due(26, "the fourth expert", full.knows(3, 0xAA), 0xAA);
        due(26, "of all eight", full.knows(3, 255), 255);
        due(26, "of a ninth", full.knows(3, 256), NONE);
        due(26, "a fifth expert", full.knows(4, 1), NONE);
        due(26, "without EXPERTS", new PanelCopies().knows(0, 1), NONE);
    }

    private static void depths() {
        says("DEPTH 1 of some: where all EXPERTS KNOW these; DEPTH d + 1: where all KNOW that it is a place of DEPTH d; COMMON:"
            + " what is so to every DEPTH.");
        PanelCopies x = told(SEEN);
        due(27, "of 1 and 3: x both, y 3 alone", x.depth(10, 1), 8);
        due(27, "that it is 3: x does not know", x.depth(10, 2), 0);
        due(27, "of all", x.depth(15, 9), 15);
        due(27, "of none", x.depth(0, 1), 0);
        due(28, "of all", x.common(15), 15);
        due(28, "of none", x.common(0), 0);
        due(28, "of 1 and 3", x.common(10), 0);
        // A chain: to x 1 and 2, 3 and 4, 5 and 6 look alike; to y 0 and 1, 2 and 3, 4 and 5, 6 and 7.
        PanelCopies chain = told(named(7, "spot s%;") + BOY + "copy of 0 slip sa with t; copy of 1 slip sb with t;"
            + "copy of 2 slip sc with t; copy of 3 slip sd with t; copy of 4 slip se with t; copy of 5 slip sf with t;"
            + "copy of 6 slip sg with t; expert x sees sa sc se sg; expert y sees sb sd sf;");
        for (int depth = 1; depth <= 9; depth++) {
            due(27, "all but 7, depth " + depth, chain.depth(127, depth), 127 >> depth);
            due(27, "all but 0, depth " + depth, chain.depth(254, depth), 254 << depth & 255);
            due(27, "all, depth " + depth, chain.depth(255, depth), 255);
        }
        due(28, "all but 7", chain.common(127), 0);
        due(28, "all but 0", chain.common(254), 0);
        due(28, "all", chain.common(255), 255);
        // What both see apart from the rest is common at once.
        PanelCopies apart = told(TWO_LOOKS + "expert x sees a; expert y sees a;");
        due(28, "the even ones", apart.common(0x55), 0x55);
        due(28, "the even ones and some", apart.common(0x5F), 0x55);
        says("DEPTH (1 to 9), as bits; NONE: others.");
        refused(27, "depth", depth -> x.depth(15, depth), NONE, -1, 0, 10, 11, 32, 33);
        refused(27, "depth of PIECES", pieces -> x.depth(pieces, 1), NONE, -1, 16, 17, 31, 255, 256);
        says("COMMON, as bits; NONE: others.");
        refused(28, "common", x::common, NONE, -1, 16, 17, 31, 255, 256);
        due(28, "of eight", chain.common(256), NONE);
    }

    private static void withoutExperts() {
        says("(Without EXPERTS: these themselves.)");
        PanelCopies x = told(TWO_LOOKS);
        for (int pieces : new int[] {0, 1, 2, 0x55, 0x81, 255}) {
            due(27, "depth 1", x.depth(pieces, 1), pieces);
            due(27, "depth 9", x.depth(pieces, 9), pieces);
            due(28, "common", x.common(pieces), pieces);
        }
        due(27, "depth 0", x.depth(1, 0), NONE);
        due(27, "depth 10", x.depth(1, 10), NONE);
        due(27, "a ninth PIECE", x.depth(256, 1), NONE);
        due(28, "a ninth PIECE", x.common(256), NONE);
    }

    // ---- AUCTIONS ----

    private static int rests(int one, int other, boolean own, int what) {
        try {
            return new PanelCopies().rests(one, other, own, what);
        } catch (NoSuchElementException e) {
            return THROWN;
        }
    }

    /** All rests of an auction, and none beyond them. */
    private static void restsAre(int one, int other, boolean own, int... bids) {
        String call = "rests(" + one + ", " + other + ", " + own + ", ";
        due(29, call + "NONE)", rests(one, other, own, NONE), bids.length);
        for (int i = 0; i < bids.length; i++) {
            due(29, call + i + ")", rests(one, other, own, i), bids[i]);
        }
        due(29, call + bids.length + ")", rests(one, other, own, bids.length), THROWN);
    }

    private static void auctionsForTheOwnBid() {
        says("the higher bid has it (of equal ones the first), for its own bid, or for the other one's");
        restsAre(0, 0, true, 0);
        // The other one never wants it; the first has it for just as much.
        restsAre(9, 0, true, 0, 11, 22, 33, 44, 55, 66, 77, 88, 99);
        // The other one has it for one more, up to where he gets nothing any more.
        restsAre(0, 9, true, 1, 12, 23, 34, 45, 56, 67, 78, 89);
        // Any bid below 8 would be overbid; by 9 nobody gets anything.
        restsAre(9, 9, true, 88, 89, 99);
        restsAre(1, 0, true, 0, 11);
        restsAre(3, 2, true, 11, 22, 33);
    }

    private static void auctionsForTheOther() {
        says("RESTS: by which neither would get more by another bid.");
        restsAre(0, 0, false, 0, 1, 2, 3, 4, 5, 6, 7, 8, 9, 10, 20, 30, 40, 50, 60, 70, 80, 90);
        restsAre(9, 9, false, 9, 19, 29, 39, 49, 59, 69, 79, 89, 90, 91, 92, 93, 94, 95, 96, 97, 98, 99);
        // The first has it for any lower bid, which costs him no more than it is worth; or he stays at 0 below a 9.
        restsAre(9, 0, false, 0, 9, 10, 11, 20, 21, 22, 30, 31, 32, 33, 40, 41, 42, 43, 44, 50, 51, 52, 53, 54, 55,
            60, 61, 62, 63, 64, 65, 66, 70, 71, 72, 73, 74, 75, 76, 77, 80, 81, 82, 83, 84, 85, 86, 87, 88,
            90, 91, 92, 93, 94, 95, 96, 97, 98, 99);
        due(29, "3 and 2", rests(3, 2, false, NONE), 52);
    }

    private static void auctionsRefused() {
        says("NoSuchElementException: others, none such.");
        for (boolean own : new boolean[] {true, false}) {
            refused(29, "rests of the first", one -> rests(one, 5, own, NONE), THROWN, -2, -1, 10, 11, 32);
            refused(29, "rests of the other", other -> rests(5, other, own, NONE), THROWN, -2, -1, 10, 11, 32);
            refused(29, "what of rests", what -> rests(5, 5, own, what), THROWN, -3, -2, 100, 101);
            refused(29, "one of rests of the first", one -> rests(one, 5, own, 0), THROWN, -1, 10);
        }
        says("AUCTION of two who want a PIECE for so much each (0 to 9): each bids 0 to 9");
        for (int one = 0; one < 10; one++) {
            for (int other = 0; other < 10; other++) {
                int many = rests(one, other, true, NONE);
                due(29, "the last one", rests(one, other, true, many - 1) >= 0, true);
                due(29, "none behind it", rests(one, other, true, many), THROWN);
            }
        }
    }

    // ---- WATCH ----

    private static void watches() {
        says("WATCH so that all THIEVES but so many (0 to 5) at most are seen: the fewest hours (a THIEF is seen by one of his);"
            + " of equal ones the least set (bits).");
        PanelCopies x = told("thief a plain skill 0 coins 0 at 5 9; thief b bold skill 0 coins 0 at 4 8;"
            + "thief c boy skill 0 coins 0 at 23; thief d restorer skill 0 coins 0 at 0 1 2 3; thief e plain skill 0 coins 0 at 22 7;");
        due(30, "all five", x.watch(0), 1 << 5 | 1 << 4 | 1 << 23 | 1 | 1 << 7);
        due(30, "but one", x.watch(1), 1 << 5 | 1 << 4 | 1 | 1 << 7);
        due(30, "but two", x.watch(2), 1 << 5 | 1 << 4 | 1);
        due(30, "but three", x.watch(3), 1 << 4 | 1);
        due(30, "but four", x.watch(4), 1);
        due(30, "but five", x.watch(5), 0);
        PanelCopies few = told("thief a plain skill 0 coins 0 at 0 23; thief b plain skill 0 coins 0 at 1 23;"
            + "thief c plain skill 0 coins 0 at 2 22; thief d plain skill 0 coins 0 at 22;");
        due(30, "the fewest before the least", few.watch(0), 1 << 23 | 1 << 22);
        due(30, "two for three", few.watch(1), 1 | 1 << 22);
        due(30, "one for two: 22 is less than 23", few.watch(2), 1 << 22);
        due(30, "one for one", few.watch(3), 1);
        due(30, "none", few.watch(4), 0);
        due(30, "more than there are", few.watch(5), 0);
        few.guard(22);
        few.guard(0);
        due(30, "guards are no matter", few.watch(0), 1 << 23 | 1 << 22);
        // With 10 for three of them both 3 and 5 see the fourth.
        PanelCopies late = told("thief a plain skill 0 coins 0 at 5 10; thief b plain skill 0 coins 0 at 3 10;"
            + "thief c plain skill 0 coins 0 at 10; thief d plain skill 0 coins 0 at 5 3;");
        due(30, "3 and 10 are less than 5 and 10", late.watch(0), 1 << 10 | 1 << 3);
        PanelCopies one = told(named(5, "thief t% plain skill 0 coins 0 at 9 2 17;"));
        due(30, "one hour for all, the least", one.watch(0), 4);
        due(30, "one hour for one of them, too", one.watch(4), 4);
    }

    private static void watchesRefused() {
        says("WATCH, as bits; NONE: others.");
        PanelCopies x = told(named(5, "thief t% plain skill 0 coins 0 at 23;"));
        refused(30, "watch", x::watch, NONE, -2, -1, 6, 7, 32);
        PanelCopies none = new PanelCopies();
        for (int but = 0; but <= 5; but++) {
            due(30, "without THIEVES", none.watch(but), 0);
        }
        refused(30, "watch without THIEVES", none::watch, NONE, -1, 6);
    }

    // ---- SLIPS ----

    private static void chances() {
        says("(what is likely for a number of SPOTS off is shared out to one more, one less: by how many are right, off, of all,"
            + " cut; what was cut is lost)");
        for (int spots = 1; spots <= 8; spots++) {
            PanelCopies x = new PanelCopies();
            long[] likely = new long[spots + 1];
            likely[0] = 1000000;
            for (int copies = 0; copies <= 30; copies++) {
                long[] next = new long[spots + 1];
                for (int off = 0; off <= spots; off++) {
                    due(31, "slips(" + copies + ", " + spots + ", " + off + ")", x.slips(copies, spots, off), likely[off]);
                    long more = likely[off] * (spots - off) / spots;
                    long less = likely[off] * off / spots;
                    next[Math.min(off + 1, spots)] += more;
                    next[Math.max(off - 1, 0)] += less;
                }
                likely = next;
            }
        }
        PanelCopies x = new PanelCopies();
        due(31, "no copies: none is off", x.slips(0, 8, 0), 1000000);
        due(31, "no copies: none is off", x.slips(0, 8, 8), 0);
        due(31, "one SPOT, an odd number", x.slips(29, 1, 1), 1000000);
        due(31, "one SPOT, an even number", x.slips(30, 1, 1), 0);
        due(31, "two of three: 333333 and 666666", x.slips(2, 3, 0) + x.slips(2, 3, 2), 999999);
        due(31, "two of 7", x.slips(2, 7, 0), 142857);
        due(31, "all 8 off by 8: 8! / 8^8", x.slips(8, 8, 8), 2403);
        due(31, "all 8 off by 7", x.slips(7, 8, 8), 0);
    }

    private static void chancesRefused() {
        says("SLIPS by chance; NONE: others (off 0 to the SPOTS).");
        PanelCopies x = new PanelCopies();
        refused(31, "copies", copies -> x.slips(copies, 3, 0), NONE, -1, 31, 32);
        refused(31, "SPOTS", spots -> x.slips(2, spots, 0), NONE, -1, 0, 9, 10, 32);
        for (int spots = 1; spots <= 8; spots++) {
            int asked = spots;
            due(31, "all are off", x.slips(0, spots, spots), 0);
            refused(31, "off of " + spots, off -> x.slips(0, asked, off), NONE, -1, spots + 1);
        }
        due(31, "the most copies", x.slips(30, 8, 0) >= 0, true);
        due(31, "off of no SPOTS", x.slips(0, 0, 0), NONE);
    }

    // ---- YEARS ----

    /** DRAWS as the document tells them. */
    private static final class Draws {
        private long g;

        Draws(int seed) {
            g = seed;
        }

        int below(int m) {
            g = (g * 1103515245L + 12345L) % 2147483648L;
            return (int) (g / 65536 % m);
        }
    }

    /**
     * The first SEED by which the only THIEF does these, night by night: P paints with a slip in the last SPOT,
     * S sells, T steals by a DRAW of 2, U by one of 3.
     */
    private static int seedOf(String deeds, int spots) {
        for (int seed = 0; seed <= 9999; seed++) {
            Draws draws = new Draws(seed);
            boolean so = true;
            for (int i = 0; i < deeds.length() && so; i++) {
                draws.below(1);
                int deed = draws.below(4);
                so = "PSTU".charAt(deed) == deeds.charAt(i) && (deed != 0 || draws.below(spots) == spots - 1);
            }
            if (so) {
                return seed;
            }
        }
        throw new IllegalStateException("no seed for " + deeds);
    }

    private static int years(PanelCopies x, String deeds, int what) {
        return x.years(seedOf(deeds, x.count(0)), deeds.length(), what);
    }

    private static void yearsBounds() {
        says("YEARS by a SEED (0 to 9999), what 0: thefts, 1: coins, 2: SPOTS off; NONE: others.");
        PanelCopies x = told(SPOTS + "thief t plain skill 9 coins 7 at 3; copy of 0 slip sa with t;");
        for (int what = 0; what < 3; what++) {
            int asked = what;
            refused(32, "SEED", seed -> x.years(seed, 1, asked), NONE, -1, 10000, 10001);
            refused(32, "nights", nights -> x.years(1, nights, asked), NONE, -1, 0, 61, 62);
            for (int seed : new int[] {0, 1, 9998, 9999}) {
                due(32, "a SEED that may be", x.years(seed, 1, what) != NONE, true);
                due(32, "nights that may be", x.years(seed, 60, what) != NONE, true);
            }
        }
        refused(32, "what", what -> x.years(1, 1, what), NONE, -1, 3, 4, 32);
        says("from now on (all is as ahead then)");
        x.guard(3);
        x.look(0, true);
        String before = state(x);
        for (int seed = 0; seed < 20; seed++) {
            x.years(seed, 60, seed % 3);
        }
        same(32, "all is as ahead", state(x), before);
        says("each night, if there are THIEVES, a DRAW below these tells who");
        PanelCopies none = told(SPOTS);
        none.night();
        due(32, "without THIEVES", none.years(9999, 60, 0) + none.years(9999, 60, 1) + none.years(9999, 60, 2), 0);
        due(32, "without SPOTS", told("thief t boy skill 9 coins 8 at 0;").years(5, 60, 1), 8);
        due(32, "of a new object", new PanelCopies().years(0, 1, 0), 0);
        PanelCopies five = told("spot a;" + named(5, "thief t% bold skill 0 coins 0 at 0;") + times(4, "copy of 0 slip a with te;"));
        for (int seed = 0; seed < 50; seed++) {
            Draws draws = new Draws(seed);
            int theft = draws.below(5) == 4 & draws.below(4) >= 2 ? 1 : 0;
            due(32, "who of five, SEED " + seed, five.years(seed, 1, 0), theft);
        }
    }

    private static void yearsDraws() {
        says("A DRAW below m: g becomes (g * 1103515245 + 12345) modulo 2147483648 (g is the SEED at first); it is g / 65536, cut,"
            + " modulo m.");
        // SEED 0: 12345; 1406932606; 654583775 tell 0: t; 21468: 0, he paints; 9988: in the first SPOT.
        // 1449466924; 229283573 tell 22117: t; 3498: 2, he steals. 1109335178; 1051550459: t; 16045: 1, he sells.
        PanelCopies x = told(ONE_THIEF);
        due(32, "PIECE 4 is a copy of 1, right again", x.years(0, 1, 0) * 10 + x.years(0, 1, 2), 0);
        due(32, "a theft", x.years(0, 2, 0), 1);
        due(32, "PIECE 1 hangs", x.years(0, 2, 2), 1);
        due(32, "no sale yet", x.years(0, 2, 1), 5);
        due(32, "PIECE 4 is sold", x.years(0, 3, 1), 5 + 4);
        due(32, "no theft more", x.years(0, 3, 0), 1);
    }

    private static final String ONE_THIEF = "spot sa; spot sb; thief t bold skill 99 coins 5 at 3;"
        + "copy of 0 slip sa with t; copy of 1 slip sb with t; copy of 0 slip sb with t; worth slips * 100 + age;";

    private static void yearsDeeds() {
        says("0: if there are SPOTS, a DRAW below these tells one, and he PAINTS with a slip there what he has that is the least"
            + " number (a boy what hangs); 1: he SELLS what he has that is the greatest number; else he STEALS, leaving what he"
            + " has that is the least number; all if it can be; then the NIGHT");
        PanelCopies x = told(ONE_THIEF);
        due(32, "sells 3", years(x, "S", 1), 5 + 103);
        due(32, "sells 3 and 2", years(x, "SS", 1), 5 + 103 + 202);
        due(32, "sells all, then nothing", years(x, "SSSS", 1), 5 + 103 + 202 + 101);
        due(32, "paints, no coins", years(x, "P", 1), 5);
        // PIECE 4 is a copy of 1 with a slip in sb: two slips.
        due(32, "paints 1 with a slip in sb and sells 4", years(x, "PS", 1), 5 + 204);
        due(32, "steals by 2", years(x, "T", 0), 1);
        due(32, "steals by 3", years(x, "U", 0), 1);
        due(32, "leaving 1: off in one", years(x, "T", 2), 1);
        due(32, "no theft", years(x, "S", 0) + years(x, "P", 0), 0);
        // Leaving 1 he has 0, which he leaves next.
        due(32, "and back: off in none", years(x, "TU", 2), 0);
        due(32, "two thefts", years(x, "TU", 0), 2);
        due(32, "what he stole is the least he has", years(x, "TSS", 1), 5 + 103 + 202);
        due(32, "what he stole is sold at last", years(x, "TSSS", 1), 5 + 103 + 202);
        due(32, "copies of what he stole", years(x, "TPS", 1), 5 + 104);
        PanelCopies one = told("spot a; thief t bold skill 9 coins 5 at 3; copy of 0 slip a with t; worth slips * 100 + age;");
        due(32, "of one SPOT a DRAW is made too: 2 is sold, then 1", years(one, "PSS", 1), 5 + 2 + 101);
        PanelCopies eight = told(named(8, "spot s%;") + "thief t bold skill 9 coins 5 at 3; copy of 0 slip sh with t;"
            + "worth slips * 100 + age;");
        due(32, "the last of eight SPOTS", years(eight, "PS", 1), 5 + 2);
        PanelCopies boy = told(ONE_THIEF.replace("t bold", "t boy"));
        due(32, "a boy paints what hangs: one slip", years(boy, "PS", 1), 5 + 104);
        due(32, "a boy can't steal", years(boy, "TU", 0), 0);
        due(32, "a boy sells", years(boy, "S", 1), 5 + 103);
        PanelCopies now = told(ONE_THIEF);
        now.steal(0, 2);
        now.sell(0, 3);
        says("from now on (all is as ahead then)");
        due(32, "from now on: he has 0 and 1", years(now, "S", 1), 5 + 103 + 101);
        due(32, "from now on: 2 hangs", years(now, "S", 2), 2);
        says("thefts; coins of all at last; SPOTS off on what hangs at last");
        PanelCopies two = told(ONE_THIEF + "thief u boy skill 0 coins 70 at 0;");
        due(32, "coins of all", two.years(0, 1, 1) >= 75, true);
        due(32, "without what is done", told("thief t boy skill 0 coins 5 at 0; thief u boy skill 0 coins 70 at 0;").years(0, 60, 1), 75);
    }

    private static void yearsNights() {
        says("all if it can be; then the NIGHT");
        PanelCopies x = told(ONE_THIEF.replace("t bold", "t plain"));
        x.guard(3);
        due(32, "guarded the first night", years(x, "T", 0), 0);
        due(32, "not the second", years(x, "TT", 0), 1);
        PanelCopies restorer = told(ONE_THIEF.replace("t bold", "t restorer"));
        // He leaves 1, takes 0; leaves 0, takes 1 and mends it; leaves 1 again.
        due(32, "mended", years(restorer, "TTT", 2), 0);
        due(32, "thefts", years(restorer, "TTT", 0), 3);
        PanelCopies hung = told("spot sa; spot sb; thief t bold skill 99 coins 0 at 3; copy of 0 slip sa with t; worth 1 + hung;");
        due(32, "1 has not hung", years(hung, "S", 1), 1);
        due(32, "0 has not hung, it was taken the first night", years(hung, "TS", 1), 1);
        due(32, "1 has hung one night", years(hung, "TTS", 1), 2);
        hung.night();
        hung.night();
        due(32, "0 has hung two nights by hand", years(hung, "TS", 1), 3);
        due(32, "and one more", years(hung, "PTS", 1), 1);
    }

    private static void yearsThatCannotBe() {
        says("all if it can be");
        PanelCopies full = told("spot sa; spot sb; thief t bold skill 99 coins 0 at 3;" + times(7, "copy of 0 slip sa with t;")
            + "worth age;");
        due(32, "a ninth PIECE is not painted: 7 is sold", years(full, "PS", 1), 7);
        PanelCopies poor = told("spot sa; spot sb; thief t bold skill 0 coins 0 at 3; copy of 0 slip sa with t; worth 10 + age;");
        due(32, "too hard: 1 is sold", years(poor, "PS", 1), 11);
        PanelCopies bare = told("spot sa; spot sb; thief t bold skill 99 coins 6 at 3;");
        due(32, "he has nothing to steal with", years(bare, "TU", 0), 0);
        due(32, "he has nothing to sell", years(bare, "S", 1), 6);
        due(32, "he has nothing to paint", years(bare, "PS", 1), 6);
        due(32, "what hangs is whole", years(bare, "PT", 2), 0);
    }

    // ---- counts ----

    private static void counts() {
        says("What 0: SPOTS, 1: PIECES, 2: THIEVES, 3: EXPERTS, 4: the night, 5: which PIECE hangs, 6: coins of all, 7: guarded"
            + " hours as bits, 8: lines of the NIGHTS, 9: LOOKS, 10: what can be undone, 11: signs on the TAPE. NONE for another"
            + " what.");
        PanelCopies x = told(SPOTS + "thief t bold skill 9 coins 4 at 0; thief u boy skill 0 coins 30 at 1;"
            + "copy of 0 slip sa with t; expert e sees sa; expert f sees sb; expert g sees sc;");
        nightsOf(x, "night; night; night; night;");
        x.steal(0, 1);
        x.night();
        x.night();
        x.guard(0);
        x.guard(23);
        x.look(0, true);
        x.feed(0, 0x20202020L, 0);
        int[] want = {3, 2, 2, 3, 2, 1, 34, 1 << 23 | 1, 4, 1, 5, 4};
        for (int what = 0; what < want.length; what++) {
            due(34, "count(" + what + ")", x.count(what), want[what]);
        }
        refused(34, "count", x::count, NONE, -2, -1, 12, 13, 32);
        refused(34, "count of a new object", new PanelCopies()::count, NONE, -1, 12);
        says("`NONE = -1`: None.");
        due(1, "NONE", PanelCopies.NONE, -1);
    }
}
