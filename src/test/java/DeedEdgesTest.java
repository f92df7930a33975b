import java.util.ArrayList;
import java.util.List;

/** Nights by hand, sentence by sentence: PIECES, THIEVES, thefts, copies, sales, guards, UNDO, JUDGED, MARKS. */
public final class DeedEdgesTest extends Asked {
    private static final int PLAIN = 0;
    private static final int BOLD = 1;
    private static final int RESTORER = 2;
    private static final int BOY = 3;
    private static final String SPOTS = "spot sa; spot sb; spot sc;";
    private static final String THIEVES = "thief pa plain skill 5 coins 10 at 0 1 2 23;"
        + "thief bo bold skill 0 coins 999 at 3; thief re restorer skill 99 coins 0 at 4;"
        + "thief kid boy skill 2 coins 1 at 5;";
    private static final String COPIES = "copy of 0 slip sa with pa; copy of 1 slip sb sc with re;"
        + "copy of 2 slip sa with bo; copy of 0 slip sc with kid;";
    private static final String ALL = SPOTS + THIEVES + COPIES;
    private static final String MOST_INT = "9999 * 9999 * 21 + 9999 * 4790 + 8416";

    public static void main(String[] args) {
        slipsOfCopies();
        distances();
        pieces();
        thieves();
        stealing();
        stealingByKind();
        guardedHours();
        mending();
        stealingRefused();
        painting();
        paintingByBoys();
        paintingTheEighth();
        paintingBySkill();
        paintingRefused();
        selling();
        worthBounds();
        sellingRefused();
        guarding();
        nights();
        undoingEach();
        undoingSixteen();
        undoingOnlyDeeds();
        undoingAndGoingOn();
        judgedFromTheBegin();
        judgedLines();
        judgedOthers();
        marksHold();
        marksStay();
        marksRefused();
        endTest();
    }

    // ---- PIECES and THIEVES ----

    private static void slipsOfCopies() {
        says("A copy has all slips of what it was copied of; a SPOT in which it slips itself is off if it was not, else"
            + " right again.");
        PanelCopies x = told(ALL);
        int[] off = {0, 1, 7, 6, 4};
        for (int piece = 0; piece < off.length; piece++) {
            due(5, "off on " + piece, x.piece(piece, 0), off[piece]);
        }
        due(9, "painted: sb and sc, and sa", x.paint(RESTORER, 2, 0), 5);
        due(5, "right again", x.piece(5, 0), 6);
        due(9, "painted once more", x.paint(RESTORER, 5, 0), 6);
        due(5, "off again", x.piece(6, 0), 7);
    }

    private static void distances() {
        says("DISTANCE of two PIECES: SPOTS that are off on one of both.");
        PanelCopies x = told(named(8, "spot s%;") + "thief t boy skill 0 coins 0 at 0; copy of 0 slip sa sb sc with t;"
            + "copy of 1 slip sd se sf with t; copy of 2 slip sg sh with t; copy of 0 slip sh with t;");
        due(6, "of one with itself", x.distance(3, 3), 0);
        due(6, "all eight", x.distance(0, 3), 8);
        due(6, "all eight, the other way", x.distance(3, 0), 8);
        due(6, "off on both is none", x.distance(3, 4), 7);
        due(6, "one", x.distance(0, 4), 1);
        due(6, "both have others", x.distance(1, 4), 4);
        says("DISTANCE; NONE: others.");
        refused(6, "distance of 0 and", other -> x.distance(0, other), NONE, -1, 5, 8, 32);
        refused(6, "distance of the other way", one -> x.distance(one, 0), NONE, -1, 5, 8, 32);
        due(6, "both wrong", x.distance(-1, -1), NONE);
        due(6, "both beyond", x.distance(5, 5), NONE);
    }

    private static void pieces() {
        says("what 0: SPOTS that are off (bits), 1: who has it (a THIEF; 5 it hangs; 6 sold), 2: of which it was copied"
            + " (NONE: the first), 3: on how many nights it has hung, 4: its worth; NONE: others, there is none.");
        PanelCopies x = told(ALL);
        due(5, "a THIEF", x.piece(1, 1), PLAIN);
        due(5, "it hangs", x.piece(0, 1), 5);
        due(5, "of which", x.piece(3, 2), 2);
        due(5, "the first", x.piece(0, 2), NONE);
        x.sell(PLAIN, 1);
        due(5, "sold", x.piece(1, 1), 6);
        due(5, "a sold one is off as it was", x.piece(1, 0), 1);
        due(5, "a sold one is worth as much", x.piece(1, 4), 89);
        due(5, "a sold one was copied of", x.piece(1, 2), 0);
        for (int piece = 0; piece < 5; piece++) {
            int asked = piece;
            refused(5, "what of " + piece, what -> x.piece(asked, what), NONE, -1, 5, 6, 32);
        }
        for (int what = 0; what < 5; what++) {
            int asked = what;
            refused(5, "what " + what + " of PIECE", piece -> x.piece(piece, asked), NONE, -1, 5, 6, 7, 8, 32);
        }
        PanelCopies full = told(ALL + "copy of 0 slip sa with pa; copy of 0 slip sa with pa; copy of 6 slip sb with kid;");
        due(5, "the eighth", full.piece(7, 2), 6);
        due(5, "a ninth", full.piece(8, 2), NONE);
    }

    private static void thieves() {
        says("what 0: KIND (0 plain, 1 bold, 2 restorer, 3 boy), 1: skill, 2: coins, 3: hours as bits, 4: PIECES he has, as"
            + " bits; NONE: others.");
        PanelCopies x = told(ALL);
        int[][] want = {{0, 5, 10, 1 << 23 | 7, 2}, {1, 0, 999, 8, 8}, {2, 99, 0, 16, 4}, {3, 2, 1, 32, 16}};
        for (int thief = 0; thief < 4; thief++) {
            for (int what = 0; what < 5; what++) {
                due(7, "thief(" + thief + ", " + what + ")", x.thief(thief, what), want[thief][what]);
            }
            int asked = thief;
            refused(7, "what of " + thief, what -> x.thief(asked, what), NONE, -1, 5, 6, 32);
        }
        for (int what = 0; what < 5; what++) {
            int asked = what;
            refused(7, "what " + what + " of THIEF", thief -> x.thief(thief, asked), NONE, -1, 4, 5, 6, 32);
        }
        x.sell(PLAIN, 1);
        due(7, "what is sold he has not", x.thief(PLAIN, 4), 0);
        due(7, "coins behind a sale", x.thief(PLAIN, 2), 99);
        due(7, "no fifth", told(SPOTS + named(5, "thief t% boy skill 0 coins 7 at 0;")).thief(5, 2), NONE);
        due(7, "the fifth", told(SPOTS + named(5, "thief t% boy skill 0 coins 7 at 0;")).thief(4, 2), 7);
    }

    // ---- STEAL ----

    private static void stealing() {
        says("STEAL: a THIEF leaves a PIECE that he has; it hangs then; he has the one that hung.");
        PanelCopies x = told(ALL);
        due(8, "which one he has now", x.steal(PLAIN, 1), 0);
        due(5, "what he left hangs", x.piece(1, 1), 5);
        due(34, "it hangs", x.count(5), 1);
        due(5, "he has the one that hung", x.piece(0, 1), PLAIN);
        due(7, "it alone", x.thief(PLAIN, 4), 1);
        due(8, "and back", x.steal(PLAIN, 0), 1);
        due(34, "the first one hangs", x.count(5), 0);
        due(34, "two can be undone", x.count(10), 2);
        due(34, "no night has passed", x.count(4), 0);
    }

    private static void stealingByKind() {
        says("A boy can't; nor can a plain one or a restorer all of whose hours are guarded this night (a bold one can).");
        PanelCopies x = told(ALL);
        due(8, "a boy", x.steal(BOY, 4), NONE);
        due(8, "a plain one", x.steal(PLAIN, 1), 0);
        due(8, "a bold one", x.steal(BOLD, 3), 1);
        due(8, "a restorer", x.steal(RESTORER, 2), 3);
        for (int hour = 0; hour < 24; hour++) {
            x.guard(hour);
        }
        due(8, "a boy, all guarded", x.steal(BOY, 4), NONE);
        due(8, "a plain one, all guarded", x.steal(PLAIN, 0), NONE);
        due(8, "a restorer, all guarded", x.steal(RESTORER, 3), NONE);
        due(8, "a bold one, all guarded", x.steal(BOLD, 1), 2);
        x.night();
        due(8, "a boy, the next night", x.steal(BOY, 4), NONE);
        due(8, "a restorer, the next night", x.steal(RESTORER, 3), 1);
        due(8, "a plain one, the next night", x.steal(PLAIN, 0), 3);
    }

    private static void guardedHours() {
        says("nor can a plain one or a restorer all of whose hours are guarded this night");
        int[] hours = {0, 1, 2, 23};
        for (int free = 0; free < 4; free++) {
            PanelCopies x = told(ALL);
            for (int i = 0; i < 4; i++) {
                if (i != free) {
                    x.guard(hours[i]);
                }
            }
            due(8, "all but hour " + hours[free], x.steal(PLAIN, 1), 0);
            x.guard(hours[free]);
            due(8, "that one, too", x.steal(PLAIN, 0), NONE);
            x.undo();
            due(8, "its guard undone", x.steal(PLAIN, 0), 1);
        }
        PanelCopies x = told(ALL);
        x.guard(4);
        due(8, "a restorer's only hour", x.steal(RESTORER, 2), NONE);
        due(8, "another one's hour", x.steal(PLAIN, 1), 0);
        x.guard(3);
        due(8, "a bold one's only hour", x.steal(BOLD, 3), 1);
    }

    private static void mending() {
        says("A restorer mends: the first SPOT that is off on what he takes is right then.");
        PanelCopies x = told(ALL);
        due(8, "bold: leaves 3", x.steal(BOLD, 3), 0);
        due(8, "the restorer takes 3", x.steal(RESTORER, 2), 3);
        due(5, "sb is right, sc is off", x.piece(3, 0), 4);
        due(5, "what he left is as it was", x.piece(2, 0), 7);
        due(8, "a plain one takes 2", x.steal(PLAIN, 1), 2);
        due(5, "and mends nothing", x.piece(2, 0), 7);
        due(8, "the restorer takes 1", x.steal(RESTORER, 3), 1);
        due(5, "its only one is right", x.piece(1, 0), 0);
        due(8, "a bold one takes 3", x.steal(BOLD, 0), 3);
        due(5, "and mends nothing", x.piece(3, 0), 4);
        due(8, "the restorer takes 0", x.steal(RESTORER, 1), 0);
        due(5, "there nothing was off", x.piece(0, 0), 0);
        due(5, "a copy of what was mended is as it was", x.piece(2, 0), 7);
    }

    private static void stealingRefused() {
        says("STEAL, leaving a PIECE: which one he has now; NONE: others, it can't be.");
        PanelCopies x = told(ALL);
        x.sell(RESTORER, 2);
        String before = state(x);
        PanelCopies y = told(ALL);
        y.sell(RESTORER, 2);
        refused(8, "a THIEF leaving 1", thief -> y.steal(thief, 1), NONE, -1, 1, 2, 3, 4, 5, 6, 7, 8, 32);
        refused(8, "a THIEF leaving what hangs", thief -> y.steal(thief, 0), NONE, -1, 0, 1, 2, 3, 4, 5, 6);
        refused(8, "a THIEF leaving what is sold", thief -> y.steal(thief, 2), NONE, -1, 0, 1, 2, 3, 4, 5, 6);
        refused(8, "pa leaving", piece -> y.steal(PLAIN, piece), NONE, -1, 0, 2, 3, 4, 5, 6, 7, 8, 32, 33);
        same(8, "nothing has changed", state(y), before);
        due(10, "nothing but the sale can be undone", y.count(10), 1);
    }

    // ---- PAINT ----

    private static void painting() {
        says("PAINT: a THIEF copies a PIECE that he has (a boy: the one that hangs), with a slip in a SPOT: a new PIECE, the"
            + " next one, which he has");
        PanelCopies x = told(ALL);
        x.night();
        due(9, "the next one", x.paint(PLAIN, 1, 2), 5);
        due(34, "six PIECES", x.count(1), 6);
        due(5, "its slips", x.piece(5, 0), 5);
        due(5, "he has it", x.piece(5, 1), PLAIN);
        due(5, "of which", x.piece(5, 2), 1);
        due(5, "it has not hung", x.piece(5, 3), 0);
        due(5, "its worth", x.piece(5, 4), 75);
        due(5, "he has the first one still", x.piece(1, 1), PLAIN);
        due(9, "a copy of the copy", x.paint(PLAIN, 5, 0), 6);
        due(5, "right again", x.piece(6, 0), 4);
        due(34, "what hangs", x.count(5), 0);
        due(34, "no coins for it", x.count(6), 1010);
        for (int hour = 0; hour < 24; hour++) {
            x.guard(hour);
        }
        due(9, "guards are no matter", x.paint(PLAIN, 1, 0), 7);
    }

    private static void paintingByBoys() {
        says("PAINT: a THIEF copies a PIECE that he has (a boy: the one that hangs)");
        PanelCopies x = told(ALL);
        due(9, "a boy: what he has", x.paint(BOY, 4, 0), NONE);
        due(9, "a boy: what another one has", x.paint(BOY, 1, 0), NONE);
        due(9, "a boy: what hangs", x.paint(BOY, 0, 2), 5);
        due(5, "he has it", x.piece(5, 1), BOY);
        due(9, "others: what hangs", x.paint(RESTORER, 0, 0), NONE);
        due(9, "others: what another one has", x.paint(RESTORER, 1, 0), NONE);
        due(8, "another one hangs", x.steal(PLAIN, 1), 0);
        due(9, "a boy: what hung", x.paint(BOY, 0, 0), NONE);
        due(9, "a boy: what hangs now", x.paint(BOY, 1, 1), 6);
        x.sell(PLAIN, 0);
        due(9, "a boy: what is sold", x.paint(BOY, 0, 0), NONE);
        due(9, "who had it: what is sold", x.paint(PLAIN, 0, 0), NONE);
        due(10, "a boy sells what he painted", x.sell(BOY, 6), 74);
    }

    private static void paintingTheEighth() {
        says("if there are fewer than 8");
        PanelCopies x = told(ALL);
        due(9, "the sixth", x.paint(RESTORER, 2, 0), 5);
        due(9, "the seventh", x.paint(RESTORER, 2, 0), 6);
        due(9, "the eighth", x.paint(RESTORER, 2, 0), 7);
        due(9, "a ninth", x.paint(RESTORER, 2, 0), NONE);
        due(9, "a boy's ninth", x.paint(BOY, 0, 0), NONE);
        due(34, "eight", x.count(1), 8);
        x.sell(RESTORER, 7);
        x.sell(RESTORER, 2);
        due(9, "sold ones count", x.paint(RESTORER, 6, 0), NONE);
        x.undo();
        x.undo();
        x.undo();
        due(9, "with one undone", x.paint(RESTORER, 2, 1), 7);
        PanelCopies full = told(SPOTS + THIEVES + times(7, "copy of % slip sa with re;"));
        due(9, "eight told", full.paint(RESTORER, 1, 0), NONE);
        PanelCopies seven = told(SPOTS + THIEVES + times(6, "copy of % slip sa with re;"));
        due(9, "seven told", seven.paint(RESTORER, 1, 0), 7);
    }

    private static int painted(int skill, String hard) {
        return told("spot sa; spot sb; thief t plain skill " + skill + " coins 0 at 0; copy of 0 slip sa with t; hard " + hard
            + ";").paint(0, 1, 1);
    }

    private static void paintingBySkill() {
        says("his skill is no less than the E of hard (all ints)");
        due(9, "equal", painted(0, "0"), 2);
        due(9, "one less", painted(0, "1"), NONE);
        due(9, "99 and 99", painted(99, "99"), 2);
        due(9, "99 and 100", painted(99, "100"), NONE);
        due(9, "99 and 1000", painted(99, "1000"), NONE);
        due(9, "0 and -1", painted(0, "0 - 1"), 2);
        due(9, "0 and -1000", painted(0, "0 - 1000"), 2);
        due(9, "the greatest int", painted(99, MOST_INT), NONE);
        due(9, "one more, the least int", painted(0, MOST_INT + " + 1"), 2);
        due(9, "slips 1, age 1, place 1", painted(3, "slips + age + place"), 2);
        due(9, "one less", painted(2, "slips + age + place"), NONE);
        due(9, "1 or 0", painted(0, "slips < 1"), 2);
        due(9, "1 or 0", painted(0, "slips = 1"), NONE);
    }

    private static void paintingRefused() {
        says("PAINT: the new PIECE; NONE: others, it can't be.");
        PanelCopies y = told(ALL);
        String before = state(y);
        refused(9, "a THIEF painting 2", thief -> y.paint(thief, 2, 0), NONE, -1, 0, 1, 3, 4, 5, 6, 7, 8, 32);
        refused(9, "a THIEF painting what hangs", thief -> y.paint(thief, 0, 0), NONE, -1, 0, 1, 2, 4, 5, 6, 7, 8);
        refused(9, "re painting", piece -> y.paint(RESTORER, piece, 0), NONE, -1, 0, 1, 3, 4, 5, 6, 7, 8, 32, 34);
        refused(9, "a boy painting", piece -> y.paint(BOY, piece, 0), NONE, -1, 1, 2, 3, 4, 5, 6, 7, 8, 32);
        refused(9, "with a slip in", spot -> y.paint(RESTORER, 2, spot), NONE, -1, 3, 4, 7, 8, 31, 32);
        same(9, "nothing has changed", state(y), before);
        due(9, "the last SPOT", y.paint(RESTORER, 2, 2), 5);
        due(9, "without SPOTS", told("thief t boy skill 9 coins 0 at 0;").paint(0, 0, 0), NONE);
    }

    // ---- SELL ----

    private static void selling() {
        says("SELL: a PIECE that he has is sold for the E of worth (0 to 999); nobody has it then.");
        PanelCopies x = told(ALL);
        due(10, "for how much", x.sell(PLAIN, 1), 89);
        due(7, "coins", x.thief(PLAIN, 2), 99);
        due(34, "coins of all", x.count(6), 10 + 999 + 0 + 1 + 89);
        due(5, "nobody has it", x.piece(1, 1), 6);
        due(7, "he has nothing", x.thief(PLAIN, 4), 0);
        due(34, "PIECES", x.count(1), 5);
        due(8, "it can't be left", x.steal(PLAIN, 1), NONE);
        due(9, "it can't be copied", x.paint(PLAIN, 1, 0), NONE);
        due(10, "it can't be sold again", x.sell(PLAIN, 1), NONE);
        due(10, "a boy sells", x.sell(BOY, 4), 86);
        due(10, "more than 999 coins", x.sell(BOLD, 3), 77);
        due(7, "are his", x.thief(BOLD, 2), 1076);
        for (int hour = 0; hour < 24; hour++) {
            x.guard(hour);
        }
        due(10, "guards are no matter", x.sell(RESTORER, 2), 68);
        PanelCopies hung = told(ALL + "worth hung * 100 + age;");
        hung.steal(PLAIN, 1);
        hung.night();
        hung.night();
        hung.steal(PLAIN, 0);
        due(10, "as it is worth then", hung.sell(PLAIN, 1), 201);
    }

    private static void worthBound(String law, int want) {
        PanelCopies x = told(SPOTS + THIEVES + "copy of 0 slip sa with pa; worth " + law + ";");
        due(5, "worth " + law, x.piece(1, 4), want);
        due(23, "the mean of worth " + law, x.price(), want * 1000);
        due(10, "sold by worth " + law, x.sell(PLAIN, 1), want);
        due(7, "coins by worth " + law, x.thief(PLAIN, 2), 10 + want);
        due(34, "it can be undone", x.count(10), 1);
        due(5, "it is sold", x.piece(1, 1), 6);
    }

    private static void worthBounds() {
        says("is sold for the E of worth (0 to 999)");
        worthBound("0", 0);
        worthBound("1", 1);
        worthBound("0 - 1", 0);
        worthBound("0 - 2", 0);
        worthBound("0 - 9999", 0);
        worthBound("998", 998);
        worthBound("999", 999);
        worthBound("1000", 999);
        worthBound("9999", 999);
        worthBound(MOST_INT, 999);
        worthBound(MOST_INT + " + 1", 0);
    }

    private static void sellingRefused() {
        says("SELL: for how much; NONE: others, he has it not.");
        PanelCopies y = told(ALL);
        y.sell(RESTORER, 2);
        String before = state(y);
        refused(10, "a THIEF selling 1", thief -> y.sell(thief, 1), NONE, -1, 1, 2, 3, 4, 5, 6, 7, 8, 32);
        refused(10, "a THIEF selling what hangs", thief -> y.sell(thief, 0), NONE, -1, 0, 1, 2, 3, 4, 5, 6);
        refused(10, "a THIEF selling what is sold", thief -> y.sell(thief, 2), NONE, -1, 0, 1, 2, 3, 4, 5, 6);
        refused(10, "pa selling", piece -> y.sell(PLAIN, piece), NONE, -1, 0, 2, 3, 4, 5, 6, 7, 8, 32, 33);
        same(10, "nothing has changed", state(y), before);
    }

    // ---- GUARD and NIGHT ----

    private static void guarding() {
        says("GUARD: true; false: others, it is guarded.");
        PanelCopies x = told(ALL);
        refused(11, "guard", hour -> x.guard(hour) ? 1 : 0, 0, -1, 24, 25, 31, 32, 33, 56, 64);
        due(34, "no guards", x.count(7), 0);
        due(34, "nothing can be undone", x.count(10), 0);
        for (int hour = 0; hour < 24; hour++) {
            due(11, "guard(" + hour + ")", x.guard(hour), true);
            due(11, "guard(" + hour + ") again", x.guard(hour), false);
            due(34, "guarded hours", x.count(7), (1 << hour + 1) - 1);
        }
        says("GUARD an hour, this night.");
        x.night();
        due(34, "no guards the next night", x.count(7), 0);
        due(11, "guarded anew", x.guard(23), true);
        due(34, "it alone", x.count(7), 1 << 23);
        due(11, "without THIEVES", new PanelCopies().guard(0), true);
    }

    private static void nights() {
        says("NIGHT: what hangs has hung one more; no guards; a night more.");
        PanelCopies x = told(ALL);
        due(12, "how many have passed", x.night(), 1);
        due(5, "the first one has hung", x.piece(0, 3), 1);
        due(5, "no other one has", x.piece(1, 3), 0);
        x.steal(PLAIN, 1);
        x.guard(1);
        due(12, "how many have passed", x.night(), 2);
        due(5, "what hangs has hung", x.piece(1, 3), 1);
        due(5, "what hung has not", x.piece(0, 3), 1);
        due(34, "no guards", x.count(7), 0);
        due(34, "the night", x.count(4), 2);
        for (int night = 3; night <= 100; night++) {
            due(12, "how many have passed", x.night(), night);
        }
        due(5, "it has hung", x.piece(1, 3), 99);
        due(12, "of a new object", new PanelCopies().night(), 1);
    }

    // ---- UNDO ----

    private static String brief(PanelCopies x) {
        StringBuilder all = new StringBuilder();
        for (int what : new int[] {1, 4, 5, 6, 7}) {
            all.append(x.count(what)).append(' ');
        }
        for (int piece = 0; piece < x.count(1); piece++) {
            all.append(x.piece(piece, 0)).append('.').append(x.piece(piece, 1)).append('.').append(x.piece(piece, 3)).append(' ');
        }
        return all.toString();
    }

    private static void undoingEach() {
        says("UNDO: these, the last 16, one by one.");
        PanelCopies x = told(ALL);
        List<String> before = new ArrayList<>();
        for (int deed = 0; deed < 7; deed++) {
            before.add(brief(x));
            due(34, "what can be undone", x.count(10), deed);
            boolean done = deed == 0 ? x.steal(BOLD, 3) == 0 : deed == 1 ? x.steal(RESTORER, 2) == 3
                : deed == 2 ? x.paint(PLAIN, 1, 1) == 5 : deed == 3 ? x.guard(7) : deed == 4 ? x.sell(PLAIN, 5) == 75
                : deed == 5 ? x.night() == 1 : x.paint(BOY, 2, 0) == NONE && x.sell(BOLD, 0) == 100;
            due(13, "deed " + deed, done, true);
        }
        for (int deed = 6; deed >= 0; deed--) {
            due(13, "undo() of deed " + deed, x.undo(), true);
            same(13, "as before deed " + deed, brief(x), before.get(deed));
            due(34, "what can be undone", x.count(10), deed);
        }
        says("UNDO: true; false: nothing can be.");
        due(13, "nothing more", x.undo(), false);
        same(13, "as told", brief(x), before.get(0));
        due(13, "nothing at first", new PanelCopies().undo(), false);
    }

    private static void undoingSixteen() {
        says("UNDO: these, the last 16, one by one.");
        for (int deeds : new int[] {15, 16, 17, 18, 33, 40}) {
            PanelCopies x = told(ALL);
            for (int i = 0; i < deeds; i++) {
                x.night();
            }
            int undone = Math.min(deeds, 16);
            due(34, "what can be undone of " + deeds, x.count(10), undone);
            for (int i = 1; i <= undone; i++) {
                due(13, "undo()", x.undo(), true);
                due(34, "the night", x.count(4), deeds - i);
            }
            due(13, "no more of " + deeds, x.undo(), false);
            due(34, "the night", x.count(4), deeds - undone);
            due(5, "nights of the first one", x.piece(0, 3), deeds - undone);
        }
    }

    private static void undoingOnlyDeeds() {
        says("UNDO: these, the last 16, one by one.");
        PanelCopies x = told(ALL);
        for (int i = 0; i < 16; i++) {
            x.night();
        }
        // What is refused, asked, looked at, marked, fed or read as NIGHTS is no deed, nor is an undo.
        x.steal(BOY, 4);
        x.paint(BOLD, 3, 2);
        x.sell(PLAIN, 0);
        x.guard(24);
        x.look(0, true);
        x.look(9, true);
        x.mark(0, false);
        x.mark(1, true);
        nightsOf(x, "night; night;");
        galleryOf(x, "spot");
        x.years(1, 60, 0);
        x.judged(0);
        due(34, "sixteen", x.count(10), 16);
        for (int night = 15; night >= 0; night--) {
            due(13, "undo()", x.undo() && x.count(4) == night, true);
        }
        due(13, "no more", x.undo(), false);
        due(34, "the LOOK stays", x.count(9), 1);
        due(34, "the NIGHTS stay", x.count(8), 2);
        due(33, "the MARK stays", x.mark(0, true) && x.count(4) == 16, true);
        due(13, "nothing can be undone then", x.undo(), false);
    }

    private static void undoingAndGoingOn() {
        says("UNDO: these, the last 16, one by one.");
        PanelCopies x = told(ALL);
        for (int i = 0; i < 20; i++) {
            x.night();
        }
        for (int i = 0; i < 5; i++) {
            x.undo();
        }
        due(34, "11 left", x.count(10), 11);
        for (int hour = 0; hour < 7; hour++) {
            x.guard(hour);
        }
        due(34, "16 again", x.count(10), 16);
        due(34, "night 15", x.count(4), 15);
        for (int hour = 6; hour >= 0; hour--) {
            due(13, "a guard", x.undo() && x.count(7) == (1 << hour) - 1, true);
        }
        for (int night = 14; night >= 6; night--) {
            due(13, "a night", x.undo() && x.count(4) == night, true);
        }
        due(13, "no more", x.undo(), false);
        due(34, "night 6", x.count(4), 6);
        due(12, "and on", x.night(), 7);
        due(34, "one", x.count(10), 1);
    }

    // ---- JUDGED ----

    private static PanelCopies withNights(String nights) {
        PanelCopies x = told(ALL);
        due(4, "nights() of " + nights, nightsOf(x, nights), 0);
        return x;
    }

    private static void judge(String nights, int firstWrong, int hangs, int coins) {
        PanelCopies x = withNights(nights);
        due(14, "the first that can't be of " + nights, x.judged(0), firstWrong);
        due(14, "what hangs of " + nights, x.judged(1), hangs);
        due(14, "coins of " + nights, x.judged(2), coins);
    }

    private static void judgedFromTheBegin() {
        says("JUDGED: the NIGHTS from the begin");
        PanelCopies x = withNights("steal pa 1; sell pa 0; guard 3; night;");
        x.sell(PLAIN, 1);
        x.guard(3);
        x.steal(BOLD, 3);
        x.night();
        String before = state(x);
        due(14, "all can be", x.judged(0), NONE);
        due(14, "what hangs", x.judged(1), 1);
        due(14, "coins", x.judged(2), 1110);
        due(14, "a second time", x.judged(2), 1110);
        same(14, "nothing has changed", state(x), before);
        x.mark(0, false);
        x.mark(0, true);
        due(14, "a MARK is no matter", x.judged(1), 1);
    }

    private static void judgedLines() {
        says("the first line (from 0) that can't be (guard of a guarded hour; night always can; lines that can't be are left"
            + " out); which PIECE hangs at last; coins of all.");
        judge("", NONE, 0, 1010);
        judge("night;".repeat(30), NONE, 0, 1010);
        judge("night;".repeat(29) + "steal kid 4;", 29, 0, 1010);
        judge("sell pa 7;" + "night;".repeat(29), 0, 0, 1010);
        judge("guard 1; guard 1;", 1, 0, 1010);
        judge("guard 1; night; guard 1;", NONE, 0, 1010);
        judge("guard 4; steal re 2; night; steal re 2;", 1, 2, 1010);
        judge("guard 4; guard 4; steal re 2; night; steal re 2; steal re 2;", 1, 2, 1010);
        judge("sell pa 1; sell pa 1; sell bo 3; sell bo 3;", 1, 0, 1010 + 89 + 77);
        judge("sell pa 5; paint pa 1 sb; sell pa 5;", 0, 0, 1010 + 75);
        judge("paint pa 1 sb; steal pa 5; sell pa 0;", NONE, 5, 1110);
        judge("paint bo 3 sa; paint kid 4 sa; paint kid 0 sa; steal kid 5;", 0, 0, 1010);
        judge("steal bo 3; steal re 2; sell re 3;", NONE, 2, 1010 + 87);
        PanelCopies hung = told(ALL + "worth hung;");
        nightsOf(hung, "night; night; steal pa 1; night; sell pa 0;");
        due(14, "nights count for worth", hung.judged(2), 1012);
        PanelCopies eighth = withNights("paint re 2 sa; paint re 2 sa; paint re 2 sa; paint re 2 sa; sell re 7;");
        due(14, "a ninth PIECE can't be", eighth.judged(0), 3);
        says("JUDGED, what 0: the first line that can't be (NONE: all can), 1: what hangs, 2: coins; -2: others.");
        due(14, "of a new object", new PanelCopies().judged(0), NONE);
        due(14, "of a new object", new PanelCopies().judged(1), 0);
        due(14, "of a new object", new PanelCopies().judged(2), 0);
    }

    private static void judgedOthers() {
        says("JUDGED, what 0: the first line that can't be (NONE: all can), 1: what hangs, 2: coins; -2: others.");
        PanelCopies x = withNights("sell pa 7;");
        refused(14, "judged", x::judged, -2, -2, -1, 3, 4, 32);
        PanelCopies none = new PanelCopies();
        refused(14, "judged of a new object", none::judged, -2, -2, -1, 3);
    }

    // ---- MARKS ----

    private static void marksHold() {
        says("MARKS 0 to 3 hold the night, PIECES, who has which, coins, guards, LOOKS (nothing can be undone when one is gone"
            + " back to).");
        for (int mark = 0; mark < 4; mark++) {
            PanelCopies x = told(ALL);
            x.steal(BOLD, 3);
            x.night();
            x.sell(PLAIN, 1);
            x.guard(9);
            x.look(1, true);
            x.look(0, false);
            String before = brief(x);
            due(33, "laid", x.mark(mark, false), true);
            due(34, "what can be undone stays", x.count(10), 4);
            x.steal(RESTORER, 2);
            x.paint(BOY, 2, 0);
            x.paint(RESTORER, 3, 0);
            x.sell(RESTORER, 3);
            x.guard(10);
            x.night();
            x.night();
            x.look(0, true);
            x.look(2, false);
            due(33, "gone back to", x.mark(mark, true), true);
            same(33, "as it was", brief(x), before);
            due(34, "LOOKS", x.count(9), 2);
            due(21, "FITS by them", x.fits(), 8);
            due(34, "nothing can be undone", x.count(10), 0);
            due(13, "nothing is undone", x.undo(), false);
            same(33, "as it was", brief(x), before);
            due(9, "the next PIECE", x.paint(RESTORER, 2, 0), 5);
            due(13, "what comes can be undone", x.undo(), true);
        }
        PanelCopies own = told("spot a; spot b; hard place; thief t bold skill 9 coins 0 at 0; thief u bold skill 0 coins 0 at 0;"
            + "copy of 0 slip a with t;");
        own.mark(0, false);
        own.paint(0, 1, 1);
        own.mark(1, false);
        own.mark(0, true);
        own.paint(0, 1, 0);
        due(24, "its own slips: a", own.painters(), 4);
        own.mark(1, true);
        due(24, "its own slips: b", own.painters(), 2);
    }

    private static void marksStay() {
        says("A MARK is laid (back: gone back to): true; false: none such, nothing is on it (back).");
        PanelCopies x = told(ALL);
        for (int mark = 0; mark < 4; mark++) {
            due(33, "laid", x.mark(mark, false), true);
            x.night();
        }
        for (int mark = 3; mark >= 0; mark--) {
            due(33, "each holds its own night", x.mark(mark, true) && x.count(4) == mark, true);
            x.night();
            x.guard(1);
            due(33, "a second time", x.mark(mark, true) && x.count(4) == mark && x.count(7) == 0, true);
        }
        due(33, "laid anew", x.mark(2, true) && x.mark(0, false) && x.mark(3, true) && x.mark(0, true), true);
        due(34, "holds what it was laid on last", x.count(4), 2);
        nightsOf(x, "night;");
        x.feed(0, 0, 32);
        x.mark(1, true);
        due(34, "NIGHTS are not held", x.count(8), 1);
        due(34, "the TAPE is not held", x.count(11), 1);
        due(34, "by a MARK that was laid ahead", x.count(4), 1);
    }

    private static void marksRefused() {
        says("A MARK is laid (back: gone back to): true; false: none such, nothing is on it (back).");
        PanelCopies x = told(ALL);
        x.guard(3);
        x.night();
        String before = state(x);
        refused(33, "laid", mark -> x.mark(mark, false) ? 1 : 0, 0, -1, 4, 5, 31, 32, 35);
        refused(33, "gone back to", mark -> x.mark(mark, true) ? 1 : 0, 0, -1, 0, 1, 2, 3, 4, 5, 31, 32, 35);
        same(33, "nothing has changed", state(x), before);
        due(33, "laid", x.mark(1, false), true);
        due(33, "the others are empty", x.mark(0, true) || x.mark(2, true) || x.mark(3, true), false);
        due(34, "what can be undone stays", x.count(10), 2);
        due(33, "none such, with one laid", x.mark(33, true) || x.mark(-31, true), false);
    }
}
