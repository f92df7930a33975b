/** Each promise by hand: ordinary inputs, the edges that the document names, and wrong inputs. */
public final class PromisesTest extends Asked {
    private static final String SPOTS = "spot hand; spot blue; spot nose;";
    private static final String THIEVES =
        "thief ann plain skill 5 coins 10 at 1 2; thief bob restorer skill 9 coins 0 at 2;"
        + "thief cid boy skill 3 coins 0 at 5; thief dot bold skill 0 coins 7 at 20;";
    private static final String COPIES =
        "copy of 0 slip hand with ann; copy of 1 slip blue with bob; copy of 0 slip nose hand with dot;";
    private static final String EXPERTS = "expert xavier sees hand blue; expert yan sees nose;";
    private static final String ALL = SPOTS + THIEVES + COPIES + EXPERTS;

    public static void main(String[] args) {
        newObject();
        feeding();
        tokens();
        galleryFaults();
        lawFaults();
        nightsFaults();
        galleryStartsAnew();
        laws();
        pieces();
        thieves();
        stealing();
        painting();
        selling();
        guardsAndNights();
        undoing();
        judging();
        trees();
        kinNearestMeet();
        joining();
        looking();
        painters();
        knowing();
        auctions();
        watches();
        chances();
        years();
        marks();
        endTest();
    }

    private static void newObject() {
        PanelCopies x = new PanelCopies();
        int[] counts = {0, 1, 0, 0, 0, 0, 0, 0, 0, 0, 0, 0, NONE};
        for (int what = 0; what < counts.length; what++) {
            due(1, "count(" + what + ")", x.count(what), counts[what]);
        }
        due(34, "count(-1)", x.count(-1), NONE);
        due(1, "piece(0, 0)", x.piece(0, 0), 0);
        due(1, "piece(0, 1)", x.piece(0, 1), 5);
        due(1, "piece(0, 2)", x.piece(0, 2), NONE);
        due(1, "piece(1, 1)", x.piece(1, 1), NONE);
        due(1, "undo()", x.undo(), false);
        due(1, "mark(0, true)", x.mark(0, true), false);
        due(1, "fits()", x.fits(), 1);
    }

    private static void feeding() {
        PanelCopies x = new PanelCopies();
        due(2, "feed of nothing", x.feed(0, 0, 0), 0);
        due(2, "feed of others", x.feed(0x097F80FF0D1F00C8L, -1L, Long.MIN_VALUE), 0);
        due(2, "feed of edges", x.feed(0x0A207E0000000000L, 0, 0x21), 4);
        due(3, "its fault", x.gallery(), 1 + 16 * 2);
        due(3, "the tape is taken", x.count(11), 0);
        // Of each long the highest byte is the first sign.
        x.feed(bytes("spot a;s", 0), bytes("pot b;sp", 0), bytes("ot c ;x", 0));
        due(3, "gallery()", x.gallery(), 1 + 16 * 22);
        for (int i = 0; i < 41; i++) {
            x.feed(0x2020202020202020L, 0x2020202020202020L, 0x2020202020202020L);
        }
        due(2, "feed up to 1000", x.feed(0x2020202020202020L, 0x2020202020202020L, 0x2121212121212121L), 1000);
        due(2, "feed beyond 1000", x.feed(0x2121212121212121L, 0, 0), 1000);
        due(34, "count(11)", x.count(11), 1000);
        due(3, "what came behind 1000 blanks is left out", x.gallery(), 0);
        due(3, "an empty gallery", x.gallery(), 0);
    }

    private static void gallery(String text, int kind, int place) {
        PanelCopies x = new PanelCopies();
        feed(x, text);
        due(3, "gallery() of " + text, x.gallery(), kind == 0 ? 0 : kind + 16 * place);
        due(3, "count(11) behind it", x.count(11), 0);
    }

    /** The token at fault is the last one of the text. */
    private static void atLast(String text, int kind) {
        int place = text.length();
        while (place > 0 && text.charAt(place - 1) != ' ') {
            place--;
        }
        gallery(text, kind, place);
    }

    private static void tokens() {
        gallery("spot a;\nspot b;", 0, 0);
        gallery("  \n ", 0, 0);
        gallery("spot abcdefgh;", 0, 0);
        gallery("spot abcdefghi;", 1, 5);
        gallery("spot A;", 1, 5);
        gallery("spot a,", 1, 6);
        gallery("spot a  ", 1, 8);
        gallery("worth 9999;", 0, 0);
        gallery("worth 10000;", 1, 6);
        gallery("worth 12345678901234567890;", 1, 6);
        gallery("worth 1and 2or 3;", 0, 0);
        gallery("worth(1)and(2);", 0, 0);
        gallery("worth12;", 0, 0);
        gallery("spot a;thief c plain skill 1coins 1at 3 4;", 0, 0);
        gallery("spot a1;", 1, 6);
        gallery("spot slips; spot age; thief hung boy skill 0 coins 0 at 0; expert place sees age;", 0, 0);
        gallery("spotty a;", 1, 0);
    }

    private static void galleryFaults() {
        atLast("spot of", 1);
        atLast("spot 1", 1);
        String[] reserved = {"spot", "thief", "skill", "coins", "at", "copy", "of", "slip", "with", "expert", "sees",
            "worth", "hard", "steal", "paint", "sell", "guard", "night", "plain", "bold", "restorer", "boy", "not",
            "and", "or"};
        for (String word : reserved) {
            atLast("spot " + word, 1);
            atLast("thief " + word, 1);
            atLast("expert " + word, 1);
        }
        String base = "spot aa ; spot bb ; thief cc plain skill 1 coins 1 at 3 ; expert ee sees aa ; ";
        atLast(base + "spot cc", 3);
        atLast(base + "spot ee", 3);
        atLast(base + "thief ee", 3);
        atLast(base + "expert cc", 3);
        atLast(base + "spot dd dd", 1);
        atLast(base + "thief dd skill", 1);
        atLast(base + "thief dd bold coins", 1);
        atLast(base + "thief dd bold skill ;", 1);
        atLast(base + "thief dd bold skill 99 coins 1000", 4);
        atLast(base + "thief dd bold skill 99 coins 999 at 0 23 ; x", 1);
        atLast(base + "thief dd bold skill 1 coins 1 at 1 2 3 1", 3);
        atLast(base + "thief dd bold skill 1 coins 1 at 1 2 3 4 1", 3);
        atLast(base + "thief dd bold skill 1 coins 1 at 1 2 3 4 24", 4);
        atLast(base + "thief dd bold skill 1 coins 1 at 1 2 3 4 5", 5);
        atLast(base + "thief dd bold skill 1 coins 1 at 1 2 aa", 1);
        atLast(base + "copy of 0 slip with", 1);
        atLast(base + "copy of 0 slip 3", 1);
        atLast(base + "copy of 0 slip aa with cc ; copy of 1 slip bb aa with cc ; copy of 3", 4);
        atLast(base + "copy of 0 slip aa bb with cc cc", 1);
        atLast(base + "copy of 0 slip aa with ee", 2);
        atLast(base + "copy of 0 slip aa with zz", 2);
        atLast(base + "copy of 0 slip aa with at", 1);
        atLast(base + "copy of 0 slip ee", 2);
        String spots = base + "spot dd ; spot ff ; spot gg ; ";
        atLast(spots + "copy of 0 slip aa bb dd aa", 3);
        atLast(spots + "copy of 0 slip aa bb dd zz", 2);
        atLast(spots + "copy of 0 slip aa bb dd ff", 5);
        atLast(spots + "expert hh sees aa bb dd ff gg", 5);
        atLast(spots + "expert hh sees aa bb dd ff ff", 3);
        atLast(spots + "expert hh sees aa bb dd ff cc", 2);
        atLast(spots + "expert hh sees ;", 1);
        atLast("spot a; spot b; spot c; spot d; spot e; spot f; spot g; spot h; spot", 5);
        StringBuilder many = new StringBuilder(base);
        for (String name : new String[] {"tb", "td", "te", "tf"}) {
            many.append("thief ").append(name).append(" boy skill 0 coins 0 at 0 ; ");
        }
        atLast(many + "thief", 5);
        StringBuilder copies = new StringBuilder(base);
        for (int i = 0; i < 7; i++) {
            copies.append("copy of ").append(i).append(" slip aa with cc ; ");
        }
        gallery(copies.toString(), 0, 0);
        atLast(copies + "copy", 5);
        atLast(base + "expert ef sees aa ; expert eg sees aa ; expert eh sees aa ; expert", 5);
        gallery(base + "expert ef sees aa ; expert eg sees aa ; expert eh sees aa ; ", 0, 0);
        atLast(base + "steal", 1);
        atLast(base + "worth 1 ; worth", 3);
        atLast(base + "hard 1 ; worth 1 ; hard", 3);
    }

    private static void lawFaults() {
        atLast("worth slips + age * hung - 3 < 4 and not ( 1 or 2 = 3 ) place", 1);
        atLast("worth place", 1);
        atLast("hard hung", 1);
        atLast("worth ;", 1);
        atLast("worth 1 + ;", 1);
        atLast("worth -", 1);
        atLast("worth 1 < 2 =", 1);
        atLast("worth ( 1 ;", 1);
        atLast("worth 1 )", 1);
        atLast("worth and", 1);
        atLast("worth 1 not", 1);
        gallery("worth not not not not 1;", 0, 0);
        gallery("worth ( ( ( ( 1 ) ) ) ) ;", 0, 0);
        gallery("hard not ( not ( 1 < 2 and 3 ) ) * not ( not ( not not 1 ) ) ;", 5, 51);
        atLast("worth not not not not not 1", 5);
        atLast("worth ( ( ( ( ( 1", 5);
        atLast("worth ( not ( not ( not", 5);
        atLast("worth ( not ( not ( (", 5);
        atLast("worth ( not ( not ( slips", 5);
        atLast("worth ( not ( not ( place", 1);
        atLast("worth ( not ( not ( )", 1);
        gallery("worth ( not ( not (", 1, 19);
    }

    private static void nights(String text, int kind, int place) {
        PanelCopies x = told("spot aa; spot bb; thief cc plain skill 1 coins 1 at 3; expert ee sees aa;");
        feed(x, "night; night;");
        due(4, "nights()", x.nights(), 0);
        feed(x, text);
        due(4, "nights() of " + text, x.nights(), kind == 0 ? 0 : kind + 16 * place);
        due(4, "count(8) behind it", kind == 0 || x.count(8) == 2, true);
        due(4, "count(11) behind it", x.count(11), 0);
    }

    private static void nightsFaults() {
        nights("steal cc 7; paint cc 0 bb; sell cc 7; guard 0; guard 23; night;", 0, 0);
        nights("", 0, 0);
        nights("steal ee", 2, 6);
        nights("steal night", 1, 6);
        nights("sell 1", 1, 5);
        nights("sell cc 8", 4, 8);
        nights("paint cc 0 ee", 2, 11);
        nights("paint cc 0 of", 1, 11);
        nights("paint aa", 2, 6);
        nights("paint cc bb", 1, 9);
        nights("guard 24", 4, 6);
        nights("guard cc", 1, 6);
        nights("night", 1, 5);
        nights("spot dd;", 1, 0);
        nights("look", 1, 0);
        StringBuilder thirty = new StringBuilder();
        for (int i = 0; i < 30; i++) {
            thirty.append("night;");
        }
        nights(thirty.toString(), 0, 0);
        nights(thirty + "sell", 5, 180);
        nights(thirty + "spot", 1, 180);
        PanelCopies x = told(ALL);
        feed(x, "night; guard 3;");
        due(4, "nights()", x.nights(), 0);
        due(34, "count(8)", x.count(8), 2);
        feed(x, "night; guard 3; guard");
        due(4, "nights()", x.nights(), 1 + 16 * 21);
        due(34, "count(8)", x.count(8), 2);
        feed(x, "  ");
        due(4, "nights()", x.nights(), 0);
        due(34, "count(8)", x.count(8), 0);
    }

    private static void galleryStartsAnew() {
        PanelCopies x = told(ALL);
        x.steal(0, 1);
        x.guard(3);
        x.night();
        x.guard(4);
        x.look(0, true);
        x.mark(2, false);
        feed(x, "night;");
        x.nights();
        feed(x, "spot hand; spot hand;");
        due(3, "gallery() with a fault", x.gallery(), 3 + 16 * 16);
        due(3, "all stays", x.count(0) * 1000 + x.count(5) * 100 + x.count(8) * 10 + x.count(9), 3111);
        due(3, "it can be undone", x.count(10), 4);
        feed(x, ALL);
        due(3, "gallery()", x.gallery(), 0);
        int[] counts = {3, 4, 4, 2, 0, 0, 17, 0, 0, 0, 0, 0};
        for (int what = 0; what < counts.length; what++) {
            due(3, "count(" + what + ")", x.count(what), counts[what]);
        }
        due(3, "piece(0, 3)", x.piece(0, 3), 0);
        due(3, "piece(1, 3)", x.piece(1, 3), 0);
        due(3, "mark(2, true)", x.mark(2, true), false);
        due(3, "undo()", x.undo(), false);
        due(3, "an empty gallery", x.gallery(), 0);
        due(3, "count(0)", x.count(0), 0);
        due(3, "count(1)", x.count(1), 1);
        due(3, "count(6)", x.count(6), 0);
        due(3, "piece(0, 1)", x.piece(0, 1), 5);
    }

    private static void worth(String law, int want) {
        // PIECE 2 has 2 slips.
        PanelCopies x = told(SPOTS + THIEVES + COPIES + "worth " + law + ";");
        due(5, "worth " + law, x.piece(2, 4), want);
    }

    private static void laws() {
        worth("slips", 2);
        worth("age", 2);
        worth("hung", 0);
        worth("1 + 2 * 3", 7);
        worth("(1 + 2) * 3", 9);
        worth("10 - 3 - 2", 5);
        worth("not 0", 1);
        worth("not 7", 0);
        worth("not not 7", 1);
        worth("not 0 * 5", 5);
        worth("not 0 + 5", 6);
        worth("1 < 2", 1);
        worth("2 < 2", 0);
        worth("2 = 2", 1);
        worth("1 + 1 = 2 and 7", 1);
        worth("0 or 7", 1);
        worth("1 or 0 and 0", 0);
        worth("1 or (0 and 0)", 1);
        worth("0 and 0 or 1", 1);
        worth("5 and 6", 1);
        worth("0 - 5", 0);
        worth("1000", 999);
        worth("0 - 5 < 0", 1);
        worth("9999 * 9999 * 9999 * 9999 < 0", 9999 * 9999 * 9999 * 9999 < 0 ? 1 : 0);
        worth("4096 * 4096 * 128 < 0", 1);
        worth("4096 * 4096 * 256", 0);
        worth("( 1 < 2 ) + ( 2 < 3 )", 2);
        StringBuilder longest = new StringBuilder("1");
        for (int i = 0; i < 200; i++) {
            longest.append("+1");
        }
        worth(longest.toString(), 201);
        worth("1 and 1 < 1 + 1 * (1 and 1 < 1 + 1 * (1 and 1 < 1 + 1 * (1 and 1 < 1 + 1 * (0 or 1 < 1 + 2 * 3))))", 1);
        StringBuilder full = new StringBuilder("worth 1");
        for (int i = 0; i < 496; i++) {
            full.append("+1");
        }
        PanelCopies most = told(full + ";");
        due(5, "a law of 1000 signs", most.piece(0, 4), 497);
        feed(most, full + "+1;");
        due(2, "a law of 1002 signs", most.count(11), 1000);
        due(3, "its end is missing", most.gallery(), 1 + 16 * 1000);
        PanelCopies x = told(ALL + "worth hung * 100 + age;");
        x.night();
        x.night();
        due(5, "worth by hung", x.piece(0, 4), 200);
        due(5, "piece(0, 3)", x.piece(0, 3), 2);
        due(5, "worth by age", x.piece(3, 4), 3);
    }

    private static void pieces() {
        PanelCopies x = told(ALL);
        int[] off = {0, 1, 3, 5};
        int[] holder = {5, 0, 1, 3};
        int[] source = {NONE, 0, 1, 0};
        int[] worth = {100, 89, 78, 77};
        for (int piece = 0; piece < 4; piece++) {
            due(5, "off", x.piece(piece, 0), off[piece]);
            due(5, "holder", x.piece(piece, 1), holder[piece]);
            due(5, "source", x.piece(piece, 2), source[piece]);
            due(5, "hung", x.piece(piece, 3), 0);
            due(5, "worth", x.piece(piece, 4), worth[piece]);
            due(5, "other", x.piece(piece, 5), NONE);
            due(5, "other", x.piece(piece, -1), NONE);
        }
        due(5, "piece(4, 0)", x.piece(4, 0), NONE);
        due(5, "piece(-1, 0)", x.piece(-1, 0), NONE);
        due(6, "distance(2, 3)", x.distance(2, 3), 2);
        due(6, "distance(3, 2)", x.distance(3, 2), 2);
        due(6, "distance(0, 1)", x.distance(0, 1), 1);
        due(6, "distance(3, 3)", x.distance(3, 3), 0);
        due(6, "distance(4, 0)", x.distance(4, 0), NONE);
        due(6, "distance(0, -1)", x.distance(0, -1), NONE);
        due(6, "distance(MIN, MAX)", x.distance(Integer.MIN_VALUE, Integer.MAX_VALUE), NONE);
        x.sell(0, 1);
        due(6, "distance of a sold one", x.distance(1, 2), 1);
        PanelCopies back = told("spot a; spot b; thief t boy skill 0 coins 0 at 0;"
            + "copy of 0 slip a b with t; copy of 1 slip a with t;");
        due(5, "right again", back.piece(2, 0), 2);
    }

    private static void thieves() {
        PanelCopies x = told(ALL);
        int[][] want = {{0, 5, 10, 6, 2}, {2, 9, 0, 4, 4}, {3, 3, 0, 32, 0}, {1, 0, 7, 1 << 20, 8}};
        for (int thief = 0; thief < 4; thief++) {
            for (int what = 0; what < 5; what++) {
                due(7, "thief(" + thief + ", " + what + ")", x.thief(thief, what), want[thief][what]);
            }
            due(7, "other", x.thief(thief, 5), NONE);
            due(7, "other", x.thief(thief, -1), NONE);
        }
        due(7, "thief(4, 0)", x.thief(4, 0), NONE);
        due(7, "thief(-1, 0)", x.thief(-1, 0), NONE);
    }

    private static void stealing() {
        PanelCopies x = told(ALL);
        due(8, "not his", x.steal(0, 2), NONE);
        due(8, "what hangs", x.steal(0, 0), NONE);
        due(8, "no thief", x.steal(4, 1), NONE);
        due(8, "no thief, as what hangs is had by 5", x.steal(5, 0), NONE);
        due(8, "no piece", x.steal(0, 4), NONE);
        due(8, "no piece", x.steal(0, -1), NONE);
        due(10, "none is undone", x.count(10), 0);
        due(8, "steal(3, 3)", x.steal(3, 3), 0);
        due(34, "what hangs", x.count(5), 3);
        due(5, "who has it", x.piece(0, 1), 3);
        due(5, "it hangs", x.piece(3, 1), 5);
        // A restorer takes PIECE 3, off in 0 and 2: the first is right then.
        due(8, "steal(1, 2)", x.steal(1, 2), 3);
        due(5, "mended", x.piece(3, 0), 4);
        x.guard(1);
        due(8, "one of two hours is free", x.steal(0, 1), 2);
        due(5, "not mended", x.piece(2, 0), 3);
        x.guard(2);
        due(8, "all hours guarded", x.steal(0, 2), NONE);
        due(8, "all hours of a restorer", x.steal(1, 3), NONE);
        x.guard(20);
        due(8, "a bold one can", x.steal(3, 0), 1);
        x.night();
        due(8, "another night", x.steal(1, 3), 0);
        due(5, "nothing to mend", x.piece(0, 0), 0);
        due(9, "the boy paints", x.paint(2, 3, 0), 4);
        due(8, "a boy can't", x.steal(2, 4), NONE);
    }

    private static void painting() {
        PanelCopies x = told(ALL);
        due(9, "not his", x.paint(0, 0, 0), NONE);
        due(9, "no spot", x.paint(0, 1, 3), NONE);
        due(9, "no spot", x.paint(0, 1, -1), NONE);
        due(9, "no thief", x.paint(4, 1, 0), NONE);
        due(9, "no piece", x.paint(0, 4, 0), NONE);
        due(9, "skill 0, hard 2 + 0", x.paint(3, 3, 0), NONE);
        due(9, "a boy, not what hangs", x.paint(2, 1, 0), NONE);
        due(9, "a boy, what hangs", x.paint(2, 0, 2), 4);
        due(5, "his", x.piece(4, 1), 2);
        due(5, "its slip", x.piece(4, 0), 4);
        due(5, "its source", x.piece(4, 2), 0);
        due(5, "not hung", x.piece(4, 3), 0);
        due(9, "a boy, what he has", x.paint(2, 4, 2), NONE);
        due(9, "right again", x.paint(0, 1, 0), 5);
        due(5, "right again", x.piece(5, 0), 0);
        due(9, "paint(1, 2, 2)", x.paint(1, 2, 2), 6);
        due(9, "paint(1, 6, 2)", x.paint(1, 6, 2), 7);
        due(9, "8 there are", x.paint(1, 6, 2), NONE);
        due(10, "sold ones count", x.sell(1, 7) != NONE && x.paint(1, 6, 2) == NONE, true);
        PanelCopies hard = told(SPOTS + THIEVES + COPIES + "hard slips * 100 + age * 10 + place - 110;");
        due(9, "100 + 10 + 2 - 110 is 2", hard.paint(0, 1, 2), 4);
        due(9, "200 + 20 - 110 is 110", hard.paint(1, 2, 0), NONE);
        PanelCopies just = told(SPOTS + "thief a plain skill 2 coins 0 at 0; thief b plain skill 1 coins 0 at 0;"
            + "copy of 0 slip hand with a; copy of 0 slip hand with b;");
        due(9, "skill 1, hard 1 + 1", just.paint(1, 2, 1), NONE);
        due(9, "skill 2, hard 1 + 1", just.paint(0, 1, 1), 3);
        PanelCopies wraps = told(SPOTS + THIEVES + COPIES + "hard 4096 * 4096 * 128;");
        due(9, "ints wrap", wraps.paint(3, 3, 0), 4);
    }

    private static void selling() {
        PanelCopies x = told(ALL);
        due(10, "not his", x.sell(0, 2), NONE);
        due(10, "hangs", x.sell(0, 0), NONE);
        due(10, "no thief", x.sell(5, 0), NONE);
        due(10, "no piece", x.sell(0, 9), NONE);
        due(10, "sell(0, 1)", x.sell(0, 1), 89);
        due(7, "coins", x.thief(0, 2), 99);
        due(34, "coins of all", x.count(6), 106);
        due(5, "sold", x.piece(1, 1), 6);
        due(10, "again", x.sell(0, 1), NONE);
        due(10, "nobody has it", x.sell(6, 1), NONE);
        due(34, "it is there", x.count(1), 4);
        due(10, "for nothing", told(SPOTS + THIEVES + COPIES + "worth 0 - 1;").sell(0, 1), 0);
        due(10, "for 999", told(SPOTS + THIEVES + COPIES + "worth 5000;").sell(0, 1), 999);
    }

    private static void guardsAndNights() {
        PanelCopies x = told(ALL);
        due(11, "guard(-1)", x.guard(-1), false);
        due(11, "guard(24)", x.guard(24), false);
        due(11, "guard(32)", x.guard(32), false);
        due(11, "guard(0)", x.guard(0), true);
        due(11, "guard(23)", x.guard(23), true);
        due(11, "guard(0) again", x.guard(0), false);
        due(34, "guards", x.count(7), 1 << 23 | 1);
        due(12, "night()", x.night(), 1);
        due(34, "no guards", x.count(7), 0);
        due(5, "hung", x.piece(0, 3), 1);
        x.steal(0, 1);
        due(12, "night()", x.night(), 2);
        due(5, "hung", x.piece(0, 3), 1);
        due(5, "hung", x.piece(1, 3), 1);
        due(34, "the night", x.count(4), 2);
    }

    private static void undoing() {
        PanelCopies x = told(ALL);
        due(13, "nothing", x.undo(), false);
        x.steal(1, 2);
        x.paint(2, 2, 0);
        x.sell(0, 1);
        x.guard(7);
        x.night();
        x.look(0, true);
        due(34, "count(10)", x.count(10), 5);
        due(13, "the night", x.undo(), true);
        due(13, "guards again", x.count(7), 128);
        due(13, "not hung", x.piece(2, 3), 0);
        due(13, "the guard", x.undo() && x.count(7) == 0, true);
        due(13, "the sale", x.undo() && x.piece(1, 1) == 0 && x.thief(0, 2) == 10, true);
        due(13, "the copy", x.undo() && x.count(1) == 4, true);
        due(13, "the theft", x.undo() && x.count(5) == 0 && x.piece(2, 1) == 1, true);
        due(13, "nothing", x.undo(), false);
        due(13, "looks stay", x.count(9), 1);
        PanelCopies mended = told(SPOTS + THIEVES + "copy of 0 slip hand with dot; copy of 0 slip blue with bob;");
        mended.steal(3, 1);
        mended.steal(1, 2);
        due(8, "mended", mended.piece(1, 0), 0);
        mended.undo();
        due(13, "off again", mended.piece(1, 0), 1);
        for (int i = 0; i < 20; i++) {
            x.night();
            x.guard(25);
            x.steal(0, 0);
        }
        due(34, "the last 16", x.count(10), 16);
        x.guard(3);
        due(34, "the last 16", x.count(10), 16);
        for (int i = 0; i < 16; i++) {
            due(13, "undo()", x.undo(), true);
        }
        due(13, "no more", x.undo(), false);
        due(13, "the night", x.count(4), 5);
        due(13, "hung", x.piece(0, 3), 5);
    }

    private static PanelCopies judged(String nights) {
        PanelCopies x = told(ALL);
        feed(x, nights);
        due(4, "nights() of " + nights, x.nights(), 0);
        return x;
    }

    private static void judging() {
        PanelCopies x = judged("steal ann 1; sell ann 0; guard 3; night; guard 3; steal ann 0; paint cid 1 nose; night;");
        x.steal(0, 1);
        x.sell(0, 0);
        due(14, "judged(0)", x.judged(0), 5);
        due(14, "from the begin", x.judged(1), 1);
        due(14, "coins", x.judged(2), 117);
        due(14, "nothing is changed", x.count(1), 4);
        due(14, "judged(3)", x.judged(3), -2);
        due(14, "judged(-1)", x.judged(-1), -2);
        due(14, "all can", judged("night; guard 1; steal dot 3;").judged(0), NONE);
        due(14, "what hangs", judged("night; guard 1; steal dot 3;").judged(1), 3);
        due(14, "guarded", judged("guard 1; night; guard 1; guard 1; steal dot 3;").judged(0), 3);
        due(14, "left out", judged("guard 1; night; guard 1; guard 1; steal dot 3;").judged(1), 3);
        due(14, "the first line", judged("sell ann 7;").judged(0), 0);
        due(14, "painted ones", judged("paint cid 0 nose; sell cid 4; sell cid 4;").judged(0), 2);
        due(14, "painted ones", judged("paint cid 0 nose; sell cid 4; sell cid 4;").judged(2), 17 + 86);
        due(14, "no nights", told(ALL).judged(0), NONE);
        due(14, "no nights", told(ALL).judged(2), 17);
    }

    private static void trees() {
        PanelCopies x = told(ALL);
        due(15, "least", x.tree(15, 0), 3);
        due(15, "found", x.tree(15, 1), 1);
        due(15, "first", x.tree(15, 2) * 100 + x.tree(15, 3) * 10 + x.tree(15, 4), 11);
        due(15, "beyond", x.tree(15, 5), NONE);
        due(15, "below", x.tree(15, -1), NONE);
        due(15, "none", x.tree(0, 0), NONE);
        due(15, "not there", x.tree(17, 0), NONE);
        due(15, "negative", x.tree(-1, 0), NONE);
        due(15, "one", x.tree(8, 0), 0);
        due(15, "one", x.tree(8, 1), 1);
        due(15, "one", x.tree(8, 2), NONE);
        due(15, "two", x.tree(10, 2), 1);
        due(15, "three alike", x.tree(13, 1), 3);
        // Seven alike PIECES and the first: 6 of them have 6 to the 4th trees.
        PanelCopies alike = told("spot a; thief t plain skill 0 coins 0 at 0;"
            + "copy of 0 slip a with t; copy of 1 slip a with t; copy of 2 slip a with t; copy of 3 slip a with t;"
            + "copy of 4 slip a with t; copy of 5 slip a with t; copy of 6 slip a with t;");
        due(15, "seven", alike.tree(127, 0), NONE);
        due(15, "six: three and three", alike.tree(63, 0), 1);
        due(15, "six: 3 * 3 * 9", alike.tree(63, 1), 81);
        int[] first = {0, 0, 1, 0, 1};
        for (int i = 0; i < 5; i++) {
            due(15, "the first row", alike.tree(63, 2 + i), first[i]);
        }
        due(15, "beyond six", alike.tree(63, 7), NONE);
        due(15, "of even ones", alike.tree(0x55, 1), 16);
        due(15, "of even ones", alike.tree(0x55, 4), 0);
        due(15, "the first of them is 2", alike.tree(0xD4, 2) * 100 + alike.tree(0xD4, 3) * 10 + alike.tree(0xD4, 4), 222);
    }

    private static void kinNearestMeet() {
        PanelCopies x = told(ALL);
        due(16, "kin(0)", x.kin(0), 14);
        due(16, "kin(1)", x.kin(1), 4);
        due(16, "kin(2)", x.kin(2), 0);
        due(16, "kin(4)", x.kin(4), NONE);
        due(16, "kin(-1)", x.kin(-1), NONE);
        x.paint(1, 2, 0);
        due(16, "kin(1)", x.kin(1), 20);
        x.undo();
        due(17, "nearest(0)", x.nearest(0), 1);
        due(17, "nearest(1): 0, 2 and 3 at 1", x.nearest(1), 0);
        due(17, "nearest(2)", x.nearest(2), 1);
        due(17, "nearest(4)", x.nearest(4), NONE);
        due(17, "nearest(-1)", x.nearest(-1), NONE);
        x.sell(0, 1);
        due(17, "sold ones not", x.nearest(2), 0);
        due(17, "of a sold one", x.nearest(1), 0);
        x.sell(1, 2);
        x.sell(3, 3);
        due(17, "no other", x.nearest(0), NONE);
        due(17, "of a sold one", x.nearest(3), 0);
        due(18, "meet(0)", x.meet(0), 2);
        due(18, "meet(1)", x.meet(1), 1);
        due(18, "meet(2)", x.meet(2), 0);
        due(18, "meet(4)", x.meet(4), NONE);
        due(18, "meet(-1)", x.meet(-1), NONE);
        x.guard(2);
        due(18, "guarded", x.meet(0), 0);
        x.night();
        due(18, "another night", x.meet(0), 2);
    }

    private static void joining() {
        PanelCopies x = told(ALL);
        due(19, "pairs", x.joined(1, 0), 3);
        due(19, "the first", x.joined(1, 1), 2);
        due(19, "no pairs", x.joined(0, 0), 0);
        due(19, "none", x.joined(0, 1), NONE);
        due(19, "other", x.joined(1, 2), -2);
        due(19, "other", x.joined(1, -1), -2);
        due(19, "no piece", x.joined(4, 0), -2);
        due(19, "no piece", x.joined(-1, 1), -2);
        x.sell(1, 2);
        due(19, "sold ones too", x.joined(1, 0), 3);
        // Mended to no slip, PIECE 3 is as PIECE 0, which joins with any.
        PanelCopies y = told(SPOTS + THIEVES + "copy of 0 slip hand with ann; copy of 1 slip hand with bob;");
        due(19, "alike", y.joined(2, 0) * 10 + y.joined(2, 1), 11);
        due(19, "alike", y.joined(0, 1), 10);
    }

    private static void looking() {
        PanelCopies x = told(ALL);
        due(20, "no spot", x.look(3, true), false);
        due(20, "no spot", x.look(-1, true), false);
        due(34, "looks", x.count(9), 0);
        due(21, "fits()", x.fits(), 15);
        due(22, "ask(): 3 each", x.ask(), 0);
        due(23, "price()", x.price(), 86000);
        due(20, "look(0, true)", x.look(0, true), true);
        due(21, "fits()", x.fits(), 14);
        due(22, "ask()", x.ask(), 1);
        due(23, "price()", x.price(), 81333);
        x.sell(1, 2);
        due(21, "sold ones not", x.fits(), 10);
        due(22, "ask()", x.ask(), 2);
        x.look(2, false);
        due(21, "fits()", x.fits(), 2);
        due(22, "one is not parted", x.ask(), NONE);
        due(23, "price()", x.price(), 89000);
        x.look(0, false);
        due(21, "nothing", x.fits(), 0);
        due(22, "nothing", x.ask(), NONE);
        due(23, "nothing", x.price(), NONE);
        for (int i = 3; i < 8; i++) {
            due(20, "look", x.look(0, true), true);
        }
        due(20, "8 there are", x.look(0, true), false);
        due(34, "looks", x.count(9), 8);
    }

    private static void painters() {
        PanelCopies x = told(ALL);
        due(24, "painters()", x.painters(), 45);
        int[] first = {NONE, 0, 0, 1, NONE};
        for (int piece = 0; piece < 5; piece++) {
            due(25, "first", x.painter(piece, false), first[piece]);
            due(25, "all", x.painter(piece, true), NONE);
        }
        due(25, "painter(-1, true)", x.painter(-1, true), NONE);
        // Hard is place: 0 for hand, 1 for blue, 2 for nose.
        String laws = "spot hand; spot blue; spot nose; hard place;"
            + "thief a plain skill 0 coins 0 at 0; thief b plain skill 1 coins 0 at 0; thief c boy skill 2 coins 0 at 0;";
        PanelCopies y = told(laws + "copy of 0 slip hand with a; copy of 1 slip nose with a;");
        due(24, "3 * 1", y.painters(), 3);
        due(25, "c in all", y.painter(2, true), 2);
        due(25, "a by the first", y.painter(1, false), 0);
        due(25, "not the same in all", y.painter(1, true), NONE);
        PanelCopies first0 = told(laws + "copy of 0 slip nose hand with a;");
        due(24, "the first spot, by numbers", first0.painters(), 3);
        PanelCopies none = told(laws + "copy of 0 slip nose with a; copy of 0 slip nose with a; copy of 0 slip nose with a;");
        due(24, "two at most", none.painters(), 0);
        due(25, "no way", none.painter(1, false), NONE);
        due(25, "no way", none.painter(1, true), NONE);
        PanelCopies spread = told(laws + "copy of 0 slip hand with a; copy of 0 slip nose with a; copy of 0 slip blue with a;"
            + "copy of 0 slip nose with a; copy of 0 slip blue with a;");
        // c has 2 and 4, b has 3 and 5, so a has 1.
        due(24, "one way", spread.painters(), 1);
        for (int piece = 1; piece < 6; piece++) {
            due(25, "in all", spread.painter(piece, true), new int[] {0, 0, 2, 1, 2, 1}[piece]);
        }
        // A restorer's mending makes what was copied easier, as it is now.
        PanelCopies now = told("spot a; spot b; hard slips; thief r restorer skill 0 coins 0 at 0;"
            + "thief s bold skill 0 coins 0 at 0; copy of 0 slip a with s; copy of 1 slip b with r;");
        due(24, "nobody", now.painters(), 0);
        now.steal(1, 1);
        now.steal(0, 2);
        due(24, "mended", now.painters(), 4);
        PanelCopies own = told("spot a; spot b; hard place; thief r restorer skill 0 coins 0 at 0;"
            + "thief s bold skill 1 coins 0 at 0; copy of 0 slip b with s; copy of 0 slip a with r;");
        own.steal(1, 1);
        own.steal(0, 2);
        due(25, "its own slips as told", own.painter(1, true), 1);
        due(24, "without thieves", new PanelCopies().painters(), 1);
        StringBuilder most = new StringBuilder("spot a;");
        for (String name : new String[] {"p", "q", "r", "s", "t"}) {
            most.append("thief ").append(name).append(" plain skill 9 coins 0 at 0;");
        }
        for (int i = 0; i < 7; i++) {
            most.append("copy of 0 slip a with p;");
        }
        PanelCopies full = told(most.toString());
        due(24, "the most", full.painters(), 25200);
        due(25, "the first way", full.painter(7, false), 3);
    }

    private static void knowing() {
        PanelCopies x = told(ALL);
        due(26, "knows(0, 3)", x.knows(0, 3), 1);
        due(26, "knows(0, 10)", x.knows(0, 10), 10);
        due(26, "knows(1, 10)", x.knows(1, 10), 8);
        due(26, "knows(1, 7)", x.knows(1, 7), 7);
        due(26, "knows(0, 0)", x.knows(0, 0), 0);
        due(26, "no expert", x.knows(2, 1), NONE);
        due(26, "no expert", x.knows(-1, 1), NONE);
        due(26, "no pieces", x.knows(0, 16), NONE);
        due(26, "no pieces", x.knows(0, -1), NONE);
        due(27, "depth(10, 1)", x.depth(10, 1), 8);
        due(27, "depth(10, 2)", x.depth(10, 2), 0);
        due(27, "depth(7, 1)", x.depth(7, 1), 5);
        due(27, "depth(7, 2)", x.depth(7, 2), 0);
        due(27, "depth(15, 9)", x.depth(15, 9), 15);
        due(27, "depth 0", x.depth(15, 0), NONE);
        due(27, "depth 10", x.depth(15, 10), NONE);
        due(27, "no pieces", x.depth(31, 1), NONE);
        due(28, "common(15)", x.common(15), 15);
        due(28, "common(7)", x.common(7), 0);
        due(28, "no pieces", x.common(16), NONE);
        due(28, "no pieces", x.common(-1), NONE);
        x.sell(0, 1);
        due(26, "sold ones are there", x.knows(0, 8), 0);
        PanelCopies none = told(SPOTS + THIEVES + COPIES);
        due(27, "without experts", none.depth(9, 5), 9);
        due(28, "without experts", none.common(9), 9);
        // A chain of eight: each expert can't tell some neighbours, so one more is lost at each depth.
        PanelCopies chain = told("spot a; spot b; spot c; spot d; spot e; spot f; spot g;"
            + "thief t boy skill 0 coins 0 at 0;"
            + "copy of 0 slip a with t; copy of 1 slip b with t; copy of 2 slip c with t; copy of 3 slip d with t;"
            + "copy of 4 slip e with t; copy of 5 slip f with t; copy of 6 slip g with t;"
            + "expert x sees a c e g; expert y sees b d f;");
        int want = 127;
        for (int depth = 1; depth <= 7; depth++) {
            want >>= 1;
            due(27, "a chain", chain.depth(127, depth), want);
        }
        due(28, "a chain", chain.common(127), 0);
        due(28, "all", chain.common(255), 255);
    }

    private static String rests(int one, int other, boolean own, int what) {
        try {
            return Integer.toString(new PanelCopies().rests(one, other, own, what));
        } catch (java.util.NoSuchElementException e) {
            return "throws";
        }
    }

    private static void rest(int one, int other, boolean own, int what, String want) {
        String got = rests(one, other, own, what);
        due(29, "rests(" + one + ", " + other + ", " + own + ", " + what + ") is " + got + ", not " + want,
            got.equals(want), true);
    }

    private static void auctions() {
        rest(3, 2, false, NONE, "52");
        rest(3, 2, false, 0, "3");
        rest(3, 2, true, NONE, "3");
        rest(3, 2, true, 0, "11");
        rest(3, 2, true, 1, "22");
        rest(3, 2, true, 2, "33");
        rest(3, 2, true, 3, "throws");
        rest(3, 2, false, 51, "93");
        rest(3, 2, false, 52, "throws");
        rest(3, 2, true, -2, "throws");
        rest(10, 2, true, NONE, "throws");
        rest(-1, 2, true, NONE, "throws");
        rest(3, 10, true, NONE, "throws");
        rest(3, -1, true, NONE, "throws");
        rest(3, 2, true, Integer.MAX_VALUE, "throws");
        // Both want it for nothing, own bids: the first would win by an equal bid, so only 0 against 0 rests.
        rest(0, 0, true, NONE, "1");
        rest(0, 0, true, 0, "0");
    }

    private static void watches() {
        PanelCopies x = told(ALL);
        int[] want = {1 << 20 | 36, 36, 4, 2, 0, 0};
        for (int but = 0; but < 6; but++) {
            due(30, "watch(" + but + ")", x.watch(but), want[but]);
        }
        due(30, "watch(6)", x.watch(6), NONE);
        due(30, "watch(-1)", x.watch(-1), NONE);
        due(30, "without thieves", new PanelCopies().watch(0), 0);
        PanelCopies y = told("thief a plain skill 0 coins 0 at 0 3; thief b plain skill 0 coins 0 at 1 3;"
            + "thief c plain skill 0 coins 0 at 2 22; thief d plain skill 0 coins 0 at 22 23;");
        due(30, "two for four", y.watch(0), 1 << 3 | 1 << 22);
        due(30, "two for three: 3 and 2", y.watch(1), 1 << 3 | 1 << 2);
        due(30, "one for two", y.watch(2), 1 << 3);
        due(30, "one for one", y.watch(3), 1);
        y.guard(3);
        due(30, "guards are no matter", y.watch(2), 1 << 3);
    }

    private static void chances() {
        PanelCopies x = new PanelCopies();
        due(31, "slips(0, 3, 0)", x.slips(0, 3, 0), 1000000);
        due(31, "slips(0, 3, 1)", x.slips(0, 3, 1), 0);
        due(31, "slips(2, 3, 0)", x.slips(2, 3, 0), 333333);
        due(31, "slips(3, 3, 1)", x.slips(3, 3, 1), 777777);
        due(31, "slips(1, 1, 1)", x.slips(1, 1, 1), 1000000);
        due(31, "slips(30, 1, 0)", x.slips(30, 1, 0), 1000000);
        due(31, "slips(30, 1, 1)", x.slips(30, 1, 1), 0);
        due(31, "slips(2, 8, 2)", x.slips(2, 8, 2), 875000);
        due(31, "slips(8, 8, 8)", x.slips(8, 8, 8), 2403);
        due(31, "slips(31, 3, 0)", x.slips(31, 3, 0), NONE);
        due(31, "slips(-1, 3, 0)", x.slips(-1, 3, 0), NONE);
        due(31, "slips(2, 0, 0)", x.slips(2, 0, 0), NONE);
        due(31, "slips(2, 9, 0)", x.slips(2, 9, 0), NONE);
        due(31, "slips(2, 3, 4)", x.slips(2, 3, 4), NONE);
        due(31, "slips(2, 3, -1)", x.slips(2, 3, -1), NONE);
    }

    private static void years() {
        PanelCopies x = told(ALL);
        due(32, "seed", x.years(-1, 1, 0), NONE);
        due(32, "seed", x.years(10000, 1, 0), NONE);
        due(32, "nights", x.years(0, 0, 0), NONE);
        due(32, "nights", x.years(0, 61, 0), NONE);
        due(32, "what", x.years(0, 1, 3), NONE);
        due(32, "what", x.years(0, 1, -1), NONE);
        due(32, "the most", x.years(9999, 60, 1) >= 17, true);
        due(32, "the least", x.years(0, 1, 1) >= 17, true);
        // Seed 1: 1103527590 tells 16838: who is 16838 % 4 = 2, the boy; 377401575 tells 5758: 2, a theft he can't.
        due(32, "a boy can't", x.years(1, 1, 0), 0);
        // Then 662824084 tells 10113: bob; 1147902781 tells 17515: 3, a theft; PIECE 2, off in 2, hangs.
        due(32, "bob can", x.years(1, 2, 0), 1);
        due(32, "coins", x.years(1, 2, 1), 17);
        due(32, "off in two", x.years(1, 2, 2), 2);
        due(32, "all is as ahead", x.count(5) * 10 + x.count(4), 0);
        due(32, "nothing to undo", x.count(10), 0);
        for (int hour = 0; hour < 24; hour++) {
            x.guard(hour);
        }
        due(32, "guards are there the first night alone", x.years(1, 2, 0), 1);
        PanelCopies none = told(SPOTS);
        due(32, "without thieves", none.years(5, 60, 0), 0);
        due(32, "without thieves", none.years(5, 60, 2), 0);
        due(32, "without thieves", none.count(4), 0);
    }

    private static void marks() {
        PanelCopies x = told(ALL);
        due(33, "none such", x.mark(-1, false), false);
        due(33, "none such", x.mark(4, false), false);
        due(33, "none such", x.mark(4, true), false);
        due(33, "nothing on it", x.mark(3, true), false);
        x.guard(3);
        x.look(0, true);
        due(33, "laid", x.mark(3, false), true);
        x.steal(0, 1);
        x.sell(0, 0);
        x.paint(2, 1, 0);
        x.look(1, true);
        x.night();
        due(34, "to undo", x.count(10), 5);
        due(33, "another one", x.mark(0, false), true);
        due(34, "to undo", x.count(10), 5);
        due(33, "gone back to", x.mark(3, true), true);
        int[] counts = {3, 4, 4, 2, 0, 0, 17, 8, 0, 1, 0, 0};
        for (int what = 0; what < counts.length; what++) {
            due(33, "count(" + what + ")", x.count(what), counts[what]);
        }
        due(33, "who has which", x.piece(1, 1), 0);
        due(33, "not hung", x.piece(1, 3), 0);
        due(33, "fits", x.fits(), 14);
        due(33, "nothing can be undone", x.undo(), false);
        due(33, "forth again", x.mark(0, true), true);
        due(33, "the night", x.count(4), 1);
        due(33, "pieces", x.count(1), 5);
        due(33, "looks", x.count(9), 2);
        due(33, "sold", x.piece(0, 1), 6);
        due(33, "and back", x.mark(3, true) && x.count(1) == 4, true);
        due(33, "laid anew", x.mark(0, false) && x.mark(0, true) && x.count(1) == 4, true);
    }
}
