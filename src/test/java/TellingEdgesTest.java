/** What is told, sentence by sentence: the TAPE, TOKENS, GALLERIES, NIGHTS, the E of laws, and FAULTS. */
public final class TellingEdgesTest extends Asked {
    private static final String[] RESERVED = {"spot", "thief", "skill", "coins", "at", "copy", "of", "slip", "with",
        "expert", "sees", "worth", "hard", "steal", "paint", "sell", "guard", "night", "plain", "bold", "restorer",
        "boy", "not", "and", "or"};
    private static final String[] FACTS = {"slips", "age", "hung", "place"};
    private static final String BASE = "spot aa; spot bb; thief cc plain skill 1 coins 1 at 3; expert ee sees aa;";
    private static final String MORE = BASE + "spot dd; spot ff; spot gg;";
    private static final String EIGHT_SPOTS = named(8, "spot s%;");
    private static final String FIVE_THIEVES = named(5, "thief t% boy skill 0 coins 0 at 0;");
    private static final String TWO_PAST = "night; guard 3;";

    public static void main(String[] args) {
        signsOfTheTape();
        lengthOfTheTape();
        orderOfTheBytes();
        readingTakes();
        tokens();
        words();
        numbers();
        signs();
        lines();
        spots();
        thieves();
        hours();
        pieces();
        slipsOfCopies();
        experts();
        lawsOnce();
        names();
        namesAlike();
        nightsLines();
        nightsMost();
        nightsAreKept();
        testsAndSums();
        parts();
        within();
        facts();
        truthAndWrapping();
        withoutLaws();
        theEnd();
        theFirstFromTheLeft();
        theLeast();
        standingElsewhere();
        allStays();
        anew();
        nothingIsLeft();
        atFirst();
        endTest();
    }

    // ---- a text in which ^ stands before the token at fault ----

    private static int placeIn(String text) {
        return text.indexOf('^');
    }

    private static void wrongGallery(int kind, String text) {
        String plain = text.replace("^", "");
        due(3, "gallery() of " + text, galleryOf(new PanelCopies(), plain), kind + 16 * placeIn(text));
    }

    private static PanelCopies withNights() {
        PanelCopies x = told(BASE);
        due(4, "nights() of " + TWO_PAST, nightsOf(x, TWO_PAST), 0);
        return x;
    }

    private static void wrongNights(int kind, String text) {
        PanelCopies x = withNights();
        due(4, "nights() of " + text, nightsOf(x, text.replace("^", "")), kind + 16 * placeIn(text));
        due(4, "lines behind " + text, x.count(8), 2);
    }

    private static void rightNights(String text, int lines) {
        PanelCopies x = withNights();
        due(4, "nights() of " + text, nightsOf(x, text), 0);
        due(4, "lines of " + text, x.count(8), lines);
    }

    private static PanelCopies filled(int signs) {
        PanelCopies x = new PanelCopies();
        due(2, "blanks fed", feed(x, " ".repeat(signs)), signs);
        return x;
    }

    // ---- the TAPE ----

    private static void signsOfTheTape() {
        says("The TAPE has at most 1,000 signs, 10 and 32 .. 126");
        for (int value = 0; value < 256; value++) {
            int taken = value == 10 || value >= 32 && value <= 126 ? 1 : 0;
            due(2, "byte " + value + " highest", new PanelCopies().feed((long) value << 56, 0, 0), taken);
            due(2, "byte " + value + " in the middle", new PanelCopies().feed(0, (long) value << 24, 0), taken);
            due(2, "byte " + value + " lowest", new PanelCopies().feed(0, 0, value), taken);
        }
        says("others than 10 and 32 .. 126, and what is beyond 1,000, are left out: how many there are");
        PanelCopies x = new PanelCopies();
        due(2, "nothing but others", x.feed(-1, Long.MIN_VALUE, 0x7F1F0B0908000D80L), 0);
        due(2, "others between", x.feed(0x73007080_6F7FFF74L, 0x20096109_3B1F0000L, Long.MAX_VALUE), 7);
        due(3, "what is left is spot a;", x.gallery(), 0);
        due(3, "one SPOT", x.count(0), 1);
    }

    private static void lengthOfTheTape() {
        says("others than 10 and 32 .. 126, and what is beyond 1,000, are left out: how many there are");
        due(2, "one less", feed(filled(999), "!"), 1000);
        due(2, "none", filled(1000).count(11), 1000);
        due(2, "one beyond", feed(filled(1000), "!"), 1000);
        due(2, "others at a full one", filled(1000).feed(0, -1, 0), 1000);
        due(3, "the last one is the 1000th", galleryOf(filled(999), "!?"), 1 + 16 * 999);
        due(3, "the 1001st is left out", galleryOf(filled(1000), "!"), 0);
        // Of 24 signs behind 990 the first ten come: spot a;spo
        PanelCopies x = filled(990);
        due(2, "ten of 24", feed(x, "spot a;spot b;spot c;   "), 1000);
        due(3, "spo can't stand there", x.gallery(), 1 + 16 * 997);
        due(2, "behind it there is room again", feed(x, "spot a;"), 7);
        due(3, "and it is read", x.gallery(), 0);
        due(3, "a NUMBER up to the last sign", galleryOf(filled(993), "worth 1"), 1 + 16 * 1000);
        due(3, "a WORD up to the last sign", galleryOf(filled(994), "spot a"), 1 + 16 * 1000);
        due(3, "a line up to the last sign", galleryOf(filled(993), "spot a;"), 0);
        says("Up to 24 signs come behind the TAPE");
        due(2, "24", x.feed(0x2121212121212121L, 0x2121212121212121L, 0x2121212121212121L), 24);
        due(2, "24 more", x.feed(0x2121212121212121L, 0x2121212121212121L, 0x2121212121212121L), 48);
        due(2, "none", x.feed(0, 0, 0), 48);
        due(2, "one", x.feed(0, 0, 10), 49);
    }

    private static void orderOfTheBytes() {
        says("the bytes of a, b, c, of each the highest first");
        PanelCopies x = new PanelCopies();
        x.feed(bytes("spot abc", 0), bytes("d; thief", 0), bytes(" e boy s", 0));
        x.feed(bytes("kill 12 ", 0), bytes("coins 34", 0), bytes("5 at 6;", 0));
        due(3, "gallery()", x.gallery(), 0);
        due(7, "skill 12", x.thief(0, 1), 12);
        due(7, "coins 345", x.thief(0, 2), 345);
        due(7, "at 6", x.thief(0, 3), 64);
        due(4, "abcd is told", nightsOf(x, "paint e 0 abcd;"), 0);
        PanelCopies y = new PanelCopies();
        y.feed(bytes("spot a;", 0), bytes("spot bb", 0), bytes(";!", 0));
        due(3, "short ones come together", y.gallery(), 1 + 16 * 15);
    }

    private static void readingTakes() {
        says("what reads it takes it: it is empty then");
        PanelCopies x = new PanelCopies();
        String[] texts = {BASE, "spot ! ;", "spot", "  ", ""};
        for (String text : texts) {
            galleryOf(x, text);
            due(3, "signs behind gallery() of " + text, x.count(11), 0);
        }
        due(3, BASE, galleryOf(x, BASE), 0);
        for (String text : new String[] {TWO_PAST, "guard 24;", "guard", "  ", ""}) {
            nightsOf(x, text);
            due(4, "signs behind nights() of " + text, x.count(11), 0);
        }
        for (String text : new String[] {"worth 1111111;", "worth aaaaaaa;"}) {
            galleryOf(x, text);
            due(3, "what was taken is not behind a NUMBER", galleryOf(x, "worth 1"), 1 + 16 * 7);
            galleryOf(x, text);
            due(3, "what was taken is not behind a WORD", galleryOf(x, "worth age"), 1 + 16 * 9);
        }
        due(2, "the next signs are the first ones", feed(x, "spot"), 4);
        due(4, "nights() of a GALLERY", x.nights(), 1);
        due(3, "it does not stay for gallery()", x.gallery(), 0);
        due(3, "an empty GALLERY was read", x.count(0), 0);
    }

    // ---- TOKENS ----

    private static void tokens() {
        says("TOKENS, each as long as can be, blanks (10, 32) between where one likes");
        wrongGallery(1, "^spota;");
        wrongGallery(1, "spot a;^spotspot b;");
        wrongGallery(1, "^sp ot a;");
        wrongGallery(1, "spot a ^b;");
        wrongGallery(1, "worth 12 ^34;");
        wrongGallery(1, "worth 1\n^2;");
        wrongGallery(1, "worth 1 ^not 2;");
        told("spot a;spot b;worth(1)+(slips)*3;");
        told("\n\n  spot\n\na \n ; \n");
        told("worth 1\nand\n1;");
        told("worth slips*age-hung<3or 1;");
        PanelCopies x = told("thief a boy skill 1coins 2at 3 4;");
        due(7, "hours apart", x.thief(0, 3), 24);
        due(7, "hours together", told("thief a boy skill 1coins 2at 13;").thief(0, 3), 1 << 13);
    }

    private static void words() {
        says("WORDS (letters a .. z, 8 at most)");
        told("spot a;");
        told("spot z;");
        told("spot abcdefgh;");
        told("spot zzzzzzzz;");
        wrongGallery(1, "spot ^abcdefghi;");
        wrongGallery(1, "spot ^zzzzzzzzz;");
        wrongGallery(1, "spot ^" + "a".repeat(200) + ";");
        wrongGallery(1, "spot ^A;");
        wrongGallery(1, "spot ^Z;");
        wrongGallery(1, "spot a^B;");
        wrongGallery(1, "spot ^@;");
        wrongGallery(1, "spot ^[;");
        wrongGallery(1, "spot ^`;");
        wrongGallery(1, "spot ^{;");
        wrongGallery(1, "spot a^_b;");
        wrongGallery(1, "^Spot a;");
        says("(a longer WORD or NUMBER, too, at its first sign) is none");
        wrongGallery(1, "^spotaaaaa;");
        wrongGallery(1, BASE + "copy of 0 slip aa with ^cccccccccc;");
        wrongGallery(1, BASE + "copy of 0 slip aa ^withwithw cc;");
        // Of 17 letters and more the low letters alone could look like a told NAME or a reserved word.
        wrongGallery(1, BASE + "copy of 0 slip ^" + "a".repeat(25) + "aa;");
        wrongGallery(1, "spot ^aaaaaaaaaaaaaaaaaaaaaaaaaaaaaspot;");
        wrongNights(1, "steal ^ccccccccc 0;");
    }

    private static void numbers() {
        says("NUMBERS (1 to 4 digits; a letter may stand right behind)");
        due(5, "0", told("worth 0;").piece(0, 4), 0);
        due(5, "0000", told("worth 0000;").piece(0, 4), 0);
        due(5, "0012", told("worth 0012;").piece(0, 4), 12);
        due(5, "9999", told("worth 9999 - 9000;").piece(0, 4), 999);
        wrongGallery(1, "worth ^10000;");
        wrongGallery(1, "worth ^00001;");
        wrongGallery(1, "worth ^" + "1".repeat(100) + ";");
        wrongGallery(1, "worth 1^/2;");
        wrongGallery(1, "worth 1^:2;");
        wrongGallery(1, "worth 1^.2;");
        due(5, "1and 1", told("worth 1and 1or 0;").piece(0, 4), 1);
        due(5, "a digit behind a letter", told("worth12+age+1;").piece(0, 4), 13);
        wrongGallery(1, "worth 1^x;");
        wrongGallery(1, "spot a^1;");
        wrongGallery(1, "worth ^12345and 1;");
        // A NUMBER is no WORD, though a WORD's letters may be kept as such a number.
        wrongGallery(1, "thief a ^2553 skill 0 coins 0 at 0;");
        wrongGallery(1, "thief a boy skill 0 coins 0 ^52 0;");
        wrongGallery(1, BASE + "copy ^486 0 slip aa with cc;");
        wrongGallery(1, "worth 1 ^1476 1;");
        wrongGallery(1, "worth 1 ^498 1;");
        due(5, "nor a fact", told("worth 1253 - 1000;").piece(0, 4), 253);
        says("(a longer WORD or NUMBER, too, at its first sign) is none");
        wrongGallery(1, "thief a boy skill ^00001 coins 0 at 0;");
        wrongGallery(1, "thief a boy skill 0 coins ^10000 at 0;");
        wrongGallery(1, "thief a boy skill 0 coins 0 at ^00000;");
        wrongGallery(1, "thief a boy skill 0 coins 0 at 0 ^00001;");
        // Of 20 digits and more the number could wrap to one that may stand there.
        wrongGallery(1, "thief a boy skill ^18446744073709551617 coins 0 at 0;");
        wrongNights(1, "guard ^00001;");
        PanelCopies x = told("thief a boy skill 0099 coins 0999 at 0023 00;");
        due(7, "skill 0099", x.thief(0, 1), 99);
        due(7, "coins 0999", x.thief(0, 2), 999);
        due(7, "hours 0023 and 00", x.thief(0, 3), 1 << 23 | 1);
    }

    private static void signs() {
        says("the signs ( ) < = + - * ;  All else");
        for (char sign = 33; sign < 127; sign++) {
            boolean letter = sign >= 'a' && sign <= 'z';
            boolean digit = sign >= '0' && sign <= '9';
            if ("<=+-*".indexOf(sign) >= 0) {
                told("worth 1 " + sign + " 2;");
            } else if (sign == ';') {
                wrongGallery(1, "worth 1 ; ^2;");
            } else if (!letter && !digit && sign != '^') {
                wrongGallery(1, "worth 1 ^" + sign + " 2;");
                wrongGallery(1, "^" + (sign == '(' ? ")" : sign) + " worth 1;");
            }
        }
        due(3, "^ is none", galleryOf(new PanelCopies(), "worth 1 ^ 2;"), 1 + 16 * 8);
        told("worth (1);");
        wrongGallery(1, "worth (1^;");
        wrongGallery(1, "worth (1)^);");
        wrongGallery(1, "worth 1 < ^= 2;");
    }

    // ---- GALLERY ----

    private static void lines() {
        says("GALLERY: any number of");
        PanelCopies none = told("");
        due(3, "no line: nothing but the first PIECE", none.count(0) + none.count(1) * 10 + none.count(2), 10);
        told("  \n");
        PanelCopies mixed = told("hard 3; spot aa; thief tt boy skill 0 coins 0 at 0; copy of 0 slip aa with tt;"
            + "expert ee sees aa; spot bb; copy of 1 slip bb with tt; worth 7; thief uu bold skill 1 coins 2 at 3;"
            + "expert ff sees bb; copy of 0 slip bb aa with uu;");
        due(3, "lines in any order", mixed.count(0) * 1000 + mixed.count(1) * 100 + mixed.count(2) * 10 + mixed.count(3),
            2422);
        wrongGallery(1, "^;");
        wrongGallery(1, "spot a;^;");
        wrongGallery(1, "^a;");
        wrongGallery(1, "^1;");
        for (String word : new String[] {"skill", "coins", "at", "of", "slip", "with", "sees", "steal", "paint", "sell",
            "guard", "night", "plain", "not", "and"}) {
            wrongGallery(1, "spot a; ^" + word + " b;");
        }
    }

    private static void spots() {
        says("spot: 8 at most, numbered as told");
        PanelCopies x = told(EIGHT_SPOTS + FIVE_THIEVES + "copy of 0 slip sa sh with ta; copy of 0 slip sd with ta;");
        due(34, "eight", x.count(0), 8);
        due(5, "the first and the eighth", x.piece(1, 0), 1 | 128);
        due(5, "the fourth", x.piece(2, 0), 8);
        says("5 one too many: the words spot of a ninth");
        wrongGallery(5, EIGHT_SPOTS + "^spot si;");
        wrongGallery(5, EIGHT_SPOTS + "^spot sa;");
        wrongGallery(5, EIGHT_SPOTS + "^spot");
        wrongGallery(5, EIGHT_SPOTS + "worth 1; ^spot ! ;");
        wrongGallery(3, named(7, "spot s%;") + "spot ^sa;");
    }

    private static void thieves() {
        says("thief: 5 at most, numbered as told");
        PanelCopies x = told(named(5, "thief t% boy skill 0 coins 0 at 0;").replace("te boy", "te bold"));
        due(34, "five", x.count(2), 5);
        due(7, "the fifth is bold", x.thief(4, 0), 1);
        due(7, "the first is a boy", x.thief(0, 0), 3);
        says("the words spot of a ninth, thief of a sixth");
        wrongGallery(5, FIVE_THIEVES + "^thief tf boy skill 0 coins 0 at 0;");
        wrongGallery(5, FIVE_THIEVES + "^thief");
        wrongGallery(5, FIVE_THIEVES + "^thief ta");
        says("KIND: plain, bold, restorer, boy");
        String[] kinds = {"plain", "bold", "restorer", "boy"};
        for (int kind = 0; kind < 4; kind++) {
            due(7, kinds[kind], told("thief a " + kinds[kind] + " skill 0 coins 0 at 0;").thief(0, 0), kind);
        }
        for (String word : new String[] {"cat", "skill", "1", "(", ";", "boys", "restore", "plainly"}) {
            wrongGallery(1, "thief a ^" + word + " skill 0 coins 0 at 0;");
        }
        says("skill 0 to 99, coins 0 to 999");
        for (int skill : new int[] {0, 1, 98, 99}) {
            due(7, "skill", told("thief a boy skill " + skill + " coins 0 at 0;").thief(0, 1), skill);
        }
        for (int coins : new int[] {0, 1, 998, 999}) {
            PanelCopies rich = told("thief a boy skill 0 coins " + coins + " at 0;");
            due(7, "coins", rich.thief(0, 2), coins);
            due(34, "coins of all", rich.count(6), coins);
        }
        says("4 a NUMBER that is not as told");
        for (String skill : new String[] {"100", "101", "999", "9999", "0100"}) {
            wrongGallery(4, "thief a boy skill ^" + skill + " coins 0 at 0;");
        }
        for (String coins : new String[] {"1000", "1001", "9999"}) {
            wrongGallery(4, "thief a boy skill 0 coins ^" + coins + " at 0;");
        }
        due(34, "the most coins of all", told(named(5, "thief t% boy skill 0 coins 999 at 0;")).count(6), 4995);
    }

    private static void hours() {
        says("hours 0 to 23, 1 to 4, each once");
        due(7, "0", told("thief a boy skill 0 coins 0 at 0;").thief(0, 3), 1);
        due(7, "23", told("thief a boy skill 0 coins 0 at 23;").thief(0, 3), 1 << 23);
        due(7, "four", told("thief a boy skill 0 coins 0 at 23 0 22 1;").thief(0, 3), 1 << 23 | 1 << 22 | 3);
        told("thief a boy skill 0 coins 0 at 1 2 3; thief b boy skill 0 coins 0 at 1 2 3;");
        wrongGallery(1, "thief a boy skill 0 coins 0 at ^;");
        says("4 a NUMBER that is not as told");
        wrongGallery(4, "thief a boy skill 0 coins 0 at ^24;");
        wrongGallery(4, "thief a boy skill 0 coins 0 at 1 ^24;");
        wrongGallery(4, "thief a boy skill 0 coins 0 at 1 2 3 ^9999;");
        wrongGallery(4, "thief a boy skill 0 coins 0 at ^32;");
        says("an hour, a SPOT told a second time in its line");
        wrongGallery(3, "thief a boy skill 0 coins 0 at 0 ^0;");
        wrongGallery(3, "thief a boy skill 0 coins 0 at 23 1 ^23;");
        wrongGallery(3, "thief a boy skill 0 coins 0 at 1 2 3 ^1;");
        wrongGallery(3, "thief a boy skill 0 coins 0 at 1 ^01;");
        says("a fifth hour");
        wrongGallery(5, "thief a boy skill 0 coins 0 at 1 2 3 4 ^5;");
        wrongGallery(5, "thief a boy skill 0 coins 0 at 1 2 3 4 ^0 ! ;");
    }

    private static void pieces() {
        says("PIECES: the first one, 0, has no slip and hangs; each copy is the next one, 7 at most");
        String seven = times(7, "copy of % slip aa with cc;");
        PanelCopies x = told(BASE + seven);
        due(34, "eight PIECES", x.count(1), 8);
        due(5, "the first has no slip", x.piece(0, 0), 0);
        due(5, "the first hangs", x.piece(0, 1), 5);
        due(5, "the last one is of 6", x.piece(7, 2), 6);
        due(5, "it is with cc", x.piece(7, 1), 0);
        due(7, "all with cc", x.thief(0, 4), 254);
        says("copy of an eighth");
        wrongGallery(5, BASE + seven + "^copy of 0 slip aa with cc;");
        wrongGallery(5, BASE + seven + "^copy");
        wrongGallery(5, BASE + seven + "^copy of 9");
        says("of a PIECE told (below its own number)");
        wrongGallery(4, BASE + "copy of ^1 slip aa with cc;");
        wrongGallery(4, BASE + "copy of ^9999 slip aa with cc;");
        wrongGallery(4, BASE + "copy of 0 slip aa with cc; copy of ^2 slip aa with cc;");
        wrongGallery(4, BASE + times(6, "copy of % slip aa with cc;") + "copy of ^7 slip aa with cc;");
        due(5, "of 0000", told(BASE + "copy of 0000 slip aa with cc;").piece(1, 2), 0);
        wrongGallery(1, BASE + "copy of ^aa slip aa with cc;");
        wrongGallery(1, BASE + "copy ^0 slip aa with cc;");
    }

    private static void slipsOfCopies() {
        says("slip of SPOTS told, 1 to 3, each once, with a THIEF told");
        due(5, "one", told(MORE + "copy of 0 slip gg with cc;").piece(1, 0), 16);
        due(5, "three", told(MORE + "copy of 0 slip gg aa bb with cc;").piece(1, 0), 19);
        wrongGallery(1, MORE + "copy of 0 slip ^with cc;");
        wrongGallery(1, MORE + "copy of 0 slip ^;");
        wrongGallery(1, MORE + "copy of 0 slip ^1 with cc;");
        wrongGallery(1, MORE + "copy of 0 slip aa ^1 with cc;");
        wrongGallery(1, MORE + "copy of 0 slip aa with ^;");
        wrongGallery(1, MORE + "copy of 0 slip aa with cc ^cc;");
        told(MORE + "copy of 0 slip aa with cc; copy of 0 slip aa with cc;");
        says("a fourth SPOT behind slip");
        wrongGallery(5, MORE + "copy of 0 slip aa bb dd ^ff with cc;");
        says("an hour, a SPOT told a second time in its line");
        wrongGallery(3, MORE + "copy of 0 slip aa ^aa with cc;");
        wrongGallery(3, MORE + "copy of 0 slip aa bb ^aa with cc;");
        says("2 a NAME of no SPOT (behind slip, sees, of paint the second), of no THIEF (behind with, steal, paint, sell) told");
        wrongGallery(2, MORE + "copy of 0 slip ^zz with cc;");
        wrongGallery(2, MORE + "copy of 0 slip aa ^cc with cc;");
        wrongGallery(2, MORE + "copy of 0 slip aa ^ee with cc;");
        wrongGallery(2, MORE + "copy of 0 slip aa with ^zz;");
        wrongGallery(2, MORE + "copy of 0 slip aa with ^aa;");
        wrongGallery(2, MORE + "copy of 0 slip aa with ^ee;");
        wrongGallery(2, MORE + "copy of 0 slip ^hh with cc; spot hh;");
        wrongGallery(2, "spot aa; copy of 0 slip aa with ^cc; thief cc boy skill 0 coins 0 at 0;");
        wrongGallery(2, "copy of 0 slip ^aa");
    }

    private static void experts() {
        says("expert: 4 at most, numbered as told; SPOTS told, 1 to 4, each once");
        PanelCopies x = told(MORE + "expert ef sees aa bb dd ff; expert eg sees gg; expert eh sees bb;"
            + "copy of 0 slip bb with cc;");
        due(34, "four", x.count(3), 4);
        due(26, "the first sees aa alone", x.knows(0, 1), 0);
        due(26, "the second sees bb too", x.knows(1, 1), 1);
        due(26, "the third sees gg alone", x.knows(2, 1), 0);
        due(26, "the fourth sees bb", x.knows(3, 1), 1);
        says("expert of a fifth");
        String four = MORE + "expert ef sees aa; expert eg sees gg; expert eh sees bb;";
        wrongGallery(5, four + "^expert ei sees aa;");
        wrongGallery(5, four + "^expert");
        says("a fifth one behind sees");
        wrongGallery(5, MORE + "expert ef sees aa bb dd ff ^gg;");
        says("an hour, a SPOT told a second time in its line");
        wrongGallery(3, MORE + "expert ef sees aa ^aa;");
        wrongGallery(3, MORE + "expert ef sees aa bb dd ^aa;");
        says("2 a NAME of no SPOT (behind slip, sees");
        wrongGallery(2, MORE + "expert ef sees ^zz;");
        wrongGallery(2, MORE + "expert ef sees ^ef;");
        wrongGallery(2, MORE + "expert ef sees aa ^cc;");
        wrongGallery(2, "expert ef sees ^aa; spot aa;");
        says("1 it is none, or can't stand there");
        wrongGallery(1, MORE + "expert ef sees ^;");
        wrongGallery(1, MORE + "expert ef ^aa;");
        wrongGallery(1, MORE + "expert ef sees aa ^1;");
    }

    private static void lawsOnce() {
        says("worth, hard: once each");
        told("worth 1; hard 1;");
        told("hard 1; worth 1;");
        says("worth, hard a second time");
        wrongGallery(3, "worth 1; ^worth 1;");
        wrongGallery(3, "hard 1; ^hard 1;");
        wrongGallery(3, "hard 1; worth 2; spot a; ^hard ! ;");
        wrongGallery(3, "worth 1; ^worth");
        PanelCopies x = new PanelCopies();
        due(3, "a law, then a FAULT", galleryOf(x, "worth 1; hard 1; spot"), 1 + 16 * 21);
        due(3, "the same laws in the next text", galleryOf(x, "worth 2; hard 2;"), 0);
        due(3, "and again", galleryOf(x, "worth 3; hard 3;"), 0);
        due(5, "the last one holds", x.piece(0, 4), 3);
    }

    // ---- NAMES ----

    private static void names() {
        says("A NAME is another WORD than spot, thief, skill, coins, at, copy, of, slip, with, expert, sees, worth, hard,"
            + " steal, paint, sell, guard, night, the KINDS, not, and, or");
        for (String word : RESERVED) {
            wrongGallery(1, "spot ^" + word + ";");
            wrongGallery(1, "thief ^" + word + " boy skill 0 coins 0 at 0;");
            wrongGallery(1, BASE + "expert ^" + word + " sees aa;");
            wrongGallery(1, BASE + "copy of 0 slip ^" + word + " with cc;");
            wrongGallery(1, BASE + "copy of 0 slip aa with ^" + word + ";");
            wrongGallery(1, BASE + "expert ef sees ^" + word + ";");
            wrongNights(1, "steal ^" + word + " 0;");
            wrongNights(1, "paint ^" + word + " 0 aa;");
            wrongNights(1, "paint cc 0 ^" + word + ";");
            wrongNights(1, "sell ^" + word + " 0;");
        }
        for (String word : new String[] {"spots", "thieve", "ski", "a", "o", "nott", "an", "boyo", "nights", "kind", "name",
            "slips", "age", "hung", "place", "none", "guards"}) {
            PanelCopies x = told("spot " + word + "; thief t boy skill 9 coins 0 at 0; expert e sees " + word + ";"
                + "copy of 0 slip " + word + " with t;");
            due(4, "paint with " + word, nightsOf(x, "paint t 0 " + word + ";"), 0);
        }
        for (String fact : FACTS) {
            PanelCopies x = told("spot a; thief " + fact + " boy skill 9 coins 0 at 0; copy of 0 slip a with " + fact + ";");
            due(4, "sell " + fact, nightsOf(x, "sell " + fact + " 0;"), 0);
        }
    }

    private static void namesAlike() {
        says("no two (SPOTS, THIEVES, EXPERTS) are alike");
        String[] toldOnes = {"aa", "cc", "ee"};
        for (String name : toldOnes) {
            wrongGallery(3, BASE + "spot ^" + name + ";");
            wrongGallery(3, BASE + "thief ^" + name + " boy skill 0 coins 0 at 0;");
            wrongGallery(3, BASE + "expert ^" + name + " sees aa;");
        }
        told("spot abcdefgh; spot abcdefgi; spot bbcdefgh; spot abcdefg; spot ab; spot ba; spot a; spot aa;");
        PanelCopies x = told(BASE);
        due(3, "the same NAMES in the next GALLERY", galleryOf(x, BASE), 0);
        due(3, "a FAULT", galleryOf(x, "spot xx; spot yy; !"), 1 + 16 * 18);
        due(3, "NAMES of a text with a FAULT are not told", galleryOf(x, "spot xx; spot yy;"), 0);
    }

    // ---- NIGHTS ----

    private static void nightsLines() {
        says("(a THIEF; a PIECE 0 to 7; of paint a SPOT; an hour 0 to 23), 30 lines at most");
        rightNights("steal cc 0; steal cc 7; paint cc 0 aa; paint cc 7 bb; sell cc 0; sell cc 7; guard 0; guard 23; night;", 9);
        rightNights("guard 0023; steal cc 0007;", 2);
        rightNights("", 0);
        rightNights(" \n", 0);
        says("4 a NUMBER that is not as told");
        for (String verb : new String[] {"steal cc", "sell cc", "paint cc"}) {
            wrongNights(4, verb + " ^8;");
            wrongNights(4, verb + " ^9999;");
            wrongNights(1, verb + " ^;");
            wrongNights(1, verb + " ^aa;");
            wrongNights(1, verb + " ^10000;");
        }
        wrongNights(4, "guard ^24;");
        wrongNights(4, "guard ^9999;");
        wrongNights(1, "guard ^;");
        wrongNights(1, "guard ^cc;");
        says("of no THIEF (behind with, steal, paint, sell) told");
        for (String verb : new String[] {"steal", "sell", "paint"}) {
            wrongNights(2, verb + " ^zz 0;");
            wrongNights(2, verb + " ^aa 0;");
            wrongNights(2, verb + " ^ee 0;");
            wrongNights(1, verb + " ^0;");
        }
        says("2 a NAME of no SPOT (behind slip, sees, of paint the second)");
        wrongNights(2, "paint cc 0 ^zz;");
        wrongNights(2, "paint cc 0 ^cc;");
        wrongNights(2, "paint cc 0 ^ee;");
        says("1 it is none, or can't stand there");
        wrongNights(1, "paint cc 0 ^;");
        wrongNights(1, "paint cc 0 aa ^bb;");
        wrongNights(1, "steal cc 0 ^aa;");
        wrongNights(1, "sell cc 0 ^1;");
        wrongNights(1, "guard 1 ^2;");
        wrongNights(1, "night ^1;");
        wrongNights(1, "night;^;");
        for (String word : new String[] {"spot", "thief", "copy", "expert", "worth", "hard", "look", "mark", "undo", "aa"}) {
            wrongNights(1, "night; ^" + word + " aa;");
        }
    }

    private static void nightsMost() {
        says("the first word of a 31st line of NIGHTS");
        String thirty = "night;".repeat(30);
        rightNights("night;".repeat(29), 29);
        rightNights(thirty, 30);
        rightNights("guard 1;".repeat(30), 30);
        for (String verb : new String[] {"steal", "paint", "sell", "guard", "night"}) {
            wrongNights(5, thirty + "^" + verb);
            wrongNights(5, thirty + "^" + verb + " ! ;");
            wrongNights(1, "night;".repeat(29) + verb + " ^!");
        }
        wrongNights(1, thirty + "^spot");
        wrongNights(1, thirty + "^;");
        wrongNights(1, thirty + "^!");
        wrongNights(1, thirty + "^nights");
        wrongNights(4, "night;".repeat(29) + "guard ^24; night; night;");
    }

    private static void nightsAreKept() {
        says("The TAPE is read as NIGHTS, likewise.");
        PanelCopies x = withNights();
        String before = state(x);
        for (String text : new String[] {"night", "night; night; guard 24;", "night;".repeat(31), "!"}) {
            due(4, "a FAULT of " + text, nightsOf(x, text) != 0, true);
        }
        same(4, "all stays", state(x), before);
        says("NIGHTS are the NIGHTS.");
        due(4, "three instead", nightsOf(x, "guard 3; guard 3; night;"), 0);
        due(4, "three lines", x.count(8), 3);
        due(14, "they are judged", x.judged(0), 1);
        due(4, "none instead", nightsOf(x, ""), 0);
        due(4, "no lines", x.count(8), 0);
        due(14, "none can't be", x.judged(0), NONE);
    }

    // ---- E ----

    /** PIECE 2 has two slips of three SPOTS and has hung on three nights. */
    private static int worthOf(String law) {
        PanelCopies x = told("spot a; spot b; spot c; thief t bold skill 9 coins 0 at 0;"
            + "copy of 0 slip a with t; copy of 1 slip b with t; worth " + law + ";");
        x.steal(0, 2);
        x.night();
        x.night();
        x.night();
        return x.piece(2, 4);
    }

    private static void worth(String law, int want) {
        due(5, "worth " + law, worthOf(law), want);
    }

    private static void testsAndSums() {
        says("E: TEST { and TEST or or TEST }, from the left");
        worth("1 or 1 and 0", 0);
        worth("0 and 0 or 1", 1);
        worth("1 or 0 and 0 or 1", 1);
        worth("0 or 0 and 1", 0);
        says("TEST: SUM, or SUM < SUM, or SUM = SUM");
        worth("1 + 1 < 3", 1);
        worth("1 + 2 < 3", 0);
        worth("3 = 1 + 2", 1);
        worth("1 < 2 and 2 < 3", 1);
        wrongGallery(1, "worth 1 < 2 ^< 3;");
        wrongGallery(1, "worth 1 = 2 ^= 3;");
        wrongGallery(1, "worth 1 < 2 ^= 3;");
        wrongGallery(1, "worth (1 = 2 ^< 3);");
        worth("(1 < 2) < 2", 1);
        says("SUM: PRODUCT { + or - PRODUCT }; PRODUCT: PART { * PART }");
        worth("2 + 3 * 4", 14);
        worth("2 * 3 + 4", 10);
        worth("20 - 5 - 3", 12);
        worth("20 - 5 + 3", 18);
        worth("2 * 3 * 4", 24);
        wrongGallery(1, "worth ^+ 1;");
        wrongGallery(1, "worth ^- 1;");
        wrongGallery(1, "worth 1 - ^- 1;");
        wrongGallery(1, "worth 1 + ^* 1;");
        wrongGallery(1, "worth 1 + ^;");
        wrongGallery(1, "worth 1 * ^;");
        wrongGallery(1, "worth 1 and ^;");
        wrongGallery(1, "worth 1 and ^or 1;");
        wrongGallery(1, "worth 1 < ^;");
        wrongGallery(1, "worth ^;");
    }

    private static void parts() {
        says("PART: a NUMBER, a fact, not PART, ( E )");
        worth("not 0 * 5", 5);
        worth("not (0 * 5)", 1);
        worth("not 1 + 7", 7);
        worth("not 1 < 2", 1);
        worth("7 * not 0", 7);
        worth("(7)", 7);
        worth("(1 or 0) + (3 < 4) + (not 0)", 3);
        wrongGallery(1, "worth (^);");
        wrongGallery(1, "worth not ^;");
        wrongGallery(1, "worth not ^+ 1;");
        wrongGallery(1, "worth not ^and 1;");
        wrongGallery(1, "worth 1 ^(2);");
        wrongGallery(1, "worth 1 ^2;");
        wrongGallery(1, "worth slips ^age;");
        wrongGallery(1, "worth (1 ^;");
        wrongGallery(1, "worth ((1) ^;");
        wrongGallery(1, "worth 1 ^) ;");
        wrongGallery(1, "worth (1^");
        wrongGallery(1, "worth ^spot;");
        wrongGallery(1, "worth ^<;");
    }

    private static void within() {
        says("no PART lies within 5 of not and ( )");
        worth("((((7))))", 7);
        worth("not not not not 7", 1);
        worth("not (not (7))", 1);
        worth("((((7)))) + ((((7)))) * ((((2))))", 21);
        worth("(((1 + (2)) + 3) + 4) + ((((5))))", 15);
        worth("(1 + (1 + (1 + (1 + 1 * 1 + 1 < 9 and 1))))", 4);
        says("not, or a PART, within 5 others");
        wrongGallery(5, "worth (((((^7)))));");
        wrongGallery(5, "worth (((((^slips)))));");
        wrongGallery(5, "worth (((((^(7))))));");
        wrongGallery(5, "worth (((((^not 7)))));");
        wrongGallery(5, "worth not not not not not ^7;");
        wrongGallery(5, "worth not not not not not ^not 7;");
        wrongGallery(5, "worth not (not (not ^7));");
        wrongGallery(5, "worth (not (not (^7)));");
        wrongGallery(5, "worth 1 + (2 * (3 < (4 and (5 or (^6");
        wrongGallery(5, "hard not not not not not ^place;");
        told("worth (not (not 7));");
        told("worth 1 + (2 * (3 < (4 and (5 or 6))));");
        says("of the first token from the left that is wrong the least: 1 it is none, or can't stand there");
        wrongGallery(1, "worth (((((^)))));");
        wrongGallery(1, "worth (((((^;");
        wrongGallery(1, "worth (((((^");
        wrongGallery(1, "worth (((((^place)))));");
        wrongGallery(1, "worth (((((^10000)))));");
        wrongGallery(1, "worth (((((^+");
        wrongGallery(1, "worth (((((^spot");
        wrongGallery(1, "worth not not not not not ^;");
    }

    private static void facts() {
        says("of worth slips (how many SPOTS are off), age (its number), hung (on how many nights it has hung)");
        worth("slips * 100 + age * 10 + hung", 223);
        wrongGallery(1, "worth ^place;");
        wrongGallery(1, "worth 1 + ^place;");
        wrongGallery(1, "spot aa; worth ^aa;");
        wrongGallery(1, "spot place; worth ^place;");
        wrongGallery(1, "worth ^slip;");
        says("of hard slips (of the PIECE that is copied), age (its number), place (of the SPOT, from 0)");
        wrongGallery(1, "hard ^hung;");
        wrongGallery(1, "hard age * ^hung;");
        String law = "spot a; spot b; spot c; thief t bold skill 99 coins 0 at 0;"
            + "copy of 0 slip a with t; copy of 1 slip b with t; hard 99 + (slips * 100 + age * 10 + place = %);";
        PanelCopies one = told(law.replace("%", "112"));
        due(9, "slips 1, age 1, place 2: too hard", one.paint(0, 1, 2), NONE);
        due(9, "another SPOT", one.paint(0, 1, 1), 3);
        due(9, "another PIECE", one.paint(0, 2, 2), 4);
        PanelCopies other = told(law.replace("%", "220"));
        due(9, "slips 2, age 2, place 0: too hard", other.paint(0, 2, 0), NONE);
        due(9, "another SPOT", other.paint(0, 2, 1), 3);
        due(9, "another PIECE", other.paint(0, 1, 0), 4);
    }

    private static void truthAndWrapping() {
        says("Of not, and, or, < and = comes 1 or 0; what is not 0 is so; ints wrap");
        worth("not 5", 0);
        worth("not 0", 1);
        worth("not (0 - 1)", 0);
        worth("5 and 7", 1);
        worth("5 and 0", 0);
        worth("(0 - 5) and (0 - 7)", 1);
        worth("0 or 9", 1);
        worth("0 or 0", 0);
        worth("(0 - 9) or 0", 1);
        worth("2 < 3", 1);
        worth("3 < 3", 0);
        worth("0 - 4 < 0 - 3", 1);
        worth("3 = 3", 1);
        worth("3 = 4", 0);
        // Less than 0 is worth 0 as well, so that 10 tells what comes.
        worth("10 + not 5", 10);
        worth("10 + (5 and 0)", 10);
        worth("10 + (0 and 5)", 10);
        worth("10 + (0 or 0)", 10);
        worth("10 + (3 < 3)", 10);
        worth("10 + (3 = 4)", 10);
        worth("10 + not 0 + (5 and 7) + (0 or 9) + (2 < 3) + (3 = 3)", 15);
        // 9999 * 9999 * 21 + 9999 * 4790 + 8416 is 2147483647, the greatest int.
        String most = "9999 * 9999 * 21 + 9999 * 4790 + 8416";
        worth("0 < " + most, 1);
        worth(most + " + 1 < 0", 1);
        worth(most + " + 1 + " + most + " + 1", 0);
        worth("0 - (" + most + ") - 2 = " + most, 1);
        worth("9999 * 9999 * 21 < 0", 0);
        worth("9999 * 9999 * 22 < 0", 1);
        worth("4096 * 4096 * 256 + 3", 3);
        says("sold for the E of worth (0 to 999)");
        worth(most, 999);
        worth(most + " + 1", 0);
    }

    private static void withoutLaws() {
        says("Without worth: 100 - slips * 10 - age; without hard: slips + place");
        // PIECES 3, 5 and 7 are off in all eight SPOTS.
        PanelCopies x = told(EIGHT_SPOTS + "thief t plain skill 14 coins 0 at 0; thief u plain skill 15 coins 0 at 0;"
            + "copy of 0 slip sa sb sc with t; copy of 1 slip sd se sf with t; copy of 2 slip sg sh with t;"
            + "copy of 3 slip sh with u; copy of 4 slip sh with u; copy of 5 slip sh with u;");
        int[] slips = {0, 3, 6, 8, 7, 8, 7};
        for (int piece = 0; piece < 7; piece++) {
            due(5, "worth of " + piece, x.piece(piece, 4), 100 - slips[piece] * 10 - piece);
        }
        due(9, "skill 14 is less than 8 + 7", x.paint(0, 3, 7), NONE);
        due(9, "skill 15 is no less than 8 + 7", x.paint(1, 5, 7), 7);
        PanelCopies y = told(EIGHT_SPOTS + "thief t boy skill 0 coins 0 at 0; thief u boy skill 1 coins 0 at 0;");
        due(9, "skill 0 is no less than 0 + 0", y.paint(0, 0, 0), 1);
        due(9, "skill 0 is less than 0 + 1", y.paint(0, 0, 1), NONE);
        due(9, "skill 1 is no less than 0 + 1", y.paint(1, 0, 1), 2);
    }

    // ---- FAULTS ----

    private static final String WHOLE = "spot aa ; thief cc plain skill 1 coins 1 at 3 4 ; copy of 0 slip aa with cc ;"
        + " expert ee sees aa ; worth slips + 2 < 3 and not age ; hard 1 - place * 2 = 3 or slips ;";
    private static final String WHOLE_NIGHTS = "steal cc 1 ; paint cc 0 aa ; sell cc 1 ; guard 3 ; night ;";

    private static void theEnd() {
        says("the end being one at the text's length");
        prefixes(WHOLE, false);
        prefixes(WHOLE_NIGHTS, true);
    }

    /** Of a text that is cut behind a token the end is wrong, unless a line ends there. */
    private static void prefixes(String text, boolean asNights) {
        String[] words = text.split(" ");
        StringBuilder part = new StringBuilder();
        for (String word : words) {
            part.append(part.length() == 0 ? "" : " ").append(word);
            boolean whole = word.equals(";");
            for (String behind : new String[] {"", " ", "\n\n  \n"}) {
                String cut = part + behind;
                PanelCopies x = told("spot aa; thief cc boy skill 0 coins 0 at 0;");
                int got = asNights ? nightsOf(x, cut) : galleryOf(x, cut);
                due(asNights ? 4 : 3, "of " + cut, got, whole ? 0 : 1 + 16 * cut.length());
            }
        }
    }

    private static void theFirstFromTheLeft() {
        says("of the first token from the left that is wrong the least");
        wrongGallery(5, EIGHT_SPOTS + "^spot ! ;");
        wrongGallery(5, "worth (((((^7 ! ;");
        wrongGallery(4, "thief a boy skill ^100 coins 1000 at 24 ! ;");
        wrongGallery(4, BASE + "copy of ^1 slip zz zz with zz !");
        wrongGallery(3, BASE + "spot ^aa ! ; !");
        wrongGallery(3, "worth 1; ^worth ! ;");
        wrongGallery(2, BASE + "copy of 0 slip ^zz ! !");
        wrongGallery(1, "spot ^! ; spot ! ;");
        wrongGallery(1, "spot ^1; " + EIGHT_SPOTS + "spot");
        wrongNights(2, "steal ^zz 8 ! ;");
        wrongNights(4, "steal cc ^8 ! ;");
        wrongNights(2, "paint cc 0 ^zz !");
    }

    private static void theLeast() {
        says("of the first token from the left that is wrong the least");
        // A fifth hour that is none, was told, or is beyond 23.
        wrongGallery(1, "thief a boy skill 0 coins 0 at 1 2 3 4 ^00005;");
        wrongGallery(3, "thief a boy skill 0 coins 0 at 1 2 3 4 ^1;");
        wrongGallery(3, "thief a boy skill 0 coins 0 at 1 2 3 4 ^04;");
        wrongGallery(4, "thief a boy skill 0 coins 0 at 1 2 3 4 ^24;");
        wrongGallery(1, "thief a boy skill 0 coins 0 at 1 2 3 4 ^x;");
        // A fourth SPOT behind slip, a fifth one behind sees, that is no NAME, no SPOT, or was told.
        wrongGallery(1, MORE + "copy of 0 slip aa bb dd ^spot with cc;");
        wrongGallery(1, MORE + "copy of 0 slip aa bb dd ^; with cc;");
        wrongGallery(2, MORE + "copy of 0 slip aa bb dd ^zz with cc;");
        wrongGallery(2, MORE + "copy of 0 slip aa bb dd ^cc with cc;");
        wrongGallery(3, MORE + "copy of 0 slip aa bb dd ^dd with cc;");
        wrongGallery(1, MORE + "expert ef sees aa bb dd ff ^with;");
        wrongGallery(2, MORE + "expert ef sees aa bb dd ff ^zz;");
        wrongGallery(2, MORE + "expert ef sees aa bb dd ff ^ef;");
        wrongGallery(3, MORE + "expert ef sees aa bb dd ff ^ff;");
        // Behind the most of a kind other lines go on.
        told(EIGHT_SPOTS + FIVE_THIEVES + times(7, "copy of 0 slip sa with ta;") + named(4, "expert e% sees sa;")
            + "worth 1; hard 1;");
    }

    private static void standingElsewhere() {
        says("1 it is none, or can't stand there");
        everyToken(WHOLE, false, "!");
        everyToken(WHOLE, false, ")");
        everyToken(WHOLE, false, "10000");
        everyToken(WHOLE, false, "abcdefghi");
        everyToken(WHOLE_NIGHTS, true, "!");
        everyToken(WHOLE_NIGHTS, true, "(");
        everyToken(WHOLE_NIGHTS, true, "sees");
        everyToken(WHOLE_NIGHTS, true, "12345");
    }

    /** A token that can stand nowhere takes the place of each one. */
    private static void everyToken(String text, boolean asNights, String stray) {
        String[] words = text.split(" ");
        int place = 0;
        for (int i = 0; i < words.length; i++) {
            String spoilt = text.substring(0, place) + stray + text.substring(place + words[i].length());
            PanelCopies x = told("spot aa; thief cc boy skill 0 coins 0 at 0;");
            int got = asNights ? nightsOf(x, spoilt) : galleryOf(x, spoilt);
            due(asNights ? 4 : 3, "of " + spoilt, got, 1 + 16 * place);
            place += words[i].length() + 1;
        }
    }

    // ---- what a GALLERY changes ----

    private static PanelCopies busy() {
        PanelCopies x = told(MORE + "thief bo bold skill 9 coins 5 at 0 1; copy of 0 slip aa with bo;"
            + "copy of 1 slip bb with bo; worth 10 + age + hung; hard slips;");
        nightsOf(x, "steal bo 1; sell bo 7;");
        x.steal(1, 1);
        x.night();
        x.sell(1, 0);
        x.paint(1, 2, 0);
        x.guard(5);
        x.look(1, false);
        x.look(0, false);
        x.look(2, true);
        x.mark(2, false);
        return x;
    }

    private static void allStays() {
        says("The TAPE is read as a GALLERY: 0, or its FAULT (all stays then).");
        String[] faults = {"spot xx; !", "spot aa; spot aa;", EIGHT_SPOTS + "spot", "thief a boy skill 100",
            BASE + "copy of 0 slip zz", "worth 1; hard 2; worth", "copy"};
        for (String text : faults) {
            PanelCopies x = busy();
            String before = state(x);
            due(3, "a FAULT of " + text, galleryOf(x, text) != 0, true);
            same(3, "all stays", state(x), before);
            due(33, "the MARK too", x.mark(2, true), true);
            due(4, "the NAMES too", nightsOf(x, "paint bo 0 gg;"), 0);
            due(9, "the law of what is hard too", x.paint(1, 3, 0), 4);
        }
    }

    private static void anew() {
        says("Without a FAULT a GALLERY is the GALLERY from then on: night 0, the first PIECE hangs, copies with their"
            + " THIEVES, coins as told, no guards, no PIECE has hung, no NIGHTS, no LOOK, nothing can be undone, no MARK is"
            + " there.");
        String text = "spot xx; thief yy plain skill 3 coins 4 at 7; copy of 0 slip xx with yy;";
        PanelCopies x = busy();
        due(3, "gallery()", galleryOf(x, text), 0);
        same(3, "as a new one", state(x), state(told(text)));
        int[] counts = {1, 2, 1, 0, 0, 0, 4, 0, 0, 0, 0, 0};
        for (int what = 0; what < counts.length; what++) {
            due(34, "count(" + what + ")", x.count(what), counts[what]);
        }
        due(5, "with its THIEF", x.piece(1, 1), 0);
        due(5, "the first one's nights", x.piece(0, 3), 0);
        due(5, "the law of worth is gone", x.piece(1, 4), 89);
        due(9, "the law of what is hard is gone: 1 + 0", x.paint(0, 1, 0), 2);
        due(13, "undone", x.undo(), true);
        due(13, "nothing more", x.undo(), false);
        for (int mark = 0; mark < 4; mark++) {
            due(33, "no MARK " + mark, x.mark(mark, true), false);
        }
        due(4, "a NAME of before", nightsOf(x, "steal bo 0;"), 2 + 16 * 6);
    }

    /** A text with a FAULT at its very end has filled all there is to fill. */
    private static void nothingIsLeft() {
        says("The TAPE is read as a GALLERY: 0, or its FAULT (all stays then).");
        String full = EIGHT_SPOTS + named(5, "thief t% bold skill 9 coins 7 at 4;") + times(7, "copy of 0 slip sh with te;")
            + named(4, "expert e% sees sa;") + "worth 5; hard 6;";
        String small = "spot sa; thief ta plain skill 1 coins 2 at 3; copy of 0 slip sa with ta; expert ea sees sa;";
        String want = state(told(small));
        PanelCopies x = new PanelCopies();
        due(3, "a FAULT", galleryOf(x, full + "!"), 1 + 16 * full.length());
        due(3, "gallery()", galleryOf(x, small), 0);
        same(3, "nothing is left of a text with a FAULT", state(x), want);
        PanelCopies y = told(full);
        due(3, "gallery()", galleryOf(y, small), 0);
        due(3, "gallery()", galleryOf(y, small), 0);
        same(3, "nothing is left of the GALLERY before", state(y), want);
        due(3, "an empty GALLERY", galleryOf(y, ""), 0);
        same(3, "nothing is left of it", state(y), state(new PanelCopies()));
    }

    private static void atFirst() {
        says("At first: nothing but the first PIECE.");
        same(1, "as an empty GALLERY", state(new PanelCopies()), state(told("")));
        PanelCopies x = new PanelCopies();
        int[] counts = {0, 1, 0, 0, 0, 0, 0, 0, 0, 0, 0, 0};
        for (int what = 0; what < counts.length; what++) {
            due(1, "count(" + what + ")", x.count(what), counts[what]);
        }
        int[] first = {0, 5, NONE, 0, 100};
        for (int what = 0; what < first.length; what++) {
            due(1, "piece(0, " + what + ")", x.piece(0, what), first[what]);
            due(1, "piece(1, " + what + ")", x.piece(1, what), NONE);
            due(1, "thief(0, " + what + ")", x.thief(0, what), NONE);
        }
        due(1, "nobody steals", x.steal(0, 0), NONE);
        due(1, "nobody paints", x.paint(0, 0, 0), NONE);
        due(1, "nobody sells", x.sell(0, 0), NONE);
        due(1, "nothing is undone", x.undo(), false);
        due(1, "no MARK", x.mark(0, true), false);
        due(1, "NIGHTS of guards and nights can be read", nightsOf(x, "guard 1; night;"), 0);
        due(1, "no THIEF is told", nightsOf(x, "sell a 0;"), 2 + 16 * 5);
    }
}
