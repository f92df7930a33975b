import java.util.Arrays;
import java.util.NoSuchElementException;

/** A panel, its copies, and those who steal, paint, sell, guard and judge them. See README.md. */
public final class PanelCopies {
    public static final int NONE = -1;

    /** What judged and joined answer to wrong arguments, where NONE means something else. */
    private static final int OTHERS = -2;

    private static final int MOST_SIGNS = 1000;
    private static final int MOST_LETTERS = 8;
    private static final int MOST_DIGITS = 4;
    private static final int MOST_SPOTS = 8;
    private static final int MOST_PIECES = 8;
    private static final int MOST_THIEVES = 5;
    private static final int MOST_EXPERTS = 4;
    private static final int MOST_HOURS = 4;
    private static final int MOST_SLIPS = 3;
    private static final int MOST_SEEN = 4;
    private static final int MOST_LINES = 30;
    private static final int MOST_LOOKS = 8;
    private static final int MOST_UNDONE = 16;
    private static final int MOST_COPIES = 30;
    private static final int MOST_DEPTH = 9;
    private static final int MOST_WORTH = 999;
    private static final int MOST_YEARS_NIGHTS = 60;
    private static final int MOST_SEED = 9999;
    private static final int MARKS = 4;
    private static final int HOURS = 24;
    private static final int BIDS = 10;
    private static final int WHOLE = 1000000;

    /** One row more than can be undone, so that an attempt that fails overwrites nothing. */
    private static final int PAST_ROWS = MOST_UNDONE + 1;

    private static final int HANGS = 5;
    private static final int SOLD = 6;

    private static final int PLAIN = 0;
    private static final int BOLD = 1;
    private static final int RESTORER = 2;
    private static final int BOY = 3;

    private static final int FAULT_STRAY = 1;
    private static final int FAULT_UNKNOWN = 2;
    private static final int FAULT_AGAIN = 3;
    private static final int FAULT_RANGE = 4;
    private static final int FAULT_EXCESS = 5;

    private final Tape tape = new Tape();
    private final GalleryReader galleryReader = new GalleryReader(tape);
    private final Hall hall = new Hall();
    private final Hall judgedHall = new Hall();
    private final Hall[] past = new Hall[PAST_ROWS];
    private final Hall[] marks = new Hall[MARKS];
    private final Trees trees = new Trees();
    private final Painting painting = new Painting();
    private final Years lived = new Years();
    private final int[] watchSets = new int[1 << MOST_THIEVES];
    private final int[] chances = new int[MOST_SPOTS + 1];
    private final int[] nextChances = new int[MOST_SPOTS + 1];
    private Gallery told = new Gallery();
    private Gallery draft = new Gallery();
    private Lines lines = new Lines();
    private Lines draftLines = new Lines();
    private int pastFrom = 0;
    private int pastSize = 0;
    private int marked = 0;

    public PanelCopies() {
        for (int i = 0; i < PAST_ROWS; i++) {
            past[i] = new Hall();
        }
        for (int i = 0; i < MARKS; i++) {
            marks[i] = new Hall();
        }
    }

    // ---- what is told ----

    public int feed(long a, long b, long c) {
        tape.append(a);
        tape.append(b);
        tape.append(c);
        return tape.length;
    }

    public int gallery() {
        int fault = galleryReader.read(draft);
        if (fault == 0) {
            Gallery before = told;
            told = draft;
            draft = before;
            startAnew();
        }
        return fault;
    }

    private void startAnew() {
        hall.takeAll(told.begin);
        lines.size = 0;
        pastSize = 0;
        marked = 0;
    }

    public int nights() {
        int fault = draftLines.read(tape, told);
        if (fault == 0) {
            Lines before = lines;
            lines = draftLines;
            draftLines = before;
        }
        return fault;
    }

    // ---- what is so ----

    public int piece(int piece, int what) {
        if (!hall.isThere(piece)) {
            return NONE;
        }
        switch (what) {
            case 0:
                return hall.off[piece];
            case 1:
                return hall.holder[piece];
            case 2:
                return hall.source[piece];
            case 3:
                return hall.hung[piece];
            case 4:
                return hall.worthOf(told, piece);
            default:
                return NONE;
        }
    }

    public int distance(int one, int other) {
        return hall.isThere(one) && hall.isThere(other) ? hall.apart(one, other) : NONE;
    }

    public int thief(int thief, int what) {
        if (!told.hasThief(thief)) {
            return NONE;
        }
        switch (what) {
            case 0:
                return told.kinds[thief];
            case 1:
                return told.skills[thief];
            case 2:
                return hall.coins[thief];
            case 3:
                return told.hours[thief];
            case 4:
                return hall.heldBy(thief);
            default:
                return NONE;
        }
    }

    public int count(int what) {
        switch (what) {
            case 0:
                return told.spots;
            case 1:
                return hall.pieces;
            case 2:
                return told.thieves;
            case 3:
                return told.experts;
            case 4:
                return hall.night;
            case 5:
                return hall.hanging;
            case 6:
                return hall.allCoins();
            case 7:
                return hall.guards;
            case 8:
                return lines.size;
            case 9:
                return hall.looks;
            case 10:
                return pastSize;
            case 11:
                return tape.length;
            default:
                return NONE;
        }
    }

    // ---- nights by hand ----

    public int steal(int thief, int piece) {
        noteNow();
        return keptUnlessNone(hall.swap(told, thief, piece));
    }

    public int paint(int thief, int piece, int spot) {
        noteNow();
        return keptUnlessNone(hall.copyOf(told, thief, piece, spot));
    }

    public int sell(int thief, int piece) {
        noteNow();
        return keptUnlessNone(hall.sale(told, thief, piece));
    }

    public boolean guard(int hour) {
        noteNow();
        boolean set = hall.setGuard(hour);
        if (set) {
            keepNoted();
        }
        return set;
    }

    public int night() {
        noteNow();
        keepNoted();
        hall.passNight();
        return hall.night;
    }

    public boolean undo() {
        if (pastSize <= 0) {
            return false;
        }
        pastSize--;
        hall.takeNights(past[pastRow(pastSize)]);
        return true;
    }

    private int pastRow(int place) {
        return (pastFrom + place) % PAST_ROWS;
    }

    private void noteNow() {
        past[pastRow(pastSize)].takeNights(hall);
    }

    private void keepNoted() {
        if (pastSize < MOST_UNDONE) {
            pastSize++;
        } else {
            pastFrom = pastRow(1);
        }
    }

    private int keptUnlessNone(int answer) {
        if (answer != NONE) {
            keepNoted();
        }
        return answer;
    }

    public boolean mark(int mark, boolean back) {
        if (mark < 0 || mark >= MARKS) {
            return false;
        }
        if (!back) {
            marks[mark].takeAll(hall);
            marked |= 1 << mark;
            return true;
        }
        if ((marked >> mark & 1) == 0) {
            return false;
        }
        hall.takeAll(marks[mark]);
        pastSize = 0;
        return true;
    }

    public int judged(int what) {
        if (what < 0 || what > 2) {
            return OTHERS;
        }
        judgedHall.takeAll(told.begin);
        int firstWrong = lines.play(judgedHall, told);
        if (what == 0) {
            return firstWrong;
        }
        return what == 1 ? judgedHall.hanging : judgedHall.allCoins();
    }

    public int years(int seed, int nights, int what) {
        boolean ranged = seed >= 0 && seed <= MOST_SEED && nights >= 1 && nights <= MOST_YEARS_NIGHTS;
        if (!ranged || what < 0 || what > 2) {
            return NONE;
        }
        lived.pass(hall, told, seed, nights);
        if (what == 0) {
            return lived.thefts;
        }
        return what == 1 ? lived.hall.allCoins() : lived.hall.slipsOn(lived.hall.hanging);
    }

    // ---- copies of copies ----

    private boolean areThere(int pieces) {
        return pieces >= 0 && pieces < 1 << hall.pieces;
    }

    public int tree(int pieces, int what) {
        int size = Integer.bitCount(pieces);
        if (!areThere(pieces) || size < 1 || size > Trees.MOST || what < 0 || what > size) {
            return NONE;
        }
        trees.grow(hall, pieces);
        if (what == 0) {
            return trees.least;
        }
        return what == 1 ? trees.found : trees.joinedTo(what - 1);
    }

    public int kin(int piece) {
        if (!hall.isThere(piece)) {
            return NONE;
        }
        int line = 1 << piece;
        // A copy's number is above its source's, so one pass upward meets every source first.
        for (int copy = piece + 1; copy < hall.pieces; copy++) {
            if ((line >> hall.source[copy] & 1) != 0) {
                line |= 1 << copy;
            }
        }
        return line & ~(1 << piece);
    }

    public int nearest(int piece) {
        if (!hall.isThere(piece)) {
            return NONE;
        }
        int best = NONE;
        for (int other = 0; other < hall.pieces; other++) {
            boolean meant = other != piece && hall.holder[other] != SOLD;
            if (meant && (best == NONE || hall.apart(piece, other) < hall.apart(piece, best))) {
                best = other;
            }
        }
        return best;
    }

    public int meet(int thief) {
        if (!told.hasThief(thief)) {
            return NONE;
        }
        int free = told.hours[thief] & ~hall.guards;
        int met = 0;
        for (int other = 0; other < told.thieves; other++) {
            if (other != thief && (told.hours[other] & free) != 0) {
                met |= 1 << other;
            }
        }
        return met;
    }

    public int joined(int piece, int what) {
        if (!hall.isThere(piece) || what < 0 || what > 1) {
            return OTHERS;
        }
        int pairs = 0;
        int first = NONE;
        for (int one = 0; one < hall.pieces; one++) {
            for (int other = one + 1; other < hall.pieces; other++) {
                if (hall.joins(one, other, piece)) {
                    pairs++;
                    first = first == NONE ? one * MOST_PIECES + other : first;
                }
            }
        }
        return what == 0 ? pairs : first;
    }

    // ---- what hangs, by looks ----

    public boolean look(int spot, boolean off) {
        if (!told.hasSpot(spot) || hall.looks >= MOST_LOOKS) {
            return false;
        }
        hall.looks++;
        if (off) {
            hall.lookedOff |= 1 << spot;
        } else {
            hall.lookedRight |= 1 << spot;
        }
        return true;
    }

    public int fits() {
        int fitting = 0;
        for (int piece = 0; piece < hall.pieces; piece++) {
            if (hall.isFitting(piece)) {
                fitting |= 1 << piece;
            }
        }
        return fitting;
    }

    public int ask() {
        int best = NONE;
        int least = Integer.bitCount(fits());
        for (int spot = 0; spot < told.spots; spot++) {
            int greater = greaterPart(spot);
            if (greater < least) {
                least = greater;
                best = spot;
            }
        }
        return best;
    }

    private int greaterPart(int spot) {
        int off = 0;
        int right = 0;
        for (int piece = 0; piece < hall.pieces; piece++) {
            if (hall.isFitting(piece)) {
                int bit = hall.off[piece] >> spot & 1;
                off += bit;
                right += 1 - bit;
            }
        }
        return Math.max(off, right);
    }

    public int price() {
        int sum = 0;
        int fitting = 0;
        for (int piece = 0; piece < hall.pieces; piece++) {
            if (hall.isFitting(piece)) {
                sum += hall.worthOf(told, piece);
                fitting++;
            }
        }
        return fitting == 0 ? NONE : sum * 1000 / fitting;
    }

    // ---- who painted which ----

    public int painters() {
        painting.weigh(hall, told);
        return painting.total();
    }

    public int painter(int piece, boolean all) {
        if (piece < 1 || !hall.isThere(piece)) {
            return NONE;
        }
        painting.weigh(hall, told);
        return all ? painting.inAll(piece) : painting.inFirst(piece);
    }

    // ---- who knows which hangs ----

    public int knows(int expert, int pieces) {
        boolean asked = expert >= 0 && expert < told.experts && areThere(pieces);
        return asked ? known(expert, pieces) : NONE;
    }

    public int depth(int pieces, int depth) {
        if (!areThere(pieces) || depth < 1 || depth > MOST_DEPTH) {
            return NONE;
        }
        return knownTo(pieces, depth);
    }

    public int common(int pieces) {
        // Each DEPTH that differs from the last one has lost a PIECE, so no more than these can differ.
        return areThere(pieces) ? knownTo(pieces, MOST_PIECES) : NONE;
    }

    private int known(int expert, int pieces) {
        int places = 0;
        for (int piece = 0; piece < hall.pieces; piece++) {
            if ((hall.alike(piece, told.sees[expert]) & ~pieces) == 0) {
                places |= 1 << piece;
            }
        }
        return places;
    }

    private int knownTo(int pieces, int depth) {
        int places = pieces;
        for (int i = 0; i < depth; i++) {
            int before = places;
            for (int expert = 0; expert < told.experts; expert++) {
                places &= known(expert, before);
            }
        }
        return places;
    }

    // ---- auctions, watches, chances ----

    public int rests(int one, int other, boolean own, int what) throws NoSuchElementException {
        if (one < 0 || one >= BIDS || other < 0 || other >= BIDS || what < NONE) {
            throw new NoSuchElementException("no such auction");
        }
        int found = 0;
        for (int bids = 0; bids < BIDS * BIDS; bids++) {
            if (isRest(one, other, own, bids / BIDS, bids % BIDS)) {
                if (found == what) {
                    return bids;
                }
                found++;
            }
        }
        if (what != NONE) {
            throw new NoSuchElementException("no such rest");
        }
        return found;
    }

    private static boolean isRest(int one, int other, boolean own, int bid, int otherBid) {
        int gain = firstGain(one, own, bid, otherBid);
        int otherGain = secondGain(other, own, bid, otherBid);
        for (int change = 0; change < BIDS; change++) {
            boolean better = firstGain(one, own, change, otherBid) > gain;
            if (better || secondGain(other, own, bid, change) > otherGain) {
                return false;
            }
        }
        return true;
    }

    private static int firstGain(int want, boolean own, int bid, int otherBid) {
        return bid >= otherBid ? want - (own ? bid : otherBid) : 0;
    }

    private static int secondGain(int want, boolean own, int bid, int otherBid) {
        return otherBid > bid ? want - (own ? otherBid : bid) : 0;
    }

    public int watch(int but) {
        if (but < 0 || but > MOST_THIEVES) {
            return NONE;
        }
        setWatches();
        int best = NONE;
        for (int seen = 0; seen < watchSets.length; seen++) {
            boolean enough = Integer.bitCount(seen) >= told.thieves - but;
            if (enough && watchSets[seen] != NONE && isFewer(watchSets[seen], best)) {
                best = watchSets[seen];
            }
        }
        return best;
    }

    /** For each set of THIEVES the best hours that see just these, hour by hour upward. */
    private void setWatches() {
        Arrays.fill(watchSets, NONE);
        watchSets[0] = 0;
        for (int hour = 0; hour < HOURS; hour++) {
            int seenThen = told.thievesAt(hour);
            for (int seen = 0; seen < watchSets.length; seen++) {
                int both = (seen | seenThen) & watchSets.length - 1;
                // A set that has this hour already comes round again only where it is no better.
                if (watchSets[seen] != NONE && isFewer(watchSets[seen] | 1 << hour, watchSets[both])) {
                    watchSets[both] = watchSets[seen] | 1 << hour;
                }
            }
        }
    }

    private static boolean isFewer(int hours, int thanHours) {
        if (thanHours == NONE) {
            return true;
        }
        int difference = Integer.bitCount(hours) - Integer.bitCount(thanHours);
        return difference < 0 || difference == 0 && hours < thanHours;
    }

    public int slips(int copies, int spots, int off) {
        boolean ranged = copies >= 0 && copies <= MOST_COPIES && spots >= 1 && spots <= MOST_SPOTS;
        if (!ranged || off < 0 || off > spots) {
            return NONE;
        }
        Arrays.fill(chances, 0);
        chances[0] = WHOLE;
        for (int copy = 0; copy < copies; copy++) {
            shareChances(spots);
        }
        return chances[off];
    }

    private void shareChances(int spots) {
        Arrays.fill(nextChances, 0);
        for (int off = 0; off <= spots; off++) {
            if (off < spots) {
                nextChances[off + 1] += chances[off] * (spots - off) / spots;
            }
            if (off > 0) {
                nextChances[off - 1] += chances[off] * off / spots;
            }
        }
        System.arraycopy(nextChances, 0, chances, 0, chances.length);
    }

    /** The words that mean something; a NAME is any WORD that is not reserved. */
    private enum Word {
        OTHER("", false),
        SPOT("spot", true),
        THIEF("thief", true),
        SKILL("skill", true),
        COINS("coins", true),
        AT("at", true),
        COPY("copy", true),
        OF("of", true),
        SLIP("slip", true),
        WITH("with", true),
        EXPERT("expert", true),
        SEES("sees", true),
        WORTH("worth", true),
        HARD("hard", true),
        STEAL("steal", true),
        PAINT("paint", true),
        SELL("sell", true),
        GUARD("guard", true),
        NIGHT("night", true),
        PLAIN_KIND("plain", true),
        BOLD_KIND("bold", true),
        RESTORER_KIND("restorer", true),
        BOY_KIND("boy", true),
        NOT("not", true),
        AND("and", true),
        OR("or", true),
        SLIPS("slips", false),
        AGE("age", false),
        HUNG("hung", false),
        PLACE("place", false);

        private static final Word[] ALL = values();

        final long packed;
        final boolean reserved;

        Word(String text, boolean reserved) {
            long letters = 0;
            for (int i = 0; i < text.length(); i++) {
                letters = packedWith(letters, text.charAt(i));
            }
            this.packed = letters;
            this.reserved = reserved;
        }

        /** Letters become a number, 5 bits each, so that words are compared and kept without objects. */
        static long packedWith(long letters, char letter) {
            return letters * 32 + (letter - 'a' + 1);
        }

        static Word of(long packed) {
            for (int i = 0; i < ALL.length; i++) {
                if (ALL[i].packed == packed) {
                    return ALL[i];
                }
            }
            return OTHER;
        }
    }

    /** The TAPE, its tokens, the one that is read, and the first FAULT. */
    private static final class Tape {
        private static final int END = 0;
        private static final int NO_TOKEN = 1;
        private static final int NAME = 2;
        private static final int RESERVED = 3;
        private static final int NUMBER = 4;
        private static final int SIGN = 5;

        private final char[] signs = new char[MOST_SIGNS];
        private final int[] kinds = new int[MOST_SIGNS + 1];
        private final int[] places = new int[MOST_SIGNS + 1];
        private final long[] values = new long[MOST_SIGNS + 1];
        private int tokens = 0;
        private int at = 0;
        int length = 0;
        int fault = 0;

        void append(long bytes) {
            for (int shift = 56; shift >= 0; shift -= 8) {
                int value = (int) (bytes >>> shift & 255);
                boolean meant = value == 10 || value >= 32 && value <= 126;
                if (meant && length < signs.length) {
                    signs[length] = (char) value;
                    length++;
                }
            }
        }

        /** All tokens are found ahead of reading; the end is one, behind which no reader gets. */
        void open() {
            tokens = 0;
            at = 0;
            fault = 0;
            int from = 0;
            for (int i = 0; i < MOST_SIGNS && from < length; i++) {
                from = isBlank(signs[from]) ? from + 1 : scan(from);
            }
            addToken(END, length, 0);
        }

        /** Whatever was found, what was read is taken. */
        int close() {
            length = 0;
            return fault;
        }

        private void addToken(int kind, int place, long value) {
            if (tokens < kinds.length) {
                kinds[tokens] = kind;
                places[tokens] = place;
                values[tokens] = value;
                tokens++;
            }
        }

        /** Adds the token that begins there; answers where it ends. */
        private int scan(int from) {
            char sign = signs[from];
            if (isLetter(sign)) {
                return scanWord(from);
            }
            if (isDigit(sign)) {
                return scanNumber(from);
            }
            addToken("()<=+-*;".indexOf(sign) >= 0 ? SIGN : NO_TOKEN, from, sign);
            return from + 1;
        }

        private int scanWord(int from) {
            long packed = 0;
            int to = from;
            while (to < length && isLetter(signs[to])) {
                packed = Word.packedWith(packed, signs[to]);
                to++;
            }
            int kind = Word.of(packed).reserved ? RESERVED : NAME;
            addToken(to - from <= MOST_LETTERS ? kind : NO_TOKEN, from, packed);
            return to;
        }

        private int scanNumber(int from) {
            long number = 0;
            int to = from;
            while (to < length && isDigit(signs[to])) {
                number = number * 10 + (signs[to] - '0');
                to++;
            }
            addToken(to - from <= MOST_DIGITS ? NUMBER : NO_TOKEN, from, number);
            return to;
        }

        private static boolean isBlank(char c) {
            return c == 10 || c == ' ';
        }

        private static boolean isLetter(char c) {
            return c >= 'a' && c <= 'z';
        }

        private static boolean isDigit(char c) {
            return c >= '0' && c <= '9';
        }

        boolean goesOn() {
            return fault == 0 && kinds[at] != END;
        }

        /** Only the first FAULT counts: behind it no token is what a reader wants, so that all readers stop. */
        void fail(int faultKind) {
            if (fault == 0) {
                fault = faultKind + 16 * places[at];
            }
        }

        boolean isAt(char wanted) {
            return fault == 0 && kinds[at] == SIGN && values[at] == wanted;
        }

        boolean isAt(Word wanted) {
            boolean isWord = kinds[at] == NAME || kinds[at] == RESERVED;
            return fault == 0 && isWord && values[at] == wanted.packed;
        }

        boolean isName() {
            return fault == 0 && kinds[at] == NAME;
        }

        boolean isNumber() {
            return fault == 0 && kinds[at] == NUMBER;
        }

        /** The reserved word that stands there, or OTHER. */
        Word word() {
            return fault == 0 && kinds[at] == RESERVED ? Word.of(values[at]) : Word.OTHER;
        }

        long packed() {
            return values[at];
        }

        int number() {
            return (int) values[at];
        }

        void step() {
            if (fault == 0 && kinds[at] != END) {
                at++;
            }
        }

        void need(char wanted) {
            if (isAt(wanted)) {
                step();
            } else {
                fail(FAULT_STRAY);
            }
        }

        void need(Word wanted) {
            if (isAt(wanted)) {
                step();
            } else {
                fail(FAULT_STRAY);
            }
        }

        void stepOrFail(boolean stands, int faultKind) {
            if (stands) {
                step();
            } else {
                fail(faultKind);
            }
        }

        int takeNumberBelow(int limit) {
            int taken = number();
            if (isNumber()) {
                stepOrFail(taken < limit, FAULT_RANGE);
            } else {
                fail(FAULT_STRAY);
            }
            return taken;
        }
    }

    /** An E, kept with each operation behind what it works on, so that its value needs no recursion. */
    private static final class Law {
        static final int SLIPS = -1;
        static final int AGE = -2;
        static final int THIRD = -3;
        static final int NOT = -4;
        static final int AND = -5;
        static final int OR = -6;
        static final int LESS = -7;
        static final int SAME = -8;
        static final int PLUS = -9;
        static final int MINUS = -10;
        static final int TIMES = -11;

        /** A value waits for each of and, <, +, * in each of 5 E, one in the other: 21 are enough. */
        private static final int DEEPEST = 32;

        private final int[] steps;
        private final int[] values = new int[DEEPEST];

        Law(int[] steps) {
            this.steps = steps;
        }

        int value(int slips, int age, int third) {
            int top = 0;
            for (int i = 0; i < steps.length; i++) {
                int step = steps[i];
                if (step > NOT && top < DEEPEST) {
                    values[top] = operand(step, slips, age, third);
                    top++;
                } else if (step == NOT && top >= 1) {
                    values[top - 1] = values[top - 1] == 0 ? 1 : 0;
                } else if (step < NOT && top >= 2) {
                    top--;
                    values[top - 1] = joinedBy(step, values[top - 1], values[top]);
                }
            }
            return values[0];
        }

        private static int operand(int step, int slips, int age, int third) {
            switch (step) {
                case SLIPS:
                    return slips;
                case AGE:
                    return age;
                case THIRD:
                    return third;
                default:
                    return step;
            }
        }

        private static int joinedBy(int step, int left, int right) {
            switch (step) {
                case AND:
                    return left != 0 && right != 0 ? 1 : 0;
                case OR:
                    return left != 0 || right != 0 ? 1 : 0;
                case LESS:
                    return left < right ? 1 : 0;
                case SAME:
                    return left == right ? 1 : 0;
                case PLUS:
                    return left + right;
                case MINUS:
                    return left - right;
                default:
                    return left * right;
            }
        }
    }

    /** Reads an E. */
    private static final class LawReader {
        private static final int MOST_WITHIN = 5;

        private final Tape tape;
        private final int[] steps = new int[MOST_SIGNS];
        private int used = 0;
        private Word thirdFact = Word.HUNG;

        LawReader(Tape tape) {
            this.tape = tape;
        }

        Law read(Word factOfThisLaw) {
            thirdFact = factOfThisLaw;
            used = 0;
            expression(0);
            return new Law(Arrays.copyOf(steps, used));
        }

        private void put(int step) {
            if (used < steps.length) {
                steps[used] = step;
                used++;
            }
        }

        private void expression(int within) {
            test(within);
            for (int i = 0; i < MOST_SIGNS && (tape.isAt(Word.AND) || tape.isAt(Word.OR)); i++) {
                int step = tape.isAt(Word.AND) ? Law.AND : Law.OR;
                tape.step();
                test(within);
                put(step);
            }
        }

        private void test(int within) {
            sum(within);
            if (tape.isAt('<') || tape.isAt('=')) {
                int step = tape.isAt('<') ? Law.LESS : Law.SAME;
                tape.step();
                sum(within);
                put(step);
            }
        }

        private void sum(int within) {
            product(within);
            for (int i = 0; i < MOST_SIGNS && (tape.isAt('+') || tape.isAt('-')); i++) {
                int step = tape.isAt('+') ? Law.PLUS : Law.MINUS;
                tape.step();
                product(within);
                put(step);
            }
        }

        private void product(int within) {
            part(within);
            for (int i = 0; i < MOST_SIGNS && tape.isAt('*'); i++) {
                tape.step();
                part(within);
                put(Law.TIMES);
            }
        }

        private void part(int within) {
            boolean opens = tape.isAt('(');
            boolean turns = tape.isAt(Word.NOT);
            if (!opens && !turns && !tape.isNumber() && !isFact()) {
                tape.fail(FAULT_STRAY);
            } else if (within >= MOST_WITHIN) {
                tape.fail(FAULT_EXCESS);
            } else if (opens) {
                tape.step();
                expression(within + 1);
                tape.need(')');
            } else if (turns) {
                tape.step();
                part(within + 1);
                put(Law.NOT);
            } else {
                put(tape.isNumber() ? tape.number() : factStep());
                tape.step();
            }
        }

        private boolean isFact() {
            return tape.isAt(Word.SLIPS) || tape.isAt(Word.AGE) || tape.isAt(thirdFact);
        }

        private int factStep() {
            if (tape.isAt(Word.SLIPS)) {
                return Law.SLIPS;
            }
            return tape.isAt(Word.AGE) ? Law.AGE : Law.THIRD;
        }
    }

    /** A GALLERY as told. */
    private static final class Gallery {
        private final long[] spotNames = new long[MOST_SPOTS];
        private final long[] thiefNames = new long[MOST_THIEVES];
        private final long[] expertNames = new long[MOST_EXPERTS];
        final int[] kinds = new int[MOST_THIEVES];
        final int[] skills = new int[MOST_THIEVES];
        final int[] hours = new int[MOST_THIEVES];
        final int[] sees = new int[MOST_EXPERTS];
        final Hall begin = new Hall();
        int spots = 0;
        int thieves = 0;
        int experts = 0;
        Law worth = null;
        Law hard = null;

        void clear() {
            spots = 0;
            thieves = 0;
            experts = 0;
            worth = null;
            hard = null;
            begin.clear();
        }

        boolean hasSpot(int spot) {
            return spot >= 0 && spot < spots;
        }

        boolean hasThief(int thief) {
            return thief >= 0 && thief < thieves;
        }

        void addSpot(long name) {
            if (spots < MOST_SPOTS) {
                spotNames[spots] = name;
                spots++;
            }
        }

        void addThief(long name, int kind, int skill, int coins, int hourBits) {
            if (thieves < MOST_THIEVES) {
                thiefNames[thieves] = name;
                kinds[thieves] = kind;
                skills[thieves] = skill;
                hours[thieves] = hourBits;
                begin.coins[thieves] = coins;
                thieves++;
            }
        }

        void addExpert(long name, int spotBits) {
            if (experts < MOST_EXPERTS) {
                expertNames[experts] = name;
                sees[experts] = spotBits;
                experts++;
            }
        }

        private static int placeOf(long name, long[] names, int size) {
            for (int i = 0; i < size && i < names.length; i++) {
                if (names[i] == name) {
                    return i;
                }
            }
            return NONE;
        }

        boolean isTold(long name) {
            return placeOf(name, spotNames, spots) != NONE
                || placeOf(name, thiefNames, thieves) != NONE
                || placeOf(name, expertNames, experts) != NONE;
        }

        /** The SPOT that the token names; the reader goes on by itself, as more may be wrong with it. */
        int spotAt(Tape tape) {
            return toldAt(tape, spotNames, spots);
        }

        int takeThief(Tape tape) {
            int thief = toldAt(tape, thiefNames, thieves);
            tape.step();
            return thief;
        }

        private static int toldAt(Tape tape, long[] names, int size) {
            int place = NONE;
            if (!tape.isName()) {
                tape.fail(FAULT_STRAY);
            } else {
                place = placeOf(tape.packed(), names, size);
                if (place == NONE) {
                    tape.fail(FAULT_UNKNOWN);
                }
            }
            return place;
        }

        int thievesAt(int hour) {
            int there = 0;
            for (int thief = 0; thief < thieves; thief++) {
                there |= (hours[thief] >> hour & 1) << thief;
            }
            return there;
        }
    }

    /** Reads a GALLERY. */
    private static final class GalleryReader {
        private final Tape tape;
        private final LawReader laws;

        GalleryReader(Tape tape) {
            this.tape = tape;
            this.laws = new LawReader(tape);
        }

        int read(Gallery into) {
            into.clear();
            tape.open();
            for (int line = 0; line < MOST_SIGNS && tape.goesOn(); line++) {
                switch (tape.word()) {
                    case SPOT:
                        readSpot(into);
                        break;
                    case THIEF:
                        readThief(into);
                        break;
                    case COPY:
                        readCopy(into);
                        break;
                    case EXPERT:
                        readExpert(into);
                        break;
                    case WORTH:
                        readWorth(into);
                        break;
                    case HARD:
                        readHard(into);
                        break;
                    default:
                        tape.fail(FAULT_STRAY);
                        break;
                }
            }
            return tape.close();
        }

        private long takeNewName(Gallery into) {
            long name = tape.packed();
            if (!tape.isName()) {
                tape.fail(FAULT_STRAY);
            } else {
                tape.stepOrFail(!into.isTold(name), FAULT_AGAIN);
            }
            return name;
        }

        private void readSpot(Gallery into) {
            tape.stepOrFail(into.spots < MOST_SPOTS, FAULT_EXCESS);
            long name = takeNewName(into);
            tape.need(';');
            if (tape.fault == 0) {
                into.addSpot(name);
            }
        }

        private void readThief(Gallery into) {
            tape.stepOrFail(into.thieves < MOST_THIEVES, FAULT_EXCESS);
            long name = takeNewName(into);
            int kind = takeKind();
            tape.need(Word.SKILL);
            int skill = tape.takeNumberBelow(100);
            tape.need(Word.COINS);
            int coins = tape.takeNumberBelow(1000);
            tape.need(Word.AT);
            int hours = takeHours();
            tape.need(';');
            if (tape.fault == 0) {
                into.addThief(name, kind, skill, coins, hours);
            }
        }

        private int takeKind() {
            int kind = kindOf(tape.word());
            tape.stepOrFail(kind != NONE, FAULT_STRAY);
            return kind;
        }

        private static int kindOf(Word word) {
            switch (word) {
                case PLAIN_KIND:
                    return PLAIN;
                case BOLD_KIND:
                    return BOLD;
                case RESTORER_KIND:
                    return RESTORER;
                case BOY_KIND:
                    return BOY;
                default:
                    return NONE;
            }
        }

        private int takeHours() {
            int hours = takeHour(0);
            for (int i = 0; i < MOST_HOURS && tape.isNumber(); i++) {
                hours |= takeHour(hours);
            }
            return hours;
        }

        private int takeHour(int before) {
            if (!tape.isNumber()) {
                tape.fail(FAULT_STRAY);
                return 0;
            }
            if (tape.number() >= HOURS) {
                tape.fail(FAULT_RANGE);
                return 0;
            }
            int bit = 1 << tape.number();
            takeOnce(before, bit, MOST_HOURS);
            return bit;
        }

        private void takeOnce(int before, int bit, int most) {
            if ((before & bit) != 0) {
                tape.fail(FAULT_AGAIN);
            } else {
                tape.stepOrFail(Integer.bitCount(before) < most, FAULT_EXCESS);
            }
        }

        private int takeSpots(Gallery into, int most) {
            int spots = takeSpot(into, 0, most);
            for (int i = 0; i < most && tape.isName(); i++) {
                spots |= takeSpot(into, spots, most);
            }
            return spots;
        }

        private int takeSpot(Gallery into, int before, int most) {
            int spot = into.spotAt(tape);
            if (spot == NONE) {
                return 0;
            }
            takeOnce(before, 1 << spot, most);
            return 1 << spot;
        }

        private void readCopy(Gallery into) {
            tape.stepOrFail(into.begin.pieces < MOST_PIECES, FAULT_EXCESS);
            tape.need(Word.OF);
            int source = tape.takeNumberBelow(into.begin.pieces);
            tape.need(Word.SLIP);
            int slips = takeSpots(into, MOST_SLIPS);
            tape.need(Word.WITH);
            int thief = into.takeThief(tape);
            tape.need(';');
            if (tape.fault == 0) {
                into.begin.addPiece(source, slips, thief);
            }
        }

        private void readExpert(Gallery into) {
            tape.stepOrFail(into.experts < MOST_EXPERTS, FAULT_EXCESS);
            long name = takeNewName(into);
            tape.need(Word.SEES);
            int spots = takeSpots(into, MOST_SEEN);
            tape.need(';');
            if (tape.fault == 0) {
                into.addExpert(name, spots);
            }
        }

        private void readWorth(Gallery into) {
            tape.stepOrFail(into.worth == null, FAULT_AGAIN);
            into.worth = laws.read(Word.HUNG);
            tape.need(';');
        }

        private void readHard(Gallery into) {
            tape.stepOrFail(into.hard == null, FAULT_AGAIN);
            into.hard = laws.read(Word.PLACE);
            tape.need(';');
        }
    }

    /** The told NIGHTS. */
    private static final class Lines {
        private static final int STEAL = 0;
        private static final int PAINT = 1;
        private static final int SELL = 2;
        private static final int GUARD = 3;
        private static final int NIGHT = 4;

        private final int[] verbs = new int[MOST_LINES];
        private final int[] thieves = new int[MOST_LINES];
        private final int[] numbers = new int[MOST_LINES];
        private final int[] spots = new int[MOST_LINES];
        int size = 0;

        int read(Tape tape, Gallery told) {
            size = 0;
            tape.open();
            for (int line = 0; line <= MOST_LINES && tape.goesOn(); line++) {
                readLine(tape, told);
            }
            return tape.close();
        }

        private void readLine(Tape tape, Gallery told) {
            int verb = verbOf(tape.word());
            if (verb == NONE) {
                tape.fail(FAULT_STRAY);
            } else if (size >= MOST_LINES) {
                tape.fail(FAULT_EXCESS);
            } else {
                tape.step();
                verbs[size] = verb;
                readRest(tape, told, verb);
                tape.need(';');
                size++;
            }
        }

        private static int verbOf(Word word) {
            switch (word) {
                case STEAL:
                    return STEAL;
                case PAINT:
                    return PAINT;
                case SELL:
                    return SELL;
                case GUARD:
                    return GUARD;
                case NIGHT:
                    return NIGHT;
                default:
                    return NONE;
            }
        }

        private void readRest(Tape tape, Gallery told, int verb) {
            if (verb == GUARD) {
                numbers[size] = tape.takeNumberBelow(HOURS);
            } else if (verb != NIGHT) {
                thieves[size] = told.takeThief(tape);
                numbers[size] = tape.takeNumberBelow(MOST_PIECES);
            }
            if (verb == PAINT) {
                spots[size] = told.spotAt(tape);
                tape.step();
            }
        }

        /** Plays all lines; answers the first one that can't be. */
        int play(Hall hall, Gallery told) {
            int firstWrong = NONE;
            for (int line = 0; line < size && line < MOST_LINES; line++) {
                if (!playLine(line, hall, told) && firstWrong == NONE) {
                    firstWrong = line;
                }
            }
            return firstWrong;
        }

        private boolean playLine(int line, Hall hall, Gallery told) {
            switch (verbs[line]) {
                case STEAL:
                    return hall.swap(told, thieves[line], numbers[line]) != NONE;
                case PAINT:
                    return hall.copyOf(told, thieves[line], numbers[line], spots[line]) != NONE;
                case SELL:
                    return hall.sale(told, thieves[line], numbers[line]) != NONE;
                case GUARD:
                    return hall.setGuard(numbers[line]);
                default:
                    hall.passNight();
                    return true;
            }
        }
    }

    /** How things stand on a night: PIECES, who has which, coins, guards, and what was looked at. */
    private static final class Hall {
        final int[] off = new int[MOST_PIECES];
        final int[] own = new int[MOST_PIECES];
        final int[] source = new int[MOST_PIECES];
        final int[] hung = new int[MOST_PIECES];
        final int[] holder = new int[MOST_PIECES];
        final int[] coins = new int[MOST_THIEVES];
        int night = 0;
        int pieces = 1;
        int hanging = 0;
        int guards = 0;
        int looks = 0;
        int lookedOff = 0;
        int lookedRight = 0;

        Hall() {
            clear();
        }

        void clear() {
            off[0] = 0;
            own[0] = 0;
            hung[0] = 0;
            source[0] = NONE;
            holder[0] = HANGS;
            Arrays.fill(coins, 0);
            night = 0;
            pieces = 1;
            hanging = 0;
            guards = 0;
            looks = 0;
            lookedOff = 0;
            lookedRight = 0;
        }

        void takeAll(Hall other) {
            takeNights(other);
            looks = other.looks;
            lookedOff = other.lookedOff;
            lookedRight = other.lookedRight;
        }

        /** All but the LOOKS, which are not done by hand and so not undone. */
        void takeNights(Hall other) {
            System.arraycopy(other.off, 0, off, 0, MOST_PIECES);
            System.arraycopy(other.own, 0, own, 0, MOST_PIECES);
            System.arraycopy(other.source, 0, source, 0, MOST_PIECES);
            System.arraycopy(other.hung, 0, hung, 0, MOST_PIECES);
            System.arraycopy(other.holder, 0, holder, 0, MOST_PIECES);
            System.arraycopy(other.coins, 0, coins, 0, MOST_THIEVES);
            night = other.night;
            pieces = other.pieces;
            hanging = other.hanging;
            guards = other.guards;
        }

        void addPiece(int of, int slips, int thief) {
            if (pieces < MOST_PIECES && isThere(of)) {
                off[pieces] = off[of] ^ slips;
                own[pieces] = slips;
                source[pieces] = of;
                hung[pieces] = 0;
                holder[pieces] = thief;
                pieces++;
            }
        }

        boolean isThere(int piece) {
            return piece >= 0 && piece < pieces;
        }

        private boolean isHeld(Gallery told, int thief, int piece) {
            return told.hasThief(thief) && isThere(piece) && holder[piece] == thief;
        }

        int slipsOn(int piece) {
            return Integer.bitCount(off[piece]);
        }

        int apart(int one, int other) {
            return Integer.bitCount(off[one] ^ off[other]);
        }

        boolean joins(int one, int other, int piece) {
            boolean others = one != piece && other != piece;
            return others && ((off[piece] ^ off[one]) & (off[piece] ^ off[other])) == 0;
        }

        /** PIECES that look like one to whom sees these SPOTS. */
        int alike(int piece, int spots) {
            int like = 0;
            for (int other = 0; other < pieces; other++) {
                if (((off[piece] ^ off[other]) & spots) == 0) {
                    like |= 1 << other;
                }
            }
            return like;
        }

        boolean isFitting(int piece) {
            boolean asLooked = (off[piece] & lookedOff) == lookedOff && (off[piece] & lookedRight) == 0;
            return asLooked && holder[piece] != SOLD;
        }

        int heldBy(int thief) {
            int held = 0;
            for (int piece = 0; piece < pieces; piece++) {
                if (holder[piece] == thief) {
                    held |= 1 << piece;
                }
            }
            return held;
        }

        int allCoins() {
            int sum = 0;
            for (int thief = 0; thief < MOST_THIEVES; thief++) {
                sum += coins[thief];
            }
            return sum;
        }

        int worthOf(Gallery told, int piece) {
            int slips = slipsOn(piece);
            int value = 100 - slips * 10 - piece;
            if (told.worth != null) {
                value = told.worth.value(slips, piece, hung[piece]);
            }
            return Math.max(0, Math.min(MOST_WORTH, value));
        }

        int hardOf(Gallery told, int piece, int spot) {
            int slips = slipsOn(piece);
            return told.hard == null ? slips + spot : told.hard.value(slips, piece, spot);
        }

        private boolean canComeIn(Gallery told, int thief) {
            int kind = told.kinds[thief];
            boolean unseen = (told.hours[thief] & ~guards) != 0;
            return kind == BOLD || kind != BOY && unseen;
        }

        /** STEAL: what was taken. */
        int swap(Gallery told, int thief, int piece) {
            if (!isHeld(told, thief, piece) || !canComeIn(told, thief)) {
                return NONE;
            }
            int taken = hanging;
            holder[piece] = HANGS;
            holder[taken] = thief;
            hanging = piece;
            if (told.kinds[thief] == RESTORER) {
                off[taken] &= off[taken] - 1;
            }
            return taken;
        }

        /** PAINT: the new PIECE. */
        int copyOf(Gallery told, int thief, int piece, int spot) {
            if (!told.hasThief(thief) || !isThere(piece) || !told.hasSpot(spot) || pieces >= MOST_PIECES) {
                return NONE;
            }
            int copied = told.kinds[thief] == BOY ? HANGS : thief;
            if (holder[piece] != copied || told.skills[thief] < hardOf(told, piece, spot)) {
                return NONE;
            }
            addPiece(piece, 1 << spot, thief);
            return pieces - 1;
        }

        /** SELL: for how much. */
        int sale(Gallery told, int thief, int piece) {
            if (!isHeld(told, thief, piece)) {
                return NONE;
            }
            int paid = worthOf(told, piece);
            coins[thief] += paid;
            holder[piece] = SOLD;
            return paid;
        }

        boolean setGuard(int hour) {
            if (hour < 0 || hour >= HOURS || (guards >> hour & 1) != 0) {
                return false;
            }
            guards |= 1 << hour;
            return true;
        }

        void passNight() {
            hung[hanging]++;
            guards = 0;
            night++;
        }
    }

    /** All trees of some PIECES, as rows, the first row first. */
    private static final class Trees {
        static final int MOST = 6;
        private static final int ABOVE_ALL_SUMS = 1000;

        private final int[] members = new int[MOST];
        private final int[] row = new int[MOST];
        private final int[] firstRow = new int[MOST];
        private int size = 0;
        int least = 0;
        int found = 0;

        void grow(Hall hall, int pieces) {
            size = 0;
            for (int piece = 0; piece < hall.pieces; piece++) {
                if ((pieces >> piece & 1) != 0 && size < MOST) {
                    members[size] = piece;
                    size++;
                }
            }
            least = ABOVE_ALL_SUMS;
            found = 0;
            join(hall, 1, 0);
        }

        private void join(Hall hall, int place, int sum) {
            if (sum > least) {
                return;
            }
            if (place >= size || place >= MOST) {
                keep(sum);
                return;
            }
            for (int to = 0; to < size; to++) {
                if (!leadsBack(to, place)) {
                    row[place] = to;
                    join(hall, place + 1, sum + hall.apart(members[place], members[to]));
                }
            }
        }

        /** The way from a member leads through members joined so far to the one that is to be joined. */
        private boolean leadsBack(int from, int place) {
            int at = from;
            for (int i = 0; i < MOST && at > 0 && at < place; i++) {
                at = row[at];
            }
            return at == place;
        }

        private void keep(int sum) {
            if (sum < least) {
                least = sum;
                found = 0;
                System.arraycopy(row, 0, firstRow, 0, MOST);
            }
            found++;
        }

        int joinedTo(int place) {
            if (place < 1 || place >= size) {
                return NONE;
            }
            return members[firstRow[place]];
        }
    }

    /** All ways to give each copy a painter, counted by how often each THIEF has painted so far. */
    private static final class Painting {
        /** A THIEF's digit, base 3, tells how many copies he has: 0 to 2. */
        private static final int[] UNITS = {1, 3, 9, 27, 81};
        private static final int STATES = 243;

        private final int[] able = new int[MOST_PIECES];
        private final int[] ways = new int[STATES];
        private int pieces = 1;

        void weigh(Hall hall, Gallery told) {
            pieces = hall.pieces;
            for (int copy = 1; copy < pieces; copy++) {
                int spot = Integer.numberOfTrailingZeros(hall.own[copy]);
                able[copy] = skilled(told, hall.hardOf(told, hall.source[copy], spot));
            }
            countWays();
        }

        private static int skilled(Gallery told, int hard) {
            int thieves = 0;
            for (int thief = 0; thief < told.thieves; thief++) {
                if (told.skills[thief] >= hard) {
                    thieves |= 1 << thief;
                }
            }
            return thieves;
        }

        /** How many copies are given tells which one is next; a later state is always the greater number. */
        private void countWays() {
            for (int state = STATES - 1; state >= 0; state--) {
                int next = 1 + given(state);
                ways[state] = next == pieces ? 1 : 0;
                for (int thief = 0; thief < MOST_THIEVES && next < pieces; thief++) {
                    ways[state] += waysWith(state, next, thief);
                }
            }
        }

        private static int given(int state) {
            int sum = 0;
            for (int thief = 0; thief < MOST_THIEVES; thief++) {
                sum += state / UNITS[thief] % 3;
            }
            return sum;
        }

        private int waysWith(int state, int copy, int thief) {
            boolean can = (able[copy] >> thief & 1) != 0 && state / UNITS[thief] % 3 < 2;
            return can ? ways[state + UNITS[thief]] : 0;
        }

        int total() {
            return ways[0];
        }

        int inFirst(int piece) {
            int state = 0;
            for (int copy = 1; copy <= piece; copy++) {
                int thief = firstWith(state, copy);
                if (thief == NONE || copy == piece) {
                    return thief;
                }
                state += UNITS[thief];
            }
            return NONE;
        }

        private int firstWith(int state, int copy) {
            for (int thief = 0; thief < MOST_THIEVES; thief++) {
                if (waysWith(state, copy, thief) > 0) {
                    return thief;
                }
            }
            return NONE;
        }

        /** His in all ways, if there are no fewer when no other one may have painted it. */
        int inAll(int piece) {
            int thief = inFirst(piece);
            if (thief == NONE) {
                return NONE;
            }
            int all = total();
            able[piece] = 1 << thief;
            countWays();
            return total() == all ? thief : NONE;
        }
    }

    /** Nights by DRAWS, on a hall of their own, so that all stays as it was. */
    private static final class Years {
        final Hall hall = new Hall();
        private long drawn = 0;
        int thefts = 0;

        void pass(Hall from, Gallery told, int seed, int nights) {
            hall.takeNights(from);
            drawn = seed;
            thefts = 0;
            for (int night = 0; night < nights; night++) {
                if (told.thieves > 0) {
                    act(told, draw(told.thieves));
                }
                hall.passNight();
            }
        }

        private int draw(int below) {
            drawn = (drawn * 1103515245L + 12345L) % 2147483648L;
            return below > 0 ? (int) (drawn / 65536 % below) : 0;
        }

        private void act(Gallery told, int thief) {
            int deed = draw(4);
            int held = hall.heldBy(thief);
            // Of no PIECE the least number is 32 and the greatest -1: there are none such, so nothing can be.
            int least = Integer.numberOfTrailingZeros(held);
            int greatest = 31 - Integer.numberOfLeadingZeros(held);
            if (deed == 1) {
                hall.sale(told, thief, greatest);
            } else if (deed != 0) {
                thefts += hall.swap(told, thief, least) != NONE ? 1 : 0;
            } else if (told.spots > 0) {
                int copied = told.kinds[thief] == BOY ? hall.hanging : least;
                hall.copyOf(told, thief, copied, draw(told.spots));
            }
        }
    }
}
