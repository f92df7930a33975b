import java.util.ArrayList;
import java.util.HashMap;
import java.util.HashSet;
import java.util.List;
import java.util.Map;
import java.util.NoSuchElementException;
import java.util.Random;
import java.util.Set;
import java.util.TreeSet;

/**
 * Runs of drawn calls against a second telling of the document: a plain model that keeps sets and
 * lists, copies everything, and tries all cases. Any exception but rests' own fails the run.
 */
public final class RandomRunsTest {
    private static final int RUNS = 700;
    private static final int CALLS = 500;

    public static void main(String[] args) {
        int answers = 0;
        Set<Integer> faultKinds = new TreeSet<>();
        int told = 0;
        for (int run = 0; run < RUNS; run++) {
            Run one = new Run(run);
            String wrong = one.go();
            if (wrong != null) {
                System.out.println("run " + run + ": " + wrong);
                System.exit(1);
            }
            answers += one.calls;
            told += one.told;
            faultKinds.addAll(one.faultKinds);
        }
        System.out.println(answers + " answers alike, " + told + " galleries told, faults of kinds " + faultKinds);
        if (faultKinds.size() != 5 || told < RUNS / 2) {
            System.out.println("the draws miss something");
            System.exit(1);
        }
    }

    // ---- one run ----

    private static final class Run {
        private final Random random;
        private final PanelCopies x = new PanelCopies();
        private final Model model = new Model();
        private final List<String> log = new ArrayList<>();
        final Set<Integer> faultKinds = new HashSet<>();
        int calls = 0;
        int told = 0;

        Run(int seed) {
            random = new Random(seed);
        }

        String go() {
            try {
                while (calls < CALLS) {
                    String call = turn();
                    if (call != null) {
                        return call + "\n" + String.join("\n", log);
                    }
                }
                return null;
            } catch (RuntimeException e) {
                return "throws " + e + " at " + e.getStackTrace()[0] + "\n" + String.join("\n", log);
            }
        }

        private int number(int below) {
            if (random.nextInt(25) == 0) {
                int[] odd = {-1, -2, Integer.MIN_VALUE, Integer.MAX_VALUE, below, below + 1, 31, 32, 256, 1 << 24};
                return odd[random.nextInt(odd.length)];
            }
            return random.nextInt(below);
        }

        private String check(String call, Object got, Object want) {
            calls++;
            log.add(call + " = " + want);
            return got.equals(want) ? null : call + " answered " + got + ", due is " + want;
        }

        private String turn() {
            int draw = random.nextInt(100);
            if (calls == 0 || draw < 3) {
                return tell(random.nextInt(4) == 0 ? 1 : 0, random.nextInt(3) == 0);
            }
            if (draw < 8) {
                return tell(1, random.nextInt(3) == 0);
            }
            if (draw < 50) {
                return deed();
            }
            return draw < 75 ? question() : deeper();
        }

        private String tell(int what, boolean spoilt) {
            Texts texts = new Texts(random);
            String text = what == 0 ? texts.gallery() : texts.nights(model);
            if (spoilt) {
                text = texts.spoil(text);
            }
            for (int i = 0; i < text.length(); i += 24) {
                String part = text.substring(i, Math.min(i + 24, text.length()));
                String wrong = feed(part);
                if (wrong != null) {
                    return wrong;
                }
            }
            int got = what == 0 ? x.gallery() : x.nights();
            int want = what == 0 ? model.gallery() : model.nights();
            if (want != 0) {
                faultKinds.add(want % 16);
            } else if (what == 0) {
                told++;
            }
            return check((what == 0 ? "gallery() of " : "nights() of ") + text, got, want);
        }

        private String feed(String part) {
            long[] words = new long[3];
            for (int i = 0; i < 24; i++) {
                words[i / 8] = words[i / 8] << 8 | (i < part.length() ? part.charAt(i) : 0);
            }
            return check("feed(" + part + ")", x.feed(words[0], words[1], words[2]), model.feed(part));
        }

        private String deed() {
            int thief = number(5);
            int piece = number(8);
            int spot = number(8);
            // Mostly what a thief has, so that deeds can be.
            if (random.nextInt(4) != 0 && thief >= 0 && thief < model.now.coins.length) {
                for (int p = 0; p < model.now.pieces.size(); p++) {
                    boolean fit = model.kindOf(thief).equals("boy") && random.nextBoolean()
                        ? model.now.pieces.get(p).holder == 5 : model.now.pieces.get(p).holder == thief;
                    if (fit && random.nextInt(3) != 0) {
                        piece = p;
                    }
                }
            }
            switch (random.nextInt(12)) {
                case 0:
                case 1:
                case 2:
                    return check("steal " + thief + " " + piece, x.steal(thief, piece), model.steal(thief, piece));
                case 3:
                case 4:
                    return check("paint " + thief + " " + piece + " " + spot, x.paint(thief, piece, spot),
                        model.paint(thief, piece, spot));
                case 5:
                    return check("sell " + thief + " " + piece, x.sell(thief, piece), model.sell(thief, piece));
                case 6:
                case 7:
                    int hour = number(24);
                    return check("guard " + hour, x.guard(hour), model.guard(hour));
                case 8:
                    return check("night", x.night(), model.night());
                case 9:
                    return check("undo", x.undo(), model.undo());
                case 10:
                    boolean off = random.nextBoolean();
                    return check("look " + spot + " " + off, x.look(spot, off), model.look(spot, off));
                default:
                    int mark = number(4);
                    boolean back = random.nextBoolean();
                    return check("mark " + mark + " " + back, x.mark(mark, back), model.mark(mark, back));
            }
        }

        private String question() {
            int piece = number(8);
            int other = number(8);
            int thief = number(5);
            int what = number(5);
            switch (random.nextInt(11)) {
                case 0:
                case 1:
                    return check("piece " + piece + " " + what, x.piece(piece, what), model.piece(piece, what));
                case 2:
                    return check("distance " + piece + " " + other, x.distance(piece, other), model.distance(piece, other));
                case 3:
                    return check("thief " + thief + " " + what, x.thief(thief, what), model.thief(thief, what));
                case 4:
                    return check("kin " + piece, x.kin(piece), model.kin(piece));
                case 5:
                    return check("nearest " + piece, x.nearest(piece), model.nearest(piece));
                case 6:
                    return check("meet " + thief, x.meet(thief), model.meet(thief));
                case 7:
                    int two = number(2);
                    return check("joined " + piece + " " + two, x.joined(piece, two), model.joined(piece, two));
                case 8:
                    return check("fits", x.fits(), model.fits());
                case 9:
                    return random.nextBoolean() ? check("ask", x.ask(), model.ask()) : check("price", x.price(), model.price());
                default:
                    int count = number(12);
                    return check("count " + count, x.count(count), model.count(count));
            }
        }

        private String deeper() {
            int pieces = number(1 << model.now.pieces.size());
            int what = number(8);
            int small = number(10);
            switch (random.nextInt(10)) {
                case 0:
                    return check("tree " + pieces + " " + what, x.tree(pieces, what), model.tree(pieces, what));
                case 1:
                    return check("painters", x.painters(), model.painters());
                case 2:
                    boolean all = random.nextBoolean();
                    return check("painter " + what + " " + all, x.painter(what, all), model.painter(what, all));
                case 3:
                    int expert = number(4);
                    return check("knows " + expert + " " + pieces, x.knows(expert, pieces), model.knows(expert, pieces));
                case 4:
                    return random.nextBoolean()
                        ? check("depth " + pieces + " " + small, x.depth(pieces, small), model.depth(pieces, small))
                        : check("common " + pieces, x.common(pieces), model.common(pieces));
                case 5:
                    int one = number(10);
                    boolean own = random.nextBoolean();
                    int place = number(20) - 1;
                    return check("rests " + one + " " + small + " " + own + " " + place, rests(one, small, own, place),
                        model.rests(one, small, own, place));
                case 6:
                    int but = number(6);
                    return check("watch " + but, x.watch(but), model.watch(but));
                case 7:
                    int copies = number(31);
                    int spots = number(9);
                    return check("slips " + copies + " " + spots + " " + small, x.slips(copies, spots, small),
                        model.slips(copies, spots, small));
                case 8:
                    int three = number(3);
                    return check("judged " + three, x.judged(three), model.judged(three));
                default:
                    int seed = number(10000);
                    int nights = number(61);
                    int which = number(3);
                    return check("years " + seed + " " + nights + " " + which, x.years(seed, nights, which),
                        model.years(seed, nights, which));
            }
        }

        private String rests(int one, int other, boolean own, int what) {
            try {
                return "" + x.rests(one, other, own, what);
            } catch (NoSuchElementException e) {
                return "throws";
            }
        }
    }

    // ---- drawn texts ----

    private static final class Texts {
        private static final String[] WORDS = {"spot", "thief", "skill", "coins", "at", "copy", "of", "slip", "with",
            "expert", "sees", "worth", "hard", "steal", "paint", "sell", "guard", "night", "plain", "bold", "restorer",
            "boy", "not", "and", "or", "slips", "age", "hung", "place", "(", ")", "<", "=", "+", "-", "*", ";", "0", "1",
            "23", "24", "99", "100", "999", "1000", "9999", "10000", "abcdefgh", "abcdefghi", "!", "A", "sa", "sb", "ta",
            "tb", "ea", "zz"};
        private final Random random;
        private final StringBuilder text = new StringBuilder();

        Texts(Random random) {
            this.random = random;
        }

        private void put(String word) {
            boolean apart = text.length() > 0 && isLetterOrDigit(text.charAt(text.length() - 1))
                && isLetterOrDigit(word.charAt(0));
            if (apart || random.nextInt(6) == 0) {
                text.append(random.nextInt(8) == 0 ? "\n" : " ");
            }
            text.append(word);
        }

        private static boolean isLetterOrDigit(char c) {
            return Character.isLetterOrDigit(c);
        }

        private void puts(String words) {
            for (String word : words.split(" ")) {
                put(word);
            }
        }

        private List<String> some(List<String> of, int most) {
            List<String> left = new ArrayList<>(of);
            List<String> chosen = new ArrayList<>();
            int size = 1 + random.nextInt(Math.min(most, of.size()));
            for (int i = 0; i < size; i++) {
                chosen.add(left.remove(random.nextInt(left.size())));
            }
            return chosen;
        }

        private static List<String> names(String kind, int size) {
            List<String> names = new ArrayList<>();
            for (int i = 0; i < size; i++) {
                names.add(kind + (char) ('a' + i));
            }
            return names;
        }

        private static List<String> hours() {
            List<String> hours = new ArrayList<>();
            for (int i = 0; i < 24; i++) {
                hours.add("" + i);
            }
            return hours;
        }

        String gallery() {
            List<String> spots = names("s", random.nextInt(20) == 0 ? 9 : random.nextInt(9));
            List<String> thieves = names("t", random.nextInt(20) == 0 ? 6 : random.nextInt(6));
            String[] kinds = {"plain", "bold", "restorer", "boy"};
            boolean close = random.nextBoolean();
            for (String spot : spots) {
                puts("spot " + spot + " ;");
            }
            for (String thief : thieves) {
                List<String> hours = close ? hours().subList(0, 5) : hours();
                puts("thief " + thief + " " + kinds[random.nextInt(4)] + " skill " + random.nextInt(random.nextBoolean() ? 100 : 9)
                    + " coins " + random.nextInt(1000) + " at " + String.join(" ", some(hours, 4)) + " ;");
            }
            if (!spots.isEmpty() && !thieves.isEmpty()) {
                int copies = random.nextInt(20) == 0 ? 8 : random.nextInt(8);
                for (int i = 0; i < copies; i++) {
                    puts("copy of " + random.nextInt(i + 1) + " slip " + String.join(" ", some(spots, 3)) + " with "
                        + thieves.get(random.nextInt(thieves.size())) + " ;");
                }
            }
            if (!spots.isEmpty()) {
                int experts = random.nextInt(20) == 0 ? 5 : random.nextInt(5);
                for (String expert : names("e", experts)) {
                    puts("expert " + expert + " sees " + String.join(" ", some(spots, 4)) + " ;");
                }
            }
            if (random.nextInt(3) != 0) {
                law("worth", "hung");
            }
            if (random.nextInt(3) == 0) {
                law("hard", "place");
            }
            return text.toString();
        }

        private void law(String word, String third) {
            put(word);
            expression(third, 0);
            put(";");
        }

        private void expression(String third, int within) {
            int tests = 1 + random.nextInt(2) * random.nextInt(3);
            for (int i = 0; i < tests; i++) {
                if (i > 0) {
                    put(random.nextBoolean() ? "and" : "or");
                }
                sum(third, within);
                if (random.nextInt(4) == 0) {
                    put(random.nextBoolean() ? "<" : "=");
                    sum(third, within);
                }
            }
        }

        private void sum(String third, int within) {
            int parts = 1 + random.nextInt(3);
            for (int i = 0; i < parts; i++) {
                if (i > 0) {
                    put(new String[] {"+", "-", "*"}[random.nextInt(3)]);
                }
                part(third, within);
            }
        }

        private void part(String third, int within) {
            int most = random.nextInt(40) == 0 ? 6 : 5;
            int draw = within + 1 >= most ? 3 + random.nextInt(5) : random.nextInt(8);
            if (draw == 0) {
                put("not");
                part(third, within + 1);
            } else if (draw == 1) {
                put("(");
                expression(third, within + 1);
                put(")");
            } else if (draw < 5) {
                put("" + random.nextInt(new int[] {10, 200, 10000}[random.nextInt(3)]));
            } else {
                put(new String[] {"slips", "age", third}[random.nextInt(3)]);
            }
        }

        String nights(Model model) {
            int lines = random.nextInt(25) == 0 ? 31 : random.nextInt(20);
            for (int i = 0; i < lines; i++) {
                String thief = model.thiefNames.isEmpty() ? null
                    : model.thiefNames.get(random.nextInt(model.thiefNames.size()));
                int draw = thief == null ? 4 + random.nextInt(2) : random.nextInt(6);
                if (draw == 2 && model.spotNames.isEmpty()) {
                    draw = 5;
                }
                switch (draw) {
                    case 0:
                    case 1:
                        puts("steal " + thief + " " + random.nextInt(8) + " ;");
                        break;
                    case 2:
                        puts("paint " + thief + " " + random.nextInt(8) + " "
                            + model.spotNames.get(random.nextInt(model.spotNames.size())) + " ;");
                        break;
                    case 3:
                        puts("sell " + thief + " " + random.nextInt(8) + " ;");
                        break;
                    case 4:
                        puts("guard " + random.nextInt(24) + " ;");
                        break;
                    default:
                        puts("night ;");
                        break;
                }
            }
            return text.toString();
        }

        /** A word put in, left out or exchanged somewhere. */
        String spoil(String before) {
            if (before.isEmpty()) {
                return WORDS[random.nextInt(WORDS.length)];
            }
            int place = random.nextInt(before.length());
            String word = WORDS[random.nextInt(WORDS.length)];
            switch (random.nextInt(4)) {
                case 0:
                    return before.substring(0, place);
                case 1:
                    return before.substring(0, place) + " " + word + " " + before.substring(place);
                case 2:
                    return before.substring(0, place) + before.substring(place + 1);
                default:
                    String[] words = before.split("(?<=[ \n;])|(?=[ \n;])");
                    words[random.nextInt(words.length)] = word;
                    return String.join(" ", words);
            }
        }
    }

    // ---- the document told a second time ----

    private static final class Piece {
        Set<Integer> off = new TreeSet<>();
        Set<Integer> own = new TreeSet<>();
        int source;
        int hung;
        int holder;

        Piece copy() {
            Piece p = new Piece();
            p.off = new TreeSet<>(off);
            p.own = new TreeSet<>(own);
            p.source = source;
            p.hung = hung;
            p.holder = holder;
            return p;
        }
    }

    private static final class State {
        List<Piece> pieces = new ArrayList<>();
        int[] coins = new int[0];
        Set<Integer> guards = new TreeSet<>();
        List<int[]> looks = new ArrayList<>();
        int night;

        State copy() {
            State s = new State();
            for (Piece p : pieces) {
                s.pieces.add(p.copy());
            }
            s.coins = coins.clone();
            s.guards = new TreeSet<>(guards);
            s.looks = new ArrayList<>(looks);
            s.night = night;
            return s;
        }

        int hanging() {
            for (int i = 0; i < pieces.size(); i++) {
                if (pieces.get(i).holder == 5) {
                    return i;
                }
            }
            throw new IllegalStateException("nothing hangs");
        }

        int allCoins() {
            int sum = 0;
            for (int c : coins) {
                sum += c;
            }
            return sum;
        }
    }

    private static final class Fault extends RuntimeException {
        private static final long serialVersionUID = 1;
        final int code;

        Fault(int kind, int place) {
            code = kind + 16 * place;
        }
    }

    private static int bits(Iterable<Integer> set) {
        int bits = 0;
        for (int i : set) {
            bits |= 1 << i;
        }
        return bits;
    }

    private static final class Model {
        final List<String> spotNames = new ArrayList<>();
        final List<String> thiefNames = new ArrayList<>();
        final List<String> expertNames = new ArrayList<>();
        final List<String> kinds = new ArrayList<>();
        final List<Integer> skills = new ArrayList<>();
        final List<Set<Integer>> hours = new ArrayList<>();
        final List<Set<Integer>> sees = new ArrayList<>();
        List<String> worth = null;
        List<String> hard = null;
        State begin = new State();
        State now = new State();
        final List<State> past = new ArrayList<>();
        final Map<Integer, State> marks = new HashMap<>();
        List<String[]> lines = new ArrayList<>();
        String tape = "";

        Model() {
            Piece first = new Piece();
            first.source = -1;
            first.holder = 5;
            begin.pieces.add(first);
            now = begin.copy();
        }

        String kindOf(int thief) {
            return thief >= 0 && thief < kinds.size() ? kinds.get(thief) : "";
        }

        int feed(String part) {
            tape = tape + part;
            tape = tape.substring(0, Math.min(1000, tape.length()));
            return tape.length();
        }

        // -- reading: words with their places, the last one the empty end --

        private final List<String> words = new ArrayList<>();
        private final List<Integer> places = new ArrayList<>();
        private int at;

        private void split() {
            words.clear();
            places.clear();
            at = 0;
            java.util.regex.Matcher m = java.util.regex.Pattern.compile("[a-z]+|[0-9]+|[^ \n]").matcher(tape);
            while (m.find()) {
                words.add(m.group());
                places.add(m.start());
            }
            words.add("");
            places.add(tape.length());
            tape = "";
        }

        private String word() {
            return words.get(at);
        }

        private Fault fault(int kind) {
            return new Fault(kind, places.get(at));
        }

        private void must(String wanted) {
            if (!word().equals(wanted)) {
                throw fault(1);
            }
            at++;
        }

        private static final Set<String> RESERVED = Set.of("spot", "thief", "skill", "coins", "at", "copy", "of", "slip",
            "with", "expert", "sees", "worth", "hard", "steal", "paint", "sell", "guard", "night", "plain", "bold",
            "restorer", "boy", "not", "and", "or");

        private boolean isName() {
            return word().matches("[a-z]{1,8}") && !RESERVED.contains(word());
        }

        private boolean isNumber() {
            return word().matches("[0-9]{1,4}");
        }

        private int numberUpTo(int most) {
            if (!isNumber()) {
                throw fault(1);
            }
            int value = Integer.parseInt(word());
            if (value > most) {
                throw fault(4);
            }
            at++;
            return value;
        }

        private String newName() {
            if (!isName()) {
                throw fault(1);
            }
            String name = word();
            if (spotNames.contains(name) || thiefNames.contains(name) || expertNames.contains(name)) {
                throw fault(3);
            }
            at++;
            return name;
        }

        private int oldName(List<String> names) {
            if (!isName()) {
                throw fault(1);
            }
            int place = names.indexOf(word());
            if (place < 0) {
                throw fault(2);
            }
            return place;
        }

        private Set<Integer> spotsUpTo(int most, String end) {
            Set<Integer> spots = new TreeSet<>();
            do {
                int spot = oldName(spotNames);
                if (spots.contains(spot)) {
                    throw fault(3);
                }
                if (spots.size() == most) {
                    throw fault(5);
                }
                spots.add(spot);
                at++;
            } while (!word().equals(end));
            return spots;
        }

        private Set<Integer> hoursToEnd() {
            Set<Integer> set = new TreeSet<>();
            do {
                int hour = numberUpTo(23);
                at--;
                if (set.contains(hour)) {
                    throw fault(3);
                }
                if (set.size() == 4) {
                    throw fault(5);
                }
                set.add(hour);
                at++;
            } while (!word().equals(";"));
            return set;
        }

        private void room(int size, int most) {
            if (size >= most) {
                throw fault(5);
            }
            at++;
        }

        int gallery() {
            split();
            Model other = new Model();
            other.words.addAll(words);
            other.places.addAll(places);
            try {
                other.readGallery();
            } catch (Fault f) {
                return f.code;
            }
            take(spotNames, other.spotNames);
            take(thiefNames, other.thiefNames);
            take(expertNames, other.expertNames);
            take(kinds, other.kinds);
            take(skills, other.skills);
            take(hours, other.hours);
            take(sees, other.sees);
            worth = other.worth;
            hard = other.hard;
            begin = other.begin;
            now = begin.copy();
            past.clear();
            marks.clear();
            lines.clear();
            return 0;
        }

        private static <T> void take(List<T> into, List<T> from) {
            into.clear();
            into.addAll(from);
        }

        private void readGallery() {
            List<Integer> coins = new ArrayList<>();
            while (!word().isEmpty()) {
                String first = word();
                if (first.equals("spot")) {
                    room(spotNames.size(), 8);
                    spotNames.add(newName());
                } else if (first.equals("thief")) {
                    room(thiefNames.size(), 5);
                    thiefNames.add(newName());
                    if (!List.of("plain", "bold", "restorer", "boy").contains(word())) {
                        throw fault(1);
                    }
                    kinds.add(word());
                    at++;
                    must("skill");
                    skills.add(numberUpTo(99));
                    must("coins");
                    coins.add(numberUpTo(999));
                    must("at");
                    hours.add(hoursToEnd());
                } else if (first.equals("copy")) {
                    room(begin.pieces.size(), 8);
                    must("of");
                    int source = numberUpTo(begin.pieces.size() - 1);
                    must("slip");
                    Set<Integer> slips = spotsUpTo(3, "with");
                    must("with");
                    int thief = oldName(thiefNames);
                    at++;
                    begin.pieces.add(copied(begin, source, slips, thief));
                } else if (first.equals("expert")) {
                    room(expertNames.size(), 4);
                    expertNames.add(newName());
                    must("sees");
                    sees.add(spotsUpTo(4, ";"));
                } else if (first.equals("worth")) {
                    if (worth != null) {
                        throw fault(3);
                    }
                    worth = law("hung");
                } else if (first.equals("hard")) {
                    if (hard != null) {
                        throw fault(3);
                    }
                    hard = law("place");
                } else {
                    throw fault(1);
                }
                must(";");
            }
            begin.coins = new int[coins.size()];
            for (int i = 0; i < begin.coins.length; i++) {
                begin.coins[i] = coins.get(i);
            }
        }

        private List<String> law(String third) {
            at++;
            int from = at;
            readE(third, 0);
            return new ArrayList<>(words.subList(from, at));
        }

        /** What may come: a PART, or behind one a sign between; the TEST's own sign once. */
        private void readE(String third, int within) {
            boolean compared = false;
            while (true) {
                readPart(third, within);
                boolean compare = word().equals("<") || word().equals("=");
                boolean sums = word().equals("+") || word().equals("-") || word().equals("*");
                boolean tests = word().equals("and") || word().equals("or");
                if (compare && compared || !compare && !sums && !tests) {
                    return;
                }
                compared = !tests && (compared || compare);
                at++;
            }
        }

        private void readPart(String third, int within) {
            boolean fact = word().equals("slips") || word().equals("age") || word().equals(third);
            boolean part = fact || isNumber() || word().equals("not") || word().equals("(");
            if (!part) {
                throw fault(1);
            }
            if (within == 5) {
                throw fault(5);
            }
            String first = word();
            at++;
            if (first.equals("not")) {
                readPart(third, within + 1);
            } else if (first.equals("(")) {
                readE(third, within + 1);
                must(")");
            }
        }

        int nights() {
            split();
            List<String[]> read = new ArrayList<>();
            try {
                while (!word().isEmpty()) {
                    String verb = word();
                    if (!List.of("steal", "paint", "sell", "guard", "night").contains(verb)) {
                        throw fault(1);
                    }
                    room(read.size(), 30);
                    int thief = 0;
                    int number = 0;
                    int spot = 0;
                    if (verb.equals("guard")) {
                        number = numberUpTo(23);
                    } else if (!verb.equals("night")) {
                        thief = oldName(thiefNames);
                        at++;
                        number = numberUpTo(7);
                    }
                    if (verb.equals("paint")) {
                        spot = oldName(spotNames);
                        at++;
                    }
                    must(";");
                    read.add(new String[] {verb, "" + thief, "" + number, "" + spot});
                }
            } catch (Fault f) {
                return f.code;
            }
            lines = read;
            return 0;
        }

        // -- the value of an E: the words are split at the loosest sign, from the right --

        private static int value(List<String> e, Map<String, Integer> facts) {
            for (String[] signs : new String[][] {{"and", "or"}, {"<", "="}, {"+", "-"}, {"*"}}) {
                int deep = 0;
                for (int i = e.size() - 1; i > 0; i--) {
                    deep += e.get(i).equals(")") ? 1 : e.get(i).equals("(") ? -1 : 0;
                    if (deep == 0 && List.of(signs).contains(e.get(i))) {
                        int left = value(e.subList(0, i), facts);
                        int right = value(e.subList(i + 1, e.size()), facts);
                        return joined(e.get(i), left, right);
                    }
                }
            }
            String first = e.get(0);
            if (first.equals("not")) {
                return value(e.subList(1, e.size()), facts) == 0 ? 1 : 0;
            }
            if (first.equals("(")) {
                return value(e.subList(1, e.size() - 1), facts);
            }
            return facts.containsKey(first) ? facts.get(first) : Integer.parseInt(first);
        }

        private static int joined(String sign, int left, int right) {
            switch (sign) {
                case "and":
                    return left != 0 && right != 0 ? 1 : 0;
                case "or":
                    return left != 0 || right != 0 ? 1 : 0;
                case "<":
                    return left < right ? 1 : 0;
                case "=":
                    return left == right ? 1 : 0;
                case "+":
                    return left + right;
                case "-":
                    return left - right;
                default:
                    return left * right;
            }
        }

        private int worthOf(State s, int piece) {
            Piece p = s.pieces.get(piece);
            int value = worth == null ? 100 - p.off.size() * 10 - piece
                : value(worth, Map.of("slips", p.off.size(), "age", piece, "hung", p.hung));
            return value < 0 ? 0 : value > 999 ? 999 : value;
        }

        private int hardOf(State s, int piece, int spot) {
            int slips = s.pieces.get(piece).off.size();
            return hard == null ? slips + spot : value(hard, Map.of("slips", slips, "age", piece, "place", spot));
        }

        private static Piece copied(State s, int source, Set<Integer> slips, int thief) {
            Piece p = new Piece();
            p.off = new TreeSet<>(s.pieces.get(source).off);
            for (int spot : slips) {
                if (!p.off.remove(spot)) {
                    p.off.add(spot);
                }
            }
            p.own = new TreeSet<>(slips);
            p.source = source;
            p.holder = thief;
            return p;
        }

        // -- deeds, on any state --

        private boolean has(State s, int thief, int piece) {
            return thief >= 0 && thief < thiefNames.size() && piece >= 0 && piece < s.pieces.size()
                && s.pieces.get(piece).holder == thief;
        }

        private int steal(State s, int thief, int piece) {
            if (!has(s, thief, piece) || kindOf(thief).equals("boy")) {
                return -1;
            }
            if (!kindOf(thief).equals("bold") && s.guards.containsAll(hours.get(thief))) {
                return -1;
            }
            int taken = s.hanging();
            s.pieces.get(taken).holder = thief;
            s.pieces.get(piece).holder = 5;
            Set<Integer> off = s.pieces.get(taken).off;
            if (kindOf(thief).equals("restorer") && !off.isEmpty()) {
                off.remove(off.iterator().next());
            }
            return taken;
        }

        private int paint(State s, int thief, int piece, int spot) {
            boolean named = thief >= 0 && thief < thiefNames.size() && spot >= 0 && spot < spotNames.size()
                && piece >= 0 && piece < s.pieces.size();
            if (!named || s.pieces.size() >= 8) {
                return -1;
            }
            boolean may = kindOf(thief).equals("boy") ? s.hanging() == piece : has(s, thief, piece);
            if (!may || skills.get(thief) < hardOf(s, piece, spot)) {
                return -1;
            }
            s.pieces.add(copied(s, piece, Set.of(spot), thief));
            return s.pieces.size() - 1;
        }

        private int sell(State s, int thief, int piece) {
            if (!has(s, thief, piece)) {
                return -1;
            }
            int paid = worthOf(s, piece);
            s.coins[thief] += paid;
            s.pieces.get(piece).holder = 6;
            return paid;
        }

        private boolean guard(State s, int hour) {
            return hour >= 0 && hour < 24 && s.guards.add(hour);
        }

        private void night(State s) {
            s.pieces.get(s.hanging()).hung++;
            s.guards.clear();
            s.night++;
        }

        private void keep(State before) {
            past.add(before);
            if (past.size() > 16) {
                past.remove(0);
            }
        }

        int steal(int thief, int piece) {
            State before = now.copy();
            int answer = steal(now, thief, piece);
            if (answer != -1) {
                keep(before);
            }
            return answer;
        }

        int paint(int thief, int piece, int spot) {
            State before = now.copy();
            int answer = paint(now, thief, piece, spot);
            if (answer != -1) {
                keep(before);
            }
            return answer;
        }

        int sell(int thief, int piece) {
            State before = now.copy();
            int answer = sell(now, thief, piece);
            if (answer != -1) {
                keep(before);
            }
            return answer;
        }

        boolean guard(int hour) {
            State before = now.copy();
            boolean answer = guard(now, hour);
            if (answer) {
                keep(before);
            }
            return answer;
        }

        int night() {
            keep(now.copy());
            night(now);
            return now.night;
        }

        boolean undo() {
            if (past.isEmpty()) {
                return false;
            }
            List<int[]> looks = now.looks;
            now = past.remove(past.size() - 1);
            now.looks = looks;
            return true;
        }

        boolean mark(int mark, boolean back) {
            if (mark < 0 || mark > 3 || back && !marks.containsKey(mark)) {
                return false;
            }
            if (back) {
                now = marks.get(mark).copy();
                past.clear();
            } else {
                marks.put(mark, now.copy());
            }
            return true;
        }

        int judged(int what) {
            State s = begin.copy();
            int first = -1;
            for (int i = 0; i < lines.size(); i++) {
                String[] line = lines.get(i);
                int thief = Integer.parseInt(line[1]);
                int number = Integer.parseInt(line[2]);
                boolean can = true;
                if (line[0].equals("steal")) {
                    can = steal(s, thief, number) != -1;
                } else if (line[0].equals("paint")) {
                    can = paint(s, thief, number, Integer.parseInt(line[3])) != -1;
                } else if (line[0].equals("sell")) {
                    can = sell(s, thief, number) != -1;
                } else if (line[0].equals("guard")) {
                    can = guard(s, number);
                } else {
                    night(s);
                }
                first = !can && first == -1 ? i : first;
            }
            return what == 0 ? first : what == 1 ? s.hanging() : what == 2 ? s.allCoins() : -2;
        }

        // -- questions --

        private boolean isPiece(int piece) {
            return piece >= 0 && piece < now.pieces.size();
        }

        private boolean arePieces(int pieces) {
            for (int i = 0; i < 32; i++) {
                if ((pieces >> i & 1) != 0 && !isPiece(i)) {
                    return false;
                }
            }
            return true;
        }

        int piece(int piece, int what) {
            if (!isPiece(piece)) {
                return -1;
            }
            Piece p = now.pieces.get(piece);
            return what == 0 ? bits(p.off) : what == 1 ? p.holder : what == 2 ? p.source : what == 3 ? p.hung
                : what == 4 ? worthOf(now, piece) : -1;
        }

        int distance(int one, int other) {
            if (!isPiece(one) || !isPiece(other)) {
                return -1;
            }
            Set<Integer> either = new HashSet<>(now.pieces.get(one).off);
            either.addAll(now.pieces.get(other).off);
            Set<Integer> both = new HashSet<>(now.pieces.get(one).off);
            both.retainAll(now.pieces.get(other).off);
            return either.size() - both.size();
        }

        int thief(int thief, int what) {
            if (thief < 0 || thief >= thiefNames.size()) {
                return -1;
            }
            Set<Integer> held = new TreeSet<>();
            for (int i = 0; i < now.pieces.size(); i++) {
                if (now.pieces.get(i).holder == thief) {
                    held.add(i);
                }
            }
            return what == 0 ? List.of("plain", "bold", "restorer", "boy").indexOf(kinds.get(thief))
                : what == 1 ? skills.get(thief) : what == 2 ? now.coins[thief] : what == 3 ? bits(hours.get(thief))
                : what == 4 ? bits(held) : -1;
        }

        int count(int what) {
            int[] counts = {spotNames.size(), now.pieces.size(), thiefNames.size(), expertNames.size(), now.night,
                now.hanging(), now.allCoins(), bits(now.guards), lines.size(), now.looks.size(), past.size(),
                tape.length()};
            return what >= 0 && what < counts.length ? counts[what] : -1;
        }

        int kin(int piece) {
            if (!isPiece(piece)) {
                return -1;
            }
            int kin = 0;
            for (int i = 0; i < now.pieces.size(); i++) {
                for (int up = now.pieces.get(i).source; up != -1; up = now.pieces.get(up).source) {
                    if (up == piece) {
                        kin |= 1 << i;
                    }
                }
            }
            return kin;
        }

        int nearest(int piece) {
            if (!isPiece(piece)) {
                return -1;
            }
            for (int far = 0; far <= 8; far++) {
                for (int i = 0; i < now.pieces.size(); i++) {
                    if (i != piece && now.pieces.get(i).holder != 6 && distance(i, piece) == far) {
                        return i;
                    }
                }
            }
            return -1;
        }

        int meet(int thief) {
            if (thief < 0 || thief >= thiefNames.size()) {
                return -1;
            }
            int met = 0;
            for (int other = 0; other < thiefNames.size(); other++) {
                Set<Integer> common = new HashSet<>(hours.get(thief));
                common.retainAll(hours.get(other));
                common.removeAll(now.guards);
                if (other != thief && !common.isEmpty()) {
                    met |= 1 << other;
                }
            }
            return met;
        }

        int joined(int piece, int what) {
            if (!isPiece(piece) || what < 0 || what > 1) {
                return -2;
            }
            List<Integer> pairs = new ArrayList<>();
            for (int a = 0; a < now.pieces.size(); a++) {
                for (int b = a + 1; b < now.pieces.size(); b++) {
                    boolean all = a != piece && b != piece;
                    for (int spot = 0; spot < spotNames.size(); spot++) {
                        boolean off = isOff(piece, spot);
                        all = all && (isOff(a, spot) == off || isOff(b, spot) == off);
                    }
                    if (all) {
                        pairs.add(a * 8 + b);
                    }
                }
            }
            return what == 0 ? pairs.size() : pairs.isEmpty() ? -1 : pairs.get(0);
        }

        private boolean isOff(int piece, int spot) {
            return now.pieces.get(piece).off.contains(spot);
        }

        boolean look(int spot, boolean off) {
            if (spot < 0 || spot >= spotNames.size() || now.looks.size() >= 8) {
                return false;
            }
            now.looks.add(new int[] {spot, off ? 1 : 0});
            return true;
        }

        private List<Integer> fitting() {
            List<Integer> fit = new ArrayList<>();
            for (int i = 0; i < now.pieces.size(); i++) {
                boolean all = now.pieces.get(i).holder != 6;
                for (int[] look : now.looks) {
                    all = all && isOff(i, look[0]) == (look[1] == 1);
                }
                if (all) {
                    fit.add(i);
                }
            }
            return fit;
        }

        int fits() {
            return bits(fitting());
        }

        int ask() {
            List<Integer> fit = fitting();
            for (int least = 0; least < fit.size(); least++) {
                for (int spot = 0; spot < spotNames.size(); spot++) {
                    int off = 0;
                    for (int i : fit) {
                        off += isOff(i, spot) ? 1 : 0;
                    }
                    if (Math.max(off, fit.size() - off) == least) {
                        return spot;
                    }
                }
            }
            return -1;
        }

        int price() {
            List<Integer> fit = fitting();
            long sum = 0;
            for (int i : fit) {
                sum += worthOf(now, i);
            }
            return fit.isEmpty() ? -1 : (int) (sum * 1000 / fit.size());
        }

        /** All rows of neighbours, those kept in which each one's way ends at the first. */
        int tree(int pieces, int what) {
            List<Integer> of = new ArrayList<>();
            for (int i = 0; i < 32; i++) {
                if ((pieces >> i & 1) != 0) {
                    of.add(i);
                }
            }
            int n = of.size();
            if (!arePieces(pieces) || n < 1 || n > 6 || what < 0) {
                return -1;
            }
            int all = 1;
            for (int i = 1; i < n; i++) {
                all *= n;
            }
            int least = Integer.MAX_VALUE;
            int found = 0;
            int[] best = null;
            for (int code = 0; code < all; code++) {
                int[] row = new int[n];
                int rest = code;
                for (int i = n - 1; i >= 1; i--) {
                    row[i] = rest % n;
                    rest /= n;
                }
                int sum = 0;
                boolean tree = true;
                for (int i = 1; i < n; i++) {
                    int to = i;
                    for (int step = 0; step < n; step++) {
                        to = row[to];
                    }
                    tree = tree && to == 0;
                    sum += distance(of.get(i), of.get(row[i]));
                }
                if (tree && sum < least) {
                    least = sum;
                    found = 0;
                    best = row;
                }
                found += tree && sum == least ? 1 : 0;
            }
            return what == 0 ? least : what == 1 ? found : what - 1 < n ? of.get(best[what - 1]) : -1;
        }

        private List<int[]> ways() {
            List<int[]> ways = new ArrayList<>();
            giveNext(new int[now.pieces.size()], 1, ways);
            return ways;
        }

        private void giveNext(int[] given, int copy, List<int[]> ways) {
            if (copy == given.length) {
                ways.add(given.clone());
                return;
            }
            Piece p = now.pieces.get(copy);
            int hardness = hardOf(now, p.source, p.own.iterator().next());
            for (int thief = 0; thief < thiefNames.size(); thief++) {
                int has = 0;
                for (int i = 1; i < copy; i++) {
                    has += given[i] == thief ? 1 : 0;
                }
                if (has < 2 && skills.get(thief) >= hardness) {
                    given[copy] = thief;
                    giveNext(given, copy + 1, ways);
                }
            }
        }

        int painters() {
            return ways().size();
        }

        int painter(int piece, boolean all) {
            if (!isPiece(piece) || piece == 0) {
                return -1;
            }
            List<int[]> ways = ways();
            if (ways.isEmpty()) {
                return -1;
            }
            int first = ways.get(0)[piece];
            for (int[] way : ways) {
                if (all && way[piece] != first) {
                    return -1;
                }
            }
            return first;
        }

        private Set<Integer> knows(int expert, Set<Integer> some) {
            Set<Integer> where = new TreeSet<>();
            for (int p = 0; p < now.pieces.size(); p++) {
                boolean knows = true;
                for (int q = 0; q < now.pieces.size(); q++) {
                    boolean alike = true;
                    for (int spot : sees.get(expert)) {
                        alike = alike && isOff(p, spot) == isOff(q, spot);
                    }
                    knows = knows && (!alike || some.contains(q));
                }
                if (knows) {
                    where.add(p);
                }
            }
            return where;
        }

        private Set<Integer> set(int bits) {
            Set<Integer> set = new TreeSet<>();
            for (int i = 0; i < 8; i++) {
                if ((bits >> i & 1) != 0) {
                    set.add(i);
                }
            }
            return set;
        }

        int knows(int expert, int pieces) {
            if (expert < 0 || expert >= expertNames.size() || !arePieces(pieces)) {
                return -1;
            }
            return bits(knows(expert, set(pieces)));
        }

        private Set<Integer> allKnow(Set<Integer> some) {
            if (expertNames.isEmpty()) {
                return some;
            }
            Set<Integer> where = set(255);
            for (int expert = 0; expert < expertNames.size(); expert++) {
                where.retainAll(knows(expert, some));
            }
            return where;
        }

        int depth(int pieces, int depth) {
            if (!arePieces(pieces) || depth < 1 || depth > 9) {
                return -1;
            }
            Set<Integer> some = set(pieces);
            for (int i = 0; i < depth; i++) {
                some = allKnow(some);
            }
            return bits(some);
        }

        int common(int pieces) {
            if (!arePieces(pieces)) {
                return -1;
            }
            Set<Integer> at = allKnow(set(pieces));
            Set<Integer> common = new TreeSet<>(at);
            for (int i = 0; i < 300; i++) {
                at = allKnow(at);
                common.retainAll(at);
            }
            return bits(common);
        }

        private static int[] gains(int one, int other, boolean own, int a, int b) {
            if (a >= b) {
                return new int[] {one - (own ? a : b), 0};
            }
            return new int[] {0, other - (own ? b : a)};
        }

        String rests(int one, int other, boolean own, int what) {
            if (one < 0 || one > 9 || other < 0 || other > 9) {
                return "throws";
            }
            List<Integer> rests = new ArrayList<>();
            for (int a = 0; a < 10; a++) {
                for (int b = 0; b < 10; b++) {
                    int[] gain = gains(one, other, own, a, b);
                    boolean rest = true;
                    for (int c = 0; c < 10; c++) {
                        rest = rest && gains(one, other, own, c, b)[0] <= gain[0];
                        rest = rest && gains(one, other, own, a, c)[1] <= gain[1];
                    }
                    if (rest) {
                        rests.add(10 * a + b);
                    }
                }
            }
            return what == -1 ? "" + rests.size() : what >= 0 && what < rests.size() ? "" + rests.get(what) : "throws";
        }

        int watch(int but) {
            if (but < 0 || but > 5) {
                return -1;
            }
            TreeSet<Integer> used = new TreeSet<>();
            for (Set<Integer> h : hours) {
                used.addAll(h);
            }
            List<Integer> list = new ArrayList<>(used);
            for (int size = 0; size <= 5; size++) {
                int best = watchOf(list, 0, size, 0, but);
                if (best != -1) {
                    return best;
                }
            }
            return -1;
        }

        private int watchOf(List<Integer> list, int from, int size, int set, int but) {
            if (size == 0) {
                int unseen = 0;
                for (Set<Integer> h : hours) {
                    unseen += (bits(h) & set) == 0 ? 1 : 0;
                }
                return unseen <= but ? set : -1;
            }
            int best = -1;
            for (int i = from; i < list.size(); i++) {
                int one = watchOf(list, i + 1, size - 1, set | 1 << list.get(i), but);
                if (one != -1 && (best == -1 || one < best)) {
                    best = one;
                }
            }
            return best;
        }

        int slips(int copies, int spots, int off) {
            if (copies < 0 || copies > 30 || spots < 1 || spots > 8 || off < 0 || off > spots) {
                return -1;
            }
            return (int) chance(copies, spots, off, new HashMap<>());
        }

        private static long chance(int copies, int spots, int off, Map<Integer, Long> known) {
            if (off < 0 || off > spots) {
                return 0;
            }
            if (copies == 0) {
                return off == 0 ? 1000000 : 0;
            }
            int key = copies * 100 + off;
            if (!known.containsKey(key)) {
                long fromLess = chance(copies - 1, spots, off - 1, known) * (spots - off + 1) / spots;
                long fromMore = chance(copies - 1, spots, off + 1, known) * (off + 1) / spots;
                known.put(key, fromLess + fromMore);
            }
            return known.get(key);
        }

        private long g;

        private int draw(int below) {
            g = g * 1103515245L + 12345L & 0x7FFFFFFFL;
            return (int) ((g >> 16) % below);
        }

        int years(int seed, int nights, int what) {
            if (seed < 0 || seed > 9999 || nights < 1 || nights > 60 || what < 0 || what > 2) {
                return -1;
            }
            State s = now.copy();
            g = seed;
            int thefts = 0;
            for (int i = 0; i < nights; i++) {
                if (!thiefNames.isEmpty()) {
                    int thief = draw(thiefNames.size());
                    int deed = draw(4);
                    int least = -1;
                    int greatest = -1;
                    for (int p = 0; p < s.pieces.size(); p++) {
                        if (s.pieces.get(p).holder == thief) {
                            least = least == -1 ? p : least;
                            greatest = p;
                        }
                    }
                    if (deed == 0 && !spotNames.isEmpty()) {
                        int spot = draw(spotNames.size());
                        paint(s, thief, kindOf(thief).equals("boy") ? s.hanging() : least, spot);
                    } else if (deed == 1) {
                        sell(s, thief, greatest);
                    } else if (deed > 1 && steal(s, thief, least) != -1) {
                        thefts++;
                    }
                }
                night(s);
            }
            return what == 0 ? thefts : what == 1 ? s.allCoins() : s.pieces.get(s.hanging()).off.size();
        }
    }
}
