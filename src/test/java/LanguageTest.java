import java.lang.management.ManagementFactory;
import java.lang.reflect.Constructor;
import java.lang.reflect.Field;
import java.lang.reflect.Method;
import java.lang.reflect.Modifier;
import java.nio.file.Files;
import java.nio.file.Path;
import java.util.ArrayList;
import java.util.List;
import java.util.Set;
import java.util.TreeSet;

/** The rules of LANGUAGE.md that can be seen from the class and from its text, and the room that a run takes. */
public final class LanguageTest {
    private static final Set<String> FACE = Set.of(
        "int feed(long,long,long)", "int gallery()", "int nights()", "int piece(int,int)", "int distance(int,int)",
        "int thief(int,int)", "int steal(int,int)", "int paint(int,int,int)", "int sell(int,int)", "boolean guard(int)",
        "int night()", "boolean undo()", "int judged(int)", "int tree(int,int)", "int kin(int)", "int nearest(int)",
        "int meet(int)", "int joined(int,int)", "boolean look(int,boolean)", "int fits()", "int ask()", "int price()",
        "int painters()", "int painter(int,boolean)", "int knows(int,int)", "int depth(int,int)", "int common(int)",
        "int rests(int,int,boolean,int)", "int watch(int)", "int slips(int,int,int)", "int years(int,int,int)",
        "boolean mark(int,boolean)", "int count(int)");
    private static final int ROOM = 2_000_000;
    private static final List<String> wrong = new ArrayList<>();

    public static void main(String[] args) throws Exception {
        face();
        insides();
        text(Files.readString(Path.of("src/main/java/PanelCopies.java")));
        room();
        wrong.forEach(System.out::println);
        System.out.println(wrong.isEmpty() ? "the rules are kept" : wrong.size() + " rules are not kept");
        if (!wrong.isEmpty()) {
            System.exit(1);
        }
    }

    private static void need(boolean kept, String rule) {
        if (!kept) {
            wrong.add(rule);
        }
    }

    private static String shape(Method method) {
        List<String> types = new ArrayList<>();
        for (Class<?> type : method.getParameterTypes()) {
            types.add(type.getName());
        }
        return method.getReturnType().getName() + " " + method.getName() + "(" + String.join(",", types) + ")";
    }

    private static void face() {
        Set<String> open = new TreeSet<>();
        Set<String> names = new TreeSet<>();
        for (Method method : PanelCopies.class.getDeclaredMethods()) {
            if (!Modifier.isPrivate(method.getModifiers())) {
                open.add(shape(method));
                names.add(method.getName());
                need(Modifier.isPublic(method.getModifiers()), "1: not public: " + shape(method));
            }
        }
        need(open.equals(new TreeSet<>(FACE)), "1: the face is " + open);
        need(declared().equals("rests java.util.NoSuchElementException"), "6: declared exceptions: " + declared());
        need(Modifier.isFinal(PanelCopies.class.getModifiers()), "1: the class is not final");
        Constructor<?>[] constructors = PanelCopies.class.getDeclaredConstructors();
        need(constructors.length == 1 && Modifier.isPublic(constructors[0].getModifiers()), "1: constructors");
        for (Field field : PanelCopies.class.getDeclaredFields()) {
            boolean isPrivate = Modifier.isPrivate(field.getModifiers());
            need(isPrivate || field.getName().equals("NONE"), "1: not private: " + field);
        }
        for (Class<?> inside : PanelCopies.class.getDeclaredClasses()) {
            for (Method method : inside.getDeclaredMethods()) {
                need(!names.contains(method.getName()), "1: named as a public one: " + method);
            }
        }
        for (Method method : PanelCopies.class.getDeclaredMethods()) {
            boolean hidden = Modifier.isPrivate(method.getModifiers()) && names.contains(method.getName());
            need(!hidden, "1: named as a public one: " + method);
        }
    }

    private static String declared() {
        List<String> all = new ArrayList<>();
        for (Method method : PanelCopies.class.getDeclaredMethods()) {
            for (Class<?> thrown : method.getExceptionTypes()) {
                all.add(method.getName() + " " + thrown.getName());
            }
        }
        return String.join(", ", all);
    }

    private static void insides() {
        List<Class<?>> all = new ArrayList<>(List.of(PanelCopies.class.getDeclaredClasses()));
        need(all.size() < 12, "11: classes: " + (all.size() + 1));
        all.add(PanelCopies.class);
        for (Class<?> one : all) {
            int fields = 0;
            for (Field field : one.getDeclaredFields()) {
                if (Modifier.isStatic(field.getModifiers())) {
                    need(Modifier.isFinal(field.getModifiers()), "5: not final: " + field);
                } else {
                    fields++;
                }
            }
            need(fields <= 20, "11: " + fields + " fields: " + one);
            for (Method method : one.getDeclaredMethods()) {
                need(method.getParameterCount() <= 7, "11: parameters: " + method);
            }
        }
    }

    private static void text(String text) {
        String[] banned = {"->", "::", "try", "catch", "finally", "synchronized", "assert", "hashCode", "toString",
            "Exact", "static {", "java.io", "System.out", "Random", "nanoTime", "double", "float", "Integer.MAX_VALUE"};
        String code = text.replaceAll("(?s)/\\*.*?\\*/", "").replaceAll("//[^\n]*", "");
        for (String word : banned) {
            boolean isWord = Character.isLetter(word.charAt(0));
            boolean there = isWord ? code.matches("(?s).*\\b" + word.replace(".", "\\.").replace("{", "\\{") + ".*")
                : code.contains(word);
            need(!there, "the text has " + word);
        }
        for (int i = 0; i < text.length(); i++) {
            need(text.charAt(i) < 128, "4: sign at " + i);
        }
        int from = 0;
        String[] lines = text.split("\n");
        for (int i = 0; i < lines.length; i++) {
            boolean opens = lines[i].endsWith("{") && lines[i].contains("(") && lines[i].matches(" {4}( {4})?\\w.*");
            from = opens && !lines[i].trim().matches("(if|for|while|switch|do)\\b.*") ? i : from;
            boolean closes = lines[i].matches(" {4}( {4})?}");
            need(!closes || from == 0 || i - from <= 60, "11: long method at line " + (from + 1));
            from = closes ? 0 : from;
        }
    }

    private static long allocated() {
        com.sun.management.ThreadMXBean threads = (com.sun.management.ThreadMXBean) ManagementFactory.getThreadMXBean();
        return threads.getThreadAllocatedBytes(Thread.currentThread().getId());
    }

    /** A whole run of the dearest calls stays far within the room of 7.3 million elements. */
    private static void room() {
        useAll();
        long before = allocated();
        useAll();
        long used = allocated() - before;
        need(used < ROOM, "12: a run takes " + used + " bytes");
    }

    private static void useAll() {
        PanelCopies x = new PanelCopies();
        int sum = 0;
        for (int i = 0; i < 34; i++) {
            x.feed(0x776F727468203120L, 0x2B20736C69707320L, 0x2A2061676520203BL);
            sum += x.gallery() + x.nights() + x.night() + x.tree(1, 0) + x.painters() + x.watch(0) + x.price();
            sum += x.slips(30, 8, 4) + x.years(1, 60, 1) + x.rests(9, 9, false, -1) + x.judged(0) + x.common(1);
            x.mark(0, false);
            x.undo();
        }
        need(sum != 0, "nothing was used");
    }
}
