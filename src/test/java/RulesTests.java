import java.io.IOException;
import java.lang.reflect.Field;
import java.lang.reflect.Method;
import java.lang.reflect.Modifier;
import java.nio.file.Files;
import java.nio.file.Paths;
import java.util.ArrayList;
import java.util.Arrays;
import java.util.List;
import java.util.TreeSet;
import java.util.regex.Matcher;
import java.util.regex.Pattern;

/** The face of the document, and what of LANGUAGE.md can be looked up by machine. */
public final class RulesTests {
    private static final String FACE = "all(2) ask(0) back(1) brings(2) count(1) cut(1) deal(1) drop(1) erase(0) fault(0) fit(0) "
        + "forget(0) grid(0) island(1) keep(1) lay(3) line(2) lost(1) mend(1) meter(2) offer(2) put(2) seen(2) spoil(1) "
        + "take(2) tray(1) undo(0) weak(1) write(1)";
    private static int wrong = 0;

    public static void main(String[] args) throws IOException {
        String source = new String(Files.readAllBytes(Paths.get("src/main/java/MeterDesk.java")), "UTF-8");
        face();
        members(MeterDesk.class);
        for (Class<?> inside : MeterDesk.class.getDeclaredClasses()) {
            members(inside);
            check(Modifier.isStatic(inside.getModifiers()) && !Modifier.isPublic(inside.getModifiers()), inside + " is static, not public");
        }
        check(MeterDesk.class.getDeclaredClasses().length <= 12, "some twelve classes");
        words(source);
        lengths(source);
        room();
        System.out.println(wrong == 0 ? "all rules are kept" : wrong + " rules are not kept");
        if (wrong != 0) {
            System.exit(1);
        }
    }

    private static void check(boolean kept, String rule) {
        if (!kept) {
            wrong++;
            System.out.println("not so: " + rule);
        }
    }

    private static void face() {
        TreeSet<String> methods = new TreeSet<>();
        for (Method m : MeterDesk.class.getDeclaredMethods()) {
            if (Modifier.isPrivate(m.getModifiers())) {
                check(!(" " + FACE).contains(" " + m.getName() + "("), "no private method is called " + m.getName());
            } else {
                methods.add(m.getName() + "(" + m.getParameterCount() + ")");
                check(m.getReturnType() == int.class && Modifier.isPublic(m.getModifiers()), m + " is public, answers int");
            }
        }
        check(String.join(" ", methods).equals(FACE), "the methods are " + FACE + ", not " + methods);
        TreeSet<String> constants = new TreeSet<>();
        for (Field f : MeterDesk.class.getDeclaredFields()) {
            if (!Modifier.isPrivate(f.getModifiers())) {
                constants.add(f.getName());
            }
        }
        check(constants.toString().equals("[CAST, EMPTY, FULL, NONE, NOT, NULL, OUTSIDE, ROOM, UNKNOWN]"), "the constants: " + constants);
        int[] values = {MeterDesk.NONE, MeterDesk.UNKNOWN, MeterDesk.OUTSIDE, MeterDesk.NOT, MeterDesk.FULL,
            MeterDesk.NULL, MeterDesk.EMPTY, MeterDesk.CAST, MeterDesk.ROOM};
        check(Arrays.equals(values, new int[] {-1, -2, -3, -4, -5, -11, -12, -13, -14}), "the constants' values");
        check(Modifier.isFinal(MeterDesk.class.getModifiers()), "the class is final");
    }

    private static void members(Class<?> type) {
        int fields = 0;
        for (Field f : type.getDeclaredFields()) {
            if (Modifier.isStatic(f.getModifiers())) {
                check(Modifier.isFinal(f.getModifiers()), f + " is final");
            } else {
                fields++;
            }
        }
        check(fields <= 20, type + " has some twenty fields, not " + fields);
        for (Method m : type.getDeclaredMethods()) {
            check(m.getParameterCount() <= 7, m + " takes at most seven");
            if (type != MeterDesk.class) {
                check(!(" " + FACE).contains(" " + m.getName() + "("), m + " bears no public name");
            }
        }
    }

    private static void words(String source) {
        String code = source.replaceAll("(?s)/\\*.*?\\*/|//[^\n]*", " ").replaceAll("\"[^\"]*\"", "\"\"");
        String[] no = {"throw", "throws", "try", "catch", "finally", "synchronized", "assert", "import", "package", "System\\.out",
            "Object", "hashCode", "toString", "Random", "Thread", "instanceof", "var", "\\w+Exact", "protected", "volatile"};
        for (String word : no) {
            Matcher m = Pattern.compile("\\b" + word + "\\b").matcher(code);
            check(!m.find(), "no " + word);
        }
        check(!code.contains("->") && !code.contains("::"), "no lambda, no method reference");
        for (int i = 0; i < source.length(); i++) {
            check(source.charAt(i) < 127, "plain letters alone");
        }
    }

    private static void lengths(String source) {
        String[] lines = source.split("\n");
        List<String> tooLong = new ArrayList<>();
        for (int i = 0; i < lines.length; i++) {
            Matcher m = Pattern.compile("^( +)[^/*]*\\) \\{$").matcher(lines[i]);
            if (m.find() && !lines[i].trim().matches("(if|for|while|switch|\\}|&&|\\|\\|).*")) {
                int end = i;
                while (!lines[end].equals(m.group(1) + "}")) {
                    end++;
                }
                if (end - i > 60) {
                    tooLong.add(lines[i].trim());
                }
            }
        }
        check(tooLong.isEmpty(), "methods are short: " + tooLong);
    }

    /** No call makes anything: all rows are made with the object. */
    private static void room() {
        com.sun.management.ThreadMXBean bean = (com.sun.management.ThreadMXBean) java.lang.management.ManagementFactory.getThreadMXBean();
        long id = Thread.currentThread().getId();
        MeterDesk x = new MeterDesk();
        String text = "grid 8;line 0 1;line 1 2;line 2 3;line 3 4;line 4 5;line 5 6;line 6 7;wide 1;wide 3;node 5;pair 2;offer 3 4 2;offer 2 6 1";
        int[] letters = new int[text.length()];
        for (int i = 0; i < letters.length; i++) {
            letters[i] = text.charAt(i);
        }
        long spent = 0;
        for (int round = 0; round < 3; round++) {
            x = new MeterDesk();
            long before = bean.getThreadAllocatedBytes(id);
            useAll(x, letters);
            spent = bean.getThreadAllocatedBytes(id) - before;
        }
        check(spent < 2000, "calls make nothing, not " + spent + " bytes");
    }

    private static void useAll(MeterDesk x, int[] letters) {
        for (int letter : letters) {
            x.write(letter);
        }
        x.grid();
        for (int i = 0; i < 14; i++) {
            x.put(i % 5, i % 7);
            x.cut(i);
            x.spoil(i);
            x.mend(i);
            x.undo();
            x.keep(i % 2);
            x.back(i % 2);
            x.line(i, 4);
            x.meter(i, 4);
            x.meter(i, 5);
            x.offer(i, 3);
            x.weak(0);
            x.deal(0);
            x.lost(i);
            x.brings(i % 5, i % 7);
            x.seen(i, i);
            x.fit();
            x.ask();
            x.tray(i % 3);
            x.lay(i % 3, i % 3, i);
            x.all(i % 3, i % 3);
            x.take(i % 3, i % 3);
            x.count(i);
        }
    }
}
