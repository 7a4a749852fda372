import java.lang.reflect.Constructor;
import java.lang.reflect.Field;
import java.lang.reflect.Method;
import java.lang.reflect.Modifier;
import java.nio.file.Files;
import java.nio.file.Path;
import java.util.Set;
import java.util.TreeSet;
import java.util.regex.Matcher;
import java.util.regex.Pattern;

/** The document's public face, and the rules of LANGUAGE.md that can be seen from outside or in the text. */
public final class FaceTest {
    private static final String[] METHODS = {
        "int feed(int)", "int end(int)", "int text()", "int fault()", "int rule(int)", "int member(int,int)",
        "int house(int,int)", "int alter(int,int,int)", "int word(int)", "int seat(int,int)", "int clear(int)",
        "int days(int)", "int runs(int,int)", "int ahead(int,int)", "int carries()", "int wording(int)",
        "int middle(int)", "int swing(int)", "int lose(int)", "int cross(int)", "int give(int,int)",
        "int mind(int,int)", "int kind(int,int)", "long luck(int,int,int)", "long mean(int,int,int)",
        "int see(int,int)", "int forget(int)", "int kinds(int)", "int wants(int)", "int ask(int,int)",
        "int drift(int,int,int)", "int keep(int)", "int back(int)", "int sheet(int,int,int)", "int lay(int,int,int)",
        "int read(int,int,int,int)", "int torn()", "int count(int)"
    };
    private static final String[] FORBIDDEN = {
        "throw", "throws", "try", "catch", "finally", "synchronized", "assert", "Object", "Math\\.\\w+Exact",
        "Random", "currentTimeMillis", "nanoTime", "hashCode", "toString", "protected", "var", "native", "volatile"
    };
    private static int wrong = 0;

    private static void check(boolean is, String what) {
        if (!is) {
            wrong++;
            System.out.println("not so: " + what);
        }
    }

    public static void main(String[] args) throws Exception {
        face();
        inside();
        source(Files.readString(Path.of(args.length > 0 ? args[0] : ".", "src/main/java/WalnutHouses.java")));
        System.out.println(wrong == 0 ? "the face is as due" : wrong + " rows are not as due");
        if (wrong != 0) {
            System.exit(1);
        }
    }

    private static void face() throws Exception {
        Class<?> c = WalnutHouses.class;
        check(Modifier.isPublic(c.getModifiers()) && Modifier.isFinal(c.getModifiers()), "public final class");
        Constructor<?>[] made = c.getDeclaredConstructors();
        check(made.length == 1 && made[0].getParameterCount() == 0 && Modifier.isPublic(made[0].getModifiers()),
            "one public constructor without parameters");
        Set<String> due = new TreeSet<>();
        for (String m : METHODS) {
            due.add(m);
        }
        Set<String> names = new TreeSet<>();
        Set<String> got = new TreeSet<>();
        for (Method m : c.getDeclaredMethods()) {
            if (Modifier.isPublic(m.getModifiers())) {
                check(!Modifier.isStatic(m.getModifiers()), m + " is no static one");
                String types = "";
                for (Class<?> p : m.getParameterTypes()) {
                    types += (types.isEmpty() ? "" : ",") + p.getName();
                }
                got.add(m.getReturnType().getName() + " " + m.getName() + "(" + types + ")");
                names.add(m.getName());
            }
        }
        check(due.equals(got), "methods " + got);
        for (Method m : c.getDeclaredMethods()) {
            if (!Modifier.isPublic(m.getModifiers())) {
                check(Modifier.isPrivate(m.getModifiers()), m + " is private");
                check(!names.contains(m.getName()), m + " bears no public name");
            }
        }
        for (Class<?> inner : c.getDeclaredClasses()) {
            for (Method m : inner.getDeclaredMethods()) {
                check(!names.contains(m.getName()), m + " bears no public name");
            }
        }
    }

    private static void inside() {
        Set<String> constants = new TreeSet<>();
        for (Field f : WalnutHouses.class.getDeclaredFields()) {
            int m = f.getModifiers();
            if (Modifier.isPublic(m)) {
                constants.add(f.getName());
                check(Modifier.isStatic(m) && Modifier.isFinal(m) && f.getType() == int.class, f + " is a constant");
            } else {
                check(Modifier.isPrivate(m), f + " is private");
            }
        }
        check(constants.equals(Set.of("BAD", "STATE", "FULL", "NONE")), "constants " + constants);
        check(WalnutHouses.BAD == -1 && WalnutHouses.STATE == -2 && WalnutHouses.FULL == -3 && WalnutHouses.NONE == -4,
            "the constants' numbers");
        for (Class<?> inner : WalnutHouses.class.getDeclaredClasses()) {
            check(Modifier.isStatic(inner.getModifiers()) && !Modifier.isPublic(inner.getModifiers()), inner + " is static");
        }
        check(WalnutHouses.class.getDeclaredClasses().length < 12, "fewer than twelve classes");
    }

    private static void source(String text) {
        String code = text.replaceAll("(?s)/\\*.*?\\*/", "").replaceAll("//[^\n]*", "").replaceAll("\"[^\"\n]*\"", "\"\"");
        for (String word : FORBIDDEN) {
            Matcher m = Pattern.compile("\\b" + word + "\\b").matcher(code);
            check(!m.find(), "the source is without " + word);
        }
        check(!code.contains("->") && !code.contains("::"), "the source is without lambda and method reference");
        check(!code.contains("package "), "the source is without a package line");
        Matcher imports = Pattern.compile("import ([^;]*);").matcher(code);
        while (imports.find()) {
            check(imports.group(1).matches("java\\.util\\.(Arrays|ArrayList|List)"), "import " + imports.group(1));
        }
        for (char c : text.toCharArray()) {
            check(c < 128, "the source has signs 1 to 127 alone");
        }
    }
}
