import java.io.IOException;
import java.lang.reflect.Array;
import java.lang.reflect.Constructor;
import java.lang.reflect.Field;
import java.lang.reflect.Method;
import java.lang.reflect.Modifier;
import java.nio.file.Files;
import java.nio.file.Path;
import java.util.ArrayList;
import java.util.HashSet;
import java.util.List;
import java.util.Set;
import java.util.TreeSet;
import java.util.regex.Matcher;
import java.util.regex.Pattern;

/** Those rules of LANGUAGE.md that can be read off the source and the class, with the room that one object takes. */
public final class LanguageRules {
    private static final String FACE = "NONE:int NO:int table(II)Z put(IIII)I drop(IIII)Z rows(I)I row(III)I ask(I)Z"
            + " part(II)I name(I)I value(I)I compare(IIZI)I order(II)Z weave()I answer(II)I meetings(I)I witness(II)I"
            + " sum(II)J group(IIII)J keep()I delta(I)I change(III)I bound()J cover(I)I best()I rings(I)I ring(III)I"
            + " count(I)I";

    private static final String[] FORBIDDEN = {
        "\\b(throw|throws|try|catch|finally|synchronized|assert|package|protected)\\b", "::", "Exact\\(",
        "\\[\\s*\\]\\s*\\[\\s*\\]\\s*\\[", "\\bstatic\\s*\\{", "(?m)^(?!\\s*(case|default)\\b).*->",
        "\\b(Integer|Long|Math|Short|Byte|Character|Double|Float)\\s*\\.\\s*[A-Z]\\w*",
        "\\bimport\\s+(?!java\\.util\\.(ArrayList|List|Arrays|Iterator)\\s*;)"
    };

    private static int wrong = 0;

    private static void due(String what, boolean holds) {
        if (!holds) {
            wrong++;
            System.out.println("LANGUAGE.md: " + what);
        }
    }

    private static String signature(Method method) {
        StringBuilder text = new StringBuilder(method.getName()).append('(');
        for (Class<?> type : method.getParameterTypes()) {
            text.append(type.descriptorString());
        }
        return text.append(')').append(method.getReturnType().descriptorString()).toString();
    }

    private static void face() {
        Set<String> found = new TreeSet<>();
        Set<String> hidden = new HashSet<>();
        Set<String> open = new HashSet<>();
        for (Method method : JoinLoom.class.getDeclaredMethods()) {
            if (method.isSynthetic()) {
                continue;
            }
            if (Modifier.isPublic(method.getModifiers())) {
                due("a public static method " + method, !Modifier.isStatic(method.getModifiers()));
                found.add(signature(method));
                open.add(method.getName());
            } else {
                due("rule 1: " + method, Modifier.isPrivate(method.getModifiers()));
                hidden.add(method.getName());
            }
        }
        for (Field field : JoinLoom.class.getDeclaredFields()) {
            if (Modifier.isPublic(field.getModifiers())) {
                found.add(field.getName() + ":" + field.getType());
                due("rule 5: " + field, Modifier.isStatic(field.getModifiers()));
            } else {
                due("rule 1: " + field, Modifier.isPrivate(field.getModifiers()));
            }
        }
        due("rule 1: the face is " + found, found.equals(new TreeSet<>(List.of(FACE.split(" ")))));
        Constructor<?>[] constructors = JoinLoom.class.getDeclaredConstructors();
        due("rule 1: the constructors", constructors.length == 1 && constructors[0].getParameterCount() == 0
                && Modifier.isPublic(constructors[0].getModifiers()));
        due("rule 1: public and final", Modifier.isPublic(JoinLoom.class.getModifiers())
                && Modifier.isFinal(JoinLoom.class.getModifiers()));
        for (Class<?> inner : JoinLoom.class.getDeclaredClasses()) {
            for (Method method : inner.getDeclaredMethods()) {
                if (Modifier.isPrivate(method.getModifiers())) {
                    hidden.add(method.getName());
                }
            }
        }
        hidden.retainAll(open);
        due("rule 1: names of public methods borne again: " + hidden, hidden.isEmpty());
    }

    private static void classes() {
        Class<?>[] inner = JoinLoom.class.getDeclaredClasses();
        due("rule 11: " + (inner.length + 1) + " classes", inner.length + 1 <= 12);
        List<Class<?>> all = new ArrayList<>(List.of(inner));
        all.add(JoinLoom.class);
        for (Class<?> one : all) {
            if (one != JoinLoom.class) {
                due("rule 2: " + one, Modifier.isStatic(one.getModifiers()) && !Modifier.isPublic(one.getModifiers()));
            }
            int fields = 0;
            for (Field field : one.getDeclaredFields()) {
                boolean shared = Modifier.isStatic(field.getModifiers());
                fields += shared ? 0 : 1;
                due("rule 5: " + field, !shared || Modifier.isFinal(field.getModifiers()));
            }
            due("rule 11: " + fields + " fields in " + one, fields <= 20);
            for (Method method : one.getDeclaredMethods()) {
                due("rule 11: parameters of " + method, method.getParameterCount() <= 7);
            }
        }
    }

    /** The source without comments, and without what its texts and signs say; its lines are kept. */
    private static String bare(String source) {
        String comment = "/\\*.*?\\*/|//[^\n]*";
        String told = "\"(\\\\.|[^\"\\\\])*\"|'(\\\\.|[^'\\\\])+'";
        return Pattern.compile(comment + "|" + told, Pattern.DOTALL).matcher(source)
                .replaceAll(found -> found.group().replaceAll("[^\n]", " "));
    }

    private static void words(String source) {
        for (String pattern : FORBIDDEN) {
            Matcher found = Pattern.compile(pattern).matcher(bare(source));
            while (found.find()) {
                due("rules 1 to 6: " + found.group().trim(), false);
            }
        }
        for (char sign : source.toCharArray()) {
            due("rule 4: a sign " + (int) sign, sign == '\n' || (sign >= ' ' && sign < 127));
        }
    }

    private static final Set<Object> SEEN = new HashSet<>();
    private static long objects = 0;
    private static long elements = 0;

    /** Counts what an object reaches; the file compiled with the tests opens its fields to them by reflection. */
    private static void weigh(Object one) throws IllegalAccessException {
        if (one == null || !SEEN.add(one)) {
            return;
        }
        objects++;
        if (one.getClass().isArray()) {
            int length = Array.getLength(one);
            elements += length;
            for (int i = 0; i < length && !one.getClass().getComponentType().isPrimitive(); i++) {
                weigh(Array.get(one, i));
            }
            return;
        }
        if (one instanceof List<?> list) {
            elements += list.size();
            for (Object element : list) {
                weigh(element);
            }
            return;
        }
        boolean own = one.getClass().getName().startsWith("JoinLoom");
        for (Field field : own ? one.getClass().getDeclaredFields() : new Field[0]) {
            if (!Modifier.isStatic(field.getModifiers())) {
                elements++;
                field.setAccessible(true);
                if (!field.getType().isPrimitive()) {
                    weigh(field.get(one));
                }
            }
        }
    }

    /** All objects of a run live in one room; what one takes when it is made is held to a hundredth of it. */
    private static void room() throws IllegalAccessException {
        weigh(new JoinLoom());
        System.out.println("one JoinLoom: " + objects + " objects and arrays, " + elements + " fields and elements");
        due("the room of one object", objects <= 6000 && elements <= 73000);
    }

    public static void main(String[] args) throws IOException, IllegalAccessException {
        face();
        classes();
        words(Files.readString(Path.of("src/main/java/JoinLoom.java")));
        room();
        System.out.println(wrong == 0 ? "all rules are kept" : wrong + " rules are broken");
        if (wrong != 0) {
            System.exit(1);
        }
    }
}
