import java.lang.reflect.Constructor;
import java.lang.reflect.Field;
import java.lang.reflect.Member;
import java.lang.reflect.Method;
import java.lang.reflect.Modifier;
import java.nio.file.Files;
import java.nio.file.Path;
import java.util.List;
import java.util.Set;
import java.util.TreeSet;
import java.util.regex.Matcher;
import java.util.regex.Pattern;

/** The public face, and those rules of LANGUAGE.md that can be looked up. */
public final class FaceTest {
    private static final Set<String> CALLS = Set.of(
        "begin()", "write(int,int,int)", "read(int,int)", "commit(int)", "abort(int)", "flush()", "crash(int)",
        "key(int,int)", "log(int,int)", "relay(int)", "cut()", "deliver(int,int,boolean)", "lose(int,int)",
        "letter(int,int,int)", "save()", "ack(boolean)", "flow(int)", "whole()", "prefix(int)", "count(int)");
    private static final Set<String> CONSTANTS = Set.of(
        "BAD=-1", "STATE=-2", "FULL=-3", "NONE=-9", "DONE=1", "TWICE=2", "HELD=3", "LOST=4");
    private static final List<String> NEVER = List.of(
        "throw", "throws", "try", "catch", "synchronized", "assert", "->", "::", "System\\.(?!arraycopy)",
        "\\w+Exact", "protected", "native", "volatile", "hashCode", "toString", "extends", "String");

    private static int wrong = 0;

    private static void due(String what, Object got, Object want) {
        if (!got.equals(want)) {
            wrong++;
            System.out.println(what + " is " + got + ", due is " + want);
        }
    }

    private static boolean isPrivate(Member member) {
        return Modifier.isPrivate(member.getModifiers()) || member.isSynthetic();
    }

    private static void face() throws IllegalAccessException {
        Set<String> calls = new TreeSet<>();
        Set<String> names = new TreeSet<>();
        for (Method method : OutboxHouse.class.getDeclaredMethods()) {
            if (!isPrivate(method)) {
                String whole = method.toString();
                calls.add(whole.substring(whole.indexOf("OutboxHouse.") + 12));
                names.add(method.getName());
                due(method + ": modifiers", method.getModifiers(), Modifier.PUBLIC);
                due(method + ": answer", method.getReturnType(), int.class);
            }
        }
        due("the calls", calls, new TreeSet<>(CALLS));
        Set<String> constants = new TreeSet<>();
        for (Field field : OutboxHouse.class.getDeclaredFields()) {
            if (!isPrivate(field)) {
                due(field + ": modifiers", field.getModifiers(), Modifier.PUBLIC | Modifier.STATIC | Modifier.FINAL);
                constants.add(field.getName() + "=" + field.getInt(null));
            }
        }
        due("the constants", constants, new TreeSet<>(CONSTANTS));
        due("the class", OutboxHouse.class.getModifiers(), Modifier.PUBLIC | Modifier.FINAL);
        Constructor<?>[] made = OutboxHouse.class.getDeclaredConstructors();
        due("how many constructors", made.length, 1);
        due("the constructor", made[0].toString(), "public OutboxHouse()");
        insideClasses(names);
    }

    private static void insideClasses(Set<String> faceNames) {
        for (Method method : OutboxHouse.class.getDeclaredMethods()) {
            due(method + ": a name of the face", isPrivate(method) && faceNames.contains(method.getName()), false);
        }
        Class<?>[] inside = OutboxHouse.class.getDeclaredClasses();
        due("at most twelve classes", inside.length <= 11, true);
        for (Class<?> one : inside) {
            due(one + ": static", Modifier.isStatic(one.getModifiers()), true);
            due(one + ": at most twenty fields", one.getDeclaredFields().length <= 20, true);
            for (Field field : one.getDeclaredFields()) {
                int modifiers = field.getModifiers();
                due(field + ": static and not final", Modifier.isStatic(modifiers) && !Modifier.isFinal(modifiers), false);
            }
            for (Method method : one.getDeclaredMethods()) {
                due(method + ": a name of the face", faceNames.contains(method.getName()), false);
                due(method + ": at most seven parameters", method.getParameterCount() <= 7, true);
            }
        }
    }

    private static void source() throws java.io.IOException {
        String text = Files.readString(Path.of("src/main/java/OutboxHouse.java"));
        String code = text.replaceAll("(?s)/\\*.*?\\*/", "").replaceAll("//[^\n]*", "");
        for (String word : NEVER) {
            String edge = Character.isLetter(word.charAt(0)) ? "\\b" : "";
            Matcher found = Pattern.compile(edge + word + edge).matcher(code);
            due("'" + word + "' in the class", found.find(), false);
        }
        Matcher imports = Pattern.compile("import ([^;]+);").matcher(code);
        while (imports.find()) {
            due("import", Set.of("java.util.Arrays").contains(imports.group(1)), true);
        }
        due("a package line", Pattern.compile("(?m)^package").matcher(code).find(), false);
    }

    public static void main(String[] args) throws Exception {
        face();
        source();
        System.out.println(wrong == 0 ? "the face is as told" : wrong + " things are not as told");
        if (wrong != 0) {
            System.exit(1);
        }
    }
}
