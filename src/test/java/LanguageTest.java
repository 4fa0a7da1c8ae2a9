import java.lang.reflect.Constructor;
import java.lang.reflect.Field;
import java.lang.reflect.Method;
import java.lang.reflect.Modifier;
import java.nio.charset.StandardCharsets;
import java.nio.file.Files;
import java.nio.file.Path;
import java.util.ArrayDeque;
import java.util.Arrays;
import java.util.Collections;
import java.util.Deque;
import java.util.IdentityHashMap;
import java.util.Set;
import java.util.TreeSet;
import java.util.regex.Matcher;
import java.util.regex.Pattern;

// The rules of LANGUAGE.md that can be seen by a short look: the face, the classes inside, and words that are ruled out.
// It is run from the project's folder.
public final class LanguageTest {
    private static final String SOURCE = "src/main/java/DoodleAlbums.java";
    private static int wrong = 0;

    public static void main(String[] args) throws Exception {
        face();
        classesInside();
        String source = Files.readString(Path.of(SOURCE), StandardCharsets.UTF_8);
        words(source);
        headings(source);
        whatIsKept();
        System.out.println(wrong == 0 ? "the rules are kept" : wrong + " rules are broken");
        if (wrong != 0) System.exit(1);
    }

    private static void rule(boolean kept, String text) {
        if (!kept) {
            wrong++;
            System.out.println("broken: " + text);
        }
    }

    private static void face() {
        Set<String> due = new TreeSet<>(Arrays.asList(
            "teach(int,int)", "sit(int,int)", "leave(int)", "begin(int,int)", "tell(int,int)", "round()", "clear()",
            "of(int,int)", "page(int,int,int)", "seat(int,int)", "word(int)", "count(int)", "guess(int)",
            "foretold(int,int)", "bestWord(int,int)", "pointsThen(int)", "put(long)", "wipe()", "fault()", "carryOut()",
            "undo()", "save(int)", "restore(int)"));
        Set<String> names = new TreeSet<>();
        for (String method : due) names.add(method.substring(0, method.indexOf('(')));
        Set<String> there = new TreeSet<>();
        for (Method method : DoodleAlbums.class.getDeclaredMethods()) {
            if (method.isSynthetic()) continue;
            if (Modifier.isPrivate(method.getModifiers())) {
                rule(!names.contains(method.getName()), "1: a private method is named " + method.getName());
                continue;
            }
            rule(method.getModifiers() == Modifier.PUBLIC, "1: " + method);
            rule(method.getReturnType() == int.class, "1: " + method);
            there.add(method.getName() + Arrays.toString(method.getParameterTypes())
                .replace("[", "(").replace("]", ")").replace(" ", ""));
        }
        rule(there.equals(due), "1: the methods are " + there);
        Set<String> constants = new TreeSet<>();
        for (Field field : DoodleAlbums.class.getDeclaredFields()) {
            if (!Modifier.isPrivate(field.getModifiers())) constants.add(field.getName());
        }
        rule(constants.equals(new TreeSet<>(Arrays.asList(
            "NO_SUCH", "BAD_VALUE", "BAD_TEXT", "TOO_MANY", "NOT_POSSIBLE", "NONE"))), "1: the constants are " + constants);
        Constructor<?>[] constructors = DoodleAlbums.class.getDeclaredConstructors();
        rule(constructors.length == 1 && constructors[0].getParameterCount() == 0, "1: the constructors");
        int modifiers = DoodleAlbums.class.getModifiers();
        rule(Modifier.isPublic(modifiers) && Modifier.isFinal(modifiers), "1: the class is public and final");
    }

    private static void classesInside() {
        Class<?>[] inside = DoodleAlbums.class.getDeclaredClasses();
        rule(inside.length < 12, "11: some twelve classes");
        for (Class<?> each : inside) {
            int modifiers = each.getModifiers();
            rule(Modifier.isStatic(modifiers), "2: static " + each);
            rule(!Modifier.isPublic(modifiers) && !Modifier.isProtected(modifiers), "1: not public " + each);
            rule(each.getDeclaredFields().length <= 20, "11: some twenty fields in " + each);
            staticFieldsAreFinal(each);
        }
        staticFieldsAreFinal(DoodleAlbums.class);
    }

    private static void staticFieldsAreFinal(Class<?> each) {
        for (Field field : each.getDeclaredFields()) {
            int modifiers = field.getModifiers();
            rule(!Modifier.isStatic(modifiers) || Modifier.isFinal(modifiers), "5: final " + field);
        }
    }

    private static void words(String source) {
        String code = source.replaceAll("(?s)/\\*.*?\\*/", "").replaceAll("//[^\n]*", "");
        String[] ruledOut = {"import", "package", "throw", "throws", "try", "catch", "finally", "synchronized", "assert",
            "protected", "Object", "equals", "hashCode", "toString", "Random", "Thread", "native", "volatile"};
        for (String word : ruledOut) {
            rule(!Pattern.compile("\\b" + word + "\\b").matcher(code).find(), "4 or 6: " + word);
        }
        rule(!code.contains("->") && !code.contains("::"), "2: no lambda, no method reference");
        Matcher libraries = Pattern.compile("\\b(System|Math|Integer|Long|Arrays)\\.(\\w+)").matcher(code);
        Set<String> allowed = Set.of("System.arraycopy", "Math.min", "Math.max", "Integer.bitCount");
        while (libraries.find()) rule(allowed.contains(libraries.group()), "4: " + libraries.group());
        rule(source.chars().allMatch(sign -> sign < 128), "4: signs 1 to 127");
    }

    /** The calls stand in the order of the document, behind what it says ahead of them. */
    private static void headings(String source) {
        String[] order = {
            "---- changes", "teach", "sit", "leave", "begin", "tell", "round", "clear",
            "---- what there is", "of", "page", "seat", "word", "count",
            "---- what if; nothing changes", "guess", "foretold", "bestWord", "pointsThen",
            "---- texts", "put", "wipe", "fault", "carryOut",
            "---- undo, saving", "undo", "save", "restore"};
        int behind = source.indexOf("public DoodleAlbums()");
        for (String next : order) {
            int place = source.indexOf(next.startsWith("----") ? "// " + next + "\n" : "public int " + next + "(");
            rule(place > behind, "the order of the document: " + next);
            behind = place;
        }
    }

    /** All is made in the constructor: behind 512 calls an object holds the same objects and arrays, and not many. */
    private static void whatIsKept() throws Exception {
        DoodleAlbums x = new DoodleAlbums();
        Set<Object> before = reached(x);
        for (int call = 0; call < 64; call++) {
            x.sit(call % 8, 4095);
            x.begin(call % 8, call % 16);
            x.tell(0, 1);
            x.round();
            x.put('c');
            x.carryOut();
            x.save(call % 2);
            x.restore(call % 2);
        }
        Set<Object> behind = reached(x);
        rule(before.equals(behind), "12: a call makes objects that are kept");
        rule(behind.size() < 600, "12: an object holds " + behind.size() + " objects and arrays");
    }

    private static Set<Object> reached(Object start) throws Exception {
        Set<Object> reached = Collections.newSetFromMap(new IdentityHashMap<>());
        Deque<Object> open = new ArrayDeque<>();
        open.add(start);
        while (!open.isEmpty()) {
            Object each = open.remove();
            if (!reached.add(each) || each.getClass().isArray() && each.getClass().getComponentType().isPrimitive()) continue;
            if (each instanceof Object[]) {
                for (Object element : (Object[]) each) if (element != null) open.add(element);
                continue;
            }
            for (Field field : each.getClass().getDeclaredFields()) {
                if (Modifier.isStatic(field.getModifiers()) || field.getType().isPrimitive()) continue;
                field.setAccessible(true);
                if (field.get(each) != null) open.add(field.get(each));
            }
        }
        return reached;
    }
}
