import java.io.IOException;
import java.lang.reflect.Field;
import java.lang.reflect.Method;
import java.lang.reflect.Modifier;
import java.nio.file.Files;
import java.nio.file.Path;
import java.util.ArrayList;
import java.util.List;
import java.util.Map;
import java.util.Set;
import java.util.TreeMap;
import java.util.TreeSet;
import java.util.regex.Matcher;
import java.util.regex.Pattern;

/** What of LANGUAGE.md can be seen by looking at the file and the class; it is run from the project's root. */
public final class LanguageTest {
    private static final Due due = new Due();

    public static void main(String[] args) throws IOException {
        List<String> lines = Files.readAllLines(Path.of("src/main/java/ReplayBox.java"));
        Set<String> names = faceNames();
        face(Files.readString(Path.of("../shared/DOC.md")), names);
        nestedClasses();
        String text = withoutComments(String.join("\n", lines));
        words(text);
        methods(List.of(text.split("\n")), names);
        due.close();
    }

    private static Set<String> faceNames() {
        Set<String> names = new TreeSet<>();
        for (Method method : ReplayBox.class.getDeclaredMethods()) {
            if (!Modifier.isPrivate(method.getModifiers())) {
                names.add(method.getName());
            }
        }
        return names;
    }

    private static void face(String document, Set<String> names) {
        Set<String> promised = new TreeSet<>();
        Matcher lines = Pattern.compile("(?m)^    public int (\\w+)\\(([^)]*)\\)").matcher(document);
        while (lines.find()) {
            int parameters = lines.group(2).isBlank() ? 0 : lines.group(2).split(",").length;
            promised.add(lines.group(1) + "/" + parameters);
        }
        due.is("methods that the document promises", promised.size(), 32);
        Set<String> found = new TreeSet<>();
        for (Method method : ReplayBox.class.getDeclaredMethods()) {
            if (!Modifier.isPrivate(method.getModifiers())) {
                found.add(method.getName() + "/" + method.getParameterCount());
                due.isText(method.getName(), Modifier.toString(method.getModifiers()), "public");
                due.isText(method.getName(), method.getReturnType().getName(), "int");
            }
        }
        due.isText("the face", found.toString(), promised.toString());
        due.isText("ReplayBox", Modifier.toString(ReplayBox.class.getModifiers()), "public final");
        due.is("constructors", ReplayBox.class.getDeclaredConstructors().length, 1);
        privateNames(ReplayBox.class, names);
        for (Class<?> inside : ReplayBox.class.getDeclaredClasses()) {
            privateNames(inside, names);
        }
    }

    private static void privateNames(Class<?> within, Set<String> names) {
        for (Method method : within.getDeclaredMethods()) {
            boolean publicOne = Modifier.isPublic(method.getModifiers());
            if (!publicOne && names.contains(method.getName())) {
                due.isText(within.getName() + "." + method.getName(), "bears a public name", "another name");
            }
            due.is(method.getName() + " has at most 7 parameters", method.getParameterCount() <= 7 ? 1 : 0, 1);
        }
    }

    private static void nestedClasses() {
        Class<?>[] inside = ReplayBox.class.getDeclaredClasses();
        due.is("at most 12 classes", inside.length + 1 <= 12 ? 1 : 0, 1);
        fields(ReplayBox.class);
        for (Class<?> each : inside) {
            int modifiers = each.getModifiers();
            due.is(each.getName() + " is static", Modifier.isStatic(modifiers) ? 1 : 0, 1);
            due.is(each.getName() + " is not public", Modifier.isPublic(modifiers) ? 1 : 0, 0);
            due.is(each.getName() + " has none inside", each.getDeclaredClasses().length, 0);
            fields(each);
        }
    }

    private static void fields(Class<?> within) {
        int own = 0;
        for (Field field : within.getDeclaredFields()) {
            int modifiers = field.getModifiers();
            if (Modifier.isStatic(modifiers)) {
                due.is(field.getName() + " is final", Modifier.isFinal(modifiers) ? 1 : 0, 1);
            } else {
                own++;
            }
            if (within == ReplayBox.class) {
                due.is(field.getName() + " is private", Modifier.isPrivate(modifiers) ? 1 : 0, 1);
            }
        }
        due.is(within.getName() + " has at most 20 fields", own <= 20 ? 1 : 0, 1);
    }

    private static String withoutComments(String text) {
        return text.replaceAll("(?s)/\\*.*?\\*/", "").replaceAll("//[^\n]*", "");
    }

    private static void words(String text) {
        for (String word : new String[] {"->", "::", "\\bfinally\\b", "\\bsynchronized\\b", "\\bassert\\b", "@", "Exact\\b",
            "\\bgetMessage\\b", "\\bpackage\\b", "\\bnew \\w*Exception\\([^\")]", "\\bObject\\b", "\\bThread\\b",
            "\\bhashCode\\b", "\\btoString\\b", "static \\{", "catch \\((Exception|RuntimeException|Throwable)",
            "catch \\((IndexOutOfBounds|ArrayIndex|NullPointer|Arithmetic|ClassCast|NegativeArray|ArrayStore)"}) {
            Matcher matcher = Pattern.compile(word).matcher(text);
            due.isText("the file has " + word, matcher.find() ? "somewhere" : "nowhere", "nowhere");
        }
        List<String> imports = new ArrayList<>();
        Matcher matcher = Pattern.compile("(?m)^import (.*);").matcher(text);
        while (matcher.find()) {
            imports.add(matcher.group(1));
        }
        due.isText("imports", imports.toString(), "[java.util.Arrays]");
        due.is("signs 0 to 127 alone", text.chars().allMatch(sign -> sign < 128) ? 1 : 0, 1);
    }

    private static void methods(List<String> lines, Set<String> face) {
        Map<String, String> bodies = new TreeMap<>();
        // A method begins at a line that ends with "{", indented as a member, and ends at the "}" there.
        Pattern begin = Pattern.compile("^(    |        )(?!if|for|while|switch|else|do|try)\\w.*?(\\w+)\\(.*\\).*\\{$");
        int count = 0;
        for (int k = 0; k < lines.size(); k++) {
            Matcher matcher = begin.matcher(lines.get(k));
            if (!matcher.matches()) {
                continue;
            }
            int end = k;
            while (end < lines.size() && !lines.get(end).equals(matcher.group(1) + "}")) {
                end++;
            }
            count++;
            due.is("at most 60 lines: " + lines.get(k).trim(), end - k + 1 <= 60 ? 1 : 0, 1);
            // Those of one name are taken together: which of them is called can't be seen in the file.
            bodies.merge(matcher.group(2), String.join("\n", lines.subList(k + 1, end)), String::concat);
        }
        due.is("methods were looked at", count > 100 ? 1 : 0, 1);
        depths(bodies, face);
    }

    private static void depths(Map<String, String> bodies, Set<String> face) {
        int deepest = 0;
        for (String name : face) {
            due.is(name + " is in the file", bodies.containsKey(name) ? 1 : 0, 1);
            int depth = depth(name, bodies, List.of());
            due.is(name + " goes at most 8 calls deep", depth <= 8 ? depth : 8, depth);
            deepest = Math.max(deepest, depth);
        }
        due.is("calls were followed", deepest > 4 ? 1 : 0, 1);
    }

    /** How many calls stand open at most, this one too. */
    private static int depth(String name, Map<String, String> bodies, List<String> open) {
        if (open.contains(name)) {
            due.isText(name, "calls itself by " + open, "no recursion");
            return 0;
        }
        List<String> opened = new ArrayList<>(open);
        opened.add(name);
        int inner = 0;
        // A call of super goes to another method of the same name; the library's own calls are none of the file's.
        Matcher calls = Pattern.compile("(?<!super\\.)(?<!Arrays\\.)\\b(\\w+)\\(").matcher(bodies.get(name));
        while (calls.find()) {
            if (bodies.containsKey(calls.group(1))) {
                inner = Math.max(inner, depth(calls.group(1), bodies, opened));
            }
        }
        return 1 + inner;
    }
}
