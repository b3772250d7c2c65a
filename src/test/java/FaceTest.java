import java.io.IOException;
import java.lang.reflect.Field;
import java.lang.reflect.Member;
import java.lang.reflect.Method;
import java.lang.reflect.Modifier;
import java.nio.file.Files;
import java.nio.file.Path;
import java.util.Set;
import java.util.TreeSet;
import java.util.regex.Matcher;
import java.util.regex.Pattern;

/** The public face, and the rules of the language that can be looked for in the class and in its text. */
public final class FaceTest {
    private static final Set<String> IMPORTS = Set.of("java.util.Arrays", "java.util.ArrayList", "java.util.List");

    private final DocText doc;

    private FaceTest(DocText doc) {
        this.doc = doc;
    }

    private static void dueTrue(String what, boolean holds) {
        Check.due(what, holds ? 1 : 0, 1);
    }

    private static boolean isPrivate(Member m) {
        return Modifier.isPrivate(m.getModifiers()) || m.isSynthetic();
    }

    private void face() {
        Class<ProtoCheck> c = ProtoCheck.class;
        dueTrue("public final class", c.getModifiers() == (Modifier.PUBLIC | Modifier.FINAL));
        dueTrue("one public constructor", c.getDeclaredConstructors().length == 1
            && c.getConstructors().length == 1 && c.getConstructors()[0].getParameterCount() == 0);
        Set<String> found = new TreeSet<>();
        for (Method m : c.getDeclaredMethods()) {
            if (!isPrivate(m)) found.add(m.toString().replace("ProtoCheck.", ""));
        }
        dueTrue("the document's methods and no others: " + found, found.equals(doc.face()));
        dueTrue("the document's face has sixteen methods", doc.face().size() == 16);
        for (Field f : c.getDeclaredFields()) {
            dueTrue("field " + f.getName() + " is private", isPrivate(f));
        }
    }

    private void inside(Class<?> c) {
        for (Field f : c.getDeclaredFields()) {
            int m = f.getModifiers();
            dueTrue("static field " + f.getName() + " is final", !Modifier.isStatic(m) || Modifier.isFinal(m));
        }
        for (Method m : c.getDeclaredMethods()) {
            dueTrue(m.getName() + " has at most seven parameters", m.getParameterCount() <= 7);
            boolean bearsPublicName = isPrivate(m) && doc.callNames().contains(m.getName());
            dueTrue("private " + m.getName() + " bears no public name", !bearsPublicName);
        }
        for (Class<?> inner : c.getDeclaredClasses()) {
            dueTrue(inner.getName() + " is static", Modifier.isStatic(inner.getModifiers()));
            dueTrue(inner.getName() + " is private", Modifier.isPrivate(inner.getModifiers()));
            inside(inner);
        }
    }

    private static void text() throws IOException {
        String source = Files.readString(Path.of("src/main/java/ProtoCheck.java"));
        String code = source.replaceAll("(?s)/\\*.*?\\*/", " ").replaceAll("//[^\n]*", " ");
        String[] never = {"throw", "throws", "try", "catch", "synchronized", "assert", "package", "Random", "Exact", "->", "::"};
        for (String word : never) {
            String at = Character.isLetter(word.charAt(0)) && !word.equals("Exact") ? "\\b" + word + "\\b" : word;
            dueTrue("no '" + word + "' in the program", !Pattern.compile(at).matcher(code).find());
        }
        Matcher imports = Pattern.compile("import\\s+([^;]+);").matcher(code);
        while (imports.find()) {
            dueTrue("import " + imports.group(1) + " is allowed", IMPORTS.contains(imports.group(1).trim()));
        }
        dueTrue("plain characters alone", source.chars().allMatch(ch -> ch < 256));
    }

    public static void main(String[] args) throws IOException {
        FaceTest test = new FaceTest(new DocText());
        test.face();
        test.inside(ProtoCheck.class);
        text();
        Check.end("FaceTest");
    }
}
