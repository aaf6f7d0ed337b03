import java.io.IOException;
import java.lang.reflect.Constructor;
import java.lang.reflect.Field;
import java.lang.reflect.Method;
import java.lang.reflect.Modifier;
import java.nio.file.Files;
import java.nio.file.Path;
import java.util.Arrays;
import java.util.HashSet;
import java.util.Set;
import java.util.TreeSet;
import java.util.regex.Matcher;
import java.util.regex.Pattern;

/**
 * The face of the document, and those rules of LANGUAGE.md that can be seen without running:
 * members, names, words of the source, and that nothing is made but in constructors.
 */
public final class LanguageTest {
    private static final Path SOURCE = Path.of("src/main/java/HexBroadsides.java");
    private static final Path DOCUMENT = Path.of("../shared/DOC.md");

    public static void main(String[] args) throws IOException {
        String source = Files.readString(SOURCE);
        String code = withoutTextsAndComments(source);
        faceIsThatOfTheDocument();
        membersArePrivate();
        namesOfPublicMethodsAreTheirOwn();
        staticFieldsAreFinal();
        forbiddenWords(code);
        nothingIsMadeButInConstructors(code);
        methodsAreShort(code);
        Due.isTrue("the source has only signs 1 to 127", source.chars().allMatch(c -> c > 0 && c < 128));
        Due.finish("LanguageTest");
    }

    private static String withoutTextsAndComments(String source) {
        return source.replaceAll("\"[^\"\\n]*\"", "\"\"")
                .replaceAll("(?s)/\\*.*?\\*/", "").replaceAll("//[^\\n]*", "");
    }

    private static void faceIsThatOfTheDocument() throws IOException {
        String document = Files.readString(DOCUMENT);
        String block = document.substring(document.indexOf("```java"), document.lastIndexOf("```"));
        Set<String> due = new TreeSet<>();
        Matcher method = Pattern.compile("public (\\w+) (\\w+)\\(([^)]*)\\)(?: throws ([^;]*))?;").matcher(block);
        while (method.find()) {
            String parameters = method.group(3).replaceAll("(\\w+) \\w+", "$1");
            String thrown = method.group(4) == null ? "" : method.group(4);
            due.add(method.group(1) + " " + method.group(2) + "(" + parameters + ") " + thrown);
        }
        Set<String> got = new TreeSet<>();
        for (Method m : HexBroadsides.class.getDeclaredMethods()) {
            if (Modifier.isPublic(m.getModifiers())) {
                got.add(m.getReturnType().getSimpleName() + " " + m.getName() + "("
                        + names(m.getParameterTypes()) + ") " + names(m.getExceptionTypes()));
            }
        }
        Due.is("methods of the document's face", due.size(), 27);
        Due.isTrue("the face " + got + " is that of the document, " + due, got.equals(due));
        Due.isTrue("the class is public and final",
                (HexBroadsides.class.getModifiers() & (Modifier.PUBLIC | Modifier.FINAL))
                == (Modifier.PUBLIC | Modifier.FINAL));
        Due.is("constructors", HexBroadsides.class.getDeclaredConstructors().length, 1);
        Constructor<?> constructor = HexBroadsides.class.getDeclaredConstructors()[0];
        Due.isTrue("the constructor is public", Modifier.isPublic(constructor.getModifiers()));
        Due.is("parameters of the constructor", constructor.getParameterCount(), 0);
    }

    private static String names(Class<?>[] types) {
        StringBuilder all = new StringBuilder();
        for (Class<?> type : types) {
            all.append(all.length() == 0 ? "" : ", ").append(type.getSimpleName());
        }
        return all.toString();
    }

    private static void membersArePrivate() {
        for (Field f : HexBroadsides.class.getDeclaredFields()) {
            boolean constant = f.getName().equals("NONE");
            Due.isTrue(f + " is as visible as it may be",
                    constant == Modifier.isPublic(f.getModifiers()) && constant != Modifier.isPrivate(f.getModifiers()));
        }
        for (Method m : HexBroadsides.class.getDeclaredMethods()) {
            Due.isTrue(m + " is public or private",
                    Modifier.isPublic(m.getModifiers()) || Modifier.isPrivate(m.getModifiers()));
        }
        Due.isTrue("at most 12 classes", HexBroadsides.class.getDeclaredClasses().length < 12);
        for (Class<?> c : HexBroadsides.class.getDeclaredClasses()) {
            Due.isTrue(c + " is static and not public",
                    Modifier.isStatic(c.getModifiers()) && !Modifier.isPublic(c.getModifiers())
                    && !Modifier.isProtected(c.getModifiers()));
            Due.isTrue(c + " has at most 20 fields", c.getDeclaredFields().length <= 20);
        }
    }

    private static void namesOfPublicMethodsAreTheirOwn() {
        Set<String> names = new HashSet<>();
        for (Method m : HexBroadsides.class.getDeclaredMethods()) {
            if (Modifier.isPublic(m.getModifiers())) {
                Due.isTrue(m + " has a name of its own", names.add(m.getName()));
            }
        }
        for (Method m : HexBroadsides.class.getDeclaredMethods()) {
            Due.isTrue(m + " bears no public name", Modifier.isPublic(m.getModifiers()) || !names.contains(m.getName()));
        }
        for (Class<?> c : HexBroadsides.class.getDeclaredClasses()) {
            for (Method m : c.getDeclaredMethods()) {
                Due.isTrue(m + " bears no public name", !names.contains(m.getName()));
            }
        }
    }

    private static void staticFieldsAreFinal() {
        Set<Class<?>> classes = new HashSet<>(Arrays.asList(HexBroadsides.class.getDeclaredClasses()));
        classes.add(HexBroadsides.class);
        for (Class<?> c : classes) {
            for (Field f : c.getDeclaredFields()) {
                Due.isTrue(f + " is final if it is static",
                        !Modifier.isStatic(f.getModifiers()) || Modifier.isFinal(f.getModifiers()));
            }
        }
    }

    private static void forbiddenWords(String code) {
        String[] words = {"package", "finally", "synchronized", "assert", "instanceof", "try", "catch", "->",
            "::", "Random", "System\\.(?!arraycopy)", "Thread", "double\\s*\\[", "String", "Object", "static \\{",
            "while", "native", "transient", "volatile", "@", "Exact", "getMessage", "hashCode", "equals"};
        for (String word : words) {
            String bounded = Character.isLetter(word.charAt(0)) ? "\\b" + word : word;
            Due.isTrue("no '" + word + "' in the source", !Pattern.compile(bounded).matcher(code).find());
        }
        Matcher imports = Pattern.compile("(?m)^import (.*);").matcher(code);
        while (imports.find()) {
            Due.isTrue("import of " + imports.group(1), imports.group(1).equals("java.util.Arrays"));
        }
        Matcher thrown = Pattern.compile("throw (.*)").matcher(code);
        while (thrown.find()) {
            Due.isTrue(thrown.group() + " is a throw of the rules", thrown.group(1).matches(
                    "new (IllegalStateException|IllegalArgumentException|IndexOutOfBoundsException)\\(\"\"\\);"));
        }
    }

    private static void nothingIsMadeButInConstructors(String code) {
        String rest = code.replaceAll("throw new \\w+", "throw");
        Matcher constructor = Pattern.compile("(?s)\\n( *)(?:public )?[A-Z]\\w*\\([^)]*\\) \\{\\n.*?\\n\\1\\}").matcher(rest);
        rest = constructor.replaceAll("");
        Due.isTrue("nothing is made outside constructors", !Pattern.compile("\\bnew\\b").matcher(rest).find());
        Due.isTrue("constructors were found", rest.length() < code.length() - 500);
    }

    private static void methodsAreShort(String code) {
        Matcher method = Pattern.compile("(?s)\\n( {4}| {8})(?:\\w+ )*\\w+\\(([^)]*)\\)[^;{}]*\\{\\n(.*?)\\n\\1\\}").matcher(code);
        int found = 0;
        while (method.find()) {
            found++;
            Due.isTrue("a method of at most 60 lines", method.group(3).split("\n").length <= 60);
            Due.isTrue("at most 7 parameters", method.group(2).split(",").length <= 7);
        }
        Due.isTrue("methods were found", found > 80);
    }
}
