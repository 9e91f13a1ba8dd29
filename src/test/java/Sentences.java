import java.io.IOException;
import java.lang.reflect.InvocationTargetException;
import java.lang.reflect.Method;
import java.nio.file.Files;
import java.nio.file.Path;
import java.util.ArrayList;
import java.util.Comparator;
import java.util.LinkedHashMap;
import java.util.List;
import java.util.Map;

/** Runs the tests that quote the document, and sees to it that no word of it is without one. */
final class Sentences {
    private static final Path DOCUMENT = Path.of("../shared/DOC.md");

    private Sentences() {
    }

    /** Every test of a class, then the parts of the document that it stands for. */
    static void run(Class<?> tests, String... parts) throws IOException {
        List<Method> methods = quoting(tests);
        int wrong = 0;
        for (Method test : methods) {
            wrong += failures(test);
        }
        wrong += heldAgainstDocument(methods, parts);
        System.out.println(wrong == 0 ? "all " + methods.size() + " sentences hold" : wrong + " things are not as due");
        if (wrong != 0) {
            System.exit(1);
        }
    }

    private static List<Method> quoting(Class<?> tests) {
        List<Method> methods = new ArrayList<>();
        for (Method m : tests.getDeclaredMethods()) {
            if (m.isAnnotationPresent(Says.class)) {
                m.setAccessible(true);
                methods.add(m);
            }
        }
        methods.sort(Comparator.comparing(Method::getName));
        return methods;
    }

    private static int failures(Method test) {
        Script.WRONG.clear();
        try {
            test.invoke(null);
        } catch (InvocationTargetException e) {
            Script.WRONG.add("the test itself broke: " + e.getCause());
        } catch (IllegalAccessException e) {
            Script.WRONG.add("the test can't be called: " + e);
        }
        Says says = test.getAnnotation(Says.class);
        for (String line : Script.WRONG) {
            System.out.println(says.at() + ", \"" + String.join("\" \"", says.value()) + "\": " + line);
        }
        return Script.WRONG.size();
    }

    private static int heldAgainstDocument(List<Method> methods, String... parts) throws IOException {
        if (!Files.exists(DOCUMENT)) {
            System.out.println("not held against the document, which is not there: " + DOCUMENT);
            return 0;
        }
        Map<String, String> texts = partsOfDocument(Files.readString(DOCUMENT));
        int wrong = 0;
        Map<String, boolean[]> quoted = new LinkedHashMap<>();
        for (String part : parts) {
            quoted.put(part, new boolean[texts.getOrDefault(part, "").length()]);
        }
        for (Method m : methods) {
            Says says = m.getAnnotation(Says.class);
            for (String words : says.value()) {
                wrong += mark(says.at(), words, texts.get(says.at()), quoted.get(says.at()));
            }
        }
        for (String part : parts) {
            wrong += unquoted(part, texts.getOrDefault(part, ""), quoted.get(part));
        }
        return wrong;
    }

    private static int mark(String part, String words, String text, boolean[] quoted) {
        int at = text == null ? -1 : text.indexOf(words);
        if (at < 0 || quoted == null) {
            System.out.println(part + " does not say: " + words);
            return 1;
        }
        java.util.Arrays.fill(quoted, at, at + words.length(), true);
        return 0;
    }

    private static int unquoted(String part, String text, boolean[] quoted) {
        StringBuilder rest = new StringBuilder();
        boolean any = text.isEmpty();
        for (int i = 0; i < text.length(); i++) {
            rest.append(quoted[i] ? '_' : text.charAt(i));
            any |= !quoted[i] && Character.isLetterOrDigit(text.charAt(i));
        }
        if (any) {
            System.out.println(part + " says what no test quotes: " + rest.toString().replaceAll("_+", "_"));
        }
        return any ? 1 : 0;
    }

    /** The two terms with their blocks, and what each promise says behind its call. */
    private static Map<String, String> partsOfDocument(String document) {
        Map<String, String> parts = new LinkedHashMap<>();
        String text = document.replace("```text", " ").replace("```", " ").replaceAll("\\s+", " ");
        parts.put("Term 1", between(text, " 1. SHELVES", " 2. CUTS").replaceFirst("^ 1\\. ", ""));
        parts.put("Term 2", between(text, " 2. CUTS", " The constants:").replaceFirst("^ 2\\. ", ""));
        for (int n = 1; n <= 26; n++) {
            String promise = between(text, "## Promise " + n + ":", " ## ");
            int call = promise.indexOf("`: ");
            parts.put("Promise " + n, call < 0 ? "" : promise.substring(call + 3));
        }
        return parts;
    }

    private static String between(String text, String first, String end) {
        int from = text.indexOf(first);
        int to = from < 0 ? -1 : text.indexOf(end, from + 1);
        return from < 0 ? "" : text.substring(from, to < 0 ? text.length() : to);
    }
}
