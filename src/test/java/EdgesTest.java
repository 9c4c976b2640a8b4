import java.io.IOException;
import java.lang.reflect.InvocationTargetException;
import java.lang.reflect.Method;
import java.nio.charset.StandardCharsets;
import java.nio.file.Files;
import java.nio.file.Path;
import java.util.ArrayList;
import java.util.Arrays;
import java.util.Comparator;
import java.util.LinkedHashMap;
import java.util.List;
import java.util.Map;

/**
 * Runs every test that names a sentence of the document, and looks that the document has each sentence named, and
 * that each clause of its sections What it is (the 512 calls), Terms and Promise 1 to 21 is named by a test.
 */
public final class EdgesTest {
    private static final Path DOCUMENT = Path.of("..", "shared", "DOC.md");
    private static final Class<?>[] GROUPS = {
        GeneralEdges.class, PatternEdges.class, ComingEdges.class, ClaimAndHoldingEdges.class,
        Promise01To04Edges.class, Promise05To07Edges.class, Promise08To16Edges.class, Promise17To21Edges.class,
    };

    public static void main(String[] args) throws IOException, ReflectiveOperationException {
        List<Method> tests = tests();
        for (Method test : tests) {
            run(test);
        }
        if (Files.exists(DOCUMENT)) {
            Map<String, List<String>> clauses = clauses();
            lookThatEachIsInTheDocument(tests, clauses);
            lookThatNoneIsMissing(tests, clauses);
        } else {
            System.out.println(DOCUMENT + " is not here, so its sentences were not compared");
        }
        System.out.println(tests.size() + " sentences tested");
        Check.end();
    }

    private static List<Method> tests() {
        List<Method> tests = new ArrayList<>();
        for (Class<?> group : GROUPS) {
            Method[] methods = group.getDeclaredMethods();
            Arrays.sort(methods, Comparator.comparing(Method::getName));
            for (Method method : methods) {
                if (method.isAnnotationPresent(Sentence.class)) {
                    tests.add(method);
                }
            }
        }
        return tests;
    }

    private static void run(Method test) throws ReflectiveOperationException {
        int before = Check.wrongSoFar();
        try {
            test.invoke(null);
        } catch (InvocationTargetException e) {
            Check.fault("an answer was due, but " + e.getCause() + " was thrown");
        }
        if (Check.wrongSoFar() != before) {
            Sentence sentence = test.getAnnotation(Sentence.class);
            System.out.println("BROKEN: " + sentence.in() + ": \"" + sentence.says() + "\" ("
                + test.getDeclaringClass().getSimpleName() + "." + test.getName() + ")");
        }
    }

    /** Each section's clauses; a heading such as "The pattern." is none, nor is a line on the interface's order. */
    private static Map<String, List<String>> clauses() throws IOException {
        Map<String, List<String>> clauses = new LinkedHashMap<>();
        String section = "";
        for (String line : Files.readAllLines(DOCUMENT, StandardCharsets.UTF_8)) {
            if (line.startsWith("## ")) {
                section = line.substring(3).replaceAll(":.*", "");
            } else if (isCompared(section) && !line.startsWith("Ahead of the calls")) {
                String text = line.replaceFirst("^`[^`]*\\([^`]*`: ", "").replaceFirst("^- ", "");
                for (String clause : text.split("(?<=[.;]) ")) {
                    if (clause.contains(" ") && !clause.equals("The pattern.")) {
                        clauses.computeIfAbsent(section, any -> new ArrayList<>()).add(clause);
                    }
                }
            }
        }
        return clauses;
    }

    private static boolean isCompared(String section) {
        return section.equals("Terms") || section.startsWith("Promise ");
    }

    private static void lookThatEachIsInTheDocument(List<Method> tests, Map<String, List<String>> clauses)
            throws IOException {
        String whole = Files.readString(DOCUMENT, StandardCharsets.UTF_8);
        for (Method test : tests) {
            Sentence sentence = test.getAnnotation(Sentence.class);
            String text = clauses.containsKey(sentence.in()) ? String.join(" ", clauses.get(sentence.in())) : whole;
            Check.same(test.getName() + ": the document says \"" + sentence.says() + "\" in " + sentence.in(),
                text.contains(sentence.says()), true);
        }
    }

    private static void lookThatNoneIsMissing(List<Method> tests, Map<String, List<String>> clauses) {
        for (Map.Entry<String, List<String>> section : clauses.entrySet()) {
            for (String clause : section.getValue()) {
                Check.same(section.getKey() + ": a test names \"" + clause + "\"",
                    isNamed(section.getKey(), clause, tests), true);
            }
        }
    }

    private static boolean isNamed(String section, String clause, List<Method> tests) {
        for (Method test : tests) {
            Sentence sentence = test.getAnnotation(Sentence.class);
            boolean isSame = clause.contains(sentence.says()) || sentence.says().contains(clause);
            if (sentence.in().equals(section) && isSame) {
                return true;
            }
        }
        return false;
    }
}
