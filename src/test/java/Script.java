import java.util.ArrayList;
import java.util.Collections;
import java.util.List;
import java.util.NoSuchElementException;

/**
 * Calls on a new object, written as text: "shelf 20 0 = 0; book 0 41 = NONE; on 7 0 = throws".
 *
 * <p>Without "=" a call's answer is free. An argument a..b stands for each number from a to b, *
 * for 0, 1, .. up to as many as there are answers, WILD for numbers far off; several calls have one
 * answer each, or one for all of them. "9x book 0 1" makes a call nine times.
 */
final class Script {
    /** What an object does later is free. */
    private static final int MOST_CALLS = 512;
    private static final int[] WILD = {
        Integer.MIN_VALUE, Integer.MIN_VALUE + 1, -1073741824, -65536, -1000, -256, -60, -12, -2, -1,
        1000, 1024, 65536, 1000000, 1073741824, Integer.MAX_VALUE - 1, Integer.MAX_VALUE
    };

    /** What was not as due, of all scripts since the list was emptied. */
    static final List<String> WRONG = new ArrayList<>();

    private final ShelfShift x = new ShelfShift();
    private final String told;
    private int calls = 0;

    Script(String... texts) {
        told = String.join("; ", texts);
        for (String call : told.split(";")) {
            if (!call.isBlank()) {
                make(call.trim());
            }
        }
    }

    private void make(String call) {
        if (call.matches("\\d+x .*")) {
            int times = Integer.parseInt(call.substring(0, call.indexOf('x')));
            for (int i = 0; i < times; i++) {
                make(call.substring(call.indexOf(' ') + 1));
            }
            return;
        }
        String[] sides = call.split("=");
        String[] words = sides[0].trim().split(" +");
        String[] wants = sides.length > 1 ? sides[1].trim().split(" +") : new String[0];
        List<int[]> asked = arguments(words, wants.length);
        if (wants.length > 1 && wants.length != asked.size()) {
            throw new IllegalStateException("so many answers don't fit: " + call);
        }
        for (int i = 0; i < asked.size(); i++) {
            String got = ask(words[0], asked.get(i));
            if (wants.length > 0) {
                hold(words[0], asked.get(i), got, wants[wants.length > 1 ? i : 0]);
            }
        }
    }

    private void hold(String name, int[] a, String got, String want) {
        if (!got.equals(want.equals("NONE") ? "-1" : want)) {
            WRONG.add(name + numbers(a) + " answered " + got + ", due is " + want + ", in: " + told);
        }
    }

    private static String numbers(int[] a) {
        StringBuilder text = new StringBuilder("(");
        for (int i = 0; i < a.length; i++) {
            text.append(i == 0 ? "" : ", ").append(a[i]);
        }
        return text.append(")").toString();
    }

    private static List<int[]> arguments(String[] words, int wants) {
        List<int[]> rows = new ArrayList<>(Collections.singletonList(new int[0]));
        for (int w = 1; w < words.length; w++) {
            List<int[]> longer = new ArrayList<>();
            for (int[] row : rows) {
                for (int value : values(words[w], wants)) {
                    int[] next = java.util.Arrays.copyOf(row, row.length + 1);
                    next[row.length] = value;
                    longer.add(next);
                }
            }
            rows = longer;
        }
        return rows;
    }

    private static int[] values(String word, int wants) {
        switch (word) {
            case "WILD": return WILD;
            case "NONE": return new int[] {ShelfShift.NONE};
            case "MIN": return new int[] {Integer.MIN_VALUE};
            case "MAX": return new int[] {Integer.MAX_VALUE};
            case "true": return new int[] {1};
            case "false": return new int[] {0};
            case "*": return java.util.stream.IntStream.range(0, wants).toArray();
            default: break;
        }
        String[] ends = word.split("\\.\\.");
        int first = Integer.parseInt(ends[0]);
        int last = Integer.parseInt(ends[ends.length - 1]);
        return java.util.stream.IntStream.rangeClosed(first, last).toArray();
    }

    /** The answer as a word; an exception that the document names is "throws". */
    String ask(String name, int... a) {
        calls++;
        if (calls > MOST_CALLS) {
            throw new IllegalStateException("too many calls: " + told);
        }
        try {
            return answer(name, a);
        } catch (NoSuchElementException e) {
            return "throws";
        } catch (RuntimeException e) {
            return "throws." + e.getClass().getSimpleName();
        }
    }

    private String answer(String name, int[] a) {
        switch (name) {
            case "turn": return String.valueOf(x.turn(a[0], a[1]));
            case "grow": return String.valueOf(x.grow(a[0], a[1]));
            case "limit": return String.valueOf(x.limit(a[0]));
            default: return String.valueOf(number(name, a));
        }
    }

    private int number(String name, int[] a) {
        switch (name) {
            case "shelf": return x.shelf(a[0], a[1]);
            case "group": return x.group(a[0]);
            case "book": return x.book(a[0], a[1]);
            case "gone": return x.gone(a[0]);
            case "count": return x.count(a[0]);
            case "on": return x.on(a[0], a[1]);
            case "in": return x.in(a[0], a[1]);
            case "of": return x.of(a[0], a[1]);
            case "lasts": return x.lasts();
            case "cut": return x.cut(a[0], a[1]);
            case "price": return x.price(a[0], a[1]);
            case "best": return x.best(a[0] == 1);
            case "tight": return x.tight();
            case "more": return x.more(a[0], a[1]);
            case "plan": return x.plan(a[0]);
            case "drop": return x.drop();
            case "move": return x.move();
            case "day": return x.day();
            case "planned": return x.planned(a[0], a[1]);
            case "left": return x.left(a[0]);
            case "enough": return x.enough(a[0]);
            case "log": return x.log(a[0], a[1]);
            default: throw new IllegalStateException("no such call: " + name);
        }
    }

    /** Each of these calls, with its answer, leaves all as it was. */
    static void stays(String before, String... calls) {
        List<String> due = everything(before);
        for (String call : calls) {
            List<String> got = everything(before + "; " + call);
            if (!got.equals(due)) {
                WRONG.add(call + " changed something: " + firstOther(due, got) + ", in: " + before);
            }
        }
    }

    private static String firstOther(List<String> due, List<String> got) {
        for (int i = 0; i < due.size() && i < got.size(); i++) {
            if (!due.get(i).equals(got.get(i))) {
                return got.get(i) + ", it was " + due.get(i);
            }
        }
        return "more or fewer things to ask for";
    }

    /** All that can be asked for behind some calls; a new object takes over before one has too many. */
    private static List<String> everything(String before) {
        List<String> questions = new ArrayList<>();
        Script script = new Script(before);
        addQuestions(questions, "count", 11);
        addQuestions(questions, "left", 5);
        addQuestions(questions, "enough", 4);
        addQuestions(questions, "lasts", 1);
        addQuestions(questions, "tight", 1);
        addQuestions(questions, "best", 2);
        addQuestions(questions, "price", 1, 3);
        addQuestions(questions, "on", Integer.parseInt(script.ask("count", 0)), 8);
        addQuestions(questions, "in", Integer.parseInt(script.ask("count", 1)), 5);
        addQuestions(questions, "of", Integer.parseInt(script.ask("count", 2)), 7);
        addQuestions(questions, "planned", Integer.parseInt(script.ask("count", 6)), 7);
        addQuestions(questions, "log", Integer.parseInt(script.ask("count", 9)), 5);
        List<String> answers = new ArrayList<>();
        for (String question : questions) {
            if (script.calls >= MOST_CALLS) {
                script = new Script(before);
            }
            String[] words = question.split(" ");
            answers.add(question + " = " + script.ask(words[0], arguments(words, 0).get(0)));
        }
        return answers;
    }

    private static void addQuestions(List<String> questions, String name, int whats) {
        for (int what = 0; what < whats; what++) {
            questions.add(name + " " + what);
        }
    }

    private static void addQuestions(List<String> questions, String name, int count, int whats) {
        for (int k = 0; k < count; k++) {
            addQuestions(questions, name + " " + k, whats);
        }
    }
}
