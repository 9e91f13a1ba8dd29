/** Every call with every mixture of edge numbers, in several states: none throws by itself, none breaks the order. */
public final class WildTest {
    private static final int[] NUMBERS = {
        Integer.MIN_VALUE, Integer.MIN_VALUE + 1, -61, -13, -2, -1, 0, 1, 2, 3, 4, 5, 6, 7, 8, 9, 10, 11, 12, 13,
        39, 40, 41, 59, 60, 61, 99, 100, 200, 201, 399, 400, 401, 998, 999, 1000, 65536, 1073741824, Integer.MAX_VALUE
    };
    private static final String[] CALLS = {
        "shelf", "turn", "group", "grow", "book", "gone", "limit", "count", "on", "in", "of", "lasts", "cut", "price",
        "best", "tight", "more", "plan", "drop", "move", "day", "planned", "left", "enough", "log"
    };
    private static final String BOTH_WAYS =
        "shelf 20 2; shelf 40 0; shelf 20 0; group 0; book 0 10; book 0 10; book 0 11; book 0 9; turn 0 0; turn 1 1;"
        + "plan 0 = 4";
    private static final String[] STATES = {
        "",
        "shelf 20 0",
        "group 5",
        BOTH_WAYS,
        BOTH_WAYS + "; 3x move",
        "shelf 60 0; group 9; 60x book 0 1; shelf 60 0; turn 0 2; plan 0 = 60",
        "12x shelf 200 0; 8x group 99; 7x book 0..7 40; 4x book 7 40; count 2 = 60",
        "11x shelf 200 0; 8x group 99; 55x book 3 40; shelf 200 1; turn 0 2; plan 0 = 55; 20x move"
    };
    /** A new object takes over behind so many calls, before it has too many. */
    private static final int TURN = 200;

    private static int wrong = 0;
    private static int calls = 0;

    private static void must(boolean so, String told) {
        if (!so) {
            wrong++;
            System.out.println(told);
        }
    }

    private static boolean mayThrow(String call) {
        return call.equals("on") || call.equals("in") || call.equals("of");
    }

    private static int ask(Script script, String call, int... a) {
        return Integer.parseInt(script.ask(call, a));
    }

    /** The order of the books over the shelves, and their room. */
    private static void holdOrder(Script script, String told) {
        int books = ask(script, "count", 2);
        for (int b = 1; b < books; b++) {
            must(ask(script, "of", b, 3) >= ask(script, "of", b - 1, 3), told + ": the order is broken at " + b);
        }
        int shelves = ask(script, "count", 0);
        for (int s = 0; s < shelves; s++) {
            must(ask(script, "on", s, 3) >= 0, told + ": too full is " + s);
        }
    }

    private static void allNumbers(String state, String call) {
        Script script = new Script(state);
        int made = 0;
        for (int first : NUMBERS) {
            for (int second : NUMBERS) {
                if (made == TURN) {
                    holdOrder(script, call);
                    script = new Script(state);
                    made = 0;
                }
                String answer = script.ask(call, first, second);
                boolean thrown = answer.startsWith("throws");
                must(!thrown || mayThrow(call) && answer.equals("throws"),
                    call + "(" + first + ", " + second + ") answered " + answer + " behind: " + state);
                made++;
                calls++;
            }
        }
        holdOrder(script, call);
    }

    public static void main(String[] args) {
        for (String state : STATES) {
            for (String call : CALLS) {
                allNumbers(state, call);
            }
        }
        wrong += Script.WRONG.size();
        Script.WRONG.forEach(System.out::println);
        System.out.println(calls + " wild calls, not as due: " + wrong);
        if (wrong != 0) {
            System.exit(1);
        }
    }
}
