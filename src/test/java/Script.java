import java.lang.reflect.Method;
import java.lang.reflect.Modifier;
import java.util.ArrayList;
import java.util.Arrays;
import java.util.List;
import java.util.Map;
import java.util.TreeMap;
import java.util.regex.Matcher;
import java.util.regex.Pattern;

/**
 * Calls told as texts, made on one new object: "spell(4) = NONE" makes a call and looks at its answer, "spell(4)" only
 * makes it. Some lines stand for several calls:
 * "book: 012 10/7" (WORDS, COMMON 5 or as told), "players: 0 3/7" (KINDS, v 0 or as told), "feed: least 1",
 * "table: least 1" (which has to be one), "lives: 0 3 99" (one behind the other), "turns: 0 1 102" (with answers),
 * "ROW: 012" (looks at THE ROW), "TAPE 0: 1 2 3" (looks at all of it), "6 times: spell(3)".
 */
final class Script {
    private static final int CALL_LIMIT = 512;
    private static final Pattern CALL = Pattern.compile("(\\w+)\\(([^)]*)\\)(?: = (\\S+))?");
    private static final Map<String, Long> NAMES = Map.ofEntries(
        Map.entry("NONE", -1L), Map.entry("BAD", -2L), Map.entry("STATE", -3L), Map.entry("FULL", -4L),
        Map.entry("NOTHING", -11L), Map.entry("CAST", -12L), Map.entry("PLACE", -13L), Map.entry("SIZE", -14L),
        Map.entry("NO", Long.MIN_VALUE), Map.entry("MIN", (long) Integer.MIN_VALUE),
        Map.entry("MAX", (long) Integer.MAX_VALUE), Map.entry("LEAST", Long.MIN_VALUE),
        Map.entry("MOST", Long.MAX_VALUE));
    private static final Map<String, Method> METHODS = new TreeMap<>();

    private static String sentence = "";
    private static int sentences = 0;
    private static int wrong = 0;

    private final EndsWord x = new EndsWord();
    private int calls = 0;

    static {
        for (Method m : EndsWord.class.getDeclaredMethods()) {
            if (Modifier.isPublic(m.getModifiers())) {
                METHODS.put(m.getName(), m);
            }
        }
    }

    /** The sentence of the document that the calls below look at. */
    static void sentence(String words) {
        sentence = words;
        sentences++;
    }

    static Script on(String... lines) {
        return new Script().due(lines);
    }

    /** Each of these calls, on an object that came to be by the lines, answers as told, and changes nothing. */
    static void unchanged(String[] lines, String... asked) {
        for (String call : asked) {
            for (List<String> looks : Looks.ALL) {
                Script with = on(lines);
                Script without = on(lines);
                with.due(call);
                for (String look : looks) {
                    long after = with.answer(look);
                    if (after != without.answer(look)) {
                        fail(call + " changed what " + look + " answers, to " + after);
                    }
                }
            }
        }
    }

    static String[] lines(String... lines) {
        return lines;
    }

    /** These lines, and more behind them. */
    static String[] more(String[] lines, String... behind) {
        String[] all = Arrays.copyOf(lines, lines.length + behind.length);
        System.arraycopy(behind, 0, all, lines.length, behind.length);
        return all;
    }

    static void end() {
        System.out.println(sentences + " sentences, " + wrong + " answers are not as due");
        if (wrong != 0) {
            System.exit(1);
        }
    }

    private static void fail(String what) {
        wrong++;
        System.out.println("\"" + sentence + "\": " + what);
    }

    Script due(String... lines) {
        for (String line : lines) {
            line(line);
        }
        return this;
    }

    private void line(String line) {
        int colon = line.indexOf(": ");
        if (colon < 0) {
            answer(line);
            return;
        }
        String rest = line.substring(colon + 2);
        String[] parts = rest.split(" ");
        String what = line.substring(0, colon);
        if (what.endsWith(" times")) {
            for (int k = Integer.parseInt(what.split(" ")[0]); k > 0; k--) {
                answer(rest);
            }
        } else if (what.startsWith("TAPE ")) {
            tape(what.substring(5), rest.isEmpty() ? new String[0] : parts);
        } else {
            several(what, rest, parts);
        }
    }

    private void several(String what, String rest, String[] parts) {
        switch (what) {
            case "book" -> Arrays.stream(parts).forEach(this::word);
            case "players" -> Arrays.stream(parts).forEach(p -> answer("player(" + pair(p, "0") + ")"));
            case "feed" -> feed(rest);
            case "table" -> {
                feed(rest);
                if (answer("table()") < 0) {
                    fail("'" + rest + "' is no TABLE");
                }
            }
            case "lives" -> {
                for (int k = 0; k < parts.length; k++) {
                    answer("live(" + k + ", " + parts[k] + ")");
                }
            }
            case "turns" -> Arrays.stream(parts).forEach(t -> answer("turn() = " + t));
            case "ROW" -> row(rest);
            default -> throw new IllegalArgumentException(what);
        }
    }

    private static String pair(String told, String without) {
        return told.contains("/") ? told.replace("/", ", ") : told + ", " + without;
    }

    private void word(String told) {
        answer("spell(-1)");
        for (char letter : told.split("/")[0].toCharArray()) {
            answer("spell(" + letter + ")");
        }
        answer("word(" + pair(told, "5").split(", ")[1] + ")");
    }

    private void feed(String text) {
        for (char sign : text.toCharArray()) {
            answer("feed(" + (int) sign + ")");
        }
    }

    private void row(String want) {
        answer("told(2) = " + want.length());
        for (int k = 0; k < want.length(); k++) {
            answer("told(" + (10 + k) + ") = " + want.charAt(k));
        }
    }

    private void tape(String tape, String[] want) {
        for (int i = 0; i < want.length; i++) {
            answer("read(" + tape + ", " + i + ") = " + want[i]);
        }
        answer("read(" + tape + ", " + want.length + ") = NO");
    }

    /** What a call answers; looked at, if the text tells what it should. */
    long answer(String told) {
        Matcher call = CALL.matcher(told);
        if (!call.matches()) {
            throw new IllegalArgumentException(told);
        }
        calls++;
        if (calls > CALL_LIMIT) {
            throw new IllegalStateException("more calls than an object is used for: " + told);
        }
        long got = made(METHODS.get(call.group(1)), call.group(2).isEmpty() ? new String[0] : call.group(2).split(", "));
        if (call.group(3) != null && got != number(call.group(3))) {
            fail(told + " is due, the answer was " + got);
        }
        return got;
    }

    private long made(Method method, String[] told) {
        Object[] given = new Object[told.length];
        for (int k = 0; k < told.length; k++) {
            long n = number(told[k]);
            given[k] = method.getParameterTypes()[k] == long.class ? (Object) n : (Object) Math.toIntExact(n);
        }
        try {
            return ((Number) method.invoke(x, given)).longValue();
        } catch (ReflectiveOperationException e) {
            fail(method.getName() + Arrays.toString(told) + " threw " + e.getCause());
            return Long.MAX_VALUE;
        }
    }

    private static long number(String told) {
        Long named = NAMES.get(told);
        return named != null ? named : Long.parseLong(told);
    }

    /** Calls by which all that an object holds can be told apart; those of one list are made one behind the other. */
    private static final class Looks {
        static final List<List<String>> ALL = List.of(held(), asked(), taped(), spelled("word(7)"),
            spelled("spell(3)", "word(7)"), text(), sheet(), image());

        private static List<String> held() {
            List<String> looks = new ArrayList<>();
            each(looks, "count(%d)", 0, 7);
            each(looks, "told(%d)", 0, 4);
            each(looks, "told(%d)", 10, 21);
            each(looks, "trace(%d)", 0, 13);
            for (int player = 0; player < 5; player++) {
                each(looks, "of(" + player + ", %d)", 0, 5);
            }
            words(looks);
            return looks;
        }

        private static void each(List<String> looks, String call, int from, int to) {
            for (int k = from; k <= to; k++) {
                looks.add(String.format(call, k));
            }
        }

        private static void words(List<String> looks) {
            for (int word = 0; word < 12; word++) {
                each(looks, "letter(" + word + ", %d)", 0, 1);
                each(looks, "letter(" + word + ", %d)", 10, 15);
            }
        }

        private static List<String> asked() {
            List<String> looks = new ArrayList<>();
            for (int player = 0; player < 5; player++) {
                each(looks, "act(" + player + ", %d, 7)", 0, 2);
                each(looks, "row(" + player + ", %d, 0)", 0, 3);
                each(looks, "taken(" + player + ", %d)", 0, 6);
                each(looks, "has(" + player + ", %d)", 0, 1);
                looks.add("could(" + player + ")");
                looks.add("learn(" + player + ", 20)");
                looks.add("odds(" + player + ", 0)");
            }
            each(looks, "on(1, %d)", 0, 1);
            each(looks, "on(20, %d)", 10, 14);
            each(looks, "ends(%d)", 0, 2);
            each(looks, "won(%d)", 0, 1);
            each(looks, "by(%d)", 0, 3);
            each(looks, "out(%d)", 0, 1);
            each(looks, "can(%d, 1)", 0, 11);
            each(looks, "begins(%d)", 0, 9);
            each(looks, "judge(%d, 0)", 0, 5);
            looks.add("rank(9)");
            looks.add("mean(7, 0)");
            looks.add("looked()");
            for (int k = 0; k < 20; k++) {
                looks.add("turn()");
            }
            return looks;
        }

        private static List<String> taped() {
            List<String> looks = new ArrayList<>();
            for (int tape = 0; tape < 6; tape++) {
                // Tells an empty row from nothing, and what sort it is.
                looks.add("shift(" + tape + ", 0, " + tape + ", 0, 0)");
                each(looks, "read(" + tape + ", %d)", 0, 9);
                each(looks, "read(" + tape + ", %d)", 58, 60);
            }
            for (int tape = 0; tape < 6; tape++) {
                looks.add("item(" + tape + ", 0, 81985529216486895)");
                looks.add("read(" + tape + ", 0)");
            }
            return looks;
        }

        private static List<String> spelled(String... calls) {
            List<String> looks = new ArrayList<>(List.of(calls));
            words(looks);
            return looks;
        }

        private static List<String> text() {
            List<String> looks = new ArrayList<>(List.of("table()", "told(3)", "told(4)", "player(0, 0)", "count(2)"));
            each(looks, "of(%d, 5)", 0, 4);
            each(looks, "of(%d, 2)", 0, 4);
            return looks;
        }

        /** If one alone has LIVES, who LOSES is that one: so each place of the SHEET comes to be looked at. */
        private static List<String> sheet() {
            List<String> looks = new ArrayList<>(List.of("looked()"));
            for (int player = 0; player < 5; player++) {
                for (int other = 0; other < 5; other++) {
                    looks.add("live(" + other + ", " + (other == player ? 99 : 0) + ")");
                }
                looks.add("looked()");
            }
            return looks;
        }

        private static List<String> image() {
            List<String> looks = new ArrayList<>(List.of("undo()"));
            looks.addAll(held());
            looks.add("looked()");
            each(looks, "could(%d)", 0, 4);
            each(looks, "row(%d, 1, 0)", 0, 4);
            return looks;
        }
    }
}
