import java.lang.reflect.Method;
import java.lang.reflect.Modifier;
import java.util.ArrayList;
import java.util.Comparator;
import java.util.List;
import java.util.Random;
import java.util.TreeMap;

/** Runs of calls, the same each time, on the class and on the Model; every answer must be the same. */
public final class ModelTest {
    private static final int RUNS = 1500, CALLS = 170;
    private static final int[] WILD = {Integer.MIN_VALUE, Integer.MIN_VALUE + 9, -100, -3, -2, -1, 100, 128,
        Integer.MAX_VALUE - 2, Integer.MAX_VALUE};

    private final Random dice;
    private final EndsWord real = new EndsWord();
    private final Model model = new Model();
    private final List<String> calls = new ArrayList<>();
    private static final TreeMap<String, TreeMap<Long, Integer>> answers = new TreeMap<>();
    private static final List<Method> methods = new ArrayList<>();

    private ModelTest(long seed) {
        dice = new Random(seed);
    }

    public static void main(String[] args) throws Exception {
        for (Method m : EndsWord.class.getDeclaredMethods()) {
            if (Modifier.isPublic(m.getModifiers())) {
                methods.add(m);
            }
        }
        methods.sort(Comparator.comparing(Method::getName));
        int runs = args.length > 0 ? Integer.parseInt(args[0]) : RUNS;
        for (int run = 0; run < runs; run++) {
            String wrong = new ModelTest(run).run();
            if (wrong != null) {
                System.out.println("run " + run + ":\n" + wrong);
                System.exit(1);
            }
        }
        if (args.length > 1) {
            answers.forEach((name, got) -> System.out.println(name + " " + got));
        }
        System.out.println(runs + " runs answered as the Model does");
    }

    private String run() throws Exception {
        String wrong = build();
        for (int k = 0; k < CALLS && wrong == null; k++) {
            wrong = step();
        }
        return wrong;
    }

    private int below(int n) {
        return dice.nextInt(n);
    }

    private String build() throws Exception {
        int letters = 2 + below(3);
        int length = 2 + below(5);
        String wrong = null;
        for (int w = below(15); w > 0 && wrong == null; w--) {
            wrong = word(letters, length);
        }
        for (int p = below(7); p > 0 && wrong == null; p--) {
            wrong = call("player", below(6) == 0 ? 6 : below(7), below(10));
        }
        return wrong != null ? wrong : below(3) > 0 ? table() : null;
    }

    private String word(int letters, int length) throws Exception {
        String wrong = null;
        for (int k = 1 + below(length); k > 0 && wrong == null; k--) {
            wrong = call("spell", below(letters));
        }
        return wrong != null ? wrong : call("word", below(10));
    }

    private String table() throws Exception {
        StringBuilder text = new StringBuilder(clause());
        while (below(2) == 0) {
            text.append(';').append(clause());
        }
        if (below(4) == 0 && text.length() > 0) {
            int at = below(text.length());
            String signs = "know leastiv;|&!()<=>0123456789pkvclfx";
            char sign = signs.charAt(below(signs.length()));
            switch (below(3)) {
                case 0 -> text.setCharAt(at, sign);
                case 1 -> text.deleteCharAt(at);
                default -> text.insert(at, sign);
            }
        }
        String wrong = null;
        for (int k = 0; k < text.length() && wrong == null; k++) {
            wrong = call("feed", text.charAt(k));
        }
        return wrong != null ? wrong : call("table");
    }

    private String clause() {
        return switch (below(6)) {
            case 0 -> "least " + below(5);
            case 1 -> "lives " + (below(3) == 0 ? below(100) : 1 + below(6));
            default -> "know " + expression(0);
        };
    }

    private String expression(int depth) {
        String sign = below(2) == 0 ? "|" : "&";
        return switch (depth > 5 ? 9 : below(10)) {
            case 0, 1 -> expression(depth + 1) + sign + expression(depth + 1);
            case 2 -> "!" + expression(depth + 1);
            case 3 -> "(" + expression(depth + 1) + ")";
            default -> "" + "pkvclf".charAt(below(6)) + "<=>".charAt(below(3)) + (below(4) == 0 ? "0" : "") + below(9);
        };
    }

    private String step() throws Exception {
        int choice = below(100);
        if (choice < 20) {
            return call("turn");
        }
        if (choice < 22) {
            return table();
        }
        if (choice < 24) {
            return word(4, 6);
        }
        if (choice < 28) {
            return revive();
        }
        if (choice < 30) {
            return judged();
        }
        if (choice < 32) {
            return traced();
        }
        if (choice < 35) {
            return call("learn", below(5), below(61));
        }
        Method m = methods.get(below(methods.size()));
        return switch (m.getName()) {
            // Rarely, as these make all that was built go.
            case "undo", "live" -> below(3) == 0 ? any(m) : null;
            case "feed" -> below(10) == 0 ? any(m) : null;
            default -> any(m);
        };
    }

    private String revive() throws Exception {
        String wrong = null;
        for (int player = 0; player < 5 && wrong == null; player++) {
            wrong = call("live", player, below(6));
        }
        return wrong;
    }

    /** A TAPE becomes THE ROW, or nearly so. */
    private String judged() throws Exception {
        String wrong = call("tape", 0, 0, 12);
        int ahead = below(3);
        for (int k = 0; k + ahead < 12 && wrong == null; k++) {
            int letter = model.told(10 + k);
            wrong = letter < 0 ? null : call("item", 0, k + ahead, (long) (below(12) == 0 ? 1 : letter));
        }
        return wrong != null ? wrong : call("judge", 0, ahead);
    }

    private String traced() throws Exception {
        String wrong = call("act", below(5), below(3), dice.nextInt());
        for (int i = 0; i < 13 && wrong == null; i++) {
            wrong = call("trace", i);
        }
        return wrong != null ? wrong : call("count", 7);
    }

    private String any(Method m) throws Exception {
        Object[] x = new Object[m.getParameterCount()];
        for (int k = 0; k < x.length; k++) {
            int n = argument(m.getName(), k);
            x[k] = m.getParameterTypes()[k] == long.class ? (Object) big(n) : (Object) n;
        }
        return call(m.getName(), x);
    }

    private long big(int n) {
        return below(2) == 0 ? n : dice.nextLong();
    }

    private int argument(String name, int k) {
        if (below(30) == 0) {
            return WILD[below(WILD.length)];
        }
        switch (name + k) {
            case "on0", "learn1", "rank0", "mean0":
                return below(63) - 1;
            case "letter1", "told0", "on1":
                return below(2) == 0 ? below(6) : 9 + below(14);
            case "tape2":
                return below(8) == 0 ? below(70) : below(10) - 1;
            case "tape1":
                return below(3) == 0 ? 0 : below(7) - 1;
            case "tape0", "item0", "read0", "shift0", "shift2", "judge0":
                return below(8) == 0 ? below(8) - 1 : below(3);
            case "item2":
                return below(5);
            case "see0", "sheet0":
                return below(40) == 0 ? -1 : below(5);
            case "has1", "won0", "out0", "odds1", "mean1", "ends0":
                return below(8) == 0 ? 2 : below(2);
            case "see2", "can1":
                return 1 + below(4);
            case "row1", "row2", "by0":
                return below(20) == 0 ? 4 : below(4);
            case "could0", "row0", "begin0", "learn0", "has0", "odds0", "taken0", "act0", "of0":
                return below(5);
            case "see1", "can0", "letter0":
                return below(12);
            case "live1":
                return below(3) == 0 ? below(103) : below(4);
            case "act2":
                return below(2) == 0 ? dice.nextInt() : below(20) - 5;
            case "trace0":
                return below(14) - 1;
            case "feed0":
                return below(130) - 1;
            default:
                return below(9) - 1;
        }
    }

    private static Method named(Class<?> of, String name) {
        for (Method m : of.getDeclaredMethods()) {
            if (m.getName().equals(name) && Modifier.isPublic(m.getModifiers())) {
                return m;
            }
        }
        throw new IllegalArgumentException(name);
    }

    private String call(String name, Object... x) throws Exception {
        Object[] given = x.clone();
        for (int k = 0; k < given.length; k++) {
            given[k] = given[k] instanceof Character c ? (Object) (int) c : given[k];
        }
        long due = ((Number) named(Model.class, name).invoke(model, given)).longValue();
        long got = ((Number) named(EndsWord.class, name).invoke(real, given)).longValue();
        calls.add(name + List.of(given) + " -> " + got);
        answers.computeIfAbsent(name, n -> new TreeMap<>()).merge(got, 1, Integer::sum);
        return got == due ? null : String.join("\n", calls) + ", the Model answers " + due;
    }
}
