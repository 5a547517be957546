import java.util.ArrayList;
import java.util.Arrays;
import java.util.List;
import java.util.Set;
import java.util.TreeSet;

/**
 * The document once more, in another way: rows and words are texts, KINDS are classes, a look ahead plays on a copy,
 * and the FAULT is the furthest place at which any way of reading goes wrong. Slow and plain; only tests use it.
 */
public final class Model {
    /** A WORD of THE BOOK. */
    private record Word(String letters, int common) { }

    /** A row that was SEEN. */
    private record Sight(int player, String row) { }

    private String spelled = "";
    private String text = "";
    private List<String> tables = new ArrayList<>();
    private int holding = -1;
    private List<Word> book = new ArrayList<>();
    private List<Player> players = new ArrayList<>();
    private String row = "";
    private int next = 0;
    private int last = -1;
    private List<Sight> sights = new ArrayList<>();
    private List<Integer> sheet = new ArrayList<>();
    private Model kept = null;
    private List<Integer> trace = new ArrayList<>();
    private Object[] tapes = new Object[6];

    // What the latest TURN was, for who looks ahead.
    private int loser = -1;
    private boolean asked = false;

    private static boolean in(int n, int low, int high) {
        return low <= n && n <= high;
    }

    private boolean isPlayer(int p) {
        return in(p, 0, players.size() - 1);
    }

    private boolean isWord(int w) {
        return in(w, 0, book.size() - 1);
    }

    // ---- words, players, tables

    public int spell(int letter) {
        if (letter == -1) {
            spelled = "";
            return 0;
        }
        if (!in(letter, 0, 3)) return -1;
        if (spelled.length() == 6) return -4;
        spelled += letter;
        return spelled.length();
    }

    public int word(int common) {
        if (!in(common, 0, 9)) return -2;
        if (spelled.isEmpty() || book.stream().anyMatch(w -> w.letters.equals(spelled))) return -3;
        if (book.size() == 12) return -4;
        book.add(new Word(spelled, common));
        spelled = "";
        return book.size() - 1;
    }

    public int letter(int word, int what) {
        if (!isWord(word)) return -1;
        Word w = book.get(word);
        if (what == 0) return w.common;
        if (what == 1) return w.letters.length();
        if (what >= 10 && what - 10 < w.letters.length()) return w.letters.charAt(what - 10) - '0';
        return -1;
    }

    public int player(int kind, int v) {
        if (!in(kind, 0, 6)) return -1;
        if (!in(v, 0, 9)) return -2;
        if (players.size() == 5) return -4;
        Player p = switch (kind) {
            case 0 -> new Player();
            case 1 -> new Sly();
            case 2 -> new Wary();
            case 3 -> new Bold();
            case 4 -> new Led();
            case 5 -> new Learned();
            default -> new Told();
        };
        p.kind = kind;
        p.v = v;
        p.i = players.size();
        p.lives = number("lives");
        players.add(p);
        return p.i;
    }

    public int of(int player, int what) {
        if (!isPlayer(player)) return -1;
        Player p = players.get(player);
        switch (what) {
            case 0: return p.kind;
            case 1: return p.v;
            case 2: return p.lives;
            case 3: return bits(may(p, row));
            case 4: return bits(safe(p, row));
            case 5:
                int known = 0;
                for (int w = 0; w < book.size(); w++) known += knows(p, book.get(w)) ? 1 << w : 0;
                return known;
            default: return -1;
        }
    }

    public int live(int player, int n) {
        if (!isPlayer(player)) return -1;
        if (!in(n, 0, 99)) return -2;
        int was = players.get(player).lives;
        players.get(player).lives = n;
        return was;
    }

    public int row(int player, int part, int n) {
        if (!isPlayer(player) || !in(part, 0, 3)) return -1;
        if (!in(n, 0, 3)) return -2;
        if (!(players.get(player) instanceof Told)) return -3;
        int was = players.get(player).told[part];
        players.get(player).told[part] = n;
        return was;
    }

    public int feed(int sign) {
        if (!in(sign, 0, 127)) return -2;
        if (text.length() == 100) return -4;
        text += (char) sign;
        return text.length();
    }

    public int table() {
        if (tables.size() == 6) return -4;
        String t = text;
        text = "";
        int fault = new Ways(t).fault();
        if (fault >= 0) return -10 - fault;
        tables.add(t);
        holding = tables.size() - 1;
        return holding;
    }

    public int told(int what) {
        switch (what) {
            case 0: return players.isEmpty() ? -5 : next;
            case 1: return last < 0 ? -5 : last;
            case 2: return row.length();
            case 3: return number("least");
            case 4: return number("lives");
            default: return what >= 10 && what - 10 < row.length() ? row.charAt(what - 10) - '0' : -1;
        }
    }

    // ---- turns

    public int turn() {
        loser = -1;
        asked = false;
        if (!anyLives()) return -3;
        if (players.get(next).lives == 0) next = after(next);
        Player who = players.get(next);
        int does = who.does(this);
        if (does >= 0) return add(does);
        if (last < 0) {
            lose(who);
            return 120;
        }
        asked = true;
        Player was = players.get(last);
        lose(book.stream().anyMatch(w -> knows(was, w) && w.letters.startsWith(row)) ? who : was);
        return 110;
    }

    private int add(int letter) {
        row += letter;
        last = next;
        if (ends(row)) {
            lose(players.get(next));
            return 100 + letter;
        }
        next = after(next);
        return letter;
    }

    private void lose(Player p) {
        loser = p.i;
        if (p.lives > 0) p.lives--;
        row = "";
        last = -1;
        next = p.i;
        if (p.lives == 0 && anyLives()) next = after(p.i);
    }

    private boolean anyLives() {
        return players.stream().anyMatch(p -> p.lives > 0);
    }

    private int after(int p) {
        int one = p;
        do {
            one = one + 1 == players.size() ? 0 : one + 1;
        } while (players.get(one).lives == 0);
        return one;
    }

    public int begin(int player) {
        if (!isPlayer(player)) return -1;
        if (players.get(player).lives == 0) return -3;
        int was = next;
        row = "";
        last = -1;
        next = player;
        return was;
    }

    private Model ahead(int turns) {
        Model m = copy();
        for (int k = 0; k < turns; k++) m.turn();
        return m;
    }

    public int on(int n, int what) {
        boolean lives = what >= 10 && isPlayer(what - 10);
        if (what != 0 && what != 1 && !lives) return -1;
        if (!in(n, 0, 60)) return -2;
        Model m = ahead(n);
        return lives ? m.players.get(what - 10).lives : what == 0 ? m.told(0) : m.row.length();
    }

    public int ends(int what) {
        if (!in(what, 0, 2)) return -1;
        Model m = copy();
        for (int t = 1; t <= 60; t++) {
            m.turn();
            if (m.loser >= 0) return new int[] {m.loser, t, m.asked ? 1 : 0}[what];
        }
        return -5;
    }

    // ---- won, known

    private boolean fitsSome(String r, List<Word> words) {
        return words.stream().anyMatch(w -> w.letters.startsWith(r));
    }

    private boolean ends(String r) {
        return ends(r, book);
    }

    private boolean ends(String r, List<Word> words) {
        return r.length() >= number("least") && words.stream().anyMatch(w -> w.letters.equals(r));
    }

    private List<Integer> winning(String r, List<Word> words) {
        List<Integer> found = new ArrayList<>();
        if (r.length() >= 12) return found;
        for (int a = 0; a < 4; a++) {
            String longer = r + a;
            if (fitsSome(longer, words) && !ends(longer, words) && winning(longer, words).isEmpty()) found.add(a);
        }
        return found;
    }

    private static int bits(List<Integer> numbers) {
        return numbers.stream().mapToInt(n -> 1 << n).sum();
    }

    public int won(int what) {
        if (!in(what, 0, 1)) return -1;
        List<Integer> found = winning(row, book);
        return what == 1 ? bits(found) : found.isEmpty() ? 0 : 1;
    }

    private int loserBy(int letter) {
        Model m = copy();
        if (m.players.get(m.next).lives == 0) m.next = m.after(m.next);
        m.loser = -1;
        m.add(letter);
        for (int t = 2; t <= 60 && m.loser < 0; t++) m.turn();
        return m.loser < 0 ? -5 : m.loser;
    }

    public int by(int letter) {
        if (!in(letter, 0, 3)) return -1;
        if (!anyLives() || row.length() == 12) return -3;
        return loserBy(letter);
    }

    public int has(int player, int what) {
        if (!isPlayer(player) || !in(what, 0, 1)) return -1;
        List<Integer> found = new ArrayList<>();
        for (int w = 0; w < book.size(); w++) {
            if (knows(players.get(player), book.get(w)) && book.get(w).letters.startsWith(row)) found.add(w);
        }
        return what == 0 ? found.size() : found.isEmpty() ? -5 : found.get(0);
    }

    // ---- learning, being out

    public int learn(int player, int n) {
        if (!isPlayer(player)) return -1;
        if (!in(n, 0, 60)) return -2;
        int best = -5;
        int most = ahead(n).players.get(player).lives;
        for (Word w : book) {
            if (knows(players.get(player), w)) continue;
            Model m = copy();
            m.players.get(player).learnt = w;
            int lives = m.ahead(n).players.get(player).lives;
            if (lives > most) {
                most = lives;
                best = book.indexOf(w);
            }
        }
        return best;
    }

    public int out(int what) {
        if (!in(what, 0, 1)) return -1;
        for (int t = 0; t <= 60; t++) {
            for (Player p : ahead(t).players) {
                if (p.lives == 0) return what == 0 ? p.i : t;
            }
        }
        return -5;
    }

    public int rank(int n) {
        if (!in(n, 0, 60)) return -2;
        List<Player> then = ahead(n).players;
        return then.stream().reduce((a, b) -> b.lives > a.lives ? b : a).map(p -> p.i).orElse(-5);
    }

    // ---- seen, books

    public int see(int player, int word, int letters) {
        if (player == -1) {
            sights.clear();
            return 0;
        }
        if (!isPlayer(player) || !isWord(word)) return -1;
        if (!in(letters, 1, book.get(word).letters.length())) return -2;
        if (sights.size() == 6) return -4;
        sights.add(new Sight(player, book.get(word).letters.substring(0, letters)));
        return sights.size();
    }

    private boolean knowsFor(Player p, String r) {
        return book.stream().anyMatch(w -> knows(p, w) && w.letters.startsWith(r));
    }

    public int could(int player) {
        if (!isPlayer(player)) return -1;
        return sights.stream().allMatch(s -> s.player != player || knowsFor(players.get(player), s.row)) ? 1 : 0;
    }

    public int can(int word, int letters) {
        if (!isWord(word)) return -1;
        if (!in(letters, 1, book.get(word).letters.length())) return -2;
        String r = book.get(word).letters.substring(0, letters);
        return players.stream().filter(p -> knowsFor(p, r)).mapToInt(p -> 1 << p.i).sum();
    }

    public int begins(int m) {
        if (!in(m, 0, 9)) return -2;
        return bits(winning("", book.stream().filter(w -> w.common >= m).toList()));
    }

    // ---- odds, sheets

    private static long fraction(int above, int below, int part) {
        for (int d = below; d > 1; d--) {
            if (above % d == 0 && below % d == 0) return (part == 0 ? above : below) / d;
        }
        return part == 0 ? above : below;
    }

    public long odds(int player, int part) {
        if (!isPlayer(player) || !in(part, 0, 1) || !anyLives() || row.length() == 12) return Long.MIN_VALUE;
        int lost = 0;
        for (int a = 0; a < 4; a++) lost += loserBy(a) == player ? 1 : 0;
        return fraction(lost, 4, part);
    }

    public long mean(int n, int part) {
        if (!in(n, 1, 60) || !in(part, 0, 1)) return Long.MIN_VALUE;
        int together = 0;
        for (int t = 1; t <= n; t++) together += ahead(t).row.length();
        return fraction(together, n, part);
    }

    public int sheet(int player) {
        if (player == -1) {
            sheet.clear();
            return 0;
        }
        if (!isPlayer(player)) return -1;
        if (sheet.size() == 8) return -4;
        sheet.add(player);
        return sheet.size();
    }

    public int looked() {
        List<Integer> losers = new ArrayList<>();
        Model m = copy();
        for (int t = 1; t <= 60; t++) {
            m.turn();
            if (m.loser >= 0) losers.add(m.loser);
        }
        for (int k = 0; k < sheet.size(); k++) {
            if (k >= losers.size() || !losers.get(k).equals(sheet.get(k))) return k;
        }
        return -5;
    }

    // ---- judging, the image, acts, tapes

    public int judge(int tape, int i) {
        if (!in(tape, 0, 5)) return -1;
        if (tapes[tape] != null && !(tapes[tape] instanceof byte[])) return -12;
        if (row.isEmpty()) return -5;
        if (i < 0 || tapes[tape] == null) return 100;
        byte[] bytes = (byte[]) tapes[tape];
        for (int k = 0; k < row.length(); k++) {
            if ((long) i + k >= bytes.length) return 100 + k;
            if (bytes[i + k] != row.charAt(k) - '0') return k;
        }
        return -5;
    }

    public int image() {
        kept = copy();
        return players.size();
    }

    public int undo() {
        if (kept == null) return -3;
        Model k = kept.copy();
        book = k.book;
        players = k.players;
        row = k.row;
        next = k.next;
        last = k.last;
        sights = k.sights;
        sheet = k.sheet;
        holding = k.holding;
        return players.size();
    }

    private Model copy() {
        Model m = new Model();
        m.tables = tables;
        m.holding = holding;
        m.book = new ArrayList<>(book);
        for (Player p : players) m.players.add(p.copy());
        m.row = row;
        m.next = next;
        m.last = last;
        m.sights = new ArrayList<>(sights);
        m.sheet = new ArrayList<>(sheet);
        return m;
    }

    public int act(int player, int act, int x) {
        trace = new ArrayList<>();
        if (!isPlayer(player) || !in(act, 0, 2)) return 0;
        Player p = players.get(player);
        p.trace = trace;
        return act == 0 ? p.adds(x) : act == 1 ? p.asks(x) : p.tells(x);
    }

    public int trace(int i) {
        return in(i, 0, Math.min(trace.size(), 20) - 1) ? trace.get(i) : -1;
    }

    public int taken(int player, int k) {
        Class<?>[] kinds = {Player.class, Sly.class, Wary.class, Bold.class, Led.class, Learned.class, Told.class};
        if (!in(k, 0, 6)) return -2;
        if (!isPlayer(player)) return -11;
        return kinds[k].isInstance(players.get(player)) ? players.get(player).kind : -12;
    }

    public int count(int what) {
        int[] all = {players.size(), book.size(), tables.size(), sights.size(), sheet.size(), text.length(),
            spelled.length(), trace.size()};
        return in(what, 0, 7) ? all[what] : -2;
    }

    public int tape(int tape, int sort, int n) {
        if (!in(tape, 0, 5)) return -1;
        if (!in(sort, -1, 4) || sort >= 0 && n > 60) return -2;
        if (sort >= 0 && n < 0) return -14;
        tapes[tape] = switch (sort) {
            case 0 -> new byte[n];
            case 1 -> new short[n];
            case 2 -> new int[n];
            case 3 -> new long[n];
            case 4 -> new boolean[n];
            default -> null;
        };
        return 1;
    }

    private int length(int tape) {
        return java.lang.reflect.Array.getLength(tapes[tape]);
    }

    public int item(int tape, int i, long v) {
        if (!in(tape, 0, 5)) return -1;
        if (tapes[tape] == null) return -11;
        if (!in(i, 0, length(tape) - 1)) return -13;
        Object t = tapes[tape];
        if (t instanceof byte[] b) b[i] = (byte) v;
        if (t instanceof short[] s) s[i] = (short) v;
        if (t instanceof int[] n) n[i] = (int) v;
        if (t instanceof long[] l) l[i] = v;
        if (t instanceof boolean[] z) z[i] = v != 0;
        return 1;
    }

    public long read(int tape, int i) {
        if (!in(tape, 0, 5) || tapes[tape] == null || !in(i, 0, length(tape) - 1)) return Long.MIN_VALUE;
        if (tapes[tape] instanceof boolean[] z) return z[i] ? 1 : 0;
        return java.lang.reflect.Array.getLong(tapes[tape], i);
    }

    public int shift(int tape, int i, int other, int j, int n) {
        if (!in(tape, 0, 5) || !in(other, 0, 5)) return -1;
        if (tapes[tape] == null || tapes[other] == null) return -11;
        if (tapes[tape].getClass() != tapes[other].getClass()) return -12;
        if (n < 0 || i < 0 || j < 0) return -13;
        if ((long) i + n > length(tape) || (long) j + n > length(other)) return -13;
        long[] before = new long[n];
        for (int k = 0; k < n; k++) before[k] = read(tape, i + k);
        for (int k = 0; k < n; k++) item(other, j + k, before[k]);
        return n;
    }

    // ---- who KNOWS what

    private List<String> clauses(String word) {
        List<String> found = new ArrayList<>();
        if (holding < 0) return found;
        for (String clause : tables.get(holding).split(";")) {
            if (clause.startsWith(word + " ")) found.add(clause.substring(word.length() + 1));
        }
        return found;
    }

    private int number(String word) {
        List<String> found = clauses(word);
        return found.isEmpty() ? 3 : Integer.parseInt(found.get(found.size() - 1));
    }

    private boolean knows(Player p, Word w) {
        List<String> know = clauses("know");
        return p instanceof Learned || know.isEmpty() || w.equals(p.learnt) || know.stream().anyMatch(e -> holds(e, p, w));
    }

    private static boolean holds(String e, Player p, Word w) {
        for (char sign : "|&".toCharArray()) {
            int open = 0;
            for (int k = 0; k < e.length(); k++) {
                char c = e.charAt(k);
                open += c == '(' ? 1 : c == ')' ? -1 : 0;
                if (c == sign && open == 0) {
                    boolean left = holds(e.substring(0, k), p, w);
                    boolean right = holds(e.substring(k + 1), p, w);
                    return sign == '|' ? left || right : left && right;
                }
            }
        }
        if (e.charAt(0) == '!') return !holds(e.substring(1), p, w);
        if (e.charAt(0) == '(') return holds(e.substring(1, e.length() - 1), p, w);
        int value = switch (e.charAt(0)) {
            case 'p' -> p.i;
            case 'k' -> p.kind;
            case 'v' -> p.v;
            case 'c' -> w.common;
            case 'l' -> w.letters.length();
            default -> w.letters.charAt(0) - '0';
        };
        int n = Integer.parseInt(e.substring(2));
        return e.charAt(1) == '<' ? value < n : e.charAt(1) == '=' ? value == n : value > n;
    }

    private List<Integer> may(Player p, String r) {
        List<Integer> found = new ArrayList<>();
        for (int a = 0; a < 4 && r.length() < 12; a++) {
            if (knowsFor(p, r + a)) found.add(a);
        }
        return found;
    }

    private List<Integer> safe(Player p, String r) {
        return may(p, r).stream().filter(a -> !ends(r + a)).toList();
    }

    /** All ways of reading a text as a TABLE at once: from a place to the places where a part can end. */
    private static final class Ways {
        private final String text;
        private int furthest = 0;

        Ways(String text) {
            this.text = text;
        }

        int fault() {
            Set<Integer> ends = clause(0);
            boolean whole = ends.contains(text.length());
            for (int n = 2; n <= 10; n++) {
                Set<Integer> longer = new TreeSet<>();
                for (int e : ends) {
                    for (int behind : one(";", e)) longer.addAll(clause(behind));
                }
                ends = longer;
                whole |= ends.contains(text.length());
            }
            for (int e : ends) furthest = Math.max(furthest, e);
            return whole ? -1 : furthest;
        }

        private Set<Integer> one(String signs, int at) {
            if (at < text.length() && signs.indexOf(text.charAt(at)) >= 0) return new TreeSet<>(List.of(at + 1));
            furthest = Math.max(furthest, at);
            return new TreeSet<>();
        }

        private Set<Integer> all(String signs, int at) {
            Set<Integer> ends = new TreeSet<>(List.of(at));
            for (String sign : signs.split("")) {
                Set<Integer> longer = new TreeSet<>();
                for (int e : ends) longer.addAll(one(sign, e));
                ends = longer;
            }
            return ends;
        }

        private Set<Integer> clause(int at) {
            Set<Integer> ends = new TreeSet<>();
            for (int e : all("know ", at)) ends.addAll(either(e, 0));
            for (int e : all("least ", at)) ends.addAll(number(e));
            for (int e : all("lives ", at)) ends.addAll(number(e));
            return ends;
        }

        private Set<Integer> number(int at) {
            Set<Integer> ends = one("0123456789", at);
            Set<Integer> longer = new TreeSet<>(ends);
            for (int e : ends) longer.addAll(one("0123456789", e));
            return longer;
        }

        private Set<Integer> either(int at, int within) {
            Set<Integer> ends = new TreeSet<>();
            for (int e : both(at, within)) {
                ends.add(e);
                for (int behind : one("|", e)) ends.addAll(either(behind, within));
            }
            return ends;
        }

        private Set<Integer> both(int at, int within) {
            Set<Integer> ends = new TreeSet<>();
            for (int e : factor(at, within)) {
                ends.add(e);
                for (int behind : one("&", e)) ends.addAll(both(behind, within));
            }
            return ends;
        }

        private Set<Integer> factor(int at, int within) {
            Set<Integer> ends = new TreeSet<>();
            if (within < 4) {
                for (int e : one("!", at)) ends.addAll(factor(e, within + 1));
                for (int e : one("(", at)) {
                    for (int inner : either(e, within + 1)) ends.addAll(one(")", inner));
                }
            }
            for (int e : one("pkvclf", at)) {
                for (int behind : one("<=>", e)) ends.addAll(number(behind));
            }
            return ends;
        }
    }

    // ---- KINDS

    private static class Player implements Cloneable {
        int kind, v, i, lives;
        int[] told = new int[4];
        Word learnt = null;
        List<Integer> trace = new ArrayList<>();

        Player copy() {
            try {
                Player p = (Player) clone();
                p.told = Arrays.copyOf(told, 4);
                return p;
            } catch (CloneNotSupportedException e) {
                throw new IllegalStateException(e);
            }
        }

        /** A letter, or -1: it ASKS. */
        int does(Model m) {
            List<Integer> safe = m.safe(this, m.row);
            if (!safe.isEmpty()) return safe.get(0);
            List<Integer> may = m.may(this, m.row);
            return may.isEmpty() ? -1 : may.get(0);
        }

        int adds(int x) {
            trace.add(10);
            return x + i;
        }

        int asks(int x) {
            trace.add(11);
            return adds(x) - v;
        }

        int tells(int x) {
            trace.add(12);
            return asks(x) * 2;
        }
    }

    private static class Sly extends Player {
        @Override
        int does(Model m) {
            int best = -1;
            int fewest = 99;
            for (int a : m.safe(this, m.row)) {
                Model then = m.copy();
                then.add(a);
                int left = then.may(then.players.get(then.next), then.row).size();
                if (left < fewest) {
                    fewest = left;
                    best = a;
                }
            }
            return best >= 0 ? best : super.does(m);
        }

        @Override
        int asks(int x) {
            trace.add(20);
            return super.asks(x) ^ 6;
        }
    }

    private static class Wary extends Player {
        @Override
        int does(Model m) {
            List<Integer> safe = m.safe(this, m.row);
            if (!safe.isEmpty()) return safe.get(0);
            return m.last >= 0 ? -1 : super.does(m);
        }

        @Override
        int adds(int x) {
            trace.add(30);
            return super.adds(x * 3);
        }
    }

    private static class Bold extends Player {
        @Override
        int does(Model m) {
            if (m.may(this, m.row).isEmpty() && m.row.length() < 12) return v % 4;
            return super.does(m);
        }

        @Override
        int tells(int x) {
            trace.add(40);
            return super.tells(x) + asks(1);
        }
    }

    private static class Led extends Sly {
        @Override
        int does(Model m) {
            for (int a : m.safe(this, m.row)) {
                if (m.winning(m.row + a, m.book).isEmpty()) return a;
            }
            return super.does(m);
        }

        @Override
        int adds(int x) {
            trace.add(50);
            return -super.adds(x);
        }

        @Override
        int asks(int x) {
            trace.add(51);
            return super.asks(x + 1);
        }
    }

    private static class Learned extends Wary {
        @Override
        int tells(int x) {
            trace.add(60);
            return super.tells(x - i);
        }
    }

    private static class Told extends Bold {
        @Override
        int does(Model m) {
            int letter = told[m.row.length() % 4];
            return m.may(this, m.row).contains(letter) ? letter : super.does(m);
        }

        @Override
        int asks(int x) {
            trace.add(70);
            return super.asks(x) + super.adds(2);
        }

        @Override
        int adds(int x) {
            trace.add(71);
            return super.adds(x) ^ v;
        }
    }
}
