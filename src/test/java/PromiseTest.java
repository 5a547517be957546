/** For each promise of the document calls whose answers were worked out by hand. */
public final class PromiseTest {
    private static int wrong = 0;
    private static String promise = "";

    private static void due(String call, long got, long want) {
        if (got != want) {
            wrong++;
            System.out.println(promise + ": " + call + " answered " + got + ", due is " + want);
        }
    }

    private static void of(int number, String name) {
        promise = "promise " + number + " (" + name + ")";
    }

    private static void spell(EndsWord x, String letters) {
        x.spell(-1);
        for (char c : letters.toCharArray()) {
            x.spell(c - '0');
        }
    }

    private static int word(EndsWord x, String letters, int common) {
        spell(x, letters);
        return x.word(common);
    }

    /** A game of these WORDS (COMMON 5) with PLAYERS of these KINDS (v their number). */
    private static EndsWord game(String words, int... kinds) {
        EndsWord x = new EndsWord();
        for (String w : words.split(" ")) {
            if (!w.isEmpty()) {
                word(x, w, 5);
            }
        }
        for (int k = 0; k < kinds.length; k++) {
            x.player(kinds[k], k);
        }
        return x;
    }

    private static int feed(EndsWord x, String text) {
        int last = 0;
        for (char c : text.toCharArray()) {
            last = x.feed(c);
        }
        return last;
    }

    private static int table(EndsWord x, String text) {
        feed(x, text);
        return x.table();
    }

    private static void turns(EndsWord x, int... due) {
        for (int k = 0; k < due.length; k++) {
            due("turn() number " + (k + 1), x.turn(), due[k]);
        }
    }

    private static String row(EndsWord x) {
        StringBuilder row = new StringBuilder();
        for (int k = 0; k < x.told(2); k++) {
            row.append(x.told(10 + k));
        }
        return row.toString();
    }

    private static void dueRow(EndsWord x, String want) {
        due("THE ROW is " + row(x) + ", not " + want, row(x).equals(want) ? 1 : 0, 1);
    }

    public static void main(String[] args) {
        newObject();
        spelling();
        words();
        letters();
        players();
        ofPlayers();
        mayAndSafe();
        lives();
        rowsOfTold();
        feeding();
        tables();
        faults();
        knowing();
        telling();
        turnsOfPlayers();
        turnsOfKinds();
        turnsOfTold();
        turnsWithoutLives();
        beginning();
        goingOn();
        ending();
        winning();
        byLetters();
        having();
        learning();
        beingOut();
        ranking();
        seeing();
        ableToHaveMade();
        beginningOf();
        oddsAndMeans();
        sheets();
        judging();
        images();
        acting();
        taking();
        counting();
        tapes();
        items();
        shifting();
        System.out.println(wrong == 0 ? "all answers are as due" : wrong + " answers are not as due");
        if (wrong != 0) {
            System.exit(1);
        }
    }

    private static void newObject() {
        of(1, "a new object");
        EndsWord x = new EndsWord();
        due("NONE", EndsWord.NONE, -1);
        due("BAD", EndsWord.BAD, -2);
        due("STATE", EndsWord.STATE, -3);
        due("FULL", EndsWord.FULL, -4);
        due("NO", EndsWord.NO, Long.MIN_VALUE);
        for (int what = 0; what <= 7; what++) {
            due("count(" + what + ")", x.count(what), 0);
        }
        due("told(0)", x.told(0), -5);
        due("told(1)", x.told(1), -5);
        due("told(2)", x.told(2), 0);
        due("told(3)", x.told(3), 3);
        due("told(4)", x.told(4), 3);
        due("undo()", x.undo(), -3);
        due("read(0, 0)", x.read(0, 0), EndsWord.NO);
    }

    private static void spelling() {
        of(2, "spell");
        EndsWord x = new EndsWord();
        due("spell(-2)", x.spell(-2), -1);
        due("spell(4)", x.spell(4), -1);
        due("spell(MAX)", x.spell(Integer.MAX_VALUE), -1);
        for (int k = 1; k <= 6; k++) {
            due("spell(3)", x.spell(3), k);
        }
        due("spell(3), the seventh", x.spell(3), -4);
        due("spell(4), the seventh", x.spell(4), -1);
        due("count(6)", x.count(6), 6);
        due("spell(-1)", x.spell(-1), 0);
        due("count(6)", x.count(6), 0);
        due("spell(0)", x.spell(0), 1);
    }

    private static void words() {
        of(3, "word");
        EndsWord x = new EndsWord();
        due("word(10) of nothing", x.word(10), -2);
        due("word(-1) of nothing", x.word(-1), -2);
        due("word(0) of nothing", x.word(0), -3);
        due("word 012", word(x, "012", 0), 0);
        due("count(6)", x.count(6), 0);
        due("word 01", word(x, "01", 9), 1);
        due("word 012 again", word(x, "012", 9), -3);
        due("count(6), as it stays spelled", x.count(6), 3);
        x.spell(3);
        due("word 0123", x.word(10), -2);
        due("word 0123", x.word(4), 2);
        for (int k = 3; k < 12; k++) {
            due("word " + k, word(x, "3" + (k - 3) / 4 + (k - 3) % 4, 1), k);
        }
        due("word 01 of a full book", word(x, "01", 1), -3);
        due("word 22 of a full book", word(x, "22", 1), -4);
        due("word 22 of a full book", x.word(11), -2);
        due("count(6)", x.count(6), 2);
        due("count(1)", x.count(1), 12);
    }

    private static void letters() {
        of(4, "letter");
        EndsWord x = game("3 012301");
        due("letter(0, 0)", x.letter(0, 0), 5);
        due("letter(0, 1)", x.letter(0, 1), 1);
        due("letter(0, 10)", x.letter(0, 10), 3);
        due("letter(0, 11)", x.letter(0, 11), -1);
        due("letter(1, 1)", x.letter(1, 1), 6);
        for (int k = 0; k < 6; k++) {
            due("letter(1, 10 + " + k + ")", x.letter(1, 10 + k), k % 4);
        }
        int[] none = {-1, 2, 9, 16, Integer.MIN_VALUE, Integer.MAX_VALUE};
        for (int what : none) {
            due("letter(1, " + what + ")", x.letter(1, what), -1);
        }
        due("letter(2, 0)", x.letter(2, 0), -1);
        due("letter(-1, 0)", x.letter(-1, 0), -1);
    }

    private static void players() {
        of(5, "player");
        EndsWord x = new EndsWord();
        due("player(7, 10)", x.player(7, 10), -1);
        due("player(-1, 0)", x.player(-1, 0), -1);
        due("player(6, 10)", x.player(6, 10), -2);
        due("player(6, -1)", x.player(6, -1), -2);
        due("player(6, 9)", x.player(6, 9), 0);
        due("of(0, 2)", x.of(0, 2), 3);
        due("table lives 42", table(x, "lives 42"), 0);
        due("of(0, 2)", x.of(0, 2), 3);
        due("player(0, 0)", x.player(0, 0), 1);
        due("of(1, 2)", x.of(1, 2), 42);
        x.player(1, 1);
        x.player(1, 1);
        due("player(1, 1)", x.player(1, 1), 4);
        due("player(1, 1), a sixth", x.player(1, 1), -4);
        due("player(1, 10), a sixth", x.player(1, 10), -2);
        due("count(0)", x.count(0), 5);
    }

    private static void ofPlayers() {
        of(6, "of");
        EndsWord x = game("012 10", 3, 5);
        due("of(0, 0)", x.of(0, 0), 3);
        due("of(1, 0)", x.of(1, 0), 5);
        due("of(1, 1)", x.of(1, 1), 1);
        due("of(0, 2)", x.of(0, 2), 3);
        due("of(0, 5)", x.of(0, 5), 3);
        due("of(0, -1)", x.of(0, -1), -1);
        due("of(0, 6)", x.of(0, 6), -1);
        due("of(2, 0)", x.of(2, 0), -1);
        due("of(-1, 0)", x.of(-1, 0), -1);
    }

    private static void mayAndSafe() {
        of(6, "of, MAY and SAFE");
        EndsWord x = game("012 103 2", 0, 5);
        word(x, "3", 1);
        table(x, "know c=5;least 1");
        due("of(0, 5)", x.of(0, 5), 7);
        due("of(1, 5)", x.of(1, 5), 15);
        due("of(0, 3)", x.of(0, 3), 7);
        due("of(0, 4)", x.of(0, 4), 3);
        due("of(1, 3)", x.of(1, 3), 15);
        due("of(1, 4), as a WORD that is not known ends too", x.of(1, 4), 3);
        turns(x, 0, 1);
        due("of(0, 3) at 01", x.of(0, 3), 4);
        due("of(0, 4) at 01", x.of(0, 4), 0);
    }

    private static void lives() {
        of(7, "live");
        EndsWord x = game("012", 0);
        due("live(0, 99)", x.live(0, 99), 3);
        due("live(0, 0)", x.live(0, 0), 99);
        due("live(0, 100)", x.live(0, 100), -2);
        due("live(0, -1)", x.live(0, -1), -2);
        due("live(1, 100)", x.live(1, 100), -1);
        due("live(-1, 1)", x.live(-1, 1), -1);
        due("of(0, 2)", x.of(0, 2), 0);
    }

    private static void rowsOfTold() {
        of(8, "row");
        EndsWord x = game("", 6, 3, 6);
        due("row(0, 0, 3)", x.row(0, 0, 3), 0);
        due("row(0, 0, 1)", x.row(0, 0, 1), 3);
        due("row(0, 3, 2)", x.row(0, 3, 2), 0);
        due("row(0, 3, 0)", x.row(0, 3, 0), 2);
        due("row(2, 0, 0), another's", x.row(2, 0, 0), 0);
        due("row(0, 4, 9)", x.row(0, 4, 9), -1);
        due("row(0, -1, 0)", x.row(0, -1, 0), -1);
        due("row(3, 0, 0)", x.row(3, 0, 0), -1);
        due("row(1, 0, 4)", x.row(1, 0, 4), -2);
        due("row(0, 0, -1)", x.row(0, 0, -1), -2);
        due("row(1, 0, 0)", x.row(1, 0, 0), -3);
        due("row(0, 0, 0)", x.row(0, 0, 0), 1);
    }

    private static void feeding() {
        of(9, "feed");
        EndsWord x = new EndsWord();
        due("feed(128)", x.feed(128), -2);
        due("feed(-1)", x.feed(-1), -2);
        due("feed(0)", x.feed(0), 1);
        due("feed(127)", x.feed(127), 2);
        for (int k = 3; k <= 100; k++) {
            due("feed, the one number " + k, x.feed(' '), k);
        }
        due("feed(1), one too many", x.feed(1), -4);
        due("feed(128), one too many", x.feed(128), -2);
        due("count(5)", x.count(5), 100);
    }

    private static void tables() {
        of(10, "table");
        EndsWord x = new EndsWord();
        for (int k = 0; k < 6; k++) {
            due("table " + k, table(x, "least " + k + ";lives 1;lives 2"), k);
            due("count(5)", x.count(5), 0);
            due("told(3)", x.told(3), k);
            due("told(4), of two the last", x.told(4), 2);
        }
        due("a seventh", table(x, "least 9"), -4);
        due("count(5), as THE TEXT stays", x.count(5), 7);
        due("a seventh with a FAULT", table(x, "x"), -4);
        due("told(3)", x.told(3), 5);
        due("count(2)", x.count(2), 6);
        x = new EndsWord();
        due("table", table(x, "least 07;know p=0"), 0);
        due("told(4), not told", x.told(4), 3);
        due("a FAULT", table(x, "lives 9;least x"), -24);
        due("told(3), the one that held holds", x.told(3), 7);
        due("told(4), the one that held holds", x.told(4), 3);
        due("count(2)", x.count(2), 1);
        due("table, without least", table(x, "lives 0"), 1);
        due("told(3)", x.told(3), 3);
        due("told(4)", x.told(4), 0);
    }

    private static void dueFault(String text, int place) {
        EndsWord x = new EndsWord();
        due("table() of '" + text + "'", table(x, text), -10 - place);
        due("count(2) behind '" + text + "'", x.count(2), 0);
        due("count(5) behind '" + text + "'", x.count(5), 0);
    }

    private static void dueWhole(String text) {
        due("table() of '" + text + "'", table(new EndsWord(), text), 0);
    }

    private static void faults() {
        of(10, "table, the FAULT");
        dueFault("", 0);
        dueFault("K", 0);
        dueFault(" know p=1", 0);
        dueFault("k", 1);
        dueFault("lest", 2);
        dueFault("lxves", 1);
        dueFault("liv3s", 3);
        dueFault("know", 4);
        dueFault("know ", 5);
        dueFault("know  p=1", 5);
        dueFault("know p", 6);
        dueFault("know p!1", 6);
        dueFault("know p=", 7);
        dueFault("know p=x", 7);
        dueFault("know p=123", 9);
        dueFault("know p=1 ", 8);
        dueFault("know p=1)", 8);
        dueFault("know (p=1", 9);
        dueFault("know (p=1;", 9);
        dueFault("know p=1&", 9);
        dueFault("know p=1||", 9);
        dueFault("know p=1;", 9);
        dueFault("know p=1;;", 9);
        dueFault("know ()", 6);
        dueFault("know !!!!!p=1", 9);
        dueFault("know (!(!(p=1))))", 9);
        dueFault("know p=1&!!!(!", 13);
        dueFault("least -1", 6);
        dueFault("least 1,", 7);
        dueFault("x", 0);
        String ten = "least 1;least 1;least 1;least 1;least 1;least 1;least 1;least 1;least 1;least 1";
        dueWhole(ten);
        dueFault(ten + ";", 79);
        dueFault(ten + ";least 1", 79);
        dueWhole("know !!!!p=1");
        dueWhole("know ((((p=1))))|((((p=1))))");
        dueWhole("know !(!(p=1&k<2)|v>03)&!!(c=00|l<9)|!f=3;least 00");
        StringBuilder longest = new StringBuilder("know p=1");
        while (longest.length() < 100) {
            longest.append("|v=12&k=1|p=1");
        }
        dueFault(longest.substring(0, 100), 100);
    }

    /** Which of the WORDS the one PLAYER (number 1, of KIND 3, v 4) KNOWS by a TABLE. */
    private static void dueKnown(String text, int words) {
        EndsWord x = new EndsWord();
        x.player(0, 0);
        x.player(3, 4);
        word(x, "0", 1);
        word(x, "123", 5);
        word(x, "2301", 5);
        word(x, "31", 9);
        due("table " + text, table(x, text), 0);
        due("of(1, 5) by " + text, x.of(1, 5), words);
    }

    private static void knowing() {
        of(10, "table, who KNOWS what");
        dueKnown("least 3", 15);
        dueKnown("know p=1", 15);
        dueKnown("know p=0", 0);
        dueKnown("know k=3", 15);
        dueKnown("know k<3", 0);
        dueKnown("know v=4", 15);
        dueKnown("know v>4", 0);
        dueKnown("know c=5", 6);
        dueKnown("know c<5", 1);
        dueKnown("know c>5", 8);
        dueKnown("know l<3", 9);
        dueKnown("know l=4", 4);
        dueKnown("know f>1", 12);
        dueKnown("know f=00", 1);
        dueKnown("know !f>1", 3);
        dueKnown("know !!f>1", 12);
        dueKnown("know f=0|f=1&c=9", 1);
        dueKnown("know (f=0|f=1)&c=5", 2);
        dueKnown("know c=5&f=1|f=3", 10);
        dueKnown("know f=0|f=1|f=3", 11);
        dueKnown("know !f=0&c<9", 6);
        dueKnown("know !(f=0&c<9)", 14);
        dueKnown("know f=0;least 2;know f=3", 9);
        dueKnown("know p=0;know f=2", 4);
        dueKnown("know c>2&!(l=3|l=4&f=1)|p=0&c<99", 12);
    }

    private static void telling() {
        of(11, "told");
        EndsWord x = game("01230", 0, 0);
        due("told(0)", x.told(0), 0);
        due("told(1)", x.told(1), -5);
        turns(x, 0, 1, 2);
        due("told(0)", x.told(0), 1);
        due("told(1)", x.told(1), 0);
        due("told(2)", x.told(2), 3);
        due("told(10)", x.told(10), 0);
        due("told(12)", x.told(12), 2);
        int[] none = {-1, 5, 9, 13, Integer.MIN_VALUE, Integer.MAX_VALUE};
        for (int what : none) {
            due("told(" + what + ")", x.told(what), -1);
        }
        table(x, "least 10;lives 11");
        due("told(3)", x.told(3), 10);
        due("told(4)", x.told(4), 11);
    }

    private static void turnsOfPlayers() {
        of(12, "turn, PLAYER");
        turns(new EndsWord(), -3);
        EndsWord x = game("012 10", 0, 0);
        turns(x, 0, 1, 102);
        due("of(0, 2)", x.of(0, 2), 2);
        due("told(0), who LOST", x.told(0), 0);
        due("told(1)", x.told(1), -5);
        due("told(2)", x.told(2), 0);
        x = game("10", 0, 0);
        turns(x, 1, 0, 110);
        due("of(0, 2), who asked one that KNOWS", x.of(0, 2), 2);
        x = game("", 0);
        turns(x, 120, 120, 120, -3, -3);
        due("of(0, 2)", x.of(0, 2), 0);
        due("told(0)", x.told(0), 0);
        x = game("2", 0, 0);
        table(x, "least 1");
        turns(x, 102);
        x = game("012", 0, 0);
        table(x, "know p=0");
        turns(x, 0, 110);
        due("of(1, 2), who asked", x.of(1, 2), 2);
        due("told(0)", x.told(0), 1);
        x = game("01", 0);
        turns(x, 0, 1, 110);
        due("of(0, 2), who asked itself", x.of(0, 2), 2);
    }

    private static void turnsOfKinds() {
        of(12, "turn, SLY");
        turns(game("000 010 110", 1, 0), 1);
        turns(game("000 010 110", 0, 1), 0);
        turns(game("0000 1111", 1, 0), 0);
        turns(game("000", 1, 1), 0, 0, 100);
        of(12, "turn, WARY and LEARNED");
        for (int kind = 2; kind <= 5; kind += 3) {
            turns(game("012", kind, kind), 0, 1, 110);
            EndsWord x = game("1", kind);
            table(x, "least 0");
            turns(x, 101);
            turns(game("", kind), 120);
        }
        EndsWord known = game("12 0", 2, 5);
        table(known, "know f=1");
        turns(known, 1, 2, 110, 1, 2, 110, 1, 2, 110, 0, 110);
        of(12, "turn, BOLD");
        EndsWord x = game("0132", 0, 3, 3);
        table(x, "know p=0");
        turns(x, 0, 1, 2, 110);
        due("of(2, 2), who KNOWS nothing", x.of(2, 2), 2);
        due("told(0)", x.told(0), 2);
        x = game("", 3);
        for (int k = 0; k < 12; k++) {
            turns(x, 0);
        }
        dueRow(x, "000000000000");
        turns(x, 110, 0);
        x = new EndsWord();
        x.player(3, 7);
        turns(x, 3, 3);
        of(12, "turn, LED");
        turns(game("012 1", 4, 0), 1, 110);
        turns(game("012 1", 0, 0), 0, 1, 102);
        turns(game("000 010 110", 4, 0), 1);
        turns(game("3001 3101 11", 4, 0), 3);
        turns(game("3001 3101 11", 1, 0), 1);
        turns(game("0000 1111 22 222", 4, 0), 0);
    }

    private static void turnsOfTold() {
        of(12, "turn, TOLD");
        EndsWord x = game("01230 21", 6, 6);
        x.row(0, 0, 2);
        x.row(1, 1, 1);
        turns(x, 2, 1);
        x = game("0123 21", 6);
        turns(x, 0, 1, 2, 103);
        x = game("000 002 02", 6);
        x.row(0, 2, 2);
        turns(x, 0, 0, 102);
        x = game("000001", 6);
        x.row(0, 1, 3);
        turns(x, 0, 0, 0, 0, 0, 101);
        x = new EndsWord();
        x.player(6, 6);
        x.row(0, 0, 1);
        turns(x, 2);
    }

    private static void turnsWithoutLives() {
        of(12, "turn, who has no LIVES");
        EndsWord x = game("0123", 0, 0, 0);
        x.live(0, 0);
        x.live(1, 1);
        turns(x, 0);
        due("told(1)", x.told(1), 1);
        due("told(0)", x.told(0), 2);
        turns(x, 1);
        due("told(0)", x.told(0), 1);
        x.live(2, 0);
        turns(x, 2);
        due("told(0), it may be the same", x.told(0), 1);
        turns(x, 103);
        due("told(0), nobody has LIVES", x.told(0), 1);
        turns(x, -3);
        x.live(2, 5);
        turns(x, 0);
        due("told(1)", x.told(1), 2);
        x = game("012", 0, 0);
        x.live(0, 1);
        turns(x, 0, 1, 102);
        due("told(0), as who LOST is out", x.told(0), 1);
        x = game("01", 0, 0, 3);
        table(x, "know p<2&k=0");
        turns(x, 0, 1, 2);
        x.live(2, 0);
        turns(x, 110);
        due("of(2, 2), 0 at least", x.of(2, 2), 0);
        due("told(0)", x.told(0), 0);
    }

    private static void beginning() {
        of(13, "begin");
        EndsWord x = game("0123", 0, 0, 0);
        turns(x, 0, 1);
        due("begin(3)", x.begin(3), -1);
        due("begin(-1)", x.begin(-1), -1);
        due("begin(1)", x.begin(1), 2);
        due("told(0)", x.told(0), 1);
        due("told(1)", x.told(1), -5);
        due("told(2)", x.told(2), 0);
        turns(x, 0);
        x.live(0, 0);
        due("begin(0)", x.begin(0), -3);
        dueRow(x, "0");
        due("begin(1)", x.begin(1), 2);
    }

    private static void goingOn() {
        of(14, "on");
        EndsWord x = game("0123", 0, 0);
        due("on(0, 0)", x.on(0, 0), 0);
        due("on(1, 0)", x.on(1, 0), 1);
        due("on(3, 1)", x.on(3, 1), 3);
        due("on(4, 1)", x.on(4, 1), 0);
        due("on(3, 11)", x.on(3, 11), 3);
        due("on(4, 11)", x.on(4, 11), 2);
        due("on(4, 0)", x.on(4, 0), 1);
        due("on(60, 10)", x.on(60, 10), 0);
        due("told(2), nothing changes", x.told(2), 0);
        due("of(1, 2), nothing changes", x.of(1, 2), 3);
        int[] none = {-1, 2, 9, 12, Integer.MIN_VALUE, Integer.MAX_VALUE};
        for (int what : none) {
            due("on(61, " + what + ")", x.on(61, what), -1);
        }
        due("on(61, 0)", x.on(61, 0), -2);
        due("on(-1, 10)", x.on(-1, 10), -2);
        x.live(0, 0);
        due("on(0, 0), as it is", x.on(0, 0), 0);
        x.live(1, 0);
        due("on(9, 0), nobody has LIVES", x.on(9, 0), 0);
        due("on(9, 1)", x.on(9, 1), 0);
        due("on(5, 0) of nobody", new EndsWord().on(5, 0), -5);
        due("on(5, 10) of nobody", new EndsWord().on(5, 10), -1);
    }

    private static void ending() {
        of(15, "ends");
        EndsWord x = game("0123", 0, 0);
        due("ends(0)", x.ends(0), 1);
        due("ends(1)", x.ends(1), 4);
        due("ends(2)", x.ends(2), 0);
        due("ends(-1)", x.ends(-1), -1);
        due("ends(3)", x.ends(3), -1);
        x = game("01", 0, 0);
        due("ends(0)", x.ends(0), 0);
        due("ends(1)", x.ends(1), 3);
        due("ends(2)", x.ends(2), 1);
        due("ends(2) of who LOSES instead", game("", 0).ends(2), 0);
        due("ends(1) of who LOSES instead", game("", 0).ends(1), 1);
        x.live(0, 0);
        x.live(1, 0);
        for (int what = 0; what <= 2; what++) {
            due("ends(" + what + "), nobody has LIVES", x.ends(what), -5);
        }
        due("ends(1), BOLD", game("", 3).ends(1), 13);
    }

    private static void winning() {
        of(16, "won");
        EndsWord x = game("012 1", 0, 0);
        due("won(0)", x.won(0), 1);
        due("won(1)", x.won(1), 2);
        due("won(2)", x.won(2), -1);
        due("won(-1)", x.won(-1), -1);
        turns(x, 0);
        due("won(1) at 0", x.won(1), 2);
        turns(x, 1);
        due("won(0) at 01", x.won(0), 0);
        due("won(1) at 01", x.won(1), 0);
        table(x, "least 4;know p=9");
        due("won(1) at 01, nothing ENDS, whatever one KNOWS", x.won(1), 4);
        due("won(0) of an empty BOOK", new EndsWord().won(0), 0);
        x = game("000000");
        table(x, "least 7");
        due("won(0), six LETTERS that do not END are LOST", x.won(0), 0);
        x = game("0 1 2 3");
        due("won(1)", x.won(1), 15);
        table(x, "least 1");
        due("won(1), all END", x.won(1), 0);
    }

    private static void byLetters() {
        of(17, "by");
        EndsWord x = game("012 1", 0, 0);
        due("by(4)", x.by(4), -1);
        due("by(-1)", x.by(-1), -1);
        due("by(0)", x.by(0), 0);
        due("by(1)", x.by(1), 1);
        due("by(3), which 1 asks about", x.by(3), 0);
        due("told(2), nothing changes", x.told(2), 0);
        x.live(0, 0);
        due("by(0), 1 alone", x.by(0), 1);
        table(x, "least 1");
        due("by(1), which ENDS, 1 alone", x.by(1), 1);
        x.live(1, 0);
        due("by(0), nobody has LIVES", x.by(0), -3);
        due("by(4), nobody has LIVES", x.by(4), -1);
        x = game("01", 3, 3);
        table(x, "least 2");
        x.turn();
        due("by(1) at 0", x.by(1), 1);
        x = game("", 3, 3);
        for (int k = 0; k < 12; k++) {
            x.turn();
        }
        due("told(2)", x.told(2), 12);
        due("by(0) at 12", x.by(0), -3);
        due("odds(0, 0) at 12", x.odds(0, 0), EndsWord.NO);
    }

    private static void having() {
        of(18, "has");
        EndsWord x = game("012 10 01 0123", 0, 5);
        table(x, "know l>2");
        due("has(0, 0)", x.has(0, 0), 2);
        due("has(0, 1)", x.has(0, 1), 0);
        due("has(1, 0)", x.has(1, 0), 4);
        turns(x, 0, 1);
        due("has(1, 0) at 01", x.has(1, 0), 3);
        due("has(0, 0) at 01", x.has(0, 0), 2);
        table(x, "know f=1|c=3;know c=4");
        due("has(0, 0)", x.has(0, 0), 0);
        due("has(0, 1)", x.has(0, 1), -5);
        due("has(0, 2)", x.has(0, 2), -1);
        due("has(0, -1)", x.has(0, -1), -1);
        due("has(2, 0)", x.has(2, 0), -1);
        table(x, "know l=2|l=4");
        due("has(0, 1)", x.has(0, 1), 2);
    }

    private static void learning() {
        of(19, "learn");
        EndsWord x = new EndsWord();
        word(x, "112", 1);
        word(x, "3", 0);
        word(x, "0010", 0);
        word(x, "0011", 0);
        x.player(0, 0);
        x.player(5, 0);
        table(x, "know c>0");
        due("ends(0)", x.ends(0), 0);
        due("ends(1)", x.ends(1), 3);
        due("learn(0, 3), of several the first", x.learn(0, 3), 2);
        EndsWord best = new EndsWord();
        best.player(0, 0);
        best.player(0, 1);
        word(best, "00", 0);
        word(best, "11", 9);
        table(best, "know p=2");
        due("learn(0, 1), the WORD 0", best.learn(0, 1), 0);
        due("learn(0, 2), the WORD 0", best.learn(0, 2), 0);
        due("learn(0, 2)", x.learn(0, 2), -5);
        due("learn(0, 0)", x.learn(0, 0), -5);
        due("learn(1, 60), it KNOWS all", x.learn(1, 60), -5);
        due("learn(0, 61)", x.learn(0, 61), -2);
        due("learn(0, -1)", x.learn(0, -1), -2);
        due("learn(2, 61)", x.learn(2, 61), -1);
        due("learn(-1, 0)", x.learn(-1, 0), -1);
        due("of(0, 5), nothing changes", x.of(0, 5), 1);
    }

    private static void beingOut() {
        of(20, "out");
        EndsWord x = game("012", 0, 0);
        due("out(0)", x.out(0), 0);
        due("out(1)", x.out(1), 9);
        due("out(2)", x.out(2), -1);
        due("out(-1)", x.out(-1), -1);
        x.live(0, 21);
        due("out(0), later than TURN 60", x.out(0), -5);
        due("out(1), later than TURN 60", x.out(1), -5);
        x.live(0, 20);
        due("out(1)", x.out(1), 60);
        x.live(1, 0);
        due("out(0)", x.out(0), 1);
        due("out(1)", x.out(1), 0);
        x.live(0, 0);
        due("out(0), the least", x.out(0), 0);
        due("out(0) of nobody", new EndsWord().out(0), -5);
    }

    private static void ranking() {
        of(21, "rank");
        EndsWord x = game("012", 0, 0, 0);
        due("rank(0)", x.rank(0), 0);
        due("rank(3)", x.rank(3), 0);
        x = game("012", 0, 0);
        due("rank(2)", x.rank(2), 0);
        due("rank(3)", x.rank(3), 1);
        due("rank(61)", x.rank(61), -2);
        due("rank(-1)", x.rank(-1), -2);
        x.live(0, 0);
        x.live(1, 0);
        due("rank(60), all have none", x.rank(60), 0);
        due("rank(60) of nobody", new EndsWord().rank(60), -5);
        due("rank(61) of nobody", new EndsWord().rank(61), -2);
    }

    private static void seeing() {
        of(22, "see");
        EndsWord x = game("012 1", 0, 0);
        due("see(2, 0, 1)", x.see(2, 0, 1), -1);
        due("see(-2, 0, 1)", x.see(-2, 0, 1), -1);
        due("see(0, 2, 9)", x.see(0, 2, 9), -1);
        due("see(0, -1, 1)", x.see(0, -1, 1), -1);
        due("see(0, 0, 0)", x.see(0, 0, 0), -2);
        due("see(0, 0, 4)", x.see(0, 0, 4), -2);
        due("see(0, 1, 2)", x.see(0, 1, 2), -2);
        for (int k = 1; k <= 6; k++) {
            due("see(1, 0, 3)", x.see(1, 0, 3), k);
        }
        due("see(1, 0, 3), one too many", x.see(1, 0, 3), -4);
        due("see(1, 0, 4), one too many", x.see(1, 0, 4), -2);
        due("count(3)", x.count(3), 6);
        due("see(-1, 77, -3)", x.see(-1, 77, -3), 0);
        due("count(3)", x.count(3), 0);
    }

    private static void ableToHaveMade() {
        of(23, "could");
        EndsWord x = game("012 02 1", 0, 5, 0);
        table(x, "know f=0&p=0");
        due("could(0)", x.could(0), 1);
        due("could(2), of whom nothing is SEEN", x.could(2), 1);
        due("could(3)", x.could(3), -1);
        due("could(-1)", x.could(-1), -1);
        x.see(0, 1, 1);
        x.see(1, 2, 1);
        due("could(0)", x.could(0), 1);
        due("could(1)", x.could(1), 1);
        x.see(0, 2, 1);
        due("could(0), not the second", x.could(0), 0);
        due("could(2), as it is another's", x.could(2), 1);
        x.image();
        x.see(-1, 0, 0);
        x.see(0, 0, 3);
        due("could(0), of what is SEEN anew", x.could(0), 1);
        x.undo();
        due("could(0), as THE IMAGE", x.could(0), 0);
        of(24, "can");
        due("can(0, 1)", x.can(0, 1), 3);
        due("can(2, 1)", x.can(2, 1), 2);
        table(x, "know l=3");
        due("can(1, 1), by another WORD", x.can(1, 1), 7);
        due("can(1, 2)", x.can(1, 2), 2);
        due("can(1, 3)", x.can(1, 3), -2);
        due("can(1, 0)", x.can(1, 0), -2);
        due("can(3, 0)", x.can(3, 0), -1);
        due("can(-1, 1)", x.can(-1, 1), -1);
    }

    private static void beginningOf() {
        of(25, "begins");
        EndsWord x = new EndsWord();
        word(x, "012", 9);
        word(x, "1", 5);
        word(x, "03", 3);
        x.player(3, 2);
        due("begins(10)", x.begins(10), -2);
        due("begins(-1)", x.begins(-1), -2);
        due("begins(9)", x.begins(9), 0);
        due("begins(6)", x.begins(6), 0);
        due("begins(5)", x.begins(5), 2);
        word(x, "11", 2);
        due("begins(3)", x.begins(3), 2);
        due("begins(2), 1 is WON then", x.begins(2), 0);
        x.turn();
        due("begins(4), whatever THE ROW is", x.begins(4), 2);
        table(x, "least 1");
        due("begins(5), 1 ENDS", x.begins(5), 0);
        table(x, "least 4");
        due("begins(9), nothing ENDS", x.begins(9), 1);
    }

    private static void oddsAndMeans() {
        of(26, "odds");
        EndsWord x = game("012 1", 0, 0, 0);
        due("odds(0, 0)", x.odds(0, 0), 1);
        due("odds(0, 1)", x.odds(0, 1), 2);
        due("odds(1, 0)", x.odds(1, 0), 1);
        due("odds(1, 1)", x.odds(1, 1), 4);
        x = game("012 1", 0, 0);
        due("odds(0, 0)", x.odds(0, 0), 3);
        due("odds(0, 1)", x.odds(0, 1), 4);
        due("odds(2, 0)", x.odds(2, 0), EndsWord.NO);
        due("odds(-1, 0)", x.odds(-1, 0), EndsWord.NO);
        due("odds(0, 2)", x.odds(0, 2), EndsWord.NO);
        due("odds(0, -1)", x.odds(0, -1), EndsWord.NO);
        x.live(0, 0);
        x.live(1, 0);
        due("odds(0, 0), nobody has LIVES", x.odds(0, 0), EndsWord.NO);
        x = game("0 1", 0, 0);
        due("odds(0, 0)", x.odds(0, 0), 1);
        due("odds(0, 1)", x.odds(0, 1), 2);
        of(27, "mean");
        x = game("012", 0, 0);
        due("mean(1, 0)", x.mean(1, 0), 1);
        due("mean(1, 1)", x.mean(1, 1), 1);
        due("mean(2, 0)", x.mean(2, 0), 3);
        due("mean(2, 1)", x.mean(2, 1), 2);
        due("mean(3, 0)", x.mean(3, 0), 1);
        due("mean(3, 1)", x.mean(3, 1), 1);
        due("mean(60, 0), all are out behind TURN 18", x.mean(60, 0), 3);
        due("mean(60, 1)", x.mean(60, 1), 10);
        due("mean(0, 0)", x.mean(0, 0), EndsWord.NO);
        due("mean(61, 0)", x.mean(61, 0), EndsWord.NO);
        due("mean(1, 2)", x.mean(1, 2), EndsWord.NO);
        due("mean(1, -1)", x.mean(1, -1), EndsWord.NO);
        due("mean(7, 0) of nobody", new EndsWord().mean(7, 0), 0);
        due("mean(7, 1) of nobody", new EndsWord().mean(7, 1), 1);
        turns(x, 0, 1);
        x.live(0, 0);
        x.live(1, 0);
        due("mean(4, 0), no TURN goes", x.mean(4, 0), 2);
        due("mean(4, 1), no TURN goes", x.mean(4, 1), 1);
    }

    private static void sheets() {
        of(28, "sheet");
        EndsWord x = game("012", 0, 0);
        due("sheet(2)", x.sheet(2), -1);
        due("sheet(-2)", x.sheet(-2), -1);
        for (int k = 1; k <= 8; k++) {
            due("sheet(0)", x.sheet(0), k);
        }
        due("sheet(1), one too many", x.sheet(1), -4);
        due("sheet(2), one too many", x.sheet(2), -1);
        due("count(4)", x.count(4), 8);
        due("sheet(-1)", x.sheet(-1), 0);
        due("count(4)", x.count(4), 0);
        of(29, "looked");
        due("looked() at none", x.looked(), -5);
        x.sheet(0);
        x.sheet(0);
        x.sheet(0);
        due("looked()", x.looked(), -5);
        x.sheet(1);
        due("looked()", x.looked(), -5);
        x.sheet(0);
        due("looked(), the fifth is otherwise", x.looked(), 4);
        x.sheet(-1);
        x.sheet(1);
        due("looked(), the first is otherwise", x.looked(), 0);
        x.live(0, 1);
        x.live(1, 0);
        x.sheet(-1);
        x.sheet(0);
        x.sheet(0);
        due("looked(), the second does not come", x.looked(), 1);
        x.live(0, 0);
        due("looked(), nobody has LIVES", x.looked(), 0);
        EndsWord bold = game("", 3);
        bold.live(0, 9);
        for (int k = 0; k < 5; k++) {
            bold.sheet(0);
            bold.turn();
        }
        due("looked(), the fifth comes in TURN 60", bold.looked(), -5);
        bold.begin(0);
        bold.turn();
        due("looked(), the fifth comes in TURN 64", bold.looked(), 4);
        due("told(2), nothing changes", x.told(2), 0);
    }

    private static void judging() {
        of(30, "judge");
        EndsWord x = game("0123", 0, 0);
        x.tape(0, 0, 4);
        x.tape(1, 1, 4);
        due("judge(6, 0)", x.judge(6, 0), -1);
        due("judge(-1, 0)", x.judge(-1, 0), -1);
        due("judge(1, 0)", x.judge(1, 0), -12);
        due("judge(1, -1)", x.judge(1, -1), -12);
        due("judge(0, 9) of no LETTERS", x.judge(0, 9), -5);
        due("judge(0, -1) of no LETTERS", x.judge(0, -1), -5);
        due("judge(2, 0) of no LETTERS", x.judge(2, 0), -5);
        turns(x, 0, 1, 2);
        due("judge(2, 0), which holds nothing", x.judge(2, 0), 100);
        due("judge(0, 0)", x.judge(0, 0), 1);
        x.item(0, 2, 1);
        x.item(0, 3, 2);
        due("judge(0, 1)", x.judge(0, 1), -5);
        due("judge(0, 0)", x.judge(0, 0), 1);
        due("judge(0, 2)", x.judge(0, 2), 0);
        due("judge(0, -1)", x.judge(0, -1), 100);
        due("judge(0, MIN)", x.judge(0, Integer.MIN_VALUE), 100);
        due("judge(0, 4)", x.judge(0, 4), 100);
        due("judge(0, MAX)", x.judge(0, Integer.MAX_VALUE), 100);
        x.tape(0, 0, 2);
        x.item(0, 1, 257);
        due("judge(0, 0), which ends", x.judge(0, 0), 102);
        x.tape(0, 0, 0);
        due("judge(0, 0) of no bytes", x.judge(0, 0), 100);
    }

    private static void images() {
        EndsWord x = game("0123", 6, 0);
        of(32, "undo");
        due("undo()", x.undo(), -3);
        table(x, "least 2;lives 7");
        x.row(0, 1, 1);
        x.live(1, 9);
        x.sheet(1);
        x.see(0, 0, 2);
        turns(x, 0);
        of(31, "image");
        due("image()", x.image(), 2);
        word(x, "3", 1);
        x.row(0, 1, 2);
        x.live(1, 8);
        x.sheet(0);
        x.see(-1, 0, 0);
        x.player(4, 4);
        table(x, "least 9;lives 8");
        turns(x, 1, 2);
        x.spell(2);
        feed(x, "le");
        x.tape(0, 3, 1);
        x.act(0, 0, 1);
        of(32, "undo");
        due("undo()", x.undo(), 2);
        due("count(0)", x.count(0), 2);
        due("count(1)", x.count(1), 1);
        due("count(2), TABLES stay", x.count(2), 2);
        due("count(3)", x.count(3), 1);
        due("count(4)", x.count(4), 1);
        due("count(5), THE TEXT stays", x.count(5), 2);
        due("count(6), what was spelled stays", x.count(6), 1);
        due("count(7)", x.count(7), 2);
        due("read(0, 0), TAPES stay", x.read(0, 0), 0);
        due("told(0)", x.told(0), 1);
        due("told(1)", x.told(1), 0);
        dueRow(x, "0");
        due("told(3)", x.told(3), 2);
        due("told(4)", x.told(4), 7);
        due("of(1, 2)", x.of(1, 2), 9);
        due("row(0, 1, 3)", x.row(0, 1, 3), 1);
        due("of(0, 5)", x.of(0, 5), 1);
        due("the word 3 is new", word(x, "3", 2), 1);
        due("player(0, 3)", x.player(0, 3), 2);
        due("of(2, 2)", x.of(2, 2), 7);
        due("undo() again", x.undo(), 2);
        due("row(0, 1, 0)", x.row(0, 1, 0), 1);
        x = new EndsWord();
        x.image();
        x.player(1, 1);
        table(x, "least 1");
        due("undo()", x.undo(), 0);
        due("told(3), no TABLE held", x.told(3), 3);
        due("table()", table(x, "least 6"), 1);
        due("told(3), the newest holds", x.told(3), 6);
    }

    private static void dueAct(int kind, int act, int x, int want, int... bodies) {
        EndsWord e = new EndsWord();
        e.player(0, 0);
        e.player(0, 0);
        e.player(kind, 5);
        String call = "act(2, " + act + ", " + x + ") of KIND " + kind;
        due(call, e.act(2, act, x), want);
        due("count(7) behind " + call, e.count(7), bodies.length);
        for (int k = 0; k < bodies.length; k++) {
            due("trace(" + k + ") behind " + call, e.trace(k), bodies[k]);
        }
        due("trace(-1) behind " + call, e.trace(-1), -1);
        due("trace beyond the end behind " + call, e.trace(bodies.length), -1);
        due("act(3, 0, 0)", e.act(3, 0, 0), 0);
        due("count(7) behind act(3, 0, 0)", e.count(7), 0);
        due("trace(0) behind act(3, 0, 0)", e.trace(0), -1);
    }

    private static void acting() {
        of(33, "act, and 34, trace");
        dueAct(0, 0, 7, 9, 10);
        dueAct(0, 1, 7, 4, 11, 10);
        dueAct(0, 2, 7, 8, 12, 11, 10);
        dueAct(1, 0, 7, 9, 10);
        dueAct(1, 1, 7, 4 ^ 6, 20, 11, 10);
        dueAct(1, 2, 7, (4 ^ 6) * 2, 12, 20, 11, 10);
        dueAct(2, 0, 7, 23, 30, 10);
        dueAct(2, 1, 7, 18, 11, 30, 10);
        dueAct(2, 2, 7, 36, 12, 11, 30, 10);
        dueAct(3, 0, 7, 9, 10);
        dueAct(3, 1, 7, 4, 11, 10);
        dueAct(3, 2, 7, 8 - 2, 40, 12, 11, 10, 11, 10);
        dueAct(4, 0, 7, -9, 50, 10);
        dueAct(4, 1, 7, (-10 - 5) ^ 6, 51, 20, 11, 50, 10);
        dueAct(4, 2, 7, ((-10 - 5) ^ 6) * 2, 12, 51, 20, 11, 50, 10);
        dueAct(5, 0, 7, 23, 30, 10);
        dueAct(5, 1, 7, 18, 11, 30, 10);
        dueAct(5, 2, 7, 24, 60, 12, 11, 30, 10);
        dueAct(6, 0, 7, 9 ^ 5, 71, 10);
        dueAct(6, 1, 7, (9 ^ 5) - 5 + 4, 70, 11, 71, 10, 10);
        dueAct(6, 2, 7, 22 + ((3 ^ 5) - 5 + 4), 40, 12, 70, 11, 71, 10, 10, 70, 11, 71, 10, 10);
        dueAct(0, 0, Integer.MAX_VALUE, Integer.MIN_VALUE + 1, 10);
        dueAct(2, 0, Integer.MAX_VALUE, Integer.MAX_VALUE * 3 + 2, 30, 10);
        dueAct(0, 3, 7, 0);
        dueAct(0, -1, 7, 0);
    }

    private static void taking() {
        of(35, "taken");
        EndsWord x = game("", 4, 5, 6, 0, 1);
        int[][] under = {{0, 1, 4}, {0, 2, 5}, {0, 3, 6}, {0}, {0, 1}};
        int[] kinds = {4, 5, 6, 0, 1};
        for (int player = 0; player < 5; player++) {
            for (int k = 0; k <= 6; k++) {
                int want = -12;
                for (int one : under[player]) {
                    want = one == k ? kinds[player] : want;
                }
                due("taken(" + player + ", " + k + ")", x.taken(player, k), want);
            }
        }
        due("taken(5, 7)", x.taken(5, 7), -2);
        due("taken(0, -1)", x.taken(0, -1), -2);
        due("taken(5, 6)", x.taken(5, 6), -11);
        due("taken(-1, 0)", x.taken(-1, 0), -11);
    }

    private static void counting() {
        of(36, "count");
        EndsWord x = game("0 1 2", 0, 1);
        table(x, "least 1");
        feed(x, "lives");
        x.spell(1);
        x.see(0, 0, 1);
        x.sheet(0);
        x.sheet(1);
        x.act(0, 2, 1);
        int[] want = {2, 3, 1, 1, 2, 5, 1, 3};
        for (int what = 0; what < 8; what++) {
            due("count(" + what + ")", x.count(what), want[what]);
        }
        due("count(8)", x.count(8), -2);
        due("count(-1)", x.count(-1), -2);
    }

    private static void tapes() {
        of(37, "tape");
        EndsWord x = new EndsWord();
        due("tape(6, 9, 9)", x.tape(6, 9, 9), -1);
        due("tape(-1, 0, 0)", x.tape(-1, 0, 0), -1);
        due("tape(0, 5, -1)", x.tape(0, 5, -1), -2);
        due("tape(0, -2, 1)", x.tape(0, -2, 1), -2);
        due("tape(0, 0, 61)", x.tape(0, 0, 61), -2);
        due("tape(0, 0, -1)", x.tape(0, 0, -1), -14);
        due("tape(0, 0, MIN)", x.tape(0, 0, Integer.MIN_VALUE), -14);
        due("item(0, 0, 1)", x.item(0, 0, 1), -11);
        due("tape(0, 2, 60)", x.tape(0, 2, 60), 1);
        due("item(0, 59, 1)", x.item(0, 59, 1), 1);
        due("tape(0, 2, 60)", x.tape(0, 2, 60), 1);
        due("read(0, 59), all 0", x.read(0, 59), 0);
        due("tape(0, 0, 61)", x.tape(0, 0, 61), -2);
        due("read(0, 59), as it was", x.read(0, 59), 0);
        due("tape(0, -1, 61)", x.tape(0, -1, 61), 1);
        due("read(0, 0)", x.read(0, 0), EndsWord.NO);
        due("tape(0, -1, -7)", x.tape(0, -1, -7), 1);
        due("tape(0, 4, 0)", x.tape(0, 4, 0), 1);
        due("item(0, 0, 1)", x.item(0, 0, 1), -13);
    }

    private static void items() {
        of(38, "item, and 39, read");
        EndsWord x = new EndsWord();
        long v = 0x123456789ABCDEF0L;
        long[] want = {(byte) v, (short) v, (int) v, v, 1};
        for (int sort = 0; sort < 5; sort++) {
            x.tape(sort, sort, 3);
            due("item(" + sort + ", 2, v)", x.item(sort, 2, v), 1);
            due("read(" + sort + ", 2)", x.read(sort, 2), want[sort]);
            due("read(" + sort + ", 1)", x.read(sort, 1), 0);
            due("item(" + sort + ", 3, v)", x.item(sort, 3, v), -13);
            due("item(" + sort + ", -1, v)", x.item(sort, -1, v), -13);
            due("read(" + sort + ", 3)", x.read(sort, 3), EndsWord.NO);
            due("read(" + sort + ", -1)", x.read(sort, -1), EndsWord.NO);
        }
        x.item(4, 2, 0);
        due("read(4, 2)", x.read(4, 2), 0);
        x.item(4, 2, 1L << 40);
        due("read(4, 2)", x.read(4, 2), 1);
        x.item(2, 0, 1L << 31);
        due("read(2, 0)", x.read(2, 0), Integer.MIN_VALUE);
        x.item(3, 0, Long.MIN_VALUE);
        due("read(3, 0)", x.read(3, 0), Long.MIN_VALUE);
        due("item(6, 0, 1)", x.item(6, 0, 1), -1);
        due("item(-1, 0, 1)", x.item(-1, 0, 1), -1);
        due("item(5, 9, 1)", x.item(5, 9, 1), -11);
        due("read(6, 0)", x.read(6, 0), EndsWord.NO);
        due("read(-1, 0)", x.read(-1, 0), EndsWord.NO);
        due("read(5, 0)", x.read(5, 0), EndsWord.NO);
    }

    private static void dueTape(EndsWord x, int tape, String want) {
        StringBuilder all = new StringBuilder();
        for (int i = 0; x.read(tape, i) != EndsWord.NO; i++) {
            all.append(x.read(tape, i));
        }
        due("TAPE " + tape + " is " + all + ", not " + want, all.toString().equals(want) ? 1 : 0, 1);
    }

    private static void shifting() {
        of(40, "shift");
        EndsWord x = new EndsWord();
        x.tape(0, 2, 5);
        x.tape(1, 2, 3);
        x.tape(2, 3, 5);
        for (int i = 0; i < 5; i++) {
            x.item(0, i, i + 1);
        }
        due("shift(0, 0, 6, 0, 1)", x.shift(0, 0, 6, 0, 1), -1);
        due("shift(-1, 0, 0, 0, 1)", x.shift(-1, 0, 0, 0, 1), -1);
        due("shift(3, 0, 6, 0, 1)", x.shift(3, 0, 6, 0, 1), -1);
        due("shift(3, 0, 0, 0, 1)", x.shift(3, 0, 0, 0, 1), -11);
        due("shift(0, -1, 3, 0, 1)", x.shift(0, -1, 3, 0, 1), -11);
        due("shift(0, -1, 2, 0, 1)", x.shift(0, -1, 2, 0, 1), -12);
        due("shift(0, 0, 1, 0, -1)", x.shift(0, 0, 1, 0, -1), -13);
        due("shift(0, -1, 1, 0, 1)", x.shift(0, -1, 1, 0, 1), -13);
        due("shift(0, 0, 1, -1, 1)", x.shift(0, 0, 1, -1, 1), -13);
        due("shift(0, 3, 1, 0, 3)", x.shift(0, 3, 1, 0, 3), -13);
        due("shift(0, 0, 1, 1, 3)", x.shift(0, 0, 1, 1, 3), -13);
        due("shift(0, 6, 1, 0, 0)", x.shift(0, 6, 1, 0, 0), -13);
        due("shift(0, MAX, 1, 0, MAX)", x.shift(0, Integer.MAX_VALUE, 1, 0, Integer.MAX_VALUE), -13);
        dueTape(x, 1, "000");
        due("shift(0, 5, 1, 3, 0)", x.shift(0, 5, 1, 3, 0), 0);
        due("shift(0, 3, 1, 1, 2)", x.shift(0, 3, 1, 1, 2), 2);
        dueTape(x, 1, "045");
        due("shift(0, 0, 0, 1, 4)", x.shift(0, 0, 0, 1, 4), 4);
        dueTape(x, 0, "11234");
        due("shift(0, 1, 0, 0, 4)", x.shift(0, 1, 0, 0, 4), 4);
        dueTape(x, 0, "12344");
    }
}
