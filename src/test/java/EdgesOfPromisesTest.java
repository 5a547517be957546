/** For each sentence of the promises that names a limit or a refusal what is answered on either side of it. */
public final class EdgesOfPromisesTest {
    /** Something of all that an object can hold. */
    private static final String[] RICH = lines("table: know c>4|p=2;lives 4;least 2",
        "book: 0123/1 012/9 10 3/0 112233/7", "players: 0/1 6/3 3/9 5/4", "row(1, 1, 1)", "see(0, 0, 2)", "see(1, 2, 1)",
        "sheet(2)", "sheet(0)", "tape(0, 0, 5)", "item(0, 2, 1)", "tape(1, 2, 3)", "item(1, 1, 77)", "turn()", "image()",
        "live(2, 7)", "turn()", "act(1, 2, 5)", "spell(1)", "spell(0)", "spell(2)", "feed: know l<3");
    /** THE ROW is 12121212121, PLAYER 1 is NEXT; and one LETTER later. */
    private static final String[] ELEVEN = lines("players: 3/1 3/2", "11 times: turn()");
    private static final String[] TWELVE = more(ELEVEN, "turn() = 2");

    private static String[] lines(String... all) {
        return Script.lines(all);
    }

    private static String[] more(String[] all, String... behind) {
        return Script.more(all, behind);
    }

    private static void sentence(String words) {
        Script.sentence(words);
    }

    private static Script on(String... all) {
        return Script.on(all);
    }

    private static void unchanged(String[] all, String... asked) {
        Script.unchanged(all, asked);
    }

    public static void main(String[] args) {
        newObject();
        spell();
        word();
        letter();
        player();
        of();
        live();
        row();
        feed();
        table();
        told();
        turn();
        begin();
        on();
        ends();
        won();
        by();
        has();
        learn();
        out();
        rank();
        see();
        could();
        can();
        begins();
        odds();
        mean();
        sheet();
        looked();
        judge();
        image();
        undo();
        act();
        trace();
        taken();
        count();
        tape();
        item();
        read();
        shift();
        asking();
        Script.end();
    }

    private static void newObject() {
        sentence("1: An empty BOOK");
        on("count(1) = 0", "letter(0, 0) = NONE", "letter(0, 1) = NONE", "can(0, 1) = NONE", "won(0) = 0", "won(1) = 0",
            "begins(0) = 0", "begins(9) = 0");
        sentence("1: nobody");
        on("count(0) = 0", "of(0, 0) = NONE", "live(0, 1) = NONE", "row(0, 0, 0) = NONE", "begin(0) = NONE",
            "turn() = STATE", "on(1, 10) = NONE", "by(0) = STATE", "has(0, 0) = NONE", "learn(0, 0) = NONE",
            "could(0) = NONE", "odds(0, 0) = NO", "sheet(0) = NONE", "act(0, 0, 1) = 0", "taken(0, 0) = NOTHING",
            "told(0) = -5", "told(1) = -5", "on(0, 0) = -5", "on(60, 0) = -5", "rank(0) = -5", "out(0) = -5",
            "out(1) = -5", "ends(0) = -5", "ends(1) = -5", "ends(2) = -5", "looked() = -5");
        sentence("1: no TABLE");
        on("count(2) = 0", "told(3) = 3", "told(4) = 3", "table() = -10", "players: 0", "of(0, 2) = 3");
        sentence("1: nothing else is there at first");
        on("count(3) = 0", "count(4) = 0", "count(5) = 0", "count(6) = 0", "count(7) = 0", "told(2) = 0", "told(10) = NONE",
            "trace(0) = NONE", "undo() = STATE", "word(0) = STATE", "feed(1) = 1", "spell(1) = 1");
    }

    private static void spell() {
        sentence("2: how many there are");
        on("spell(0) = 1", "spell(3) = 2", "spell(1) = 3", "spell(1) = 4", "spell(2) = 5", "spell(0) = 6", "word(0) = 0",
            "letter(0, 10) = 0", "letter(0, 11) = 3", "letter(0, 12) = 1", "letter(0, 13) = 1", "letter(0, 14) = 2",
            "letter(0, 15) = 0");
        sentence("2: letter -1: none then, 0");
        on("spell(-1) = 0", "word(0) = STATE", "spell(2) = 1", "spell(-1) = 0", "count(6) = 0", "word(0) = STATE",
            "6 times: spell(2)", "spell(-1) = 0", "spell(1) = 1", "word(0) = 0", "letter(0, 1) = 1");
        sentence("2: NONE");
        unchanged(lines("spell(1)", "spell(2)"), "spell(-2) = NONE", "spell(4) = NONE", "spell(MIN) = NONE",
            "spell(MAX) = NONE");
        unchanged(lines(), "spell(-2) = NONE", "spell(4) = NONE");
        sentence("2: FULL: 6");
        on("5 times: spell(3)", "spell(3) = 6", "spell(3) = FULL", "spell(-1) = 0", "spell(3) = 1");
        unchanged(lines("5 times: spell(3)", "spell(2)"), "spell(0) = FULL", "spell(3) = FULL");
        sentence("2: NONE comes ahead of FULL");
        unchanged(lines("6 times: spell(3)"), "spell(4) = NONE", "spell(-2) = NONE");
    }

    /** Nine WORDS more than those of two others, and twelve with these. */
    private static final String NINE = " 00 01 02 03 10 11 12 13 20";

    private static void word() {
        sentence("3: its number");
        on("spell(0)", "word(0) = 0", "spell(1)", "word(9) = 1", "letter(0, 0) = 0", "letter(1, 0) = 9");
        sentence("3: What was spelled, which is none then");
        on("spell(0)", "spell(1)", "word(0) = 0", "count(6) = 0", "word(0) = STATE", "spell(2) = 1");
        sentence("3: BAD: common");
        unchanged(lines("book: 01", "spell(0)"), "word(-1) = BAD", "word(10) = BAD", "word(MIN) = BAD", "word(MAX) = BAD");
        on("spell(0)", "word(10) = BAD", "word(-1) = BAD", "word(0) = 0");
        sentence("3: STATE: nothing is spelled");
        unchanged(lines(), "word(0) = STATE", "word(9) = STATE");
        unchanged(lines("book: 01"), "word(0) = STATE");
        sentence("3: STATE: or that is a WORD already");
        unchanged(lines("book: 01/3 2/4", "spell(0)", "spell(1)"), "word(3) = STATE", "word(9) = STATE");
        unchanged(lines("book: 01/3 2/4", "spell(2)"), "word(4) = STATE");
        unchanged(lines("book: 012301", "spell(0)", "spell(1)", "spell(2)", "spell(3)", "spell(0)", "spell(1)"),
            "word(5) = STATE");
        on("book: 01 2", "spell(0)", "word(1) = 2", "spell(0)", "spell(1)", "spell(0)", "word(1) = 3", "spell(2)", "spell(2)",
            "word(1) = 4", "spell(1)", "spell(0)", "word(1) = 5");
        on("image()", "book: 01", "undo()", "spell(0)", "spell(1)", "word(1) = 0");
        sentence("3: FULL: 12");
        on("book: 3 30" + NINE, "spell(2)", "word(2) = 11", "count(1) = 12", "letter(11, 10) = 2", "spell(1)",
            "word(2) = FULL", "count(1) = 12", "count(6) = 1");
        unchanged(lines("book: 3 30 2" + NINE, "spell(1)"), "word(0) = FULL", "word(9) = FULL");
        sentence("3: BAD, then STATE, then FULL");
        unchanged(lines("book: 3 30 2" + NINE), "word(10) = BAD", "word(9) = STATE");
        unchanged(lines("book: 3 30 2" + NINE, "spell(2)"), "word(10) = BAD", "word(9) = STATE");
        unchanged(lines("book: 3 30 2" + NINE, "spell(1)"), "word(10) = BAD", "word(-1) = BAD");
        unchanged(lines("book: 3", "spell(3)"), "word(10) = BAD");
        unchanged(lines(), "word(10) = BAD");
    }

    private static void letter() {
        sentence("4: 0 COMMON, 1 how many LETTERS, 10 and k the k-th LETTER");
        on("book: 3/0 123012/9", "letter(0, 0) = 0", "letter(0, 1) = 1", "letter(0, 10) = 3", "letter(1, 0) = 9",
            "letter(1, 1) = 6", "letter(1, 10) = 1", "letter(1, 11) = 2", "letter(1, 12) = 3", "letter(1, 13) = 0",
            "letter(1, 14) = 1", "letter(1, 15) = 2");
        sentence("4: NONE (no such WORD)");
        unchanged(lines("book: 3 12"), "letter(-1, 0) = NONE", "letter(2, 0) = NONE", "letter(MIN, 1) = NONE",
            "letter(MAX, 10) = NONE");
        on("book: 3 30 2" + NINE, "letter(11, 1) = 2", "letter(12, 1) = NONE");
        sentence("4: NONE (no such what)");
        unchanged(lines("book: 3 12 012301"), "letter(0, -1) = NONE", "letter(0, 2) = NONE", "letter(2, 3) = NONE",
            "letter(2, 9) = NONE", "letter(0, 11) = NONE", "letter(1, 12) = NONE", "letter(2, 16) = NONE",
            "letter(2, MIN) = NONE", "letter(2, MAX) = NONE");
        on("book: 012301", "letter(0, 10) = 0", "letter(0, 15) = 1");
    }

    private static void player() {
        sentence("5: its number");
        on("player(0, 0) = 0", "player(6, 9) = 1", "of(0, 0) = 0", "of(0, 1) = 0", "of(1, 0) = 6", "of(1, 1) = 9");
        sentence("5: with as many LIVES as the TABLE tells");
        on("player(0, 0)", "of(0, 2) = 3", "table: lives 0", "player(0, 0)", "of(1, 2) = 0", "table: lives 99", "player(0, 0)",
            "of(2, 2) = 99", "table: least 1", "player(0, 0)", "of(3, 2) = 3", "of(0, 2) = 3", "of(1, 2) = 0");
        sentence("5: NONE: kind");
        unchanged(lines("players: 1"), "player(-1, 0) = NONE", "player(7, 0) = NONE", "player(MIN, 9) = NONE",
            "player(MAX, 9) = NONE");
        sentence("5: BAD: v");
        unchanged(lines("players: 1"), "player(0, -1) = BAD", "player(6, 10) = BAD", "player(0, MIN) = BAD",
            "player(6, MAX) = BAD");
        sentence("5: FULL: 5");
        on("players: 0 1 2 3", "player(4, 1) = 4", "player(4, 1) = FULL", "count(0) = 5");
        unchanged(lines("players: 0 1 2 3 6/7"), "player(0, 0) = FULL", "player(6, 9) = FULL");
        sentence("5: NONE, then BAD, then FULL");
        unchanged(lines("players: 0 1 2 3 4"), "player(7, 10) = NONE", "player(-1, 0) = NONE", "player(0, 10) = BAD",
            "player(6, -1) = BAD");
        unchanged(lines(), "player(7, 10) = NONE", "player(-1, -1) = NONE");
    }

    private static void of() {
        sentence("6: NONE (no such PLAYER)");
        unchanged(RICH, "of(-1, 0) = NONE", "of(4, 0) = NONE", "of(MIN, 2) = NONE", "of(MAX, 5) = NONE");
        on("players: 0 0 0 0 6", "of(4, 0) = 6", "of(5, 0) = NONE");
        sentence("6: NONE (no such what)");
        unchanged(RICH, "of(0, -1) = NONE", "of(0, 6) = NONE", "of(0, MIN) = NONE", "of(3, MAX) = NONE", "of(0, 10) = NONE");
        sentence("6: 3 MAY, 4 SAFE (bits): none, and all");
        on("players: 0", "of(0, 3) = 0", "of(0, 4) = 0", "book: 0 1 2 3", "of(0, 3) = 15", "of(0, 4) = 15", "table: least 1",
            "of(0, 3) = 15", "of(0, 4) = 0", "table: know c>5", "of(0, 3) = 0", "of(0, 4) = 0");
        sentence("6: 5 which WORDS it KNOWS (bits): none, and all 12");
        on("players: 0 5", "of(0, 5) = 0", "of(1, 5) = 0", "book: 3 30 2" + NINE, "of(0, 5) = 4095", "table: know l<2",
            "of(0, 5) = 5", "of(1, 5) = 4095", "table: know l<1", "of(0, 5) = 0", "of(1, 5) = 4095");
    }

    private static void live() {
        sentence("7: LIVES of a PLAYER become n (0 .. 99): what they were");
        on("players: 0 0", "live(1, 99) = 3", "live(1, 0) = 99", "live(1, 99) = 0", "of(1, 2) = 99", "of(0, 2) = 3");
        sentence("7: NONE");
        unchanged(RICH, "live(-1, 1) = NONE", "live(4, 1) = NONE", "live(MIN, 0) = NONE", "live(MAX, 0) = NONE");
        on("players: 0 0 0 0 0", "live(4, 9) = 3", "live(5, 9) = NONE");
        sentence("7: BAD");
        unchanged(RICH, "live(0, -1) = BAD", "live(0, 100) = BAD", "live(3, MIN) = BAD", "live(3, MAX) = BAD");
        sentence("7: NONE, then BAD");
        unchanged(RICH, "live(4, 100) = NONE", "live(-1, -1) = NONE");
    }

    private static void row() {
        sentence("8: The ROW of a TOLD one becomes a LETTER for part (0 .. 3): what it was");
        on("players: 6 6", "row(0, 0, 3) = 0", "row(0, 1, 2) = 0", "row(0, 2, 1) = 0", "row(0, 3, 3) = 0", "row(0, 0, 0) = 3",
            "row(0, 1, 0) = 2", "row(0, 2, 0) = 1", "row(0, 3, 0) = 3", "row(1, 3, 0) = 0", "row(0, 0, 0) = 0");
        sentence("8: NONE: player");
        unchanged(RICH, "row(-1, 0, 0) = NONE", "row(4, 0, 0) = NONE", "row(MIN, 0, 0) = NONE", "row(MAX, 0, 0) = NONE");
        sentence("8: NONE: part");
        unchanged(RICH, "row(1, -1, 0) = NONE", "row(1, 4, 0) = NONE", "row(1, MIN, 0) = NONE", "row(1, MAX, 0) = NONE");
        sentence("8: BAD: n");
        unchanged(RICH, "row(1, 1, -1) = BAD", "row(1, 1, 4) = BAD", "row(1, 0, MIN) = BAD", "row(1, 3, MAX) = BAD");
        sentence("8: STATE: another KIND");
        for (int kind = 0; kind < 6; kind++) {
            unchanged(lines("players: 6 " + kind, "row(0, 0, 2)"), "row(1, 0, 0) = STATE", "row(1, 3, 3) = STATE");
        }
        sentence("8: NONE, then BAD, then STATE");
        unchanged(RICH, "row(4, 4, 4) = NONE", "row(0, 4, 4) = NONE", "row(1, 4, 4) = NONE", "row(0, 0, 4) = BAD",
            "row(4, 0, 4) = NONE");
    }

    private static final String FORTY_NINE = "know p=1|p=1|p=1|p=1|p=1|p=1|p=1|p=1|p=1|p=1|p=1;";

    private static void feed() {
        sentence("9: A sign (0 .. 127) comes behind THE TEXT's: how many it has");
        on("feed(0) = 1", "feed(127) = 2", "feed(65) = 3", "count(5) = 3", "table() = -10", "feed(127) = 1");
        sentence("9: BAD");
        unchanged(lines("feed: least 1"), "feed(-1) = BAD", "feed(128) = BAD", "feed(MIN) = BAD", "feed(MAX) = BAD",
            "feed(364) = BAD");
        sentence("9: FULL");
        on("98 times: feed(32)", "feed(32) = 99", "feed(32) = 100", "feed(32) = FULL", "count(5) = 100");
        unchanged(lines("feed: " + FORTY_NINE + FORTY_NINE + "le"), "feed(0) = FULL", "feed(127) = FULL");
        sentence("9: BAD, then FULL");
        unchanged(lines("100 times: feed(32)"), "feed(-1) = BAD", "feed(128) = BAD");
    }

    private static void table() {
        sentence("10: THE TEXT, which is empty then, is a TABLE, and holds: its number");
        on("feed: lives 5", "table() = 0", "count(5) = 0", "count(2) = 1", "told(4) = 5", "feed: lives 6", "table() = 1",
            "told(4) = 6", "count(2) = 2", "table() = -10", "count(2) = 2");
        sentence("10: FULL: there are 6 (THE TEXT stays)");
        String[] five = lines("table: lives 1", "table: lives 2", "table: lives 3", "table: lives 4", "table: lives 5");
        String[] six = more(five, "feed: least 6", "table() = 5");
        on(more(five, "count(2) = 5", "feed: lives 7", "table() = 5", "count(2) = 6", "told(4) = 7", "feed: lives 8",
            "table() = FULL", "count(5) = 7", "told(4) = 7", "count(2) = 6", "feed(32) = 8"));
        unchanged(more(six, "feed: lives 9"), "table() = FULL");
        unchanged(six, "table() = FULL");
        sentence("10: FULL comes ahead of a FAULT");
        unchanged(more(six, "feed: lives x"), "table() = FULL");
        sentence("10: FULL, whichever of them holds");
        on(more(lines("image()"), more(six, "undo()", "count(2) = 6", "told(3) = 3", "feed: least 2", "table() = FULL",
            "told(3) = 3")));
        sentence("10: -10 less the FAULT");
        on("table() = -10", "feed: x", "table() = -10", "feed: l", "table() = -11", "feed: least 1 ", "table() = -17",
            "99 times: feed(107)", "feed(1)", "table() = -11");
        on("feed: " + FORTY_NINE + FORTY_NINE + "le", "table() = -110");
        sentence("10: (the one that held holds)");
        on("players: 0", "book: 0 1/7", "table: know c=7;least 2;lives 8", "feed: know c=5;least 1;lives 1;", "table() = -35",
            "told(3) = 2", "told(4) = 8", "of(0, 5) = 2", "count(2) = 1", "feed: lives 7", "table() = 1", "told(4) = 7",
            "told(3) = 3", "of(0, 5) = 3");
        sentence("10: of a TEXT with a FAULT nothing holds later");
        on("players: 0", "book: 0 1", "feed: know c=1;least 8;lives 8;", "table() = -35", "feed: know c=5", "table() = 0",
            "told(3) = 3", "told(4) = 3", "of(0, 5) = 3");
        on("players: 0", "book: 0 1", "feed: know c=1;least 8;lives 8;", "table() = -35", "feed: least 1", "table() = 0",
            "told(4) = 3", "of(0, 5) = 3", "players: 0", "of(1, 2) = 3");
        on("players: 0", "book: 0 1/7", "feed: know !c=7|!c=7;", "table() = -25", "feed: know c=7", "table() = 0",
            "of(0, 5) = 2");
        on(more(five, "feed: lives 77x", "table() = -18", "told(4) = 5", "count(2) = 5", "count(5) = 0", "feed: least 1",
            "table() = 5"));
    }

    private static void told() {
        sentence("11: 0 NEXT (-5: there are no PLAYERS)");
        on("told(0) = -5", "players: 0", "told(0) = 0", "players: 0", "begin(1) = 0", "told(0) = 1");
        on("image()", "players: 0 0", "begin(1)", "undo()", "told(0) = -5", "players: 0", "told(0) = 0");
        sentence("11: 1 LAST (-5)");
        on("told(1) = -5", "players: 0 0", "book: 01", "told(1) = -5", "turns: 0", "told(1) = 0", "turns: 1", "told(1) = 1",
            "turns: 110", "told(1) = -5", "turns: 0", "told(1) = 0", "begin(0)", "told(1) = -5");
        sentence("11: 10 and k the k-th LETTER of THE ROW: none of no LETTERS, twelve at most");
        on("told(2) = 0", "told(10) = NONE");
        on(more(TWELVE, "told(2) = 12", "told(10) = 1", "told(20) = 1", "told(21) = 2", "told(22) = NONE"));
        on(more(ELEVEN, "told(2) = 11", "told(20) = 1", "told(21) = NONE"));
        sentence("11: NONE");
        unchanged(RICH, "told(-1) = NONE", "told(5) = NONE", "told(9) = NONE", "told(MIN) = NONE", "told(MAX) = NONE");
        unchanged(TWELVE, "told(22) = NONE", "told(9) = NONE");
        sentence("11: 3 least, 4 lives");
        on("table: least 0;lives 0", "told(3) = 0", "told(4) = 0", "table: least 99;lives 99", "told(3) = 99", "told(4) = 99",
            "table: know p=1", "told(3) = 3", "told(4) = 3");
    }

    private static void turn() {
        sentence("12: 0 .. 3 the LETTER it ADDS");
        on("players: 3/0", "turn() = 0");
        on("players: 3/3", "turn() = 3");
        sentence("12: 10: it ASKS; 100 more, if somebody LOSES");
        on("players: 0 0", "book: 01", "turns: 0 1 110");
        sentence("12: 20: it LOSES instead; 100 more");
        on("players: 0", "turn() = 120");
        sentence("12: 100 more, if somebody LOSES");
        on("players: 3/0", "book: 0", "turn() = 0", "table: least 1", "begin(0)", "turn() = 100");
        on("players: 3/3", "book: 3", "table: least 1", "turn() = 103");
        sentence("12: STATE: nobody has LIVES");
        unchanged(lines("book: 0123"), "turn() = STATE");
        unchanged(lines("book: 0123", "players: 0 0", "turns: 0 1", "lives: 0 0"), "turn() = STATE");
        unchanged(lines("table: lives 0", "book: 0123", "players: 0 3 6"), "turn() = STATE");
        on("book: 0123", "players: 0 0", "turns: 0 1", "lives: 0 0", "turn() = STATE", "ROW: 01", "told(0) = 0", "told(1) = 1",
            "live(1, 1)", "turn() = 2", "told(1) = 1");
    }

    private static void begin() {
        sentence("13: THE ROW is empty, nobody is LAST, a PLAYER is NEXT: who was");
        on("players: 0 0 0 0 0", "book: 0123", "turns: 0 1", "begin(4) = 2", "ROW: ", "told(1) = -5", "told(0) = 4",
            "begin(4) = 4", "begin(0) = 4", "told(0) = 0", "turns: 0");
        sentence("13: NONE");
        unchanged(more(RICH, "turn()"), "begin(-1) = NONE", "begin(4) = NONE", "begin(MIN) = NONE", "begin(MAX) = NONE");
        on("players: 0 0 0 0 0", "begin(5) = NONE", "begin(4) = 0");
        sentence("13: STATE: it has no LIVES");
        unchanged(lines("players: 0 0 0", "book: 0123", "turns: 0", "live(2, 0)"), "begin(2) = STATE");
        unchanged(lines("players: 0 0", "book: 0123", "turns: 0", "lives: 0 0"), "begin(0) = STATE", "begin(1) = STATE");
        on("players: 0 0", "live(1, 0)", "begin(1) = STATE", "live(1, 1)", "begin(1) = 0");
    }

    /** BOLD ones with nothing to know: each thirteenth TURN one ASKS, and LAST LOSES. */
    private static final String[] THIRTEEN = lines("players: 3/1 3/2");

    private static void on() {
        sentence("14: ON n TURNS (0 .. 60): no TURN, and sixty");
        on(more(THIRTEEN, "on(0, 0) = 0", "on(0, 1) = 0", "on(0, 10) = 3", "on(1, 0) = 1", "on(1, 1) = 1", "on(12, 1) = 12",
            "on(13, 1) = 0", "on(13, 0) = 1", "on(12, 11) = 3", "on(13, 11) = 2", "on(60, 1) = 8", "on(59, 1) = 7"));
        sentence("14: BAD: n");
        unchanged(RICH, "on(-1, 0) = BAD", "on(61, 0) = BAD", "on(61, 1) = BAD", "on(-1, 13) = BAD", "on(MIN, 0) = BAD",
            "on(MAX, 1) = BAD");
        unchanged(lines(), "on(61, 0) = BAD", "on(-1, 1) = BAD");
        sentence("14: NONE");
        unchanged(RICH, "on(0, -1) = NONE", "on(0, 2) = NONE", "on(0, 9) = NONE", "on(0, 14) = NONE", "on(60, MIN) = NONE",
            "on(60, MAX) = NONE");
        on(more(RICH, "on(0, 13) = 4", "on(0, 10) = 4"));
        sentence("14: NONE, then BAD");
        unchanged(RICH, "on(61, 2) = NONE", "on(-1, 14) = NONE");
        sentence("14: (Nobody has LIVES: no TURN goes.)");
        on("players: 0 0", "book: 0123", "turns: 0 1 2", "lives: 0 0", "on(60, 0) = 1", "on(60, 1) = 3", "on(60, 10) = 0",
            "on(60, 11) = 0", "on(0, 0) = 1");
        on("players: 0", "live(0, 2)", "on(1, 10) = 1", "on(2, 10) = 0", "on(3, 10) = 0", "on(60, 10) = 0", "on(60, 0) = 0");
    }

    private static void ends() {
        sentence("15: ENDS: what 0 who, 1 which TURN, 2 whether somebody ASKED: the first TURN, and the thirteenth");
        on("players: 0", "ends(0) = 0", "ends(1) = 1", "ends(2) = 0");
        on(more(THIRTEEN, "ends(0) = 1", "ends(1) = 13", "ends(2) = 1"));
        on(more(TWELVE, "ends(0) = 1", "ends(1) = 1", "ends(2) = 1"));
        sentence("15: (1, 0; LOSING instead is no ASKING)");
        on("players: 2", "ends(2) = 0", "turn() = 120");
        on("players: 0 0", "book: 0", "ends(2) = 1", "ends(0) = 1", "ends(1) = 2");
        on("players: 0", "book: 0", "table: least 1", "ends(2) = 0", "ends(1) = 1");
        sentence("15: -5");
        on("ends(0) = -5", "ends(1) = -5", "ends(2) = -5");
        on("players: 0 3", "lives: 0 0", "ends(0) = -5", "ends(1) = -5", "ends(2) = -5", "live(1, 1)", "ends(0) = 1");
        sentence("15: NONE");
        unchanged(RICH, "ends(-1) = NONE", "ends(3) = NONE", "ends(MIN) = NONE", "ends(MAX) = NONE");
        unchanged(lines(), "ends(-1) = NONE", "ends(3) = NONE");
    }

    private static void won() {
        sentence("16: WON: what 0 whether (1, 0), 1 with which LETTERS (bits): none, and all");
        on("book: 0 1 2 3", "won(0) = 1", "won(1) = 15", "table: least 1", "won(0) = 0", "won(1) = 0");
        on("won(0) = 0", "won(1) = 0");
        on(more(TWELVE, "won(0) = 0", "won(1) = 0"));
        sentence("16: NONE");
        unchanged(RICH, "won(-1) = NONE", "won(2) = NONE", "won(MIN) = NONE", "won(MAX) = NONE");
    }

    private static void by() {
        sentence("17: BY a LETTER: 0 .. 3");
        on("players: 0 0", "book: 0 3 30", "table: least 1", "by(0) = 0", "by(3) = 0", "by(1) = 0", "table: least 2",
            "by(3) = 1", "by(0) = 1", "by(2) = 0");
        sentence("17: NONE");
        unchanged(RICH, "by(-1) = NONE", "by(4) = NONE", "by(MIN) = NONE", "by(MAX) = NONE");
        sentence("17: STATE: nobody has LIVES");
        unchanged(lines("book: 0"), "by(0) = STATE", "by(3) = STATE");
        unchanged(lines("players: 0 3", "book: 01", "turns: 0", "lives: 0 0"), "by(0) = STATE", "by(3) = STATE");
        on("players: 0 3", "lives: 0 0", "by(0) = STATE", "live(1, 1)", "by(0) = 1");
        sentence("17: STATE: or THE ROW has 12 LETTERS");
        unchanged(TWELVE, "by(0) = STATE", "by(3) = STATE");
        unchanged(ELEVEN, "by(0) = 1", "by(3) = 1");
        sentence("17: NONE, then STATE");
        unchanged(lines(), "by(-1) = NONE", "by(4) = NONE");
        unchanged(TWELVE, "by(-1) = NONE", "by(4) = NONE");
    }

    private static void has() {
        sentence("18: HAS: what 0 how many, 1 the first; -5");
        on("players: 0", "has(0, 0) = 0", "has(0, 1) = -5", "book: 3 30 2" + NINE, "has(0, 0) = 12", "has(0, 1) = 0",
            "table: know f=2&l=2", "has(0, 0) = 1", "has(0, 1) = 11", "table: know f=3", "begin(0)", "turns: 3",
            "has(0, 0) = 2", "has(0, 1) = 0", "turns: 0", "has(0, 0) = 1", "has(0, 1) = 1", "turns: 110");
        on(more(TWELVE, "book: 121212", "has(0, 0) = 0", "has(0, 1) = -5"));
        sentence("18: NONE");
        unchanged(RICH, "has(-1, 0) = NONE", "has(4, 0) = NONE", "has(MIN, 0) = NONE", "has(MAX, 1) = NONE",
            "has(0, -1) = NONE", "has(0, 2) = NONE", "has(3, MIN) = NONE", "has(3, MAX) = NONE");
    }

    /** The ASKED one that KNOWS a WORD that FITS keeps its LIVES: PLAYER 0 has to have learned 0010 or 0011 by TURN 3. */
    private static final String[] TO_LEARN = lines("book: 112/1 3/0 0010/0 0011/0", "players: 0 5", "table: know c>0");

    private static void learn() {
        sentence("19: LEARN of a PLAYER and n TURNS (0 .. 60): no TURN, and sixty");
        on(more(TO_LEARN, "learn(0, 0) = -5", "learn(0, 2) = -5", "learn(0, 3) = 2", "learn(0, 60) = -5"));
        lateLearning();
        sentence("19: (of several the first)");
        on(more(TO_LEARN, "learn(0, 3) = 2"));
        sentence("19: the WORD: the first of THE BOOK, and the last of twelve");
        on("book: 0000/0 1/9", "players: 0", "table: know c>0", "learn(0, 2) = 0");
        on("book: 1 10 11 12 13 20 21 22 23 30 31 0000/0", "players: 0", "table: know c>0", "learn(0, 2) = -5",
            "learn(0, 3) = 11");
        sentence("19: -5 (it KNOWS all, or there are none)");
        on(more(TO_LEARN, "learn(1, 3) = -5", "learn(1, 60) = -5"));
        on("players: 0", "learn(0, 1) = -5");
        sentence("19: NONE");
        unchanged(TO_LEARN, "learn(-1, 3) = NONE", "learn(2, 3) = NONE", "learn(MIN, 3) = NONE", "learn(MAX, 3) = NONE");
        sentence("19: BAD: n");
        unchanged(TO_LEARN, "learn(0, -1) = BAD", "learn(0, 61) = BAD", "learn(1, MIN) = BAD", "learn(1, MAX) = BAD");
        sentence("19: NONE, then BAD");
        unchanged(TO_LEARN, "learn(2, 61) = NONE", "learn(-1, -1) = NONE");
    }

    /** It LOSES in each second TURN, as it ASKS itself; with the other WORD in each fourth. */
    private static void lateLearning() {
        String[] alone = lines("book: 1/9 0000/0", "players: 0", "table: know c>0");
        on(more(alone, "live(0, 15)", "learn(0, 1) = -5", "learn(0, 2) = 1", "learn(0, 59) = 1", "learn(0, 60) = -5",
            "live(0, 16)", "learn(0, 60) = 1", "live(0, 0)", "learn(0, 60) = -5"));
    }

    private static void out() {
        sentence("20: the fewest TURNS (0 .. 60) behind which somebody has no LIVES");
        on("players: 0", "out(0) = 0", "out(1) = 3", "live(0, 0)", "out(0) = 0", "out(1) = 0", "live(0, 1)", "out(1) = 1",
            "live(0, 59)", "out(1) = 59", "live(0, 60)", "out(0) = 0", "out(1) = 60", "live(0, 61)", "out(0) = -5",
            "out(1) = -5");
        sentence("20: who (the least number)");
        on("players: 0 0 0", "lives: 1 0 0", "out(0) = 1", "out(1) = 0", "lives: 2 2 0", "out(0) = 2", "lives: 0 0 0",
            "out(0) = 0");
        sentence("20: (-5: none)");
        on("out(0) = -5", "out(1) = -5");
        sentence("20: NONE");
        unchanged(RICH, "out(-1) = NONE", "out(2) = NONE", "out(MIN) = NONE", "out(MAX) = NONE");
        unchanged(lines(), "out(-1) = NONE", "out(2) = NONE");
    }

    private static void rank() {
        sentence("21: RANK of n TURNS: none, and sixty");
        on("players: 0 0", "lives: 99 39", "rank(0) = 0", "rank(59) = 0", "rank(60) = 0", "lives: 99 40", "rank(59) = 0",
            "rank(60) = 1");
        sentence("21: (of several the first)");
        on("players: 0 0 0", "rank(0) = 0", "lives: 1 2 2", "rank(0) = 1", "lives: 0 0 0", "rank(60) = 0");
        sentence("21: -5: there are no PLAYERS");
        on("rank(0) = -5", "rank(60) = -5", "players: 0", "rank(0) = 0");
        sentence("21: BAD: n");
        unchanged(RICH, "rank(-1) = BAD", "rank(61) = BAD", "rank(MIN) = BAD", "rank(MAX) = BAD");
        unchanged(lines(), "rank(-1) = BAD", "rank(61) = BAD");
    }

    private static void see() {
        String[] two = lines("book: 3/1 012301", "players: 0 0", "see(1, 0, 1)");
        sentence("22: A row is SEEN: how many there are");
        on(more(two, "see(0, 0, 1) = 2", "see(0, 1, 1) = 3", "see(1, 1, 6) = 4", "count(3) = 4"));
        sentence("22: (player -1: none then, 0, whatever the others are)");
        on("see(-1, 0, 0) = 0", "see(-1, MIN, MAX) = 0");
        on(more(two, "table: know c=5", "could(1) = 0", "see(-1, -1, -1) = 0", "count(3) = 0", "could(1) = 1",
            "6 times: see(0, 1, 1)", "see(-1, 0, 1) = 0", "see(0, 1, 1) = 1", "see(-1, 99, 1) = 0", "count(3) = 0"));
        sentence("22: none then: the rows that are SEEN later are theirs alone");
        on("book: 01/1 02/2", "players: 0 0", "table: know c=2", "see(0, 0, 2) = 1", "see(0, 0, 1) = 2", "could(0) = 0",
            "see(-1, 0, 0) = 0", "see(0, 0, 1) = 1", "could(0) = 1", "see(-1, 0, 0) = 0", "see(1, 0, 2) = 1",
            "could(0) = 1", "could(1) = 0", "see(-1, 0, 0) = 0", "see(0, 1, 2) = 1", "could(0) = 1");
        sentence("22: NONE: player");
        unchanged(two, "see(-2, 0, 1) = NONE", "see(2, 0, 1) = NONE", "see(MIN, 0, 1) = NONE", "see(MAX, 0, 1) = NONE");
        sentence("22: NONE: word");
        unchanged(two, "see(0, -1, 1) = NONE", "see(0, 2, 1) = NONE", "see(0, MIN, 1) = NONE", "see(1, MAX, 1) = NONE");
        sentence("22: BAD: letters (1 .. as many as it has)");
        unchanged(two, "see(0, 0, 0) = BAD", "see(0, 0, 2) = BAD", "see(0, 1, 0) = BAD", "see(0, 1, 7) = BAD",
            "see(1, 1, MIN) = BAD", "see(1, 1, MAX) = BAD", "see(0, 0, -1) = BAD");
        sentence("22: FULL: 6");
        String[] five = more(two, "see(0, 1, 2)", "see(0, 1, 3)", "see(1, 1, 4)", "see(0, 1, 5)");
        on(more(five, "see(1, 1, 6) = 6", "see(1, 1, 6) = FULL", "count(3) = 6"));
        String[] six = more(five, "see(1, 1, 6)");
        unchanged(six, "see(0, 0, 1) = FULL", "see(1, 1, 6) = FULL");
        sentence("22: NONE, then BAD, then FULL");
        unchanged(six, "see(2, 0, 9) = NONE", "see(0, 2, 0) = NONE", "see(0, 0, 2) = BAD", "see(0, 0, 0) = BAD");
    }

    private static void could() {
        sentence("23: COULD: for each of SEEN of it: nothing of it is SEEN");
        on("book: 0", "players: 0 0", "table: know p=1", "could(0) = 1", "see(1, 0, 1)", "could(0) = 1", "could(1) = 1",
            "see(0, 0, 1)", "could(0) = 0", "could(1) = 1");
        sentence("23: for each of SEEN: the first, and the sixth");
        on("book: 0/1 1/2", "players: 0", "table: know c=2", "5 times: see(0, 1, 1)", "could(0) = 1", "see(0, 0, 1) = 6",
            "could(0) = 0", "see(-1, 0, 0)", "see(0, 0, 1)", "see(0, 1, 1)", "could(0) = 0");
        sentence("23: a WORD that FITS that row: of one LETTER, of all");
        on("book: 01/1 02/2", "players: 0", "table: know c=2", "see(0, 0, 1)", "could(0) = 1", "see(0, 0, 2)", "could(0) = 0");
        sentence("23: NONE");
        unchanged(RICH, "could(-1) = NONE", "could(4) = NONE", "could(MIN) = NONE", "could(MAX) = NONE");
    }

    private static void can() {
        sentence("24: CAN, as bits: nobody, and all five");
        on("book: 01/1 012301/2", "can(0, 1) = 0", "players: 0 0 5 0 0", "can(0, 1) = 31", "can(1, 6) = 31",
            "table: know c=1", "can(1, 2) = 31", "can(1, 3) = 4", "table: know p=4", "can(0, 2) = 20");
        sentence("24: NONE");
        unchanged(RICH, "can(-1, 1) = NONE", "can(5, 1) = NONE", "can(MIN, 1) = NONE", "can(MAX, 1) = NONE");
        sentence("24: BAD: letters");
        unchanged(RICH, "can(3, 0) = BAD", "can(3, 2) = BAD", "can(4, 7) = BAD", "can(4, 0) = BAD", "can(4, MIN) = BAD",
            "can(4, MAX) = BAD");
        sentence("24: NONE, then BAD");
        unchanged(RICH, "can(5, 0) = NONE", "can(-1, 9) = NONE");
    }

    private static void begins() {
        sentence("25: BEGINS of a number m (0 .. 9): COMMON is m or more");
        on("book: 0/0 1/9 2/5", "begins(0) = 7", "begins(1) = 6", "begins(5) = 6", "begins(6) = 2", "begins(9) = 2");
        sentence("25: those WORDS alone");
        on("book: 000/9 00/4 0/2", "table: least 1", "begins(9) = 0", "begins(5) = 0", "begins(4) = 1", "begins(3) = 1",
            "begins(2) = 0", "table: least 2", "begins(2) = 1", "begins(5) = 0", "table: least 3", "begins(0) = 0");
        sentence("25: BAD: m");
        unchanged(RICH, "begins(-1) = BAD", "begins(10) = BAD", "begins(MIN) = BAD", "begins(MAX) = BAD");
        unchanged(lines(), "begins(-1) = BAD", "begins(10) = BAD");
    }

    private static void odds() {
        sentence("26: a fraction in lowest terms: 0, 1/4, 1/2, 3/4, 1");
        oddsOf("book: 0 1 2 3", 0, "1", "1");
        oddsOf("book: 0 1 2 3", 1, "0", "1");
        oddsOf("book: 0 1 2 30", 0, "3", "4");
        oddsOf("book: 0 1 2 30", 1, "1", "4");
        oddsOf("book: 0 1 20 30", 0, "1", "2");
        oddsOf("book: 0 1 20 30", 1, "1", "2");
        sentence("26: NO");
        unchanged(RICH, "odds(-1, 0) = NO", "odds(4, 0) = NO", "odds(MIN, 0) = NO", "odds(MAX, 0) = NO", "odds(0, -1) = NO",
            "odds(0, 2) = NO", "odds(3, MIN) = NO", "odds(3, MAX) = NO");
        sentence("26: NO: also if nobody has LIVES");
        unchanged(lines("players: 0 3", "book: 01", "turns: 0", "lives: 0 0"), "odds(0, 0) = NO", "odds(1, 1) = NO");
        on("players: 0 3", "lives: 0 0", "odds(1, 0) = NO", "live(1, 1)", "odds(1, 0) = 1", "odds(0, 0) = 0");
        sentence("26: NO: or THE ROW has 12 LETTERS");
        unchanged(TWELVE, "odds(0, 0) = NO", "odds(1, 1) = NO");
        unchanged(ELEVEN, "odds(0, 0) = 0", "odds(0, 1) = 1", "odds(1, 0) = 1", "odds(1, 1) = 1");
    }

    private static void oddsOf(String book, int player, String above, String below) {
        on("players: 0 0", book, "table: least 1", "odds(" + player + ", 0) = " + above, "odds(" + player + ", 1) = " + below);
    }

    private static void mean() {
        sentence("27: MEAN of n TURNS (1 .. 60)");
        on(more(THIRTEEN, "lives: 99 99", "mean(1, 0) = 1", "mean(1, 1) = 1", "mean(2, 0) = 3", "mean(2, 1) = 2",
            "mean(12, 0) = 13", "mean(12, 1) = 2", "mean(13, 0) = 6", "mean(13, 1) = 1", "mean(59, 0) = 340",
            "mean(59, 1) = 59", "mean(60, 0) = 29", "mean(60, 1) = 5"));
        sentence("27: a fraction in lowest terms: 0");
        on("mean(60, 0) = 0", "mean(60, 1) = 1", "players: 0", "mean(7, 0) = 0", "mean(7, 1) = 1");
        sentence("27: NO: n");
        unchanged(RICH, "mean(0, 0) = NO", "mean(-1, 0) = NO", "mean(61, 0) = NO", "mean(MIN, 1) = NO", "mean(MAX, 1) = NO");
        sentence("27: NO: part");
        unchanged(RICH, "mean(1, -1) = NO", "mean(1, 2) = NO", "mean(60, MIN) = NO", "mean(60, MAX) = NO");
    }

    private static void sheet() {
        sentence("28: how many there are (-1: none then, 0)");
        on("sheet(-1) = 0", "players: 0 0", "sheet(1) = 1", "sheet(0) = 2", "sheet(-1) = 0", "count(4) = 0",
            "8 times: sheet(1)", "sheet(-1) = 0", "sheet(0) = 1", "looked() = -5");
        sentence("28: NONE");
        unchanged(RICH, "sheet(-2) = NONE", "sheet(4) = NONE", "sheet(MIN) = NONE", "sheet(MAX) = NONE");
        on("players: 0 0 0 0 0", "sheet(4) = 1", "sheet(5) = NONE");
        sentence("28: FULL: 8");
        on("players: 0 0", "7 times: sheet(0)", "sheet(1) = 8", "sheet(0) = FULL", "count(4) = 8");
        unchanged(lines("players: 0 0", "8 times: sheet(1)"), "sheet(0) = FULL", "sheet(1) = FULL");
        sentence("28: NONE, then FULL");
        unchanged(lines("players: 0 0", "8 times: sheet(1)"), "sheet(2) = NONE", "sheet(-2) = NONE");
    }

    private static void looked() {
        sentence("29: LOOKED at: the first that is otherwise: the first of all, and the eighth");
        on("players: 0 0", "lives: 99 0", "sheet(1)", "looked() = 0", "sheet(-1)", "7 times: sheet(0)", "looked() = -5",
            "sheet(1)", "looked() = 7");
        sentence("29: or does not come in these: TURN 60, and TURN 61");
        String[] alone = lines("players: 3/1", "live(0, 99)");
        // It LOSES in each thirteenth TURN: with five gone, in TURNS 8, 21, 34, 47, 60.
        on(more(alone, "5 times: turn()", "5 times: sheet(0)", "looked() = -5", "sheet(0)", "looked() = 5"));
        on(more(alone, "4 times: turn()", "5 times: sheet(0)", "looked() = 4"));
        sentence("29: or does not come in these: nobody has LIVES");
        on("players: 0 0", "lives: 2 0", "sheet(0)", "sheet(0)", "looked() = -5", "sheet(0)", "looked() = 2", "live(0, 0)",
            "looked() = 0");
        sentence("29: -5 (an empty SHEET)");
        on("looked() = -5", "players: 0", "looked() = -5", "live(0, 0)", "looked() = -5");
    }

    private static void judge() {
        String[] told = lines("players: 0 0", "book: 0123", "turns: 0 1 2", "tape(0, 0, 5)", "item(0, 1, 0)", "item(0, 2, 1)",
            "item(0, 3, 2)", "item(0, 4, 3)", "tape(1, 1, 5)", "tape(2, 2, 5)", "tape(3, 3, 5)", "tape(4, 4, 5)");
        sentence("30: the first LETTER that is otherwise: the first of all, and the last");
        on(more(told, "judge(0, 2) = 0", "judge(0, 0) = 1", "item(0, 3, 3)", "judge(0, 1) = 2", "item(0, 3, 258)",
            "judge(0, 1) = -5", "item(0, 1, 4)", "judge(0, 1) = 0"));
        sentence("30: -5: none");
        on(more(told, "judge(0, 1) = -5", "tape(5, 0, 3)", "item(5, 1, 1)", "item(5, 2, 2)", "judge(5, 0) = -5"));
        sentence("30: or there is none to look at");
        on("players: 0", "tape(0, 0, 3)", "judge(0, 0) = -5", "judge(0, 3) = -5", "judge(0, 9) = -5", "judge(1, 0) = -5",
            "judge(0, -1) = -5");
        sentence("30: 100 and how many were looked at, if the row ends ahead of that");
        on(more(told, "tape(5, 0, 2)", "item(5, 1, 1)", "judge(5, 0) = 102", "judge(5, 1) = 0", "judge(5, 2) = 100",
            "judge(5, 3) = 100", "judge(5, MAX) = 100", "tape(5, 0, 0)", "judge(5, 0) = 100", "tape(5, 0, 1)",
            "judge(5, 0) = 101"));
        on(more(TWELVE, "tape(0, 0, 60)", "judge(0, 59) = 0", "item(0, 59, 1)", "judge(0, 59) = 101", "judge(0, 60) = 100"));
        sentence("30: (or the place is below 0");
        on(more(told, "judge(0, -1) = 100", "judge(0, MIN) = 100"));
        sentence("30: or the TAPE holds nothing)");
        on(more(told, "judge(5, 0) = 100", "judge(5, -1) = 100", "tape(0, -1, 0)", "judge(0, 1) = 100"));
        sentence("30: NONE: tape");
        unchanged(told, "judge(-1, 0) = NONE", "judge(6, 0) = NONE", "judge(MIN, 0) = NONE", "judge(MAX, 0) = NONE");
        sentence("30: CAST: it is no row of bytes");
        unchanged(told, "judge(1, 0) = CAST", "judge(2, 0) = CAST", "judge(3, -1) = CAST", "judge(4, 9) = CAST");
        unchanged(lines("tape(0, 1, 0)"), "judge(0, 0) = CAST", "judge(0, -1) = CAST");
        sentence("30: what is asked changes nothing");
        unchanged(told, "judge(0, 1) = -5", "judge(0, 0) = 1", "judge(5, 0) = 100");
    }

    private static void image() {
        sentence("31: THE IMAGE is taken: how many PLAYERS there are: none, and five");
        on("image() = 0", "players: 0 0 0 0 0", "image() = 5", "undo() = 5");
        sentence("31: one that is taken later is THE IMAGE");
        on("players: 0", "image() = 1", "live(0, 7)", "players: 0", "image() = 2", "live(0, 8)", "undo() = 2", "of(0, 2) = 7");
    }

    private static void undo() {
        sentence("32: STATE: there is none");
        unchanged(lines("players: 0 0", "book: 0123", "turns: 0 1", "sheet(1)", "see(0, 0, 1)", "spell(2)", "feed: le"),
            "undo() = STATE");
        unchanged(lines(), "undo() = STATE");
        sentence("32: All is as THE IMAGE, each time");
        String[] held = lines("table: know c>4;least 4;lives 7", "book: 01230/6 21/5 3/1", "players: 0 6/1", "row(1, 2, 3)",
            "live(0, 9)", "turns: 0 1", "see(0, 2, 1)", "sheet(1)", "image() = 2");
        String[] other = lines("book: 22", "players: 3", "row(1, 2, 0)", "lives: 1 2 3", "begin(2)", "turn()", "see(-1, 0, 0)",
            "see(1, 0, 1)", "see(1, 0, 1)", "sheet(0)", "sheet(0)", "table: know p=7");
        String[] back = lines("undo() = 2", "count(0) = 2", "count(1) = 3", "count(3) = 1", "count(4) = 1", "told(0) = 0",
            "told(1) = 1", "ROW: 01", "told(3) = 4", "told(4) = 7", "of(0, 2) = 9", "of(1, 2) = 7", "of(1, 0) = 6",
            "of(1, 1) = 1", "of(0, 5) = 3", "could(0) = 0", "could(1) = 1", "letter(1, 11) = 1", "letter(3, 0) = NONE");
        on(more(held, more(other, more(back, more(other, back)))));
        on(more(held, more(other, more(back, "row(1, 2, 1) = 3", "undo()", "row(1, 2, 1) = 3"))));
        sentence("32: THE BOOK: another WORD of the same number");
        on("players: 0", "image()", "book: 301230/7", "undo()", "letter(0, 0) = NONE", "won(1) = 0", "book: 01230/6",
            "letter(0, 0) = 6", "letter(0, 1) = 5", "letter(0, 10) = 0", "of(0, 3) = 1", "turns: 0 1 2 3 100");
        for (int n = 1; n <= 5; n++) {
            String shorter = "2".repeat(n);
            on("players: 0", "table: least 1", "image()", "book: " + shorter, "undo()", "book: 222222", "turns: 2 2 2 2 2 102");
        }
        on("players: 0", "image()", "book: 000111", "undo()", "book: 333222", "turns: 3 3 3 2 2 102", "of(0, 3) = 8");
        sentence("32: PLAYERS with all that is theirs: the first, and the fifth");
        on("players: 6 0 0 0 6", "row(0, 0, 1)", "row(4, 3, 2)", "lives: 1 2 3 4 5", "image() = 5", "row(0, 0, 2)",
            "row(4, 3, 3)", "lives: 9 9 9 9 9", "undo() = 5", "row(0, 0, 0) = 1", "row(4, 3, 0) = 2", "of(0, 2) = 1",
            "of(3, 2) = 4", "of(4, 2) = 5");
        on("players: 0", "image() = 1", "players: 6/9", "row(1, 0, 3)", "live(1, 99)", "undo() = 1", "players: 6/1",
            "row(1, 0, 0) = 0", "of(1, 2) = 3", "of(1, 1) = 1");
        sentence("32: SEEN: whose, which WORD, how many LETTERS");
        on("book: 01/1 02/2 3/2", "players: 0 0", "table: know c=2", "see(0, 0, 2)", "image()", "see(-1, 0, 0)",
            "see(0, 0, 1)", "could(0) = 1", "undo()", "could(0) = 0", "see(-1, 0, 0)", "see(0, 1, 2)", "could(0) = 1",
            "undo()", "could(0) = 0", "see(-1, 0, 0)", "see(1, 0, 2)", "could(0) = 1", "undo()", "could(0) = 0",
            "could(1) = 1");
        sentence("32: the SHEET: who");
        on("players: 0 0", "lives: 99 0", "sheet(1)", "image()", "sheet(-1)", "sheet(0)", "looked() = -5", "undo()",
            "looked() = 0");
        sentence("32: NEXT, LAST, THE ROW: none, and twelve");
        on(more(TWELVE, "image()", "turn() = 110", "turns: 2 1", "undo()", "ROW: 121212121212", "told(0) = 0",
            "told(1) = 1"));
        on(more(lines("players: 3/1 3/2", "image()"), "turn()", "turn()", "turn()", "undo()", "ROW: ", "told(0) = 0",
            "told(1) = -5"));
        sentence("32: how many PLAYERS: none");
        on("image()", "players: 0 0", "undo() = 0", "of(0, 0) = NONE", "turn() = STATE");
        sentence("32: THE IMAGE: (not LETTERS that were spelled)");
        on("spell(1)", "image()", "spell(2)", "undo()", "count(6) = 2", "word(0) = 0", "letter(0, 10) = 1", "letter(0, 11) = 2");
        on("spell(1)", "spell(3)", "image()", "word(0) = 0", "undo()", "count(6) = 0", "count(1) = 0");
        sentence("32: a full BOOK, all PLAYERS, six SEEN, eight of the SHEET");
        on("book: 3 30 2" + NINE, "players: 0 0 0 0 0", "6 times: see(4, 11, 2)", "8 times: sheet(4)", "image() = 5",
            "see(-1, 0, 0)", "sheet(-1)", "undo() = 5", "count(1) = 12", "count(3) = 6", "count(4) = 8", "spell(1)",
            "word(0) = FULL", "player(0, 0) = FULL", "see(0, 0, 1) = FULL", "sheet(0) = FULL", "letter(11, 11) = 0");
    }

    private static void act() {
        sentence("33: 0, and no TRACE then: no such PLAYER, act");
        for (String call : lines("act(-1, 0, 5)", "act(2, 0, 5)", "act(MIN, 1, 5)", "act(MAX, 2, 5)", "act(0, -1, 5)",
                "act(0, 3, 5)", "act(1, MIN, 5)", "act(1, MAX, 5)")) {
            on("players: 0/9 6/7", "act(1, 2, 3)", "count(7) = 12", call + " = 0", "count(7) = 0", "trace(0) = NONE");
        }
        sentence("33: (0 adds, 1 asks, 2 tells)");
        on("players: 0 0/3", "act(1, 0, 5) = 6", "act(1, 1, 5) = 3", "act(1, 2, 5) = 6");
        sentence("33: acts change nothing but THE TRACE");
        for (int act = 0; act <= 2; act++) {
            String call = "act(1, " + act + ", 5)";
            on(more(RICH, call, "told(0) = 2", "of(0, 2) = 4", "of(1, 2) = 4", "of(2, 2) = 7", "of(3, 2) = 4", "count(6) = 3"));
        }
        sentence("33: ^ of a number below 0, and of one above");
        on("players: 1/1", "act(0, 1, 8) = 1", "act(0, 1, -1) = -8", "act(0, 2, 8) = 2");
        on("players: 6/5", "act(0, 0, 7) = 2", "act(0, 0, -1) = -6", "act(0, 1, 7) = -1");
        sentence("33: ACTS of a PLAYER with x (wrapping)");
        on("players: 0 0 0 0 0", "act(4, 0, MAX) = -2147483645", "act(4, 0, -4) = 0");
        on("players: 0/9", "act(0, 1, MIN) = 2147483639", "act(0, 2, MAX) = -20");
        on("players: 0", "act(0, 2, MAX) = -2", "act(0, 2, 1073741824) = MIN", "act(0, 2, MIN) = 0");
        on("players: 2", "act(0, 0, MAX) = 2147483645", "act(0, 0, MIN) = MIN");
        on("players: 4", "act(0, 0, MIN) = MIN", "act(0, 1, MAX) = -2147483642");
        on("players: 0 5", "act(1, 2, MIN) = -4");
        on("players: 3/9", "act(0, 2, 1073741833) = 2147483640");
        on("players: 6", "act(0, 1, MAX) = -2147483647");
    }

    private static void trace() {
        sentence("34: THE TRACE's i-th body: the first, and the last");
        on("players: 6", "act(0, 2, 0)", "trace(0) = 40", "trace(1) = 12", "trace(2) = 70", "trace(3) = 11", "trace(4) = 71",
            "trace(5) = 10", "trace(6) = 10", "trace(7) = 70", "trace(8) = 11", "trace(9) = 71", "trace(10) = 10",
            "trace(11) = 10", "trace(12) = NONE", "trace(19) = NONE", "trace(20) = NONE", "count(7) = 12");
        sentence("34: in the latest act()");
        on("players: 6", "act(0, 2, 0)", "act(0, 0, 0)", "trace(0) = 71", "trace(1) = 10", "trace(2) = NONE", "count(7) = 2");
        sentence("34: NONE");
        unchanged(RICH, "trace(-1) = NONE", "trace(12) = NONE", "trace(MIN) = NONE", "trace(MAX) = NONE");
        unchanged(lines(), "trace(0) = NONE", "trace(-1) = NONE");
    }

    private static void taken() {
        sentence("35: A PLAYER taken for one of KIND k (0 .. 6), or one under that: its KIND");
        on("players: 0 4 5 6", "taken(0, 0) = 0", "taken(3, 0) = 6", "taken(3, 6) = 6", "taken(3, 3) = 6", "taken(1, 1) = 4",
            "taken(2, 2) = 5");
        sentence("35: BAD: k");
        unchanged(RICH, "taken(0, -1) = BAD", "taken(0, 7) = BAD", "taken(0, MIN) = BAD", "taken(3, MAX) = BAD");
        sentence("35: NOTHING: no such PLAYER");
        unchanged(RICH, "taken(-1, 0) = NOTHING", "taken(4, 0) = NOTHING", "taken(MIN, 6) = NOTHING", "taken(MAX, 6) = NOTHING");
        sentence("35: CAST");
        unchanged(RICH, "taken(0, 1) = CAST", "taken(0, 6) = CAST", "taken(1, 5) = CAST", "taken(1, 1) = CAST",
            "taken(2, 6) = CAST", "taken(3, 3) = CAST");
        sentence("35: BAD, then NOTHING, then CAST");
        unchanged(RICH, "taken(4, 7) = BAD", "taken(-1, -1) = BAD", "taken(4, 6) = NOTHING");
    }

    private static void count() {
        sentence("36: How many: none, and as many as there can be");
        on("count(0) = 0", "count(1) = 0", "count(2) = 0", "count(3) = 0", "count(4) = 0", "count(5) = 0", "count(6) = 0",
            "count(7) = 0", "book: 3 30 2" + NINE, "players: 6 0 0 0 0", "6 times: see(0, 0, 1)", "8 times: sheet(0)",
            "table: least 1", "table: least 1", "table: least 1", "table: least 1", "table: least 1", "table: least 1",
            "100 times: feed(0)", "6 times: spell(0)", "act(0, 2, 1)", "count(0) = 5", "count(1) = 12", "count(2) = 6",
            "count(3) = 6", "count(4) = 8", "count(5) = 100", "count(6) = 6", "count(7) = 12");
        sentence("36: BAD");
        unchanged(RICH, "count(-1) = BAD", "count(8) = BAD", "count(MIN) = BAD", "count(MAX) = BAD");
        unchanged(lines(), "count(-1) = BAD", "count(8) = BAD");
    }

    private static void tape() {
        sentence("37: A TAPE becomes a row of n (0 .. 60) of a sort, all 0");
        for (int sort = 0; sort <= 4; sort++) {
            on("tape(0, " + sort + ", 0) = 1", "TAPE 0: ", "item(0, 0, 1) = PLACE", "tape(5, " + sort + ", 60) = 1",
                "read(5, 0) = 0", "read(5, 59) = 0", "read(5, 60) = NO", "item(5, 59, 1) = 1", "item(5, 60, 1) = PLACE",
                "item(5, 0, 1) = 1", "tape(5, " + sort + ", 60) = 1", "read(5, 0) = 0", "read(5, 59) = 0",
                "item(5, 59, 1) = 1", "tape(5, " + sort + ", 2) = 1", "TAPE 5: 0 0", "tape(5, " + sort + ", 60) = 1",
                "read(5, 59) = 0");
        }
        sentence("37: or holds nothing (sort -1: n does not matter)");
        for (String n : lines("0", "-1", "61", "MIN", "MAX")) {
            on("tape(0, -1, " + n + ") = 1", "read(0, 0) = NO", "item(0, 0, 1) = NOTHING", "tape(0, 3, 2)", "item(0, 1, 5)",
                "tape(0, -1, " + n + ") = 1", "read(0, 0) = NO", "item(0, 0, 1) = NOTHING", "tape(0, 3, 2)", "TAPE 0: 0 0");
        }
        String[] filled = lines("tape(0, 2, 2)", "item(0, 0, 7)", "item(0, 1, 8)", "tape(5, 3, 60)", "item(5, 59, 9)");
        sentence("37: NONE: tape");
        unchanged(filled, "tape(-1, 0, 1) = NONE", "tape(6, 0, 1) = NONE", "tape(MIN, -1, 1) = NONE", "tape(MAX, 4, 1) = NONE");
        sentence("37: BAD: sort");
        unchanged(filled, "tape(0, -2, 1) = BAD", "tape(0, 5, 1) = BAD", "tape(5, MIN, 1) = BAD", "tape(5, MAX, 1) = BAD");
        sentence("37: BAD: n above 60");
        unchanged(filled, "tape(0, 0, 61) = BAD", "tape(5, 4, 61) = BAD", "tape(0, 2, MAX) = BAD");
        sentence("37: SIZE");
        unchanged(filled, "tape(0, 0, -1) = SIZE", "tape(5, 4, -1) = SIZE", "tape(0, 2, MIN) = SIZE");
        sentence("37: NONE, then BAD, then SIZE");
        unchanged(filled, "tape(6, 5, 61) = NONE", "tape(-1, 0, -1) = NONE", "tape(0, 5, -1) = BAD", "tape(0, -2, -1) = BAD");
    }

    private static void item() {
        sentence("38: its lowest bits, as many as an item has");
        bits(0, "127 127", "128 -128", "-128 -128", "-129 127", "255 -1", "256 0", "MOST -1", "LEAST 0");
        bits(1, "32767 32767", "32768 -32768", "-32768 -32768", "-32769 32767", "65535 -1", "65536 0", "MOST -1", "LEAST 0");
        bits(2, "MAX MAX", "2147483648 MIN", "MIN MIN", "-2147483649 MAX", "4294967295 -1", "4294967296 0", "MOST -1",
            "LEAST 0");
        bits(3, "4294967296 4294967296", "MOST MOST", "LEAST LEAST", "-1 -1");
        sentence("38: booleans: whether v is not 0");
        bits(4, "0 0", "1 1", "2 1", "-1 1", "256 1", "4294967296 1", "MOST 1", "LEAST 1");
        String[] filled = lines("tape(0, 2, 2)", "item(0, 0, 7)", "item(0, 1, 8)", "tape(5, 0, 60)", "tape(1, 4, 0)");
        sentence("38: Item i of a TAPE becomes v: the first, and the last");
        on(more(filled, "item(0, 0, 1) = 1", "item(0, 1, 2) = 1", "TAPE 0: 1 2", "item(5, 59, 3) = 1", "read(5, 59) = 3",
            "read(5, 58) = 0"));
        sentence("38: NONE");
        unchanged(filled, "item(-1, 0, 1) = NONE", "item(6, 0, 1) = NONE", "item(MIN, 0, 1) = NONE", "item(MAX, 0, 1) = NONE");
        sentence("38: NOTHING");
        unchanged(filled, "item(2, 0, 1) = NOTHING", "item(4, 59, 1) = NOTHING");
        sentence("38: PLACE");
        unchanged(filled, "item(0, -1, 1) = PLACE", "item(0, 2, 1) = PLACE", "item(5, 60, 1) = PLACE", "item(1, 0, 1) = PLACE",
            "item(0, MIN, 1) = PLACE", "item(0, MAX, 1) = PLACE");
        sentence("38: NONE, then NOTHING, then PLACE");
        unchanged(filled, "item(6, -1, 1) = NONE", "item(2, -1, 1) = NOTHING", "item(2, 60, 1) = NOTHING");
    }

    private static void bits(int sort, String... told) {
        for (String one : told) {
            String[] parts = one.split(" ");
            on("tape(2, " + sort + ", 3)", "item(2, 1, " + parts[0] + ") = 1", "TAPE 2: 0 " + parts[1] + " 0");
        }
    }

    private static void read() {
        String[] filled = lines("tape(0, 2, 2)", "item(0, 0, 7)", "item(0, 1, 8)", "tape(5, 0, 60)", "item(5, 59, 9)",
            "tape(1, 3, 0)");
        sentence("39: Item i of a TAPE: the first, and the last");
        on(more(filled, "read(0, 0) = 7", "read(0, 1) = 8", "read(5, 59) = 9"));
        sentence("39: NO: no such TAPE");
        unchanged(filled, "read(-1, 0) = NO", "read(6, 0) = NO", "read(MIN, 0) = NO", "read(MAX, 0) = NO");
        sentence("39: NO: nothing there");
        unchanged(filled, "read(2, 0) = NO", "read(2, -1) = NO", "read(4, 59) = NO");
        sentence("39: NO: no such place");
        unchanged(filled, "read(0, -1) = NO", "read(0, 2) = NO", "read(5, 60) = NO", "read(1, 0) = NO", "read(0, MIN) = NO",
            "read(0, MAX) = NO");
    }

    private static void shift() {
        String[] filled = lines("tape(0, 2, 4)", "item(0, 0, 1)", "item(0, 1, 2)", "item(0, 2, 3)", "item(0, 3, 4)",
            "tape(5, 2, 3)", "item(5, 0, 9)", "tape(1, 3, 4)", "tape(2, 0, 4)", "tape(3, 2, 0)");
        sentence("40: n items of a TAPE from i on come to another one from j on: n: none, and all");
        on(more(filled, "shift(0, 0, 5, 0, 0) = 0", "TAPE 5: 9 0 0", "shift(0, 4, 5, 3, 0) = 0", "shift(3, 0, 0, 4, 0) = 0",
            "shift(0, 1, 5, 0, 3) = 3", "TAPE 5: 2 3 4", "TAPE 0: 1 2 3 4", "shift(5, 2, 0, 3, 1) = 1", "TAPE 0: 1 2 3 4",
            "shift(0, 0, 5, 2, 1) = 1", "TAPE 5: 2 3 1"));
        sentence("40: (or the same), as they all were before");
        on(more(filled, "shift(0, 0, 0, 1, 3) = 3", "TAPE 0: 1 1 2 3"));
        on(more(filled, "shift(0, 1, 0, 0, 3) = 3", "TAPE 0: 2 3 4 4"));
        on(more(filled, "shift(0, 0, 0, 0, 4) = 4", "TAPE 0: 1 2 3 4"));
        sentence("40: NONE: tapes");
        unchanged(filled, "shift(-1, 0, 0, 0, 1) = NONE", "shift(6, 0, 0, 0, 1) = NONE", "shift(0, 0, -1, 0, 1) = NONE",
            "shift(0, 0, 6, 0, 1) = NONE", "shift(MIN, 0, 0, 0, 1) = NONE", "shift(0, 0, MAX, 0, 1) = NONE");
        sentence("40: NOTHING");
        unchanged(filled, "shift(4, 0, 0, 0, 1) = NOTHING", "shift(0, 0, 4, 0, 1) = NOTHING", "shift(4, 0, 4, 0, 0) = NOTHING");
        sentence("40: CAST: of unlike sorts");
        unchanged(filled, "shift(0, 0, 1, 0, 1) = CAST", "shift(2, 0, 0, 0, 1) = CAST", "shift(1, 0, 2, 0, 0) = CAST");
        sentence("40: PLACE: n, i or j is below 0");
        unchanged(filled, "shift(0, 0, 5, 0, -1) = PLACE", "shift(0, -1, 5, 0, 1) = PLACE", "shift(0, 0, 5, -1, 1) = PLACE",
            "shift(0, -1, 5, 0, 0) = PLACE", "shift(0, 0, 5, -1, 0) = PLACE", "shift(0, 0, 5, 0, MIN) = PLACE",
            "shift(0, MIN, 5, 0, 1) = PLACE", "shift(0, 0, 5, MIN, 1) = PLACE");
        sentence("40: PLACE: or beyond either's end");
        unchanged(filled, "shift(0, 4, 5, 0, 1) = PLACE", "shift(0, 3, 5, 0, 2) = PLACE", "shift(0, 0, 5, 0, 4) = PLACE",
            "shift(0, 0, 5, 3, 1) = PLACE", "shift(0, 0, 5, 2, 2) = PLACE", "shift(0, 5, 5, 0, 0) = PLACE",
            "shift(0, 0, 5, 4, 0) = PLACE", "shift(0, 0, 0, 0, 5) = PLACE", "shift(3, 0, 0, 0, 1) = PLACE",
            "shift(0, MAX, 5, 0, MAX) = PLACE", "shift(0, 1, 5, MAX, MAX) = PLACE", "shift(0, 1, 0, 1, MAX) = PLACE");
        sentence("40: NONE, then NOTHING, then CAST, then PLACE");
        unchanged(filled, "shift(4, 0, 6, 0, -1) = NONE", "shift(1, -1, 4, 0, 1) = NOTHING", "shift(4, 0, 1, 0, -1) = NOTHING",
            "shift(0, -1, 1, 0, 1) = CAST", "shift(0, 0, 2, 0, 9) = CAST");
    }

    private static void asking() {
        sentence("what is asked changes nothing");
        unchanged(RICH, "letter(0, 0) = 1", "letter(4, 15) = 3", "of(0, 2) = 4", "of(0, 3)", "of(1, 4)", "of(2, 5)", "told(0)",
            "told(2)", "told(10)", "on(60, 0)", "on(60, 1)", "on(60, 12)", "ends(0)", "ends(2)", "won(0)", "won(1)", "by(0)",
            "by(3)", "has(0, 0)", "has(3, 1)", "learn(0, 60)", "learn(2, 9)", "learn(3, 60)", "out(0)", "out(1)", "rank(60)",
            "could(0)", "could(1)", "can(0, 4)", "can(4, 6)", "begins(0)", "begins(9)", "odds(0, 0)", "odds(3, 1)",
            "mean(60, 0)", "looked()", "judge(0, 0)", "trace(11)", "taken(1, 3) = 6", "count(5) = 8", "read(1, 1) = 77");
        unchanged(TO_LEARN, "learn(0, 3) = 2", "by(0)", "by(1)", "odds(0, 0)", "ends(0)", "begins(1)");
        unchanged(TWELVE, "on(60, 1)", "ends(0)", "won(0)", "mean(60, 0)", "looked()", "out(0)", "rank(60)", "learn(0, 60)");
    }
}
