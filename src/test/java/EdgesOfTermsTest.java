/** For each sentence of the document's "Terms" that names a limit what is answered on either side of it. */
public final class EdgesOfTermsTest {
    private static String[] lines(String... all) {
        return Script.lines(all);
    }

    private static String[] more(String[] all, String... behind) {
        return Script.more(all, behind);
    }

    private static void sentence(String words) {
        Script.sentence(words);
    }

    private static Script on(String... all) {
        return Script.on(all);
    }

    /** THE TEXT is no TABLE, and this is the FAULT. */
    private static void fault(String text, int place) {
        feed(text, "table() = " + (-10 - place), "count(2) = 0", "count(5) = 0", "told(3) = 3", "told(4) = 3");
    }

    private static void whole(String text) {
        feed(text, "table() = 0", "count(2) = 1", "count(5) = 0");
    }

    private static void feed(String text, String... behind) {
        on(more(lines("players: 0", text.isEmpty() ? "count(5) = 0" : "feed: " + text, "count(5) = " + text.length()), behind));
    }

    private static String times(int n, String part) {
        return part.repeat(n);
    }

    public static void main(String[] args) {
        atFirst();
        numbersAsTheyCome();
        clauses();
        blanks();
        digits();
        expressions();
        tests();
        nesting();
        theFault();
        longestText();
        tables();
        knowing();
        leastAndLives();
        fitting();
        ending();
        mayAndSafe();
        twelve();
        whoIsNext();
        asking();
        losing();
        players();
        sly();
        wary();
        bold();
        led();
        told();
        wonAndLost();
        manyCalls();
        Script.end();
    }

    private static void atFirst() {
        sentence("THE ROW: none at first");
        on("told(2) = 0", "told(10) = NONE", "players: 0", "told(2) = 0", "told(10) = NONE");
        sentence("NEXT: 0 at first");
        on("players: 0 0", "told(0) = 0", "begin(1) = 0", "on(0, 0) = 1");
        sentence("LAST: nobody at first");
        on("players: 0 0", "told(1) = -5", "turn() = 120");
        sentence("TOLD: 0 at first");
        on("players: 6", "row(0, 0, 0) = 0", "row(0, 1, 0) = 0", "row(0, 2, 0) = 0", "row(0, 3, 0) = 0");
        sentence("TAPES 0 .. 5 hold nothing (at first)");
        for (int tape = 0; tape < 6; tape++) {
            on("item(" + tape + ", 0, 1) = NOTHING", "read(" + tape + ", 0) = NO",
                "shift(" + tape + ", 0, " + tape + ", 0, 0) = NOTHING", "judge(" + tape + ", 0) = -5");
        }
    }

    private static void numbersAsTheyCome() {
        sentence("WORDS 0 .. 11, as they come");
        on("spell(3)", "word(1) = 0", "spell(2)", "word(1) = 1", "book: 00 01 02 03 10 11 12 13 20", "spell(0)",
            "word(1) = 11", "letter(0, 10) = 3", "letter(1, 10) = 2", "letter(10, 10) = 2", "letter(11, 10) = 0");
        sentence("PLAYERS 0 .. 4, as they come");
        on("player(4, 0) = 0", "player(3, 1) = 1", "player(2, 2) = 2", "player(1, 3) = 3", "player(0, 4) = 4", "of(0, 0) = 4",
            "of(4, 0) = 0", "of(4, 1) = 4");
        sentence("each of 1 .. 6 LETTERS");
        on("spell(2)", "word(0) = 0", "letter(0, 1) = 1", "6 times: spell(2)", "word(0) = 1", "letter(1, 1) = 6");
    }

    private static void clauses() {
        sentence("CLAUSES, 1 to 10: none");
        fault("", 0);
        sentence("CLAUSES, 1 to 10: one");
        whole("know p=1");
        whole("least 1");
        whole("lives 1");
        sentence("CLAUSES, 1 to 10: ten");
        String nine = times(9, "least 1;");
        whole(nine + "least 1");
        whole(nine + "know p=1");
        sentence("CLAUSES, 1 to 10: eleven");
        fault(nine + "least 1;", 79);
        fault(nine + "least 1;lives 2", 79);
        fault(nine + "know p=1;least 1", 80);
        fault(nine + "lives 12;;", 80);
        sentence("CLAUSES, 1 to 10: the tenth counts");
        on("table: " + nine + "least 2", "told(3) = 2");
        on("table: " + nine + "lives 9", "told(4) = 9");
        String eight = "know c=0;know c=1;know c=2;know c=3;know c=4;know c=5;know c=6;know c=7";
        on("players: 0", "book: 0/0 1/8 2/9 3/7", "table: " + eight + ";know c=8;know c=9", "of(0, 5) = 15",
            "table: " + eight + ";know c=8", "of(0, 5) = 11", "table: " + eight, "of(0, 5) = 9");
        sentence("with ; between");
        fault(";", 0);
        fault(";least 1", 0);
        fault("least 1;", 8);
        fault("least 1;;least 1", 8);
        fault("least 1 least 1", 7);
        fault("least 1least 1", 7);
        fault("know p=1,know p=1", 8);
    }

    private static void blanks() {
        sentence("one blank ahead of each part behind the word: none");
        fault("knowp=1", 4);
        fault("least1", 5);
        fault("lives1", 5);
        sentence("one blank ahead of each part behind the word: two");
        fault("know  p=1", 5);
        fault("least  1", 6);
        fault("lives  1", 6);
        sentence("one blank, and no other");
        fault(" least 1", 0);
        fault("least 1 ", 7);
        fault("least 1; least 1", 8);
        fault("know p =1", 6);
        fault("know p= 1", 7);
        fault("know p=1 |p=1", 8);
        fault("know p=1| p=1", 9);
        fault("know ( p=1)", 6);
        fault("know ! p=1", 6);
        fault("know\tp=1", 4);
        sentence("the words");
        fault("Know p=1", 0);
        fault("kmow p=1", 1);
        fault("knew p=1", 2);
        fault("knot p=1", 3);
        fault("knows p=1", 4);
        fault("last 1", 1);
        fault("leest 1", 2);
        fault("leapt 1", 3);
        fault("leash 1", 4);
        fault("leasts 1", 5);
        fault("loves 1", 1);
        fault("likes 1", 2);
        fault("livid 1", 3);
        fault("lived 1", 4);
        fault("livest 1", 5);
    }

    private static void digits() {
        sentence("n 1 or 2 digits: none");
        fault("least ", 6);
        fault("lives ", 6);
        fault("least ;", 6);
        fault("lives x", 6);
        fault("lives -1", 6);
        sentence("n 1 or 2 digits");
        on("table: least 0;lives 0", "told(3) = 0", "told(4) = 0", "table: least 9;lives 9", "told(3) = 9", "told(4) = 9",
            "table: least 10;lives 10", "told(3) = 10", "told(4) = 10", "table: least 99;lives 99", "told(3) = 99",
            "told(4) = 99", "table: least 07;lives 00", "told(3) = 7", "told(4) = 0");
        sentence("n 1 or 2 digits: three");
        fault("least 123", 8);
        fault("lives 000", 8);
        fault("least 12;lives 100", 17);
        sentence("a number (1 or 2 digits): none");
        fault("know p=", 7);
        fault("know p=;", 7);
        fault("know p=)", 7);
        fault("know p<|p=1", 7);
        sentence("a number (1 or 2 digits): three");
        fault("know p=012", 9);
        fault("know (c>999)", 10);
        sentence("a number (1 or 2 digits): the signs beside the digits");
        fault("know p=/", 7);
        fault("know p=:", 7);
        fault("know p=1/", 8);
        fault("know p=1:", 8);
        fault("least /", 6);
        fault("least :", 6);
        fault("least 1/", 7);
        fault("least 1:", 7);
    }

    private static void expressions() {
        sentence("E: T or T|E");
        whole("know p=1|p=1");
        whole("know p=1|p=1|p=1");
        fault("know |p=1", 5);
        fault("know p=1|", 9);
        fault("know p=1||p=1", 9);
        fault("know p=1|;", 9);
        sentence("T: F or F&T");
        whole("know p=1&p=1");
        whole("know p=1&p=1&p=1");
        fault("know &p=1", 5);
        fault("know p=1&", 9);
        fault("know p=1&&p=1", 9);
        fault("know p=1&|p=1", 9);
        sentence("F: !F, (E)");
        whole("know !p=1");
        whole("know (p=1)");
        whole("know !(p=1|p=1)&!p=1");
        fault("know !", 6);
        fault("know p=1!", 8);
        fault("know (", 6);
        fault("know ()", 6);
        fault("know )", 5);
        fault("know (p=1", 9);
        fault("know (p=1;", 9);
        fault("know (p=1|", 10);
        fault("know (p=1))", 10);
        fault("know p=1)", 8);
        fault("know (p=1)(p=1)", 10);
        fault("know (p=1)p=1", 10);
        fault("know !;", 6);
    }

    /** Of WORDS of 1, 2 and 6 LETTERS with COMMON 0, 5 and 9 those that PLAYER 4 (of KIND 6, v 9) KNOWS. */
    private static void known(String test, int words) {
        on("book: 0/0 12/5 301230/9", "players: 0 1 2 3 6/9", "table: know " + test, "of(4, 5) = " + words);
    }

    private static void tests() {
        sentence("a letter");
        fault("know q=1", 5);
        fault("know a=1", 5);
        fault("know P=1", 5);
        fault("know =1", 5);
        fault("know 1=1", 5);
        fault("know pp=1", 6);
        sentence("< or = or >");
        whole("know p<1");
        whole("know p>1");
        fault("know p1", 6);
        fault("know p;1", 6);
        fault("know p?1", 6);
        fault("know p<=1", 7);
        fault("know p==1", 7);
        sentence("p the number of the one");
        knownAt("p", 4);
        sentence("k its KIND");
        knownAt("k", 6);
        sentence("v its number v");
        knownAt("v", 9);
        sentence("c COMMON");
        known("c=0", 1);
        known("c<0", 0);
        known("c>0", 6);
        known("c<5", 1);
        known("c=5", 2);
        known("c>5", 4);
        known("c<9", 3);
        known("c=9", 4);
        known("c>9", 0);
        known("c<10", 7);
        sentence("l how many LETTERS");
        known("l=0", 0);
        known("l<1", 0);
        known("l=1", 1);
        known("l<2", 1);
        known("l=6", 4);
        known("l>5", 4);
        known("l>6", 0);
        known("l<7", 7);
        sentence("f the first one");
        known("f<0", 0);
        known("f=0", 1);
        known("f=1", 2);
        known("f=3", 4);
        known("f>2", 4);
        known("f>3", 0);
        known("f<4", 7);
        sentence("a number: the lowest");
        for (String letter : lines("p", "k", "v", "c", "l", "f")) {
            known(letter + "<0", 0);
            known("!" + letter + "<0", 7);
            known(letter + "<0|c=5", 2);
            known("c=5&" + letter + "<0", 0);
        }
        on("book: 0/0", "players: 0", "table: know p=0&k=0&v=0&c=0&f=0", "of(0, 5) = 1", "table: know p>0|k>0|v>0|c>0|f>0",
            "of(0, 5) = 0");
        sentence("a number: the highest");
        known("c<99", 7);
        known("c=99", 0);
        known("c>99", 0);
        known("c=09", 4);
    }

    private static void knownAt(String letter, int value) {
        known(letter + "=" + value, 7);
        known(letter + "<" + value, 0);
        known(letter + ">" + value, 0);
        known(letter + "=" + (value - 1), 0);
        known(letter + ">" + (value - 1), 7);
        known(letter + "=" + (value + 1), 0);
        known(letter + "<" + (value + 1), 7);
    }

    private static void nesting() {
        sentence("A ( or ! within 4 others is none: within 3");
        whole("know ((((p=1))))");
        whole("know !!!!p=1");
        whole("know (!(!p=1))");
        whole("know !(!(p=1))");
        whole("know (p=1&!(p=1|!p=1))");
        sentence("A ( or ! within 4 others is none: within 4");
        fault("know (((((p=1)))))", 9);
        fault("know !!!!!p=1", 9);
        fault("know ((((!p=1))))", 9);
        fault("know !!!!(p=1)", 9);
        fault("know (!(!(p=1)))", 9);
        fault("know (p=1&!(p=1&!(p=1)))", 17);
        fault("know ((((p=1&(p=1)))))", 13);
        fault("know ((((p=1|!p=1))))", 13);
        fault("know ((((", 9);
        fault("know (((((", 9);
        sentence("within: no longer behind its end");
        whole("know ((((p=1))))&((((p=1))))|!!!!p=1&!!!!p=1");
        whole("know (((!p=1&!p=1)|!p=1)&!!!p=1)|!!!!p=1");
        whole("know !!!!p=1;know !!!!p=1");
        fault("know ((((p=1))))|(((((p=1", 21);
        fault("know !!!!p=1&!!!!!p=1", 17);
        sentence("within 3: what it tells");
        known("!!!!f=0", 1);
        known("!!!f=0", 6);
        known("((((f=0|f=1))&c=5))", 2);
        known("!(!!f=0)", 6);
    }

    private static void theFault() {
        sentence("the end of THE TEXT, if it ends too early");
        String text = "know !(p=1&k<2)|v>03;least 12;lives 7";
        String wholeAt = " 15 19 20 28 29 37 ";
        for (int length = 0; length <= text.length(); length++) {
            String start = text.substring(0, length);
            if (wholeAt.contains(" " + length + " ")) {
                whole(start);
            } else {
                fault(start, length);
            }
        }
        sentence("The FAULT: the place of the first byte with which none begins so");
        for (int length = 0; length <= text.length(); length++) {
            String start = text.substring(0, length);
            fault(start + "#", length);
            fault(start + (char) 0, length);
            fault(start + (char) 127 + text.substring(length), length);
        }
        sentence("the first byte: of several");
        fault("lives #;#", 6);
        fault("know #=#", 5);
    }

    private static void longestText() {
        sentence("THE TEXT (bytes, 100 at most): a TABLE of 100");
        String hundred = "know " + times(23, "c=0|") + "c=5";
        on("book: 0/0 1/5 2/6", "players: 0", "feed: " + hundred, "count(5) = 100", "feed(48) = FULL", "table() = 0",
            "of(0, 5) = 3");
        fault("know " + times(23, "c=0|") + "c=|", 99);
        fault("know " + times(23, "c=0|") + "!c=", 100);
        sentence("THE TEXT of 100 with as many ! as it can have");
        on("book: 0/0 1/5 2/6", "players: 0", "table: know " + times(11, "!!!!c=0|") + "!!!!c=5", "of(0, 5) = 3",
            "table: know " + times(11, "!!!!c>4&") + "!!!!c=5", "of(0, 5) = 2");
        sentence("THE TEXT of 100 with as many ( as it can have");
        on("book: 0/0 1/5 2/6", "players: 0", "table: know " + times(7, "((((c=0))))|") + "(((c>5)))", "of(0, 5) = 5");
        on("book: 0/0 1/5 2/6", "players: 0", "table: know c=0|(c=0|(c=0|(c=0|(c=0&c=1|c=5&c>4))))", "of(0, 5) = 3");
    }

    private static void tables() {
        sentence("The newest TABLE holds");
        on("players: 0", "book: 0/1 1/2", "table: know c=1;least 5", "table: know c=2;lives 6", "of(0, 5) = 2", "told(3) = 3",
            "told(4) = 6");
        sentence("(6 at most)");
        on("table: lives 1", "table: lives 2", "table: lives 3", "table: lives 4", "table: lives 5", "table: lives 6",
            "told(4) = 6", "feed: lives 7", "table() = FULL", "told(4) = 6");
        sentence("without one there are no CLAUSES");
        on("told(3) = 3", "told(4) = 3", "players: 0", "book: 0 1", "of(0, 5) = 3", "of(0, 2) = 3", "feed: know p=7x",
            "table() = -18", "of(0, 5) = 3");
        sentence("THE IMAGE: which TABLE holds");
        on("table: lives 1", "image()", "table: lives 2", "undo()", "told(4) = 1", "count(2) = 2", "feed: lives 5",
            "table() = 2", "told(4) = 5", "undo()", "told(4) = 1");
    }

    private static void knowing() {
        sentence("if E of some know holds: the first, the last, none");
        known("c=0;know c=5;know c=9", 7);
        known("c=0;know c=1;know c=2", 1);
        known("c=1;know c=2;know c=9", 4);
        known("c=1;know c=2;know c=3", 0);
        known("p=0;least 2;know c=5;lives 1", 2);
        known("!c=0;know !c=9", 7);
        known("!c=0&!c=9;know c=9&c=0", 2);
        sentence("or there are no know CLAUSES at all");
        on("book: 0/0 12/5", "players: 0", "table: least 1;lives 1", "of(0, 5) = 3", "table: know p=1", "of(0, 5) = 0",
            "table: least 1", "of(0, 5) = 3");
        sentence("LEARNED: all WORDS");
        on("book: 0/0 12/5", "players: 5 2 1", "table: know p=7", "of(0, 5) = 3", "of(1, 5) = 0", "of(2, 5) = 0");
        sentence("| and &, from the left");
        known("c=0|c=5|c=9", 7);
        known("c=0|c=5&c=9", 1);
        known("c=0&c=5|c=9", 4);
        known("c=9|c=0&c=5|c=5&l=2", 6);
        known("(c=0|c=5)&c=5", 2);
        known("c>0&c<9&l=2", 2);
        known("!c=0&!c=5", 4);
        known("!(c=0&!c=5)", 6);
        known("!c=0|c=0&l=2", 6);
        known("c=9&(c=0|c=5)", 0);
        known("c=5&(c=9)", 0);
        known("c=5&(c=5|c=9)", 2);
        known("c=0|(c=9)", 5);
        known("c<9&(c=0|c=9|c=5)&l=2|c=9", 6);
        known("!(c=0|c=5)&(c=5|(c=0|c=9))", 4);
    }

    private static void leastAndLives() {
        sentence("least (3 without)");
        on("book: 00 111", "players: 0", "told(3) = 3", "turns: 0 0 110", "table: know c=5&f=1", "told(3) = 3", "turns: 1 1 101");
        sentence("lives (3 without)");
        on("players: 0", "of(0, 2) = 3", "table: least 1", "told(4) = 3", "players: 0", "of(1, 2) = 3");
        sentence("the last one's n");
        on("table: least 1;least 2;lives 8;lives 7;least 4", "told(3) = 4", "told(4) = 7", "players: 0", "of(0, 2) = 7");
        on("table: lives 1;lives 0", "players: 0", "of(0, 2) = 0", "turn() = STATE");
    }

    private static void fitting() {
        sentence("A WORD FITS, if it begins with these, or is just these");
        on("book: 01 012 0123", "players: 0 3/3", "table: least 6", "has(0, 0) = 3", "turns: 0 1", "has(0, 0) = 3", "turns: 2",
            "has(0, 0) = 2", "has(0, 1) = 1", "turns: 3", "has(0, 0) = 1", "has(0, 1) = 2", "begin(1)");
        sentence("A WORD FITS: the row is longer");
        on("book: 01", "players: 3/2", "turns: 0 1", "has(0, 0) = 1", "turns: 2", "has(0, 0) = 0", "of(0, 3) = 0");
        on("book: 222222", "players: 3/2", "table: least 7", "6 times: turn()", "has(0, 0) = 1", "turns: 2", "has(0, 0) = 0",
            "ROW: 2222222", "won(0) = 0");
    }

    private static void ending() {
        sentence("A row ENDS, if it is a WORD of least LETTERS or more");
        for (int n = 1; n <= 6; n++) {
            String[] one = lines("book: " + times(n, "3"), "players: 0", n + " times: turn()");
            on(more(lines("table: least " + n), more(one, "told(2) = 0", "of(0, 2) = 2")));
            on(more(lines("table: least " + (n - 1)), more(one, "told(2) = 0", "of(0, 2) = 2")));
            on(more(lines("table: least " + (n + 1)), more(one, "told(2) = " + n, "of(0, 2) = 3")));
        }
        sentence("least 0, and 99");
        on("book: 0", "players: 0", "table: least 0", "turns: 100", "table: least 99", "turns: 0 110");
        sentence("a WORD that who ADDS does not KNOW");
        on("book: 3", "players: 3/3", "table: know p=1;least 1", "turns: 103");
        on("book: 333", "players: 3/3", "table: know p=1", "turns: 3 3 103");
    }

    private static void mayAndSafe() {
        sentence("MAY: none, and all");
        on("book: 00 10 20 30", "players: 0", "of(0, 3) = 15", "table: know f>0&f<3", "of(0, 3) = 6", "table: know p=1",
            "of(0, 3) = 0");
        sentence("SAFE: those of MAY by which THE ROW does not END");
        on("book: 0 10 2/1 30/1", "players: 0", "table: least 1;know c=5", "of(0, 3) = 3", "of(0, 4) = 2");
        sentence("SAFE: a WORD that is not KNOWN ENDS too");
        on("book: 0/1 01", "players: 0", "table: least 1;know c=5", "of(0, 3) = 1", "of(0, 4) = 0");
        sentence("MAY, SAFE of a row of 5, and of 6 LETTERS");
        on("book: 222222", "players: 0", "5 times: turn()", "of(0, 3) = 4", "of(0, 4) = 0", "table: least 7", "of(0, 4) = 4",
            "turns: 2", "of(0, 3) = 0", "of(0, 4) = 0");
    }

    private static void twelve() {
        sentence("THE ROW has 12 LETTERS at most: with 11 one more is ADDED");
        String[] eleven = lines("players: 3/1", "11 times: turn()", "told(2) = 11");
        on(more(eleven, "turn() = 1", "told(2) = 12", "turn() = 110", "told(2) = 0", "of(0, 2) = 2"));
        sentence("if it has, there are no LETTERS to ADD");
        for (int kind = 0; kind <= 6; kind++) {
            on("players: 3/1 " + kind + "/2", "live(1, 0)", "12 times: turn() = 1", "book: 111111 2", "lives: 0 5",
                "of(1, 3) = 0", "of(1, 4) = 0", "won(1) = 0", "by(1) = STATE", "odds(1, 0) = NO", "turn() = 110",
                "of(0, 2) = 0", "of(1, 2) = 5", "told(0) = 1");
        }
        sentence("(if THE ROW has 12, it ASKS)");
        on("players: 3/1 3/2", "12 times: turn()", "ROW: 121212121212", "turn() = 110", "of(1, 2) = 2", "of(0, 2) = 3",
            "told(0) = 1");
    }

    private static final String[] FIVE = lines("players: 0 0 0 0 0", "book: 0123");

    private static void whoIsNext() {
        sentence("if who is NEXT has no LIVES, the next one by numbers, round, who has is NEXT first");
        on(more(FIVE, "begin(3)", "live(3, 0)", "turns: 0", "told(1) = 4", "told(0) = 0"));
        on(more(FIVE, "begin(4)", "live(4, 0)", "turns: 0", "told(1) = 0", "told(0) = 1"));
        on(more(FIVE, "begin(4)", "lives: 0 0 1 0 0", "turns: 0", "told(1) = 2", "told(0) = 2"));
        on(more(FIVE, "lives: 0 0 0 0 1", "turns: 0", "told(1) = 4", "told(0) = 4"));
        sentence("NEXT is the next one by numbers, round, who has LIVES");
        on(more(FIVE, "turns: 0", "told(0) = 1", "live(2, 0)", "turns: 1", "told(0) = 3", "turns: 2", "told(0) = 4"));
        on(more(FIVE, "begin(4)", "turns: 0", "told(0) = 0"));
        on(more(FIVE, "begin(4)", "live(0, 0)", "turns: 0", "told(0) = 1"));
        on(more(FIVE, "begin(3)", "lives: 0 2 1 1 0", "turns: 0", "told(0) = 1"));
        sentence("(it may be the same)");
        on(more(FIVE, "begin(4)", "lives: 0 0 0 0 1", "turns: 0", "told(0) = 4", "turns: 1", "told(0) = 4"));
        on("players: 0", "book: 0123", "turns: 0", "told(0) = 0", "told(1) = 0");
        sentence("who is NEXT has no LIVES, as asked");
        on(more(FIVE, "live(0, 0)", "on(0, 0) = 0", "on(1, 0) = 2", "by(3) = 1", "odds(0, 0) = 0", "ends(0) = 4",
            "ends(1) = 4"));
    }

    private static void asking() {
        sentence("It ASKS LAST: if that one KNOWS a WORD that FITS THE ROW, who asks LOSES");
        on("players: 0 0", "book: 0/1 01/2", "table: know p=0&c=2|p=1&c=1", "turns: 0 110", "of(0, 2) = 3", "of(1, 2) = 2",
            "told(0) = 1");
        sentence("It ASKS LAST: a WORD that is just THE ROW");
        on("players: 0 0", "book: 0", "turns: 0 110", "of(1, 2) = 2", "of(0, 2) = 3");
        sentence("else LAST LOSES");
        on("players: 3/2 0", "book: 0/1", "table: know p=1", "turns: 2 110", "of(0, 2) = 2", "of(1, 2) = 3", "told(0) = 0");
        sentence("It ASKS LAST: itself");
        on("players: 0", "book: 0", "turns: 0 110", "of(0, 2) = 2");
        on("players: 3/1", "table: least 1", "12 times: turn()", "turns: 110", "of(0, 2) = 2");
        sentence("(If nobody is LAST, it LOSES instead of asking.)");
        for (int kind : new int[] {0, 1, 2, 4, 5}) {
            on("players: " + kind + " 0", "turns: 120 120", "of(0, 2) = 1", "of(1, 2) = 3", "told(0) = 0", "told(1) = -5");
        }
        on("players: 2", "book: 01", "turns: 0 1 110", "begin(0)", "table: know p=1", "turns: 120");
    }

    private static void losing() {
        sentence("LIVES of that one are 1 less (0 at least)");
        on("players: 0 0", "live(0, 1)", "turns: 120", "of(0, 2) = 0");
        on("players: 3/1 0", "turns: 1", "live(0, 0)", "turns: 110", "of(0, 2) = 0", "of(1, 2) = 3", "told(0) = 1");
        on("players: 0", "live(0, 99)", "turns: 120", "of(0, 2) = 98");
        sentence("THE ROW is empty, nobody is LAST, and that one is NEXT");
        on("players: 0 0 0", "book: 012", "turns: 0 1 102", "ROW: ", "told(1) = -5", "told(0) = 2");
        on("players: 0 3/3 0", "begin(1)", "turns: 3 110", "told(0) = 1", "told(1) = -5", "told(2) = 0");
        sentence("(if it has no LIVES then, the next one by numbers, round, who has)");
        on("players: 0 0 0", "live(0, 1)", "turns: 120", "told(0) = 1");
        on("players: 0 0 0", "lives: 1 0 1", "turns: 120", "told(0) = 2");
        on("players: 0 0 0", "begin(2)", "lives: 1 1 1", "turns: 120", "told(0) = 0");
        on("players: 0 0 0", "begin(2)", "lives: 0 1 1", "turns: 120", "told(0) = 1");
        sentence("(nobody has: that one)");
        on("players: 0 0 0", "begin(2)", "lives: 0 0 1", "turns: 120 -3", "told(0) = 2", "on(60, 0) = 2");
        on("players: 3/1 0", "turns: 1", "lives: 0 1", "book: 2", "table: know p=0;least 2", "turns: 110", "of(1, 2) = 1",
            "told(0) = 1");
        on("players: 0 0", "begin(1)", "book: 0", "turns: 0", "lives: 1 0", "turns: 110", "told(0) = 0", "of(0, 2) = 0",
            "turns: -3");
    }

    private static void players() {
        sentence("PLAYER: ADDS the least of SAFE");
        on("players: 0", "book: 0 20 10", "table: least 1", "turns: 1");
        on("players: 0", "book: 3000", "turns: 3");
        sentence("if there is none, the least of MAY");
        on("players: 0", "book: 3 2 1/1", "table: least 1;know c=5", "turns: 102");
        sentence("if there is none of these either, it ASKS");
        on("players: 0 0", "book: 0", "turns: 0 110");
    }

    private static void sly() {
        sentence("SLY: the fewest MAY: none of one, one of two, four");
        on("players: 1 0", "book: 000 010 020 030 100 110 120 200 210 300", "turns: 3");
        on("players: 1 0", "book: 000 010 020 030 100 110 120 200 210 300 310 320", "turns: 2");
        on("players: 1 0", "book: 000 010 020 030", "turns: 0");
        on("players: 1 0", "book: 100 110 120 130 200 210 220", "turns: 2");
        sentence("SLY: (of several the least)");
        on("players: 1 0", "book: 000 100 200 300", "turns: 0");
        on("players: 1 0", "book: 000 010 200 300", "turns: 2");
        sentence("SLY: MAY, not SAFE");
        on("players: 1 0", "book: 00 010 100", "table: least 2", "turns: 1");
        sentence("SLY: who is NEXT then");
        String[] three = lines("players: 1 0 0", "book: 00000 11111", "table: know p=0|p=1&f=0|p=2&f=1");
        on(more(three, "turns: 1"));
        on(more(three, "live(1, 0)", "turns: 0"));
        on(more(three, "lives: 1 0 0", "turns: 0"));
        sentence("SLY: who is NEXT then: itself");
        on("players: 1", "book: 000 010 100", "turns: 1");
        sentence("SLY: else as PLAYER");
        on("players: 1", "book: 3 2", "table: least 1", "turns: 102");
        on("players: 1 1", "book: 0", "turns: 0 110");
    }

    private static void wary() {
        for (int kind = 2; kind <= 5; kind += 3) {
            sentence("WARY, LEARNED: the least of SAFE");
            on("players: " + kind, "book: 0 20 10", "table: least 1", "turns: 1");
            sentence("WARY, LEARNED: else it ASKS, if somebody is LAST");
            on("players: " + kind, "book: 012", "turns: 0 1 110");
            sentence("WARY, LEARNED: else as PLAYER");
            on("players: " + kind, "book: 2 1", "table: least 1", "turns: 101");
            on("players: " + kind, "turns: 120");
        }
    }

    private static void bold() {
        sentence("BOLD: LETTER v modulo 4");
        for (int v = 0; v <= 9; v++) {
            on("players: 3/" + v, "turns: " + v % 4 + " " + v % 4);
            on("players: 6/" + v, "turns: " + v % 4 + " " + v % 4);
        }
        sentence("BOLD: if there is no MAY");
        on("players: 3/1", "book: 2 3", "table: least 1", "turns: 102");
        on("players: 3/1", "book: 20 3", "table: least 1", "turns: 2");
        sentence("BOLD: (if THE ROW has 12, it ASKS)");
        on("players: 3/1", "12 times: turn() = 1", "turns: 110");
        sentence("BOLD: who ADDS so can END THE ROW");
        on("players: 3/1", "book: 1", "table: least 1;know p=1", "turns: 101");
    }

    private static void led() {
        sentence("LED: the least of SAFE by which THE ROW is LOST");
        on("players: 4 0", "book: 0000 111 222", "turns: 0");
        on("players: 4 0", "book: 000 1111 2222", "turns: 1");
        on("players: 4 0", "book: 0123 1230 200", "table: least 3", "turns: 0");
        sentence("LED: else as SLY");
        on("players: 4 0", "book: 000 010 100", "turns: 1");
        on("players: 4 0", "book: 000 100", "turns: 0");
        on("players: 4", "book: 2 1", "table: least 1", "turns: 101");
        sentence("LED: LOST, whatever one KNOWS");
        on("players: 4 0", "book: 0000/1 000/1 11/2 1111/2 0/2", "table: know c=2", "turns: 1");
    }

    private static void told() {
        sentence("TOLD: at how many LETTERS there are, modulo 4");
        on("players: 6", "book: 012301 111111", "row(0, 1, 1)", "row(0, 2, 2)", "row(0, 3, 3)", "turns: 0 1 2 3 0 101");
        on("players: 6", "book: 301230 333333", "table: least 7", "row(0, 0, 3)", "row(0, 1, 3)", "row(0, 2, 3)",
            "row(0, 3, 3)", "turns: 3 3 3 3 3 3");
        sentence("TOLD: if that is one of MAY (SAFE or not)");
        on("players: 6", "book: 3 00", "table: least 1", "row(0, 0, 3)", "turns: 103");
        sentence("TOLD: else as BOLD");
        on("players: 6", "book: 2000 1000", "turns: 1");
        on("players: 6", "book: 2 1", "table: least 1", "turns: 101");
        on("players: 6/7", "row(0, 0, 1)", "turns: 3");
        on("players: 6/7", "book: 1", "table: know p=1", "row(0, 0, 1)", "turns: 3");
    }

    private static void wonAndLost() {
        sentence("a row that is not WON is LOST: no WORD FITS");
        on("won(0) = 0", "won(1) = 0");
        sentence("A row is WON, if by some LETTER it does not END, and is LOST");
        on("book: 0", "won(1) = 1", "table: least 1", "won(1) = 0");
        on("book: 00", "won(1) = 0", "table: least 2", "won(1) = 1", "table: least 1", "won(1) = 1");
        sentence("WON of the longest rows");
        on("book: 000000", "won(1) = 1", "table: least 7", "won(1) = 0", "table: least 6", "won(1) = 1");
        on("book: 00000", "table: least 6", "won(1) = 1", "table: least 5", "won(1) = 0");
        sentence("both KNOWING all WORDS");
        on("players: 0 0", "book: 0 1", "table: know p=7", "won(0) = 1", "won(1) = 3");
    }

    /** An object is used for at most 512 calls: the last of them answers as the first. */
    private static void manyCalls() {
        sentence("at most 512 calls after it has been made");
        on("players: 6", "509 times: act(0, 2, 1)", "trace(11) = 10", "count(7) = 12");
        on("players: 0", "510 times: image() = 1", "undo() = 1");
        on("511 times: table() = -10", "count(2) = 0");
        on("players: 0", "book: 0", "506 times: learn(0, 60) = -5", "learn(0, 60) = -5", "ends(1) = 2");
        on("510 times: tape(0, 3, 60) = 1", "item(0, 59, 7)", "read(0, 59) = 7");
        on("players: 3/1", "live(0, 99)", "507 times: turn()", "told(2) = 0", "of(0, 2) = 60", "turn() = 1");
    }
}
