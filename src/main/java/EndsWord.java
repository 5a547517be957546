import java.util.Arrays;

/** Players add letters to a row by turns, and who ends a word loses a life; ../shared/DOC.md tells the rules. */
public final class EndsWord {
    public static final int NONE = -1, BAD = -2, STATE = -3, FULL = -4;
    public static final long NO = Long.MIN_VALUE;

    private static final int NOT_ANY = -5;
    private static final int NOTHING = -11, CAST = -12, PLACE = -13, SIZE = -14;

    private static final int LETTERS = 4, WORD_LIMIT = 6, BOOK_LIMIT = 12, ROW_LIMIT = 12;
    private static final int PLAYER_LIMIT = 5, TOLD_PARTS = 4, HIGHEST_LIVES = 99;
    private static final int TURN_LIMIT = 60, SEEN_LIMIT = 6, SHEET_LIMIT = 8, DIGIT = 9;
    private static final int TEXT_LIMIT = 100, TABLE_LIMIT = 6, TAPE_LIMIT = 6, LAST_SIGN = 127;

    private static final int SLY = 1, WARY = 2, BOLD = 3, LED = 4, LEARNED = 5, TOLD = 6;
    /** Of each KIND the one that it stands under. */
    private static final int[] ABOVE = {-1, 0, 0, 0, SLY, WARY, BOLD};

    private static final int ASKED = 10, LOST_INSTEAD = 20, SOMEBODY_LOST = 100;
    /** From here on the what of a call names one of a row. */
    private static final int FIRST_OF_ROW = 10;

    private final Line spelled = new Line(WORD_LIMIT);
    private final Line text = new Line(TEXT_LIMIT);
    private final Reader reader = new Reader();
    private final Table[] tables = new Table[TABLE_LIMIT];
    private int tablesMade = 0;
    private final Game now = new Game();
    private final Game kept = new Game();
    private boolean imageTaken = false;
    private final Round ahead = new Round();
    private final Acts acts = new Acts();
    private final Tape[] tapes = new Tape[TAPE_LIMIT];

    public EndsWord() {
        for (int k = 0; k < TABLE_LIMIT; k++) {
            tables[k] = new Table();
        }
        for (int k = 0; k < TAPE_LIMIT; k++) {
            tapes[k] = new Tape();
        }
    }

    // ---- words, players, tables

    public int spell(int letter) {
        if (letter == -1) {
            spelled.clear();
            return 0;
        }
        if (!within(letter, 0, LETTERS - 1)) {
            return NONE;
        }
        if (spelled.isFull()) {
            return FULL;
        }
        spelled.put(letter);
        return spelled.size;
    }

    public int word(int common) {
        if (!within(common, 0, DIGIT)) {
            return BAD;
        }
        if (spelled.size == 0 || now.book.isWord(spelled)) {
            return STATE;
        }
        if (now.book.isFull()) {
            return FULL;
        }
        now.book.put(spelled, common);
        spelled.clear();
        return now.book.size - 1;
    }

    public int letter(int word, int what) {
        if (!within(word, 0, now.book.size - 1)) {
            return NONE;
        }
        if (what == 0) {
            return now.book.common[word];
        }
        if (what == 1) {
            return now.book.words[word].size;
        }
        return what < FIRST_OF_ROW ? NONE : now.book.words[word].at(what - FIRST_OF_ROW);
    }

    public int player(int kind, int v) {
        if (!isKind(kind)) {
            return NONE;
        }
        if (!within(v, 0, DIGIT)) {
            return BAD;
        }
        return now.join(kind, v);
    }

    public int of(int player, int what) {
        if (!now.hasPlayer(player)) {
            return NONE;
        }
        now.recall();
        switch (what) {
            case 0:
                return now.players[player].kind;
            case 1:
                return now.players[player].v;
            case 2:
                return now.round.lives[player];
            case 3:
                return now.may(player);
            case 4:
                return now.safe(player);
            case 5:
                return now.known[player];
            default:
                return NONE;
        }
    }

    public int live(int player, int n) {
        if (!now.hasPlayer(player)) {
            return NONE;
        }
        if (!within(n, 0, HIGHEST_LIVES)) {
            return BAD;
        }
        int before = now.round.lives[player];
        now.round.lives[player] = n;
        return before;
    }

    public int row(int player, int part, int n) {
        if (!now.hasPlayer(player) || !within(part, 0, TOLD_PARTS - 1)) {
            return NONE;
        }
        if (!within(n, 0, LETTERS - 1)) {
            return BAD;
        }
        if (now.players[player].kind != TOLD) {
            return STATE;
        }
        int before = now.players[player].parts[part];
        now.players[player].parts[part] = n;
        return before;
    }

    public int feed(int sign) {
        if (!within(sign, 0, LAST_SIGN)) {
            return BAD;
        }
        if (text.isFull()) {
            return FULL;
        }
        text.put(sign);
        return text.size;
    }

    public int table() {
        if (tablesMade >= TABLE_LIMIT) {
            return FULL;
        }
        // This slot is free: a TABLE that is not whole is written over by the next one.
        int fault = reader.parse(text, tables[tablesMade]);
        text.clear();
        if (fault >= 0) {
            return -10 - fault;
        }
        now.table = tables[tablesMade];
        tablesMade++;
        return tablesMade - 1;
    }

    public int told(int what) {
        Round round = now.round;
        switch (what) {
            case 0:
                return now.size == 0 ? NOT_ANY : round.next;
            case 1:
                return round.last < 0 ? NOT_ANY : round.last;
            case 2:
                return round.row.size;
            case 3:
                return now.table.least;
            case 4:
                return now.table.lives;
            default:
                return what < FIRST_OF_ROW ? NONE : round.row.at(what - FIRST_OF_ROW);
        }
    }

    // ---- turns

    public int turn() {
        now.prepare();
        return now.play(now.round);
    }

    public int begin(int player) {
        if (!now.hasPlayer(player)) {
            return NONE;
        }
        if (now.round.lives[player] == 0) {
            return STATE;
        }
        int before = now.round.next;
        now.round.restart(player);
        return before;
    }

    public int on(int n, int what) {
        int asked = what - FIRST_OF_ROW;
        if (!within(what, 0, 1) && !now.hasPlayer(asked)) {
            return NONE;
        }
        if (!within(n, 0, TURN_LIMIT)) {
            return BAD;
        }
        Round round = lookAhead();
        now.go(round, n);
        if (what == 0) {
            return now.size == 0 ? NOT_ANY : round.next;
        }
        return what == 1 ? round.row.size : round.lives[asked];
    }

    public int ends(int what) {
        if (!within(what, 0, 2)) {
            return NONE;
        }
        Round round = lookAhead();
        for (int turn = 1; turn <= TURN_LIMIT; turn++) {
            int done = now.play(round);
            if (round.loser >= 0) {
                int asked = done == SOMEBODY_LOST + ASKED ? 1 : 0;
                return what == 0 ? round.loser : what == 1 ? turn : asked;
            }
        }
        return NOT_ANY;
    }

    // ---- won, known

    public int won(int what) {
        if (!within(what, 0, 1)) {
            return NONE;
        }
        Line row = now.round.row;
        now.book.weigh(now.book.all(), now.table.least);
        int winning = now.book.winning(now.book.fitting(row, row.size), row.size, now.table.least);
        if (what == 1) {
            return winning;
        }
        return winning != 0 ? 1 : 0;
    }

    public int by(int letter) {
        if (!within(letter, 0, LETTERS - 1)) {
            return NONE;
        }
        if (!canAdd()) {
            return STATE;
        }
        now.prepare();
        int loser = loserBy(letter);
        return loser < 0 ? NOT_ANY : loser;
    }

    public int has(int player, int what) {
        if (!now.hasPlayer(player) || !within(what, 0, 1)) {
            return NONE;
        }
        now.recall();
        int words = now.book.fitting(now.round.row, now.round.row.size) & now.known[player];
        if (what == 0) {
            return Integer.bitCount(words);
        }
        return words == 0 ? NOT_ANY : first(words);
    }

    // ---- learning, being out

    public int learn(int player, int n) {
        if (!now.hasPlayer(player)) {
            return NONE;
        }
        if (!within(n, 0, TURN_LIMIT)) {
            return BAD;
        }
        Round round = lookAhead();
        now.go(round, n);
        int most = round.lives[player];
        int best = NOT_ANY;
        int without = now.known[player];
        for (int word = 0; word < now.book.size; word++) {
            if (isIn(without, word)) {
                continue;
            }
            now.known[player] = without | 1 << word;
            round.copy(now.round);
            now.go(round, n);
            if (round.lives[player] > most) {
                most = round.lives[player];
                best = word;
            }
        }
        now.known[player] = without;
        return best;
    }

    public int out(int what) {
        if (!within(what, 0, 1)) {
            return NONE;
        }
        Round round = lookAhead();
        for (int turns = 0; turns <= TURN_LIMIT; turns++) {
            int who = now.firstOut(round);
            if (who >= 0) {
                return what == 0 ? who : turns;
            }
            now.play(round);
        }
        return NOT_ANY;
    }

    public int rank(int n) {
        if (!within(n, 0, TURN_LIMIT)) {
            return BAD;
        }
        Round round = lookAhead();
        now.go(round, n);
        int best = NOT_ANY;
        int most = -1;
        for (int player = 0; player < now.size; player++) {
            if (round.lives[player] > most) {
                most = round.lives[player];
                best = player;
            }
        }
        return best;
    }

    // ---- seen, books

    public int see(int player, int word, int letters) {
        if (player == -1) {
            now.clearSeen();
            return 0;
        }
        if (!now.hasPlayer(player) || !within(word, 0, now.book.size - 1)) {
            return NONE;
        }
        if (!within(letters, 1, now.book.words[word].size)) {
            return BAD;
        }
        if (now.seenOf.isFull()) {
            return FULL;
        }
        now.putSeen(player, word, letters);
        return now.seenOf.size;
    }

    public int could(int player) {
        if (!now.hasPlayer(player)) {
            return NONE;
        }
        now.recall();
        return now.knowsAllSeen(player) ? 1 : 0;
    }

    public int can(int word, int letters) {
        if (!within(word, 0, now.book.size - 1)) {
            return NONE;
        }
        if (!within(letters, 1, now.book.words[word].size)) {
            return BAD;
        }
        now.recall();
        int words = now.book.fitting(now.book.words[word], letters);
        int able = 0;
        for (int player = 0; player < now.size; player++) {
            if ((words & now.known[player]) != 0) {
                able |= 1 << player;
            }
        }
        return able;
    }

    public int begins(int m) {
        if (!within(m, 0, DIGIT)) {
            return BAD;
        }
        int among = now.book.asCommonAs(m);
        now.book.weigh(among, now.table.least);
        return now.book.winning(among, 0, now.table.least);
    }

    // ---- odds, sheets

    public long odds(int player, int part) {
        if (!now.hasPlayer(player) || !within(part, 0, 1) || !canAdd()) {
            return NO;
        }
        now.prepare();
        int lost = 0;
        for (int letter = 0; letter < LETTERS; letter++) {
            if (loserBy(letter) == player) {
                lost++;
            }
        }
        return lowest(lost, LETTERS, part);
    }

    public long mean(int n, int part) {
        if (!within(n, 1, TURN_LIMIT) || !within(part, 0, 1)) {
            return NO;
        }
        Round round = lookAhead();
        int together = 0;
        for (int turn = 1; turn <= n; turn++) {
            now.play(round);
            together += round.row.size;
        }
        return lowest(together, n, part);
    }

    public int sheet(int player) {
        if (player == -1) {
            now.sheet.clear();
            return 0;
        }
        if (!now.hasPlayer(player)) {
            return NONE;
        }
        if (now.sheet.isFull()) {
            return FULL;
        }
        now.sheet.put(player);
        return now.sheet.size;
    }

    public int looked() {
        Round round = lookAhead();
        int right = 0;
        for (int turn = 1; turn <= TURN_LIMIT && right < now.sheet.size; turn++) {
            now.play(round);
            if (round.loser >= 0) {
                if (round.loser != now.sheet.at(right)) {
                    return right;
                }
                right++;
            }
        }
        return right < now.sheet.size ? right : NOT_ANY;
    }

    // ---- judging, the image, acts, tapes

    public int judge(int tape, int i) {
        if (!isTape(tape)) {
            return NONE;
        }
        Tape told = tapes[tape];
        if (told.holds() && told.sort != Tape.BYTES) {
            return CAST;
        }
        Line row = now.round.row;
        for (int k = 0; k < row.size; k++) {
            // The difference cannot wrap: i is no less than 0 where it is taken.
            if (i < 0 || k >= told.size - i) {
                return 100 + k;
            }
            if (told.items[i + k] != row.at(k)) {
                return k;
            }
        }
        return NOT_ANY;
    }

    public int image() {
        kept.copy(now);
        imageTaken = true;
        return now.size;
    }

    public int undo() {
        if (!imageTaken) {
            return STATE;
        }
        now.copy(kept);
        return now.size;
    }

    public int act(int player, int act, int x) {
        acts.clear();
        if (!now.hasPlayer(player) || !within(act, Acts.ADDS, Acts.TELLS)) {
            return 0;
        }
        return acts.run(now.players[player], act, x);
    }

    public int trace(int i) {
        return acts.began.at(i);
    }

    public int taken(int player, int k) {
        if (!isKind(k)) {
            return BAD;
        }
        if (!now.hasPlayer(player)) {
            return NOTHING;
        }
        int kind = now.players[player].kind;
        return isOrIsUnder(kind, k) ? kind : CAST;
    }

    public int count(int what) {
        switch (what) {
            case 0:
                return now.size;
            case 1:
                return now.book.size;
            case 2:
                return tablesMade;
            case 3:
                return now.seenOf.size;
            case 4:
                return now.sheet.size;
            case 5:
                return text.size;
            case 6:
                return spelled.size;
            case 7:
                return acts.ran;
            default:
                return BAD;
        }
    }

    public int tape(int tape, int sort, int n) {
        if (!isTape(tape)) {
            return NONE;
        }
        if (!within(sort, Tape.EMPTY, Tape.BOOLEANS)) {
            return BAD;
        }
        if (sort == Tape.EMPTY) {
            tapes[tape].become(Tape.EMPTY, 0);
            return 1;
        }
        if (n > Tape.LIMIT) {
            return BAD;
        }
        if (n < 0) {
            return SIZE;
        }
        tapes[tape].become(sort, n);
        return 1;
    }

    public int item(int tape, int i, long v) {
        if (!isTape(tape)) {
            return NONE;
        }
        if (!tapes[tape].holds()) {
            return NOTHING;
        }
        if (!within(i, 0, tapes[tape].size - 1)) {
            return PLACE;
        }
        tapes[tape].items[i] = tapes[tape].narrowed(v);
        return 1;
    }

    public long read(int tape, int i) {
        if (!isTape(tape) || !within(i, 0, tapes[tape].size - 1)) {
            return NO;
        }
        return tapes[tape].items[i];
    }

    public int shift(int tape, int i, int other, int j, int n) {
        if (!isTape(tape) || !isTape(other)) {
            return NONE;
        }
        Tape from = tapes[tape];
        Tape to = tapes[other];
        if (!from.holds() || !to.holds()) {
            return NOTHING;
        }
        if (from.sort != to.sort) {
            return CAST;
        }
        if (!from.hasPart(i, n) || !to.hasPart(j, n)) {
            return PLACE;
        }
        System.arraycopy(from.items, i, to.items, j, n);
        return n;
    }

    // ---- what several calls need

    /** A second round that goes on from how all is, so that what is asked changes nothing. */
    private Round lookAhead() {
        now.prepare();
        ahead.copy(now.round);
        return ahead;
    }

    private boolean canAdd() {
        return now.acting(now.round) >= 0 && !now.round.row.isFull();
    }

    /** Who LOSES first, if who is NEXT adds the letter in TURN 1; to be called when it can add, and all is prepared. */
    private int loserBy(int letter) {
        Round round = ahead;
        round.copy(now.round);
        round.next = now.acting(round);
        now.add(round, letter);
        for (int turn = 2; turn <= TURN_LIMIT && round.loser < 0; turn++) {
            now.play(round);
        }
        return round.loser;
    }

    private static boolean within(int n, int lowest, int highest) {
        return n >= lowest && n <= highest;
    }

    private static boolean isTape(int tape) {
        return within(tape, 0, TAPE_LIMIT - 1);
    }

    private static boolean isKind(int kind) {
        return within(kind, 0, ABOVE.length - 1);
    }

    private static boolean isOrIsUnder(int kind, int other) {
        int up = kind;
        for (int steps = 0; steps < ABOVE.length && isKind(up); steps++) {
            if (up == other) {
                return true;
            }
            up = ABOVE[up];
        }
        return false;
    }

    private static boolean isIn(int bits, int k) {
        return (bits >> k & 1) != 0;
    }

    /** The first of LETTERS or WORDS that are told as bits. */
    private static int first(int bits) {
        for (int k = 0; k < BOOK_LIMIT; k++) {
            if (isIn(bits, k)) {
                return k;
            }
        }
        return NONE;
    }

    /** One side of a fraction in lowest terms; neither side is below 0, and below is not 0. */
    private static long lowest(int above, int below, int part) {
        int divisor = below;
        int rest = above;
        for (int steps = 0; steps < 100 && rest != 0; steps++) {
            int next = divisor % rest;
            divisor = rest;
            rest = next;
        }
        int side = part == 0 ? above : below;
        return divisor == 0 ? side : side / divisor;
    }

    /** Numbers one behind the other, up to a limit that is set once. */
    private static final class Line {
        final int[] items;
        int size = 0;

        Line(int limit) {
            items = new int[Math.max(limit, 0)];
        }

        boolean isFull() {
            return size >= items.length;
        }

        void put(int value) {
            if (size < items.length) {
                items[size] = value;
                size++;
            }
        }

        int at(int k) {
            return k >= 0 && k < size ? items[k] : NONE;
        }

        void clear() {
            size = 0;
        }

        void copy(Line other) {
            size = Math.min(other.size, items.length);
            System.arraycopy(other.items, 0, items, 0, size);
        }
    }

    /** THE BOOK. Sets of WORDS are bits, so that a row is followed by what still fits it. */
    private static final class Book {
        final Line[] words = new Line[BOOK_LIMIT];
        final int[] common = new int[BOOK_LIMIT];
        /** The WORDS that have a letter at a place, at place * LETTERS + letter. */
        final int[] placed = new int[WORD_LIMIT * LETTERS];
        /** The WORDS of so many letters. */
        final int[] ofLength = new int[WORD_LIMIT + 1];
        /** The WORDS whose first letters, so many, are a LOST row, as weigh() found it last. */
        final int[] lost = new int[WORD_LIMIT + 1];
        int size = 0;

        Book() {
            for (int k = 0; k < BOOK_LIMIT; k++) {
                words[k] = new Line(WORD_LIMIT);
            }
        }

        boolean isFull() {
            return size >= BOOK_LIMIT;
        }

        void put(Line letters, int commonness) {
            if (isFull() || letters.size > WORD_LIMIT) {
                return;
            }
            words[size].copy(letters);
            common[size] = commonness;
            ofLength[letters.size] |= 1 << size;
            for (int place = 0; place < letters.size; place++) {
                placed[place * LETTERS + letters.at(place)] |= 1 << size;
            }
            size++;
        }

        void copy(Book other) {
            for (int k = 0; k < BOOK_LIMIT; k++) {
                words[k].copy(other.words[k]);
            }
            System.arraycopy(other.common, 0, common, 0, BOOK_LIMIT);
            System.arraycopy(other.placed, 0, placed, 0, WORD_LIMIT * LETTERS);
            System.arraycopy(other.ofLength, 0, ofLength, 0, WORD_LIMIT + 1);
            size = other.size;
        }

        int all() {
            return (1 << size) - 1;
        }

        int asCommonAs(int m) {
            int found = 0;
            for (int word = 0; word < size; word++) {
                if (common[word] >= m) {
                    found |= 1 << word;
                }
            }
            return found;
        }

        int having(int place, int letter) {
            boolean some = within(place, 0, WORD_LIMIT - 1) && within(letter, 0, LETTERS - 1);
            return some ? placed[place * LETTERS + letter] : 0;
        }

        /** The WORDS that FIT the first letters of a row. */
        int fitting(Line row, int length) {
            int fits = all();
            for (int place = 0; place < length; place++) {
                fits &= having(place, row.at(place));
            }
            return fits;
        }

        boolean isWord(Line row) {
            return isEnd(fitting(row, row.size), row.size, 0);
        }

        /** Whether a row of so many letters that these fit ENDS. */
        boolean isEnd(int fits, int length, int least) {
            return length >= least && within(length, 0, WORD_LIMIT) && (fits & ofLength[length]) != 0;
        }

        /** The letters by which a row that these fit is one that some of them fit. */
        int going(int fits, int length) {
            int letters = 0;
            for (int letter = 0; letter < LETTERS; letter++) {
                if ((fits & having(length, letter)) != 0) {
                    letters |= 1 << letter;
                }
            }
            return letters;
        }

        /** Those of the letters by which a row that these fit does not END. */
        int notEnding(int fits, int length, int letters, int least) {
            int left = letters;
            for (int letter = 0; letter < LETTERS; letter++) {
                if (isEnd(fits & having(length, letter), length + 1, least)) {
                    left &= ~(1 << letter);
                }
            }
            return left;
        }

        /** Finds which rows are LOST, if THE BOOK has these WORDS alone; the longest first, as others hang on them. */
        void weigh(int among, int least) {
            for (int length = WORD_LIMIT; length >= 1; length--) {
                lost[length] = 0;
                for (int word = 0; word < size; word++) {
                    int fits = among & fitting(words[word], length);
                    if (isIn(fits, word) && winning(fits, length, least) == 0) {
                        lost[length] |= 1 << word;
                    }
                }
            }
        }

        /** The letters with which a row that these fit is WON, among the WORDS of the latest weigh(). */
        int winning(int fits, int length, int least) {
            int letters = notEnding(fits, length, going(fits, length), least);
            int wins = 0;
            for (int letter = 0; letter < LETTERS; letter++) {
                if (isIn(letters, letter) && isLost(fits & having(length, letter), length + 1)) {
                    wins |= 1 << letter;
                }
            }
            return wins;
        }

        /** Of a row that some WORD fits; all that fit it begin alike, and so stand in lost alike. */
        private boolean isLost(int fits, int length) {
            return length <= WORD_LIMIT && (fits & lost[length]) != 0;
        }
    }

    /** What one PLAYER is; its LIVES stand in the Round, as they change while one looks ahead. */
    private static final class Player {
        final int[] parts = new int[TOLD_PARTS];
        int number = 0;
        int kind = 0;
        int v = 0;

        void become(int newNumber, int newKind, int newV) {
            number = newNumber;
            kind = newKind;
            v = newV;
            Arrays.fill(parts, 0);
        }

        void copy(Player other) {
            become(other.number, other.kind, other.v);
            System.arraycopy(other.parts, 0, parts, 0, TOLD_PARTS);
        }
    }

    /** A TABLE; all its know CLAUSES together are steps with the operators behind what they join. */
    private static final class Table {
        static final int AND = -1, OR = -2, NOT = -3;
        /** Some more than four ( within one another can leave open. */
        static final int OPEN_LIMIT = 20;
        static final int WITHOUT = 3;

        final int[] steps = new int[TEXT_LIMIT];
        final int[] open = new int[OPEN_LIMIT];
        int size = 0;
        int least = WITHOUT;
        int lives = WITHOUT;

        void clear() {
            size = 0;
            least = WITHOUT;
            lives = WITHOUT;
        }

        void put(int step) {
            if (size < steps.length) {
                steps[size] = step;
                size++;
            }
        }

        void putTest(int subject, int relation, int number) {
            put((subject * 3 + relation) * 100 + number);
        }

        /** The WORDS that a PLAYER KNOWS. */
        int known(Player player, Book book) {
            if (size == 0 || player.kind == LEARNED) {
                return book.all();
            }
            int top = 0;
            for (int k = 0; k < size; k++) {
                int step = steps[k];
                if (step >= 0 && top < OPEN_LIMIT) {
                    open[top] = passing(step, player, book);
                    top++;
                } else if (step == NOT && top > 0) {
                    open[top - 1] = book.all() & ~open[top - 1];
                } else if (step == AND && top > 1) {
                    top--;
                    open[top - 1] &= open[top];
                } else if (step == OR && top > 1) {
                    top--;
                    open[top - 1] |= open[top];
                }
            }
            return open[0];
        }

        private static int passing(int test, Player player, Book book) {
            int relation = test / 100 % 3;
            int number = test % 100;
            int words = 0;
            for (int word = 0; word < book.size; word++) {
                int value = subject(test / 300, player, book, word);
                boolean holds = relation == 0 ? value < number : relation == 1 ? value == number : value > number;
                if (holds) {
                    words |= 1 << word;
                }
            }
            return words;
        }

        private static int subject(int which, Player player, Book book, int word) {
            switch (which) {
                case 0:
                    return player.number;
                case 1:
                    return player.kind;
                case 2:
                    return player.v;
                case 3:
                    return book.common[word];
                case 4:
                    return book.words[word].size;
                default:
                    return book.words[word].at(0);
            }
        }
    }

    /** Reads THE TEXT into a TABLE; at a fault it goes no further. */
    private static final class Reader {
        static final int CLAUSE_LIMIT = 10, NESTING_LIMIT = 4;

        private Line text = new Line(0);
        private Table table = new Table();
        private int at = 0;
        private boolean failed = false;

        /** The FAULT; NONE: there is none. */
        int parse(Line newText, Table newTable) {
            text = newText;
            table = newTable;
            table.clear();
            at = 0;
            failed = false;
            readClause();
            for (int clauses = 1; clauses < CLAUSE_LIMIT && !failed && at < text.size; clauses++) {
                expect(';');
                readClause();
            }
            return failed || at < text.size ? at : NONE;
        }

        private void readClause() {
            if (next() == 'k') {
                boolean isFirst = table.size == 0;
                expectAll("know ");
                readExpression(0);
                if (!isFirst) {
                    table.put(Table.OR);
                }
                return;
            }
            expect('l');
            if (next() == 'e') {
                expectAll("east ");
                table.least = readNumber();
            } else {
                expectAll("ives ");
                table.lives = readNumber();
            }
        }

        private void readExpression(int nesting) {
            boolean orWaits = false;
            readFactor(nesting);
            for (int k = 0; k < TEXT_LIMIT && !failed; k++) {
                if (next() == '&') {
                    at++;
                    readFactor(nesting);
                    table.put(Table.AND);
                } else if (next() == '|') {
                    at++;
                    if (orWaits) {
                        table.put(Table.OR);
                    }
                    orWaits = true;
                    readFactor(nesting);
                } else {
                    break;
                }
            }
            if (orWaits) {
                table.put(Table.OR);
            }
        }

        private void readFactor(int nesting) {
            boolean mayNest = !failed && nesting < NESTING_LIMIT;
            if (mayNest && next() == '!') {
                at++;
                readFactor(nesting + 1);
                table.put(Table.NOT);
            } else if (mayNest && next() == '(') {
                at++;
                readExpression(nesting + 1);
                expect(')');
            } else {
                int subject = readOneOf("pkvclf");
                int relation = readOneOf("<=>");
                table.putTest(subject, relation, readNumber());
            }
        }

        private int readNumber() {
            int number = readOneOf("0123456789");
            boolean isLonger = !failed && next() >= '0' && next() <= '9';
            return isLonger ? number * 10 + readOneOf("0123456789") : number;
        }

        private int readOneOf(String signs) {
            int which = failed ? NONE : signs.indexOf(next());
            if (which < 0) {
                failed = true;
                return 0;
            }
            at++;
            return which;
        }

        private void expectAll(String signs) {
            for (int k = 0; k < signs.length(); k++) {
                expect(signs.charAt(k));
            }
        }

        private void expect(char sign) {
            if (failed || next() != sign) {
                failed = true;
                return;
            }
            at++;
        }

        /** The sign to read; behind the end one that no TABLE has. */
        private char next() {
            return at < text.size ? (char) text.items[at] : (char) 0;
        }
    }

    /** What a TURN changes. */
    private static final class Round {
        final Line row = new Line(ROW_LIMIT);
        final int[] lives = new int[PLAYER_LIMIT];
        int next = 0;
        int last = NONE;
        /** Who LOST in the TURN just played, or NONE. */
        int loser = NONE;

        void restart(int starter) {
            row.clear();
            last = NONE;
            next = starter;
        }

        void copy(Round other) {
            row.copy(other.row);
            System.arraycopy(other.lives, 0, lives, 0, PLAYER_LIMIT);
            next = other.next;
            last = other.last;
            loser = NONE;
        }
    }

    /** All that THE IMAGE holds, and the rules of the TURNS. */
    private static final class Game {
        final Book book = new Book();
        final Player[] players = new Player[PLAYER_LIMIT];
        int size = 0;
        final Round round = new Round();
        final Line seenOf = new Line(SEEN_LIMIT);
        final Line seenWord = new Line(SEEN_LIMIT);
        final Line seenLetters = new Line(SEEN_LIMIT);
        final Line sheet = new Line(SHEET_LIMIT);
        /** At first one without CLAUSES. */
        Table table = new Table();
        /** The WORDS that each PLAYER KNOWS, as recall() found them last. */
        final int[] known = new int[PLAYER_LIMIT];

        Game() {
            for (int k = 0; k < PLAYER_LIMIT; k++) {
                players[k] = new Player();
            }
        }

        boolean hasPlayer(int player) {
            return within(player, 0, size - 1);
        }

        /** The number of a new PLAYER, or FULL. */
        int join(int kind, int v) {
            if (size >= PLAYER_LIMIT) {
                return FULL;
            }
            players[size].become(size, kind, v);
            round.lives[size] = table.lives;
            size++;
            return size - 1;
        }

        void clearSeen() {
            seenOf.clear();
            seenWord.clear();
            seenLetters.clear();
        }

        void putSeen(int player, int word, int letters) {
            seenOf.put(player);
            seenWord.put(word);
            seenLetters.put(letters);
        }

        void copy(Game other) {
            book.copy(other.book);
            for (int k = 0; k < PLAYER_LIMIT; k++) {
                players[k].copy(other.players[k]);
            }
            size = other.size;
            round.copy(other.round);
            seenOf.copy(other.seenOf);
            seenWord.copy(other.seenWord);
            seenLetters.copy(other.seenLetters);
            sheet.copy(other.sheet);
            table = other.table;
        }

        /** To be called ahead of all that asks who KNOWS what. */
        void recall() {
            for (int player = 0; player < size; player++) {
                known[player] = table.known(players[player], book);
            }
        }

        /** To be called ahead of all TURNS. */
        void prepare() {
            recall();
            book.weigh(book.all(), table.least);
        }

        boolean knowsAllSeen(int player) {
            for (int k = 0; k < seenOf.size; k++) {
                int word = seenWord.at(k);
                if (seenOf.at(k) != player || !within(word, 0, book.size - 1)) {
                    continue;
                }
                if ((book.fitting(book.words[word], seenLetters.at(k)) & known[player]) == 0) {
                    return false;
                }
            }
            return true;
        }

        int may(int player) {
            return book.going(book.fitting(round.row, round.row.size) & known[player], round.row.size);
        }

        int safe(int player) {
            int fits = book.fitting(round.row, round.row.size);
            return book.notEnding(fits, round.row.size, may(player), table.least);
        }

        int firstOut(Round r) {
            for (int player = 0; player < size; player++) {
                if (r.lives[player] == 0) {
                    return player;
                }
            }
            return NONE;
        }

        /** The next one by numbers, round, who has LIVES; it may be the same. */
        int following(Round r, int player) {
            for (int k = 1; k <= size; k++) {
                int one = Math.floorMod(player + k, size);
                if (r.lives[one] > 0) {
                    return one;
                }
            }
            return NONE;
        }

        /** Whose TURN it is in truth: who is NEXT may have no LIVES. */
        int acting(Round r) {
            return hasPlayer(r.next) && r.lives[r.next] > 0 ? r.next : following(r, r.next);
        }

        void go(Round r, int turns) {
            for (int turn = 0; turn < turns; turn++) {
                play(r);
            }
        }

        /** A TURN, told as turn() tells it. */
        int play(Round r) {
            r.loser = NONE;
            int who = acting(r);
            if (who < 0) {
                return STATE;
            }
            r.next = who;
            int choice = choose(r, who);
            if (choice != ASKED) {
                return add(r, choice);
            }
            if (r.last < 0) {
                lose(r, who);
                return SOMEBODY_LOST + LOST_INSTEAD;
            }
            boolean isKnown = (book.fitting(r.row, r.row.size) & known[r.last]) != 0;
            lose(r, isKnown ? who : r.last);
            return SOMEBODY_LOST + ASKED;
        }

        /** Who is NEXT, and has LIVES, ADDS a letter; told as turn() tells it. */
        int add(Round r, int letter) {
            r.row.put(letter);
            r.last = r.next;
            if (book.isEnd(book.fitting(r.row, r.row.size), r.row.size, table.least)) {
                lose(r, r.next);
                return SOMEBODY_LOST + letter;
            }
            r.next = following(r, r.next);
            return letter;
        }

        private void lose(Round r, int player) {
            r.loser = player;
            r.lives[player] = Math.max(r.lives[player] - 1, 0);
            r.restart(player);
            int starter = acting(r);
            if (starter >= 0) {
                r.next = starter;
            }
        }

        /** The letter that a PLAYER whose TURN it is ADDS, or ASKED. */
        private int choose(Round r, int who) {
            Player player = players[who];
            int length = r.row.size;
            int fits = book.fitting(r.row, length);
            int may = book.going(fits & known[who], length);
            int safe = book.notEnding(fits, length, may, table.least);
            int part = player.parts[length % TOLD_PARTS];
            if (player.kind == TOLD && isIn(may, part)) {
                return part;
            }
            int leading = player.kind == LED ? safe & book.winning(fits, length, table.least) : 0;
            if (leading != 0) {
                return first(leading);
            }
            if (safe != 0) {
                return isOrIsUnder(player.kind, SLY) ? slyest(r, who, fits, safe) : first(safe);
            }
            if (isOrIsUnder(player.kind, WARY) && r.last >= 0) {
                return ASKED;
            }
            if (may != 0) {
                return first(may);
            }
            return isOrIsUnder(player.kind, BOLD) && !r.row.isFull() ? player.v % LETTERS : ASKED;
        }

        /** The one of the safe letters that leaves the fewest to who is NEXT then. */
        private int slyest(Round r, int who, int fits, int safe) {
            int after = following(r, who);
            int words = after < 0 ? 0 : fits & known[after];
            int best = ASKED;
            int fewest = LETTERS + 1;
            for (int letter = 0; letter < LETTERS; letter++) {
                if (!isIn(safe, letter)) {
                    continue;
                }
                int left = book.going(words & book.having(r.row.size, letter), r.row.size + 1);
                if (Integer.bitCount(left) < fewest) {
                    fewest = Integer.bitCount(left);
                    best = letter;
                }
            }
            return best;
        }
    }

    /** The bodies of the ACTS, and the TRACE of those that ran. */
    private static final class Acts {
        static final int ADDS = 0, ASKS = 1, TELLS = 2, ACT_COUNT = 3;
        /** More than the bodies can stand open at once. */
        static final int DEPTH_LIMIT = 20;
        static final int TRACE_LIMIT = 20;
        /** The body of a KIND for an act, at kind * ACT_COUNT + act; 0: it has none. */
        static final int[] BODIES = {
            10, 11, 12,
            0, 20, 0,
            30, 0, 0,
            0, 0, 40,
            50, 51, 0,
            0, 0, 60,
            71, 70, 0};

        final Line began = new Line(TRACE_LIMIT);
        int ran = 0;

        void clear() {
            began.clear();
            ran = 0;
        }

        int run(Player p, int act, int x) {
            return runFrom(this, p.kind, p, act, x, 0);
        }

        /** Runs the body of a KIND, or of the next KIND above that has one. */
        private static int runFrom(Acts acts, int kind, Player p, int act, int x, int depth) {
            int owner = ownerFrom(kind, act);
            if (owner < 0 || depth >= DEPTH_LIMIT) {
                return 0;
            }
            int body = BODIES[owner * ACT_COUNT + act];
            acts.began.put(body);
            acts.ran++;
            int own = p.kind;
            int above = ABOVE[owner];
            int deeper = depth + 1;
            switch (body) {
                case 10:
                    return x + p.number;
                case 11:
                    return runFrom(acts, own, p, ADDS, x, deeper) - p.v;
                case 12:
                    return runFrom(acts, own, p, ASKS, x, deeper) * 2;
                case 20:
                    return runFrom(acts, above, p, ASKS, x, deeper) ^ 6;
                case 30:
                    return runFrom(acts, above, p, ADDS, x * 3, deeper);
                case 40:
                    return runFrom(acts, above, p, TELLS, x, deeper) + runFrom(acts, own, p, ASKS, 1, deeper);
                case 50:
                    return -runFrom(acts, above, p, ADDS, x, deeper);
                case 51:
                    return runFrom(acts, above, p, ASKS, x + 1, deeper);
                case 60:
                    return runFrom(acts, above, p, TELLS, x - p.number, deeper);
                case 70:
                    return runFrom(acts, above, p, ASKS, x, deeper) + runFrom(acts, above, p, ADDS, 2, deeper);
                case 71:
                    return runFrom(acts, above, p, ADDS, x, deeper) ^ p.v;
                default:
                    return 0;
            }
        }

        private static int ownerFrom(int kind, int act) {
            int owner = kind;
            for (int steps = 0; steps < ABOVE.length && isKind(owner); steps++) {
                if (BODIES[owner * ACT_COUNT + act] != 0) {
                    return owner;
                }
                owner = ABOVE[owner];
            }
            return NONE;
        }
    }

    /** A TAPE; items of every sort are kept as longs, made narrow as they come. */
    private static final class Tape {
        static final int EMPTY = -1, BYTES = 0, SHORTS = 1, INTS = 2, BOOLEANS = 4;
        static final int LIMIT = 60;

        final long[] items = new long[LIMIT];
        int sort = EMPTY;
        int size = 0;

        boolean holds() {
            return sort != EMPTY;
        }

        void become(int newSort, int newSize) {
            sort = newSort;
            size = newSize;
            Arrays.fill(items, 0L);
        }

        /** Whether n items from a place on are all there. */
        boolean hasPart(int place, int n) {
            return n >= 0 && place >= 0 && place <= size && n <= size - place;
        }

        long narrowed(long v) {
            switch (sort) {
                case BYTES:
                    return (byte) v;
                case SHORTS:
                    return (short) v;
                case INTS:
                    return (int) v;
                case BOOLEANS:
                    return v != 0 ? 1 : 0;
                default:
                    return v;
            }
        }
    }
}
