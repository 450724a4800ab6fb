import java.util.Arrays;

/** A river that goes where they vote. What each call answers stands in ../shared/DOC.md. */
public final class VotedRiver {
    public static final int NONE = -1;

    private static final int NODES = 16;
    private static final int ARMS = 3;

    private static final int FORK = 0;
    private static final int TOWN = 1;
    private static final int SEA = 2;

    // What is told of a town, numbered as of() numbers it.
    private static final int HEADS = 0;
    private static final int NEED = 1;
    private static final int DAMS = 2;
    private static final int STORE = 3;
    private static final int GOT = 4;
    private static final int DRY = 5;
    private static final int DEFEATS = 6;
    private static final int WET = 7;
    private static final int MOVERS = 8;

    // The settings, numbered as set() numbers them.
    private static final int BASE = 0;
    private static final int TRICKLE = 1;
    private static final int DROUGHT = 2;
    private static final int SPATE = 3;
    private static final int SETTINGS = 4;
    private static final int[] SETTING_MOST = {999, 33, 1000, 1000};

    private static final int FIRST_BASE = 100;
    private static final int HEADS_MOST = 9999;
    private static final int NEED_MOST = 999;
    private static final int HEADS_TEXT_MOST = 999;
    private static final int DAMS_MOST = 9;
    private static final int STORE_OF_A_DAM = 50;
    private static final int DRY_MOST = 99;
    private static final int WON_MOST = 99;
    private static final int BOUGHT_MOST = 999;
    private static final int DEFEATS_OF_A_DAM = 10;
    private static final int DAY_MOST = 9999;
    private static final int DAYS_MOST = 100;
    private static final int ENDS_MOST = 200;
    private static final int ROWS_MOST = 99;
    private static final int FORKS_OF_WAYS = 7;

    private static final int BOOK_LINES = 150;
    private static final int BOOK_ITEMS = 4;
    private static final int TAPE_MOST = 400;
    private static final int FEED_BYTES = 20;
    private static final int LAW_LINES = 16;
    private static final int OPEN_MOST = 8;
    private static final int UNDO_MOST = 5;

    private static final int TEXT_DELTA = 0;
    private static final int TEXT_VOTES = 1;
    private static final int TEXT_MOVES = 2;

    // The keywords of each text; a keyword's number is its place in its row.
    private static final String DELTA_WORDS = "fork town sea to and needs";
    private static final int WORD_TO = 3;
    private static final int WORD_AND_NODE = 4;
    private static final int WORD_NEEDS = 5;
    private static final String VOTE_WORDS =
            "vote when or and not heads dry got need far arm won twice day fork";
    private static final String MOVE_WORDS =
            "move when or and not heads dry got need dams day town";
    private static final int WORD_LINE = 0;
    private static final int WORD_WHEN = 1;
    private static final int WORD_OR = 2;
    private static final int WORD_AND = 3;
    private static final int WORD_NOT = 4;
    private static final int WORD_ASKED = 5;
    private static final int ASKED_MOST = 10;

    private static final int NUMBER_MOST = 9999;

    private static final int FAULT_SIGN = 1;
    private static final int FAULT_NUMBER = 2;
    private static final int FAULT_MANY = 3;
    private static final int FAULT_WHOLE = 4;

    private final Told now;
    private final Told image;
    private final Told spare;
    private final Past past;
    private final Reader reader;
    private final Parser parser;
    private final River river;
    private final Thought thought;
    private final Counsel counsel;
    private boolean imaged;

    public VotedRiver() {
        now = new Told();
        image = new Told();
        spare = new Told();
        past = new Past();
        reader = new Reader();
        parser = new Parser(reader);
        river = new River();
        thought = new Thought(river, spare);
        counsel = new Counsel(river, spare);
        imaged = false;
        now.beginAtSea();
    }

    public int state(int v) {
        int before = now.state.draws;
        now.state.draws = v;
        past.forget();
        return before;
    }

    public boolean set(int what, int v) {
        if (what < 0 || what >= SETTINGS || !within(v, 0, SETTING_MOST[what])) {
            return false;
        }
        now.state.setting[what] = v;
        past.forget();
        return true;
    }

    public boolean town(int node, int what, int v) {
        if (!now.delta.isTown(node) || !townMayHave(node, what, v)) {
            return false;
        }
        int[][] town = now.state.town;
        town[what][node] = v;
        town[STORE][node] = Math.min(town[STORE][node], STORE_OF_A_DAM * town[DAMS][node]);
        past.forget();
        return true;
    }

    private boolean townMayHave(int node, int what, int v) {
        switch (what) {
            case HEADS:
                return within(v, 0, HEADS_MOST);
            case NEED:
                return within(v, 1, NEED_MOST);
            case DAMS:
                return within(v, 0, DAMS_MOST);
            case STORE:
                return within(v, 0, STORE_OF_A_DAM * now.state.town[DAMS][node]);
            default:
                return false;
        }
    }

    public boolean buy(int fork, int arm, int n) {
        if (!now.delta.hasArm(fork, arm) || !within(n, 0, BOUGHT_MOST)) {
            return false;
        }
        now.state.bought[fork * ARMS + arm] = n;
        past.forget();
        return true;
    }

    public boolean dig(int fork, int arm, int to) {
        if (!now.delta.hasArm(fork, arm) || !now.delta.hasNode(to) || to <= fork) {
            return false;
        }
        now.delta.to[fork * ARMS + arm] = to;
        now.delta.measure();
        past.forget();
        return true;
    }

    public int feed(int a, int b, int c, int d, int e) {
        if (reader.length > TAPE_MOST - FEED_BYTES) {
            return NONE;
        }
        reader.append(a);
        reader.append(b);
        reader.append(c);
        reader.append(d);
        reader.append(e);
        return reader.length;
    }

    public boolean end(int n) {
        if (n < 0 || n > reader.length) {
            return false;
        }
        reader.length = n;
        return true;
    }

    public int text(int k) {
        reader.forgetFault();
        int size = NONE;
        if (k == TEXT_DELTA) {
            size = tellDelta();
        } else if (k == TEXT_VOTES) {
            size = tellLaw(now.votes, spare.votes, VOTE_WORDS);
        } else if (k == TEXT_MOVES) {
            size = tellLaw(now.moves, spare.moves, MOVE_WORDS);
        }
        reader.length = 0;
        return size;
    }

    private int tellDelta() {
        spare.copyFrom(now);
        spare.clearDelta();
        if (!parser.readDelta(spare)) {
            return NONE;
        }
        spare.openFirstArms();
        spare.delta.measure();
        now.copyFrom(spare);
        past.forget();
        return now.delta.nodes;
    }

    private int tellLaw(Law law, Law draft, String words) {
        if (!parser.readLaw(draft, words)) {
            return NONE;
        }
        law.copyFrom(draft);
        return law.lines;
    }

    public int fault(int what) {
        if (what == 0) {
            return reader.fault;
        }
        return what == 1 ? reader.faultPlace : NONE;
    }

    public int days(int n) {
        if (!within(n, 1, DAYS_MOST) || now.state.day + n > DAY_MOST) {
            return NONE;
        }
        int floods = now.state.floods;
        for (int i = 0; i < n; i++) {
            past.keep(now.state);
            river.passDay(now);
        }
        return now.state.floods - floods;
    }

    public int node(int node, int what) {
        Delta delta = now.delta;
        if (!delta.hasNode(node)) {
            return NONE;
        }
        if (what == 0) {
            return delta.sort[node];
        }
        if (what == 1) {
            return delta.arms[node];
        }
        return what >= 10 && what < 10 + delta.arms[node] ? delta.to[node * ARMS + what - 10] : NONE;
    }

    public int fork(int node, int what) {
        if (!now.delta.isFork(node)) {
            return NONE;
        }
        int arms = now.delta.arms[node];
        if (what == 0) {
            return now.state.open[node];
        }
        if (what == 1) {
            return now.state.won[node];
        }
        if (what >= 10 && what < 10 + arms) {
            river.countVotes(now, node);
            return river.sum[what - 10];
        }
        return what >= 20 && what < 20 + arms ? now.state.bought[node * ARMS + what - 20] : NONE;
    }

    public int of(int node, int what) {
        if (!now.delta.isTown(node) || !within(what, HEADS, MOVERS)) {
            return NONE;
        }
        return what == MOVERS ? river.movers(now, node) : now.state.town[what][node];
    }

    public int votes(int town, int fork, int arm) {
        if (!now.delta.isTown(town) || !now.delta.hasArm(fork, arm)) {
            return NONE;
        }
        return river.votesOf(now, town, fork, arm);
    }

    public int came(int from, int to) {
        boolean there = now.delta.hasNode(from) && now.delta.hasNode(to);
        return there ? now.state.came[from * NODES + to] : NONE;
    }

    public int book(int i, int what) {
        if (i < 0 || i >= now.state.lines || what < 0 || what >= BOOK_ITEMS) {
            return NONE;
        }
        return now.book[i * BOOK_ITEMS + what];
    }

    public int later(int n, int node, int what) {
        if (!within(n, 0, DAYS_MOST) || !now.delta.isTown(node) || !within(what, HEADS, WET)) {
            return NONE;
        }
        return thought.townLater(now, n, node, what);
    }

    public int ends(int what) {
        if (what != 0 && what != 1) {
            return NONE;
        }
        int last = thought.roundEnd(now);
        if (last == NONE) {
            return NONE;
        }
        return what == 0 ? thought.roundStart : last - thought.roundStart;
    }

    public int thirst(int town) {
        return now.delta.isTown(town) ? thought.firstThirst(now, town) : NONE;
    }

    public int power(int fork, int town) {
        if (!now.delta.isFork(fork) || !now.delta.isTown(town)) {
            return NONE;
        }
        return counsel.powerAt(now, fork, town);
    }

    public int fewest(int fork, int arm) {
        return now.delta.hasArm(fork, arm) ? counsel.fewestTowns(now, fork, arm) : NONE;
    }

    public int least(int town, int what) {
        if (!now.delta.isTown(town) || what != 0 && !asksFork(what)) {
            return NONE;
        }
        int all = counsel.leastBought(now, town);
        if (all == NONE || what == 0) {
            return all;
        }
        return counsel.leastAt[what - 10];
    }

    /** Whether 10 + f is asked, and f is a fork: 10 + another node is no such what. */
    private boolean asksFork(int what) {
        return what >= 10 && now.delta.isFork(what - 10);
    }

    public int best(int what) {
        if (!within(what, 0, 3) || !counsel.findBestDig(now)) {
            return NONE;
        }
        return counsel.bestDig[what];
    }

    public int most(int set) {
        return counsel.canWeigh(now, set) ? counsel.mostWater(now, set) : NONE;
    }

    public int mud(int set, int what) {
        if (!counsel.canWeigh(now, set) || what != 0 && !asksFork(what)) {
            return NONE;
        }
        int ways = counsel.countWays(now, set);
        return what == 0 ? ways : counsel.firstWay[what - 10];
    }

    public int twice(int fork) {
        return now.delta.isFork(fork) ? counsel.twiceBehind(now.delta, fork) : NONE;
    }

    public int rows(int a, int b, int c, int day) {
        if (!within(a, 0, ROWS_MOST) || !within(b, 0, ROWS_MOST) || !within(c, 0, ROWS_MOST)) {
            return NONE;
        }
        int n = a + b + c;
        if (n > ROWS_MOST || day < 0 || day >= n) {
            return NONE;
        }
        return counsel.armOfRow(a, b, c, day);
    }

    public boolean undo() {
        return past.goBack(now.state);
    }

    public boolean image(boolean taken) {
        if (taken) {
            image.copyFrom(now);
            imaged = true;
            return true;
        }
        if (!imaged) {
            return false;
        }
        now.copyFrom(image);
        past.forget();
        return true;
    }

    public int look(int what) {
        State state = now.state;
        switch (what) {
            case 0:
                return now.delta.nodes;
            case 1:
                return state.day;
            case 2:
                return state.lines;
            case 3:
                return state.seas;
            case 4:
                return state.floods;
            case 5:
                return state.draws;
            case 6:
                return now.votes.lines;
            case 7:
                return now.moves.lines;
            case 8:
                return past.kept;
            case 9:
                return allHeads();
            default:
                return what >= 10 && what < 10 + SETTINGS ? state.setting[what - 10] : NONE;
        }
    }

    private int allHeads() {
        int sum = 0;
        for (int node = 0; node < now.delta.nodes; node++) {
            sum += now.state.town[HEADS][node];
        }
        return sum;
    }

    private static boolean within(int v, int least, int most) {
        return v >= least && v <= most;
    }

    private static boolean holds(int set, int member) {
        return (set >> member & 1) != 0;
    }

    /** The nodes, their arms, and how far each is from each. */
    private static final class Delta {
        int nodes;
        final int[] sort = new int[NODES];
        final int[] arms = new int[NODES];
        final int[] to = new int[NODES * ARMS];
        // The fewest steps from a node to another one; NONE without a way.
        final int[] steps = new int[NODES * NODES];

        void clear() {
            nodes = 0;
            Arrays.fill(sort, 0);
            Arrays.fill(arms, 0);
            Arrays.fill(to, 0);
            Arrays.fill(steps, NONE);
        }

        void copyFrom(Delta other) {
            nodes = other.nodes;
            System.arraycopy(other.sort, 0, sort, 0, sort.length);
            System.arraycopy(other.arms, 0, arms, 0, arms.length);
            System.arraycopy(other.to, 0, to, 0, to.length);
            System.arraycopy(other.steps, 0, steps, 0, steps.length);
        }

        boolean hasNode(int node) {
            return node >= 0 && node < nodes;
        }

        boolean isFork(int node) {
            return hasNode(node) && sort[node] == FORK;
        }

        boolean isTown(int node) {
            return hasNode(node) && sort[node] == TOWN;
        }

        boolean hasArm(int fork, int arm) {
            return isFork(fork) && arm >= 0 && arm < arms[fork];
        }

        /** Arms go to greater numbers, so that from the last node up each way is known in time. */
        void measure() {
            Arrays.fill(steps, NONE);
            for (int node = nodes - 1; node >= 0; node--) {
                steps[node * NODES + node] = 0;
                for (int arm = 0; arm < arms[node]; arm++) {
                    measureBy(node, to[node * ARMS + arm]);
                }
            }
        }

        private void measureBy(int node, int next) {
            for (int goal = next; goal < nodes; goal++) {
                int far = steps[next * NODES + goal];
                int known = steps[node * NODES + goal];
                if (far != NONE && (known == NONE || far + 1 < known)) {
                    steps[node * NODES + goal] = far + 1;
                }
            }
        }

        /** The steps from a fork by an arm to a node; NONE if the node is not behind it. */
        int farBy(int fork, int arm, int node) {
            int far = steps[to[fork * ARMS + arm] * NODES + node];
            return far == NONE ? NONE : far + 1;
        }

        int armsBefore(int fork, int node) {
            int count = 0;
            for (int arm = 0; arm < arms[fork]; arm++) {
                if (farBy(fork, arm, node) != NONE) {
                    count++;
                }
            }
            return count;
        }
    }

    /** What a day changes, with the settings. */
    private static final class State {
        int day;
        int floods;
        int seas;
        int draws;
        // How many lines the book has.
        int lines;
        final int[] setting = new int[SETTINGS];
        final int[][] town = new int[WET + 1][NODES];
        final int[] open = new int[NODES];
        final int[] won = new int[NODES];
        final int[] bought = new int[NODES * ARMS];
        final int[] came = new int[NODES * NODES];

        /** All is as at first, but for the settings and the state of draws. */
        void clear() {
            day = 0;
            floods = 0;
            seas = 0;
            lines = 0;
            for (int row = 0; row < town.length; row++) {
                Arrays.fill(town[row], 0);
            }
            Arrays.fill(open, 0);
            Arrays.fill(won, 0);
            Arrays.fill(bought, 0);
            Arrays.fill(came, 0);
        }

        void copyFrom(State other) {
            day = other.day;
            floods = other.floods;
            seas = other.seas;
            draws = other.draws;
            lines = other.lines;
            System.arraycopy(other.setting, 0, setting, 0, setting.length);
            for (int row = 0; row < town.length; row++) {
                System.arraycopy(other.town[row], 0, town[row], 0, NODES);
            }
            System.arraycopy(other.open, 0, open, 0, open.length);
            System.arraycopy(other.won, 0, won, 0, won.length);
            System.arraycopy(other.bought, 0, bought, 0, bought.length);
            System.arraycopy(other.came, 0, came, 0, came.length);
        }

        int draw(int m) {
            draws = draws * 1664525 + 1013904223;
            return m > 0 ? (draws >>> 8) % m : 0;
        }
    }

    /** All that is and was told, but the tape. */
    private static final class Told {
        final Delta delta = new Delta();
        final State state = new State();
        final Law votes = new Law();
        final Law moves = new Law();
        final int[] book = new int[BOOK_LINES * BOOK_ITEMS];

        void copyFrom(Told other) {
            delta.copyFrom(other.delta);
            state.copyFrom(other.state);
            votes.copyFrom(other.votes);
            moves.copyFrom(other.moves);
            System.arraycopy(other.book, 0, book, 0, book.length);
        }

        void clearDelta() {
            delta.clear();
            state.clear();
        }

        void beginAtSea() {
            clearDelta();
            delta.nodes = 1;
            delta.sort[0] = SEA;
            delta.measure();
            state.setting[BASE] = FIRST_BASE;
        }

        void openFirstArms() {
            for (int node = 0; node < delta.nodes; node++) {
                state.open[node] = delta.sort[node] == FORK ? 1 : 0;
            }
        }

        void writeLine(int fork, int most) {
            if (state.lines >= BOOK_LINES) {
                return;
            }
            int at = state.lines * BOOK_ITEMS;
            book[at] = state.day;
            book[at + 1] = fork;
            book[at + 2] = state.open[fork];
            book[at + 3] = most;
            state.lines++;
        }
    }

    /** The days that can be undone. */
    private static final class Past {
        final State[] days = new State[UNDO_MOST];
        int kept;
        private int next;

        Past() {
            for (int i = 0; i < UNDO_MOST; i++) {
                days[i] = new State();
            }
        }

        void forget() {
            kept = 0;
            next = 0;
        }

        void keep(State state) {
            days[next].copyFrom(state);
            next = (next + 1) % UNDO_MOST;
            kept = Math.min(kept + 1, UNDO_MOST);
        }

        boolean goBack(State state) {
            if (kept == 0) {
                return false;
            }
            next = (next + UNDO_MOST - 1) % UNDO_MOST;
            kept--;
            state.copyFrom(days[next]);
            return true;
        }
    }

    /** A law: for each line its amount and its condition, as steps of a stack machine. */
    private static final class Law {
        static final int ASK = 10000;
        static final int WORK = 20000;
        // Signs work by their own numbers; these three stand below all signs.
        static final int AND = WORK + 1;
        static final int OR = WORK + 2;
        static final int NOT = WORK + 3;
        static final int STACK = 64;

        int lines;
        int size;
        final int[] code = new int[TAPE_MOST];
        // Line i: its amount from 2 i on, its condition from 2 i + 1 on.
        final int[] start = new int[2 * LAW_LINES + 1];
        private final int[] stack = new int[STACK];

        void clear() {
            lines = 0;
            size = 0;
        }

        void copyFrom(Law other) {
            lines = other.lines;
            size = other.size;
            System.arraycopy(other.code, 0, code, 0, code.length);
            System.arraycopy(other.start, 0, start, 0, start.length);
        }

        void put(int step) {
            if (size < code.length) {
                code[size] = step;
                size++;
            }
        }

        void markCondition() {
            start[2 * lines + 1] = size;
        }

        void closeLine() {
            lines++;
            start[2 * lines] = size;
        }

        /** By the first line that fits, held to 0 .. most; without one what is told otherwise. */
        int amount(int[] asked, int otherwise, int most) {
            for (int line = 0; line < lines; line++) {
                int condition = start[2 * line + 1];
                int behind = start[2 * line + 2];
                if (condition == behind || run(condition, behind, asked) != 0) {
                    return Math.max(0, Math.min(most, run(start[2 * line], condition, asked)));
                }
            }
            return otherwise;
        }

        private int run(int from, int to, int[] asked) {
            int top = 0;
            for (int i = from; i < to; i++) {
                int step = code[i];
                if (step < WORK) {
                    if (top < STACK) {
                        stack[top] = step < ASK ? step : asked[step - ASK];
                        top++;
                    }
                } else if (step == NOT) {
                    if (top > 0) {
                        stack[top - 1] = 1 - stack[top - 1];
                    }
                } else if (top > 1) {
                    top--;
                    int a = stack[top - 1];
                    int b = stack[top];
                    switch (step) {
                        case AND:
                            a &= b;
                            break;
                        case OR:
                            a |= b;
                            break;
                        case WORK + '+':
                            a += b;
                            break;
                        case WORK + '-':
                            a -= b;
                            break;
                        case WORK + '*':
                            a *= b;
                            break;
                        case WORK + '/':
                            a = b == 0 ? 0 : a / b;
                            break;
                        case WORK + '<':
                            a = a < b ? 1 : 0;
                            break;
                        case WORK + '=':
                            a = a == b ? 1 : 0;
                            break;
                        default:
                            a = a > b ? 1 : 0;
                    }
                    stack[top - 1] = a;
                }
            }
            return top > 0 ? stack[0] : 0;
        }
    }

    /** The tape, its tokens one by one, and the first fault. */
    private static final class Reader {
        static final int END = 0;
        static final int WORD = 1;
        static final int NUMBER = 2;
        static final int SIGN = 3;
        static final int BAD = 4;
        static final int DIGITS_MOST = 4;
        static final String SIGNS = ";+-*/()<=>";

        final int[] tape = new int[TAPE_MOST];
        int length;
        int fault;
        int faultPlace = NONE;
        // Of the token that stands here: its sort, its number (of a keyword, a number, a sign).
        int kind;
        int value;
        // All tokens, the end too: sort, number, place.
        private final int[] kinds = new int[TAPE_MOST + 1];
        private final int[] values = new int[TAPE_MOST + 1];
        private final int[] places = new int[TAPE_MOST + 1];
        private int last;
        private int token;

        void append(int four) {
            for (int shift = 24; shift >= 0; shift -= 8) {
                if (length < TAPE_MOST) {
                    tape[length] = four >>> shift & 255;
                    length++;
                }
            }
        }

        void forgetFault() {
            fault = 0;
            faultPlace = NONE;
        }

        boolean refuse(int what) {
            fault = what;
            faultPlace = places[token];
            return false;
        }

        void begin(String words) {
            int at = 0;
            last = 0;
            while (at < length) {
                if (tape[at] == ' ' || tape[at] == '\n') {
                    at++;
                } else {
                    at = scan(at, words);
                    last++;
                }
            }
            kinds[last] = END;
            values[last] = 0;
            places[last] = length;
            token = 0;
            kind = kinds[0];
            value = values[0];
        }

        void next() {
            token = Math.min(token + 1, last);
            kind = kinds[token];
            value = values[token];
        }

        /** Takes the token that begins here as the last one; answers the place behind it. */
        private int scan(int from, String words) {
            int sign = tape[from];
            places[last] = from;
            if (isLetter(sign)) {
                return scanWord(from, words);
            }
            if (isDigit(sign)) {
                return scanNumber(from);
            }
            kinds[last] = SIGNS.indexOf((char) sign) >= 0 ? SIGN : BAD;
            values[last] = sign;
            return from + 1;
        }

        private int scanWord(int from, String words) {
            int to = from;
            while (to < length && isLetter(tape[to])) {
                to++;
            }
            kinds[last] = BAD;
            values[last] = 0;
            int number = 0;
            int begun = 0;
            for (int i = 0; i <= words.length(); i++) {
                if (i == words.length() || words.charAt(i) == ' ') {
                    if (i - begun == to - from && isWordAt(from, words, begun, i)) {
                        kinds[last] = WORD;
                        values[last] = number;
                    }
                    number++;
                    begun = i + 1;
                }
            }
            return to;
        }

        private boolean isWordAt(int place, String words, int from, int to) {
            for (int i = from; i < to; i++) {
                if (words.charAt(i) != tape[place + i - from]) {
                    return false;
                }
            }
            return true;
        }

        private int scanNumber(int from) {
            int to = from;
            int number = 0;
            while (to < length && isDigit(tape[to])) {
                if (to - from < DIGITS_MOST) {
                    number = number * 10 + tape[to] - '0';
                }
                to++;
            }
            kinds[last] = to - from <= DIGITS_MOST ? NUMBER : BAD;
            values[last] = number;
            return to;
        }

        private static boolean isLetter(int sign) {
            return sign >= 'a' && sign <= 'z' || sign >= 'A' && sign <= 'Z';
        }

        private static boolean isDigit(int sign) {
            return sign >= '0' && sign <= '9';
        }

        boolean isWord(int word) {
            return kind == WORD && value == word;
        }

        boolean isSign(char sign) {
            return kind == SIGN && value == sign;
        }

        boolean takeWord(int word) {
            if (!isWord(word)) {
                return refuse(FAULT_SIGN);
            }
            next();
            return true;
        }

        boolean takeSign(char sign) {
            if (!isSign(sign)) {
                return refuse(FAULT_SIGN);
            }
            next();
            return true;
        }

        /** The number that stands here must lie so; the token stays for the caller to read. */
        boolean findNumber(int least, int most) {
            if (kind != NUMBER) {
                return refuse(FAULT_SIGN);
            }
            return within(value, least, most) || refuse(FAULT_NUMBER);
        }
    }

    /** Reads the texts by their grammar; each method answers false behind a fault. */
    private static final class Parser {
        private final Reader reader;

        Parser(Reader reader) {
            this.reader = reader;
        }

        boolean readDelta(Told into) {
            reader.begin(DELTA_WORDS);
            for (int i = 0; i <= NODES && reader.kind != Reader.END; i++) {
                if (!readNode(into)) {
                    return false;
                }
            }
            boolean whole = into.delta.nodes > 0 && allThere(into.delta);
            return whole || reader.refuse(FAULT_WHOLE);
        }

        private static boolean allThere(Delta delta) {
            for (int node = 0; node < delta.nodes; node++) {
                for (int arm = 0; arm < delta.arms[node]; arm++) {
                    if (delta.to[node * ARMS + arm] >= delta.nodes) {
                        return false;
                    }
                }
            }
            return true;
        }

        private boolean readNode(Told into) {
            Delta delta = into.delta;
            int node = delta.nodes;
            int sort = reader.value;
            if (reader.kind != Reader.WORD || sort > SEA) {
                return reader.refuse(FAULT_SIGN);
            }
            if (node >= NODES) {
                return reader.refuse(FAULT_MANY);
            }
            reader.next();
            delta.sort[node] = sort;
            if (sort == FORK && !readFork(delta, node)) {
                return false;
            }
            if (sort == TOWN && !readTown(delta, into.state, node)) {
                return false;
            }
            delta.nodes++;
            return reader.takeSign(';');
        }

        private boolean readFork(Delta delta, int node) {
            if (!reader.takeWord(WORD_TO) || !readTarget(delta, node)
                    || !reader.takeWord(WORD_AND_NODE) || !readTarget(delta, node)) {
                return false;
            }
            if (!reader.isWord(WORD_AND_NODE)) {
                return true;
            }
            reader.next();
            return readTarget(delta, node);
        }

        private boolean readTown(Delta delta, State state, int node) {
            if (!reader.findNumber(0, HEADS_TEXT_MOST)) {
                return false;
            }
            state.town[HEADS][node] = reader.value;
            reader.next();
            if (!reader.takeWord(WORD_NEEDS) || !reader.findNumber(1, NEED_MOST)) {
                return false;
            }
            state.town[NEED][node] = reader.value;
            reader.next();
            return reader.takeWord(WORD_TO) && readTarget(delta, node);
        }

        private boolean readTarget(Delta delta, int node) {
            if (!reader.findNumber(node + 1, NODES - 1)) {
                return false;
            }
            int arm = delta.arms[node];
            if (arm < ARMS) {
                delta.to[node * ARMS + arm] = reader.value;
                delta.arms[node] = arm + 1;
            }
            reader.next();
            return true;
        }

        boolean readLaw(Law law, String words) {
            law.clear();
            reader.begin(words);
            for (int i = 0; i <= LAW_LINES && reader.kind != Reader.END; i++) {
                if (!beginLine(law) || !readSum(law)) {
                    return false;
                }
                law.markCondition();
                if (reader.isWord(WORD_WHEN)) {
                    reader.next();
                    if (!readChoice(law, 0)) {
                        return false;
                    }
                }
                law.closeLine();
                if (!reader.takeSign(';')) {
                    return false;
                }
            }
            return true;
        }

        private boolean beginLine(Law law) {
            if (!reader.isWord(WORD_LINE)) {
                return reader.refuse(FAULT_SIGN);
            }
            if (law.lines >= LAW_LINES) {
                return reader.refuse(FAULT_MANY);
            }
            reader.next();
            return true;
        }

        /** B of the grammar, with its A; depth: how many ( and not are open. */
        private boolean readChoice(Law law, int depth) {
            for (int ors = 0; ors < TAPE_MOST; ors++) {
                for (int ands = 0; ands < TAPE_MOST; ands++) {
                    if (!readCondition(law, depth)) {
                        return false;
                    }
                    if (ands > 0) {
                        law.put(Law.AND);
                    }
                    if (!reader.isWord(WORD_AND)) {
                        break;
                    }
                    reader.next();
                }
                if (ors > 0) {
                    law.put(Law.OR);
                }
                if (!reader.isWord(WORD_OR)) {
                    break;
                }
                reader.next();
            }
            return true;
        }

        /** C of the grammar. */
        private boolean readCondition(Law law, int depth) {
            boolean not = reader.isWord(WORD_NOT);
            if (not || reader.isSign('(')) {
                if (depth >= OPEN_MOST) {
                    return reader.refuse(FAULT_MANY);
                }
                reader.next();
                if (!not) {
                    return readChoice(law, depth + 1) && reader.takeSign(')');
                }
                if (!readCondition(law, depth + 1)) {
                    return false;
                }
                law.put(Law.NOT);
                return true;
            }
            if (!readSum(law)) {
                return false;
            }
            if (!reader.isSign('<') && !reader.isSign('=') && !reader.isSign('>')) {
                return reader.refuse(FAULT_SIGN);
            }
            int sign = reader.value;
            reader.next();
            if (!readSum(law)) {
                return false;
            }
            law.put(Law.WORK + sign);
            return true;
        }

        /** E of the grammar, with its T; + and - wait until the part behind them is whole. */
        private boolean readSum(Law law) {
            int waiting = 0;
            boolean whole = readUnit(law);
            for (int i = 0; i < TAPE_MOST && whole; i++) {
                boolean sum = reader.isSign('+') || reader.isSign('-');
                boolean product = reader.isSign('*') || reader.isSign('/');
                int sign = reader.value;
                if (!product && waiting != 0) {
                    law.put(Law.WORK + waiting);
                    waiting = 0;
                }
                if (!sum && !product) {
                    return true;
                }
                reader.next();
                whole = (sign != '/' || reader.findNumber(1, NUMBER_MOST)) && readUnit(law);
                if (product) {
                    law.put(Law.WORK + sign);
                } else {
                    waiting = sign;
                }
            }
            return whole;
        }

        /** U of the grammar. */
        private boolean readUnit(Law law) {
            if (reader.kind == Reader.NUMBER) {
                law.put(reader.value);
            } else if (reader.kind == Reader.WORD && reader.value >= WORD_ASKED) {
                law.put(Law.ASK + reader.value - WORD_ASKED);
            } else {
                return reader.refuse(FAULT_SIGN);
            }
            reader.next();
            return true;
        }
    }

    /** Where the water of one day goes; it changes nothing that is told. */
    private static final class Water {
        // What comes to each node; of a town it is its GOT.
        final int[] comes = new int[NODES];
        final int[] store = new int[NODES];
        final int[] sent = new int[NODES * ARMS];
        int wet;
        int seas;

        void run(Delta delta, State state, int[] open, int flow) {
            Arrays.fill(comes, 0);
            Arrays.fill(sent, 0);
            wet = 0;
            seas = 0;
            comes[0] = flow;
            for (int node = 0; node < delta.nodes; node++) {
                if (delta.sort[node] == FORK) {
                    part(delta, node, open[node], state.setting[TRICKLE]);
                } else if (delta.sort[node] == TOWN) {
                    serve(delta, state, node);
                } else {
                    seas += comes[node];
                }
            }
        }

        private void part(Delta delta, int fork, int open, int trickle) {
            int arms = delta.arms[fork];
            int parts = Integer.bitCount(open);
            int small = comes[fork] * trickle / 100;
            int rest = comes[fork] - small * (arms - parts);
            int like = parts > 0 ? rest / parts : 0;
            int over = rest - like * parts;
            for (int arm = 0; arm < arms; arm++) {
                if (!holds(open, arm)) {
                    send(delta, fork * ARMS + arm, small);
                } else {
                    send(delta, fork * ARMS + arm, over > 0 ? like + 1 : like);
                    over--;
                }
            }
        }

        private void serve(Delta delta, State state, int town) {
            int had = state.town[STORE][town];
            int room = STORE_OF_A_DAM * state.town[DAMS][town] - had;
            int over = comes[town] - state.town[NEED][town];
            // What the store takes; below 0 it gives.
            int taken = over > 0 ? Math.min(over, room) : Math.max(over, -had);
            store[town] = had + taken;
            if (over - taken >= 0) {
                wet |= 1 << town;
            }
            send(delta, town * ARMS, Math.max(0, over - taken));
        }

        private void send(Delta delta, int slot, int amount) {
            sent[slot] = amount;
            comes[delta.to[slot]] += amount;
        }
    }

    /** Days and evenings. */
    private static final class River {
        final Water water = new Water();
        // Of the fork that was counted last: votes for each arm, and of each town for each arm.
        final int[] sum = new int[ARMS];
        final int[] cast = new int[NODES * ARMS];
        private final int[] asked = new int[ASKED_MOST];

        void passDay(Told t) {
            water.run(t.delta, t.state, t.state.open, drawnFlow(t.state));
            takeWater(t.delta, t.state);
            for (int node = 0; node < t.delta.nodes; node++) {
                if (t.delta.sort[node] == FORK) {
                    holdVote(t, node);
                }
            }
            moveAway(t);
            t.state.day++;
        }

        private static int drawnFlow(State s) {
            int base = s.setting[BASE];
            int drought = s.setting[DROUGHT];
            int spate = s.setting[SPATE];
            if (drought == 0 && spate == 0) {
                return base;
            }
            int drawn = s.draw(1000);
            if (drawn < drought) {
                return base / 2;
            }
            return drawn < drought + spate ? 2 * base : base;
        }

        private void takeWater(Delta delta, State s) {
            Arrays.fill(s.came, 0);
            s.seas += water.seas;
            for (int node = 0; node < delta.nodes; node++) {
                for (int arm = 0; arm < delta.arms[node]; arm++) {
                    int slot = node * ARMS + arm;
                    s.came[node * NODES + delta.to[slot]] += water.sent[slot];
                }
                if (delta.sort[node] == TOWN) {
                    takeWaterAt(s, node);
                }
            }
        }

        private void takeWaterAt(State s, int town) {
            boolean wet = holds(water.wet, town);
            s.town[GOT][town] = water.comes[town];
            s.town[STORE][town] = water.store[town];
            s.town[WET][town] = wet ? 1 : 0;
            s.town[DRY][town] = wet ? 0 : Math.min(s.town[DRY][town] + 1, DRY_MOST);
        }

        private void holdVote(Told t, int fork) {
            countVotes(t, fork);
            int most = mostFor(t, fork);
            if (most > 0) {
                openArms(t.state, fork, winners(t, fork, most));
            }
            countDefeats(t, fork);
            Arrays.fill(t.state.bought, fork * ARMS, fork * ARMS + ARMS, 0);
            t.writeLine(fork, most);
        }

        void countVotes(Told t, int fork) {
            Arrays.fill(sum, 0);
            Arrays.fill(cast, 0);
            for (int town = fork + 1; town < t.delta.nodes; town++) {
                if (t.delta.sort[town] != TOWN) {
                    continue;
                }
                for (int arm = 0; arm < t.delta.arms[fork]; arm++) {
                    int votes = votesOf(t, town, fork, arm);
                    cast[town * ARMS + arm] = votes;
                    sum[arm] += votes;
                }
            }
        }

        /** Votes counted and bought; to be asked behind countVotes of this fork. */
        int strength(Told t, int fork, int arm) {
            return sum[arm] + t.state.bought[fork * ARMS + arm];
        }

        int mostFor(Told t, int fork) {
            int most = 0;
            for (int arm = 0; arm < t.delta.arms[fork]; arm++) {
                most = Math.max(most, strength(t, fork, arm));
            }
            return most;
        }

        /** The arms that would be open behind this evening. */
        int winners(Told t, int fork, int most) {
            if (most == 0) {
                return t.state.open[fork];
            }
            int set = 0;
            for (int arm = 0; arm < t.delta.arms[fork]; arm++) {
                if (strength(t, fork, arm) == most) {
                    set |= 1 << arm;
                }
            }
            return set;
        }

        private static void openArms(State s, int fork, int set) {
            if (Integer.bitCount(set) > 1) {
                s.won[fork] = 0;
                s.floods++;
            } else if (s.open[fork] == set) {
                s.won[fork] = Math.min(s.won[fork] + 1, WON_MOST);
            } else {
                s.won[fork] = 1;
            }
            s.open[fork] = set;
        }

        private void countDefeats(Told t, int fork) {
            State s = t.state;
            for (int town = fork + 1; town < t.delta.nodes; town++) {
                int voted = 0;
                for (int arm = 0; arm < t.delta.arms[fork]; arm++) {
                    if (cast[town * ARMS + arm] > 0) {
                        voted |= 1 << arm;
                    }
                }
                if (voted != 0 && (voted & s.open[fork]) == 0) {
                    addDefeat(s, town);
                }
            }
        }

        private static void addDefeat(State s, int town) {
            s.town[DEFEATS][town]++;
            if (s.town[DEFEATS][town] >= DEFEATS_OF_A_DAM) {
                s.town[DEFEATS][town] = 0;
                s.town[DAMS][town] = Math.min(s.town[DAMS][town] + 1, DAMS_MOST);
            }
        }

        int votesOf(Told t, int town, int fork, int arm) {
            State s = t.state;
            int far = t.delta.farBy(fork, arm, town);
            if (far == NONE) {
                return 0;
            }
            askTown(s, town);
            asked[4] = far;
            asked[5] = arm;
            asked[6] = s.open[fork] == 1 << arm ? s.won[fork] : 0;
            asked[7] = t.delta.armsBefore(fork, town) > 1 ? 1 : 0;
            asked[8] = s.day;
            asked[9] = fork;
            int heads = s.town[HEADS][town];
            return t.votes.amount(asked, heads, heads);
        }

        int movers(Told t, int town) {
            State s = t.state;
            if (s.town[WET][town] != 0) {
                return 0;
            }
            askTown(s, town);
            asked[4] = s.town[DAMS][town];
            asked[5] = s.day;
            asked[6] = town;
            int heads = s.town[HEADS][town];
            return t.moves.amount(asked, heads / 10, heads);
        }

        /** What both laws ask first, as their rows of keywords have it. */
        private void askTown(State s, int town) {
            asked[0] = s.town[HEADS][town];
            asked[1] = s.town[DRY][town];
            asked[2] = s.town[GOT][town];
            asked[3] = s.town[NEED][town];
        }

        private void moveAway(Told t) {
            int[] heads = t.state.town[HEADS];
            int goal = wettest(t);
            for (int town = 0; town < t.delta.nodes && goal != NONE; town++) {
                if (t.delta.sort[town] == TOWN) {
                    int moved = movers(t, town);
                    heads[town] -= moved;
                    heads[goal] += moved;
                }
            }
        }

        private static int wettest(Told t) {
            int[][] town = t.state.town;
            int goal = NONE;
            int most = 0;
            for (int node = 0; node < t.delta.nodes; node++) {
                int over = town[GOT][node] - town[NEED][node];
                if (town[WET][node] != 0 && (goal == NONE || over > most)) {
                    goal = node;
                    most = over;
                }
            }
            return goal;
        }
    }

    /** What will be, without draws; all of it in the spare one. */
    private static final class Thought {
        private final River river;
        private final Told spare;
        private final long[] seen = new long[(ENDS_MOST + 1) * NODES];
        int roundStart;

        Thought(River river, Told spare) {
            this.river = river;
            this.spare = spare;
        }

        private void begin(Told now) {
            spare.copyFrom(now);
            spare.state.setting[DROUGHT] = 0;
            spare.state.setting[SPATE] = 0;
        }

        int townLater(Told now, int n, int town, int what) {
            begin(now);
            for (int i = 0; i < n; i++) {
                river.passDay(spare);
            }
            return spare.state.town[what][town];
        }

        int firstThirst(Told now, int town) {
            begin(now);
            for (int day = 1; day <= DAYS_MOST; day++) {
                river.passDay(spare);
                if (spare.state.town[WET][town] == 0) {
                    return day;
                }
            }
            return NONE;
        }

        /** The first day that is as an earlier one (then roundStart), from now; NONE without one. */
        int roundEnd(Told now) {
            begin(now);
            note(0);
            for (int day = 1; day <= ENDS_MOST; day++) {
                river.passDay(spare);
                note(day);
                for (int early = 0; early < day; early++) {
                    if (isSame(early, day)) {
                        roundStart = early;
                        return day;
                    }
                }
            }
            return NONE;
        }

        private void note(int day) {
            for (int node = 0; node < spare.delta.nodes; node++) {
                seen[day * NODES + node] =
                        spare.delta.sort[node] == FORK ? packedFork(node) : packedTown(node);
            }
        }

        private boolean isSame(int early, int day) {
            for (int node = 0; node < spare.delta.nodes; node++) {
                if (seen[early * NODES + node] != seen[day * NODES + node]) {
                    return false;
                }
            }
            return true;
        }

        private long packedFork(int fork) {
            State s = spare.state;
            long packed = s.won[fork] * 8 + s.open[fork];
            for (int arm = 0; arm < ARMS; arm++) {
                packed = packed * (BOUGHT_MOST + 1) + s.bought[fork * ARMS + arm];
            }
            return packed;
        }

        /** Each but the heads stays below 2048, 128, 16, 16, 512, 2. */
        private long packedTown(int node) {
            int[][] town = spare.state.town;
            long packed = town[HEADS][node];
            packed = packed * 2048 + town[GOT][node];
            packed = packed * 128 + town[DRY][node];
            packed = packed * 16 + town[DEFEATS][node];
            packed = packed * 16 + town[DAMS][node];
            packed = packed * 512 + town[STORE][node];
            return packed * 2 + town[WET][node];
        }
    }

    /** What could be: power, bribes, ways, digs, and days shared out. */
    private static final class Counsel {
        private final River river;
        private final Told spare;
        private final Water water = new Water();
        private final int[] open = new int[NODES];
        private final int[] cost = new int[NODES * ARMS];
        private final int[] paid = new int[NODES];
        private final int[] voices = new int[NODES];
        private int leastAll;
        private int goal;
        final int[] leastAt = new int[NODES];
        final int[] bestDig = new int[4];
        final int[] firstWay = new int[NODES];

        Counsel(River river, Told spare) {
            this.river = river;
            this.spare = spare;
        }

        int powerAt(Told now, int fork, int town) {
            int[] heads = now.state.town[HEADS];
            if (heads[town] == 0 || now.delta.armsBefore(fork, town) == 0) {
                return NONE;
            }
            int all = heads[town];
            int others = 0;
            for (int node = fork + 1; node < now.delta.nodes; node++) {
                boolean there = now.delta.isTown(node) && now.delta.armsBefore(fork, node) > 0;
                if (there && node != town && heads[node] > 0) {
                    voices[others] = heads[node];
                    others++;
                    all += heads[node];
                }
            }
            return swings(others, heads[town], all);
        }

        /** Sets come so that each differs from the one before by one town alone. */
        private int swings(int others, int own, int all) {
            int count = 2 * own > all ? 1 : 0;
            int set = 0;
            int sum = 0;
            for (int step = 1; step < 1 << others; step++) {
                int turned = Integer.numberOfTrailingZeros(step);
                set ^= 1 << turned;
                sum += holds(set, turned) ? voices[turned] : -voices[turned];
                if (2 * sum <= all && 2 * (sum + own) > all) {
                    count++;
                }
            }
            return count;
        }

        int fewestTowns(Told now, int fork, int arm) {
            river.countVotes(now, fork);
            int rival = 0;
            for (int other = 0; other < now.delta.arms[fork]; other++) {
                if (other != arm) {
                    rival = Math.max(rival, river.sum[other]);
                }
            }
            for (int town = 0; town < NODES; town++) {
                voices[town] = river.cast[town * ARMS + arm];
            }
            int sum = 0;
            for (int count = 1; count <= NODES; count++) {
                int loudest = loudestVoice();
                sum += voices[loudest];
                voices[loudest] = 0;
                if (sum > rival) {
                    return count;
                }
            }
            return NONE;
        }

        private int loudestVoice() {
            int loudest = 0;
            for (int town = 1; town < NODES; town++) {
                if (voices[town] > voices[loudest]) {
                    loudest = town;
                }
            }
            return loudest;
        }

        /** The fewest votes to be bought so that a town is wet; then leastAt tells where. */
        int leastBought(Told now, int town) {
            weighForks(now);
            Arrays.fill(paid, 0);
            Arrays.fill(leastAt, 0);
            leastAll = NONE;
            goal = town;
            follow(now, 0, 0, 0);
            return leastAll;
        }

        private void weighForks(Told now) {
            for (int fork = 0; fork < now.delta.nodes; fork++) {
                if (now.delta.sort[fork] == FORK) {
                    river.countVotes(now, fork);
                    open[fork] = river.winners(now, fork, river.mostFor(now, fork));
                    for (int arm = 0; arm < now.delta.arms[fork]; arm++) {
                        cost[fork * ARMS + arm] = priceOf(now, fork, arm);
                    }
                }
            }
        }

        /** To be asked behind countVotes of this fork. */
        private int priceOf(Told now, int fork, int arm) {
            // Who wins alone already, or stays so because nobody votes, costs nothing.
            if (open[fork] == 1 << arm) {
                return 0;
            }
            int rival = 0;
            for (int other = 0; other < now.delta.arms[fork]; other++) {
                if (other != arm) {
                    rival = Math.max(rival, river.strength(now, fork, other));
                }
            }
            return rival + 1 - river.strength(now, fork, arm);
        }

        /** Arms are tried in order, so that of ways alike the first one stays. */
        private void follow(Told now, int at, int sum, int depth) {
            if (depth > NODES || leastAll != NONE && sum >= leastAll) {
                return;
            }
            if (at == goal) {
                keepIfWet(now, sum);
                return;
            }
            if (now.delta.steps[at * NODES + goal] == NONE) {
                return;
            }
            if (now.delta.sort[at] == TOWN) {
                follow(now, now.delta.to[at * ARMS], sum, depth + 1);
                return;
            }
            int before = open[at];
            for (int arm = 0; arm < now.delta.arms[at]; arm++) {
                int slot = at * ARMS + arm;
                if (isCheapestTo(now.delta, at, arm)) {
                    open[at] = 1 << arm;
                    paid[at] = cost[slot];
                    follow(now, now.delta.to[slot], sum + cost[slot], depth + 1);
                }
            }
            open[at] = before;
            paid[at] = 0;
        }

        /** Of arms to one node any gives the same water: but the first of the cheapest none is tried. */
        private boolean isCheapestTo(Delta delta, int fork, int arm) {
            int slot = fork * ARMS + arm;
            for (int other = 0; other < delta.arms[fork]; other++) {
                int rival = fork * ARMS + other;
                boolean before = cost[rival] < cost[slot] || cost[rival] == cost[slot] && other < arm;
                if (other != arm && delta.to[rival] == delta.to[slot] && before) {
                    return false;
                }
            }
            return true;
        }

        private void keepIfWet(Told now, int sum) {
            water.run(now.delta, now.state, open, now.state.setting[BASE]);
            if (holds(water.wet, goal)) {
                leastAll = sum;
                System.arraycopy(paid, 0, leastAt, 0, NODES);
            }
        }

        /** False if no dig wets more heads than there are without; else bestDig tells it. */
        boolean findBestDig(Told now) {
            spare.copyFrom(now);
            Delta delta = spare.delta;
            int most = wetHeads();
            boolean found = false;
            for (int fork = 0; fork < delta.nodes; fork++) {
                for (int arm = 0; arm < delta.arms[fork] && delta.sort[fork] == FORK; arm++) {
                    int slot = fork * ARMS + arm;
                    int before = delta.to[slot];
                    for (int to = fork + 1; to < delta.nodes; to++) {
                        delta.to[slot] = to;
                        int heads = wetHeads();
                        if (heads > most) {
                            most = heads;
                            found = true;
                            keepDig(fork, arm, to, heads);
                        }
                    }
                    delta.to[slot] = before;
                }
            }
            return found;
        }

        private void keepDig(int fork, int arm, int to, int heads) {
            bestDig[0] = fork;
            bestDig[1] = arm;
            bestDig[2] = to;
            bestDig[3] = heads;
        }

        private int wetHeads() {
            water.run(spare.delta, spare.state, spare.state.open, spare.state.setting[BASE]);
            int sum = 0;
            for (int node = 0; node < spare.delta.nodes; node++) {
                if (holds(water.wet, node)) {
                    sum += spare.state.town[HEADS][node];
                }
            }
            return sum;
        }

        /** A set of towns alone, and forks few enough that each way can be tried. */
        boolean canWeigh(Told now, int set) {
            int towns = 0;
            int forks = 0;
            for (int node = 0; node < now.delta.nodes; node++) {
                if (now.delta.sort[node] == TOWN) {
                    towns |= 1 << node;
                } else if (now.delta.sort[node] == FORK) {
                    forks++;
                }
            }
            return (set & ~towns) == 0 && forks <= FORKS_OF_WAYS;
        }

        private static int allWays(Delta delta) {
            int ways = 1;
            for (int node = 0; node < delta.nodes; node++) {
                if (delta.sort[node] == FORK) {
                    ways *= delta.arms[node];
                }
            }
            return ways;
        }

        /** Ways are numbered so that the last fork's arm goes round fastest. */
        private void runWay(Told now, int way) {
            int left = way;
            for (int node = now.delta.nodes - 1; node >= 0; node--) {
                int arms = now.delta.arms[node];
                if (now.delta.sort[node] == FORK && arms > 0) {
                    open[node] = 1 << left % arms;
                    left /= arms;
                }
            }
            water.run(now.delta, now.state, open, now.state.setting[BASE]);
        }

        int mostWater(Told now, int set) {
            int ways = allWays(now.delta);
            int most = 0;
            for (int way = 0; way < ways; way++) {
                runWay(now, way);
                int sum = 0;
                for (int node = 0; node < now.delta.nodes; node++) {
                    if (holds(set, node)) {
                        sum += Math.min(water.comes[node], now.state.town[NEED][node]);
                    }
                }
                most = Math.max(most, sum);
            }
            return most;
        }

        int countWays(Told now, int set) {
            int ways = allWays(now.delta);
            int count = 0;
            Arrays.fill(firstWay, NONE);
            for (int way = 0; way < ways; way++) {
                runWay(now, way);
                if (water.wet == set) {
                    if (count == 0) {
                        keepWay(now.delta);
                    }
                    count++;
                }
            }
            return count;
        }

        private void keepWay(Delta delta) {
            for (int node = 0; node < delta.nodes; node++) {
                if (delta.sort[node] == FORK) {
                    firstWay[node] = Integer.numberOfTrailingZeros(open[node]);
                }
            }
        }

        int twiceBehind(Delta delta, int fork) {
            int set = 0;
            for (int node = fork + 1; node < delta.nodes; node++) {
                if (delta.sort[node] == TOWN && delta.armsBefore(fork, node) > 1) {
                    set |= 1 << node;
                }
            }
            return set;
        }

        int armOfRow(int a, int b, int c, int day) {
            int n = a + b + c;
            int hasA = 0;
            int hasB = 0;
            int hasC = 0;
            int arm = NONE;
            for (int d = 0; d <= day; d++) {
                int dueA = a * (d + 1) - n * hasA;
                int dueB = b * (d + 1) - n * hasB;
                int dueC = c * (d + 1) - n * hasC;
                arm = dueA >= dueB && dueA >= dueC ? 0 : dueB >= dueC ? 1 : 2;
                hasA += arm == 0 ? 1 : 0;
                hasB += arm == 1 ? 1 : 0;
                hasC += arm == 2 ? 1 : 0;
            }
            return arm;
        }
    }
}
