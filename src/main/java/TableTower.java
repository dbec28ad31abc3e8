import java.util.NoSuchElementException;

/** A tower of tables, as shared/DOC.md tells it: the words in capitals here are the document's. */
public final class TableTower {
    public static final int NONE = -1;

    private static final int MOST_TABLES = 10;
    private static final int MOST_BYTES = 600;
    private static final int MOST_FOOD = 999;
    private static final int MOST_YEARS = 999;
    private static final int YEARS_AHEAD = 99;
    private static final int MOST_MORE = 9999;
    private static final int MOST_LIMIT = 40;
    private static final int STEEPEST = 9;
    private static final int REFUSED = -99;

    private static final int FOLDING = 2;
    private static final int CASTOR = 3;

    private static final int BAD_TEXTS = 0;
    private static final int BAD_ACTS = 1;
    private static final int BAD_SIGHTS = 2;

    private final byte[] tape;
    private int bytes;
    private int faultPlace;
    private boolean imageKept;
    private final Reader reader;
    private final Town told;
    private final Town town;
    private final State now;
    private final State kept;
    private final Trials trials;
    private final Piles piles;
    private final Legs legs;

    public TableTower() {
        tape = new byte[MOST_BYTES];
        bytes = 0;
        faultPlace = NONE;
        imageKept = false;
        told = new Town();
        reader = new Reader(tape, told);
        town = new Town();
        now = new State(town);
        kept = new State(town);
        trials = new Trials(town, now.tower);
        piles = new Piles(town, now);
        legs = new Legs(town, now);
    }

    public int feed(int a, int b, int c, int d, int e) {
        if (bytes + 20 > MOST_BYTES) {
            return NONE;
        }
        feedOne(a);
        feedOne(b);
        feedOne(c);
        feedOne(d);
        feedOne(e);
        return bytes;
    }

    public int town(int n) throws IllegalArgumentException {
        if (n < 0 || n > bytes) {
            throw new IllegalArgumentException("the tape has not so many bytes");
        }
        int fault = reader.read(n);
        bytes = 0;
        faultPlace = fault == 0 ? NONE : reader.place;
        if (fault != 0) {
            now.refuse(BAD_TEXTS);
            return fault;
        }
        town.become(told);
        now.begin();
        imageKept = false;
        return 0;
    }

    public int fault() {
        return faultPlace;
    }

    public int count(int what) throws NoSuchElementException {
        Tower tower = now.tower;
        switch (what) {
            case 0: return town.tables;
            case 1: return tower.levels;
            case 2: return town.limit;
            case 3: return town.food;
            case 4: return tower.stands() ? 1 : 0;
            case 5: return tower.breaksAt();
            case 6: return tower.crumbs;
            case 7: return tower.fullOnes();
            case 8: return tower.years;
            case 9: return now.acts.kept;
            case 10: return now.seen;
            case 11: return bytes;
            case 12: return now.status[BAD_TEXTS];
            case 13: return now.status[BAD_ACTS];
            case 14: return now.status[BAD_SIGHTS];
            default: throw new NoSuchElementException("no such count");
        }
    }

    public int table(int table, int what) throws NoSuchElementException {
        needTable(table);
        Tower tower = now.tower;
        switch (what) {
            case 0: return town.kind[table];
            case 1: return town.weight[table];
            case 2: return tower.carriesOf(table, true);
            case 3: return tower.lean[table];
            case 4: return town.hunger[table];
            case 5: return tower.meal[table];
            case 6: return tower.wedge[table];
            case 7: return tower.levelOf(table);
            default: throw new NoSuchElementException("no such thing of a TABLE");
        }
    }

    public int level(int level, int what) throws NoSuchElementException {
        needLevel(level);
        Tower tower = now.tower;
        tower.weigh();
        switch (what) {
            case 0: return tower.order[level];
            case 1: return tower.load[level];
            case 2: return tower.carries[level];
            case 3: return tower.tilt[level];
            case 4: return tower.holds(level) ? 1 : 0;
            default: throw new NoSuchElementException("no such thing of a LEVEL");
        }
    }

    public int by() {
        return town.all() & ~now.tower.inIt();
    }

    public int put(int table, int level) throws NoSuchElementException {
        needTable(table);
        return now.putOn(table, level);
    }

    public int take(int table) throws NoSuchElementException {
        needTable(table);
        return now.takeOff(table);
    }

    public boolean change(int level, int other) throws NoSuchElementException {
        needLevel(level);
        needLevel(other);
        return now.changeLevels(level, other);
    }

    public int wedge(int table, int wedge) throws NoSuchElementException {
        needTable(table);
        return now.setWedge(table, wedge);
    }

    public int saw(int table, int lean) throws NoSuchElementException {
        needTable(table);
        return now.setLean(table, lean);
    }

    public int supper() {
        return now.eat(town.food);
    }

    public int years(int many) {
        return now.age(many);
    }

    public int undo() {
        return now.undoLast();
    }

    public int more() {
        return now.tower.room();
    }

    public boolean without(int table) throws NoSuchElementException {
        needTable(table);
        return now.tower.levelOf(table) != NONE && trials.roomWithout(table) != NONE;
    }

    public int most(int what) throws NoSuchElementException {
        if (what != 0 && what != 1) {
            throw new NoSuchElementException("no such thing of THE MOST");
        }
        piles.findMost();
        return what == 0 ? Integer.bitCount(piles.mostSet) : piles.mostSet;
    }

    public int row(int i) throws NoSuchElementException {
        piles.findMost();
        if (i < 0 || i >= Integer.bitCount(piles.mostSet)) {
            throw new NoSuchElementException("no such LEVEL of THE MOST");
        }
        return piles.mostRow[i];
    }

    public long orders() {
        return piles.ordersOfTower(0, 0);
    }

    public int wedges() {
        return trials.fewestWedges();
    }

    public int when() {
        return trials.fallsIn();
    }

    public int marriages() {
        return piles.mostCouples();
    }

    public boolean marry(int table, int other) throws NoSuchElementException, IllegalArgumentException {
        needTable(table);
        needTable(other);
        if (table == other) {
            throw new IllegalArgumentException("both are one");
        }
        return now.tower.canMarry(table, other);
    }

    public int nod(int table, int much) throws NoSuchElementException, IllegalArgumentException {
        needTableInTower(table);
        if (much < 0 || much > 99) {
            throw new IllegalArgumentException("not 0 to 99");
        }
        return trials.breaksFed(table, much);
    }

    public int fair() {
        return trials.leastFood();
    }

    public int out(int table) throws NoSuchElementException {
        needTableInTower(table);
        return trials.fewestOthersOut(table);
    }

    public int oneWedge() {
        return trials.firstWedge();
    }

    public long lifted(int set, int sea) throws IllegalArgumentException {
        if ((set & ~town.all()) != 0 || sea < 0 || sea > MOST_TABLES) {
            throw new IllegalArgumentException("no such TABLES, or not 0 to 10");
        }
        return piles.ordersOfTower(set, sea);
    }

    public int swap() {
        return trials.bestChange();
    }

    public int slack(int level) throws NoSuchElementException {
        needLevel(level);
        now.tower.weigh();
        return now.tower.slackAt(level);
    }

    public int broken(int years) throws IllegalArgumentException {
        if (years < 0 || years > YEARS_AHEAD) {
            throw new IllegalArgumentException("not 0 to 99");
        }
        return trials.breaksIn(years);
    }

    public int crooked() {
        return now.tower.mostTilted();
    }

    public int top(int food) throws IllegalArgumentException {
        if (food < 0 || food > MOST_FOOD) {
            throw new IllegalArgumentException("not 0 to 999");
        }
        return trials.topMeal(food);
    }

    public int relief() {
        return trials.bestTakenOff();
    }

    public int hungriest() {
        return now.tower.mostHungry();
    }

    public int see(int level, int tilt) {
        return now.addSight(level, tilt);
    }

    public int which(int what) throws NoSuchElementException {
        switch (what) {
            case 0: return legs.howMany();
            case 1: return legs.first();
            case 2: return legs.soWithout() ? 1 : 0;
            default: throw new NoSuchElementException("no such thing of WHICH LEG");
        }
    }

    public int look() {
        return legs.bestLevel();
    }

    public void forget() {
        now.seen = 0;
    }

    public int game(int what) throws NoSuchElementException {
        if (what != 0 && what != 1) {
            throw new NoSuchElementException("no such thing of A GAME");
        }
        trials.play();
        return what == 0 ? trials.resting : trials.firstResting;
    }

    public int decades(int seed, int n, int what) throws NoSuchElementException, IllegalArgumentException {
        if (what < 0 || what > 2) {
            throw new NoSuchElementException("no such thing of YEARS by a seed");
        }
        if (n < 0 || n > 40) {
            throw new IllegalArgumentException("not 0 to 40");
        }
        trials.live(seed, n);
        if (what == 0) {
            return trials.stood;
        }
        return what == 1 ? trials.firstFallen : trials.lastLoad;
    }

    public void image() {
        kept.become(now);
        imageKept = true;
    }

    public boolean restore() {
        if (!imageKept) {
            return false;
        }
        now.become(kept);
        return true;
    }

    private void feedOne(int number) {
        for (int shift = 24; shift >= 0; shift -= 8) {
            tape[bytes] = (byte) (number >>> shift);
            bytes++;
        }
    }

    private void needTable(int table) {
        if (table < 0 || table >= town.tables) {
            throw new NoSuchElementException("no such TABLE");
        }
    }

    private void needTableInTower(int table) {
        if (now.tower.levelOf(table) == NONE) {
            throw new NoSuchElementException("no such TABLE in THE TOWER");
        }
    }

    private void needLevel(int level) {
        if (level < 0 || level >= now.tower.levels) {
            throw new NoSuchElementException("no such LEVEL");
        }
    }

    /** What a TEXT tells: nothing of it changes till the next one. */
    private static final class Town {
        int tables;
        int limit;
        int food;
        final int[] kind = new int[MOST_TABLES];
        final int[] weight = new int[MOST_TABLES];
        final int[] bears = new int[MOST_TABLES];
        final int[] lean = new int[MOST_TABLES];
        final int[] hunger = new int[MOST_TABLES];
        final Rule takes = new Rule();

        Town() {
            clear();
        }

        void clear() {
            tables = 0;
            limit = 9;
            food = 100;
            takes.length = 0;
        }

        void become(Town other) {
            tables = other.tables;
            limit = other.limit;
            food = other.food;
            System.arraycopy(other.kind, 0, kind, 0, MOST_TABLES);
            System.arraycopy(other.weight, 0, weight, 0, MOST_TABLES);
            System.arraycopy(other.bears, 0, bears, 0, MOST_TABLES);
            System.arraycopy(other.lean, 0, lean, 0, MOST_TABLES);
            System.arraycopy(other.hunger, 0, hunger, 0, MOST_TABLES);
            takes.become(other.takes);
        }

        int all() {
            return (1 << tables) - 1;
        }

        int wormAYear(int table) {
            switch (kind[table]) {
                case 0: return 3;
                case 1: return 1;
                default: return 2;
            }
        }

        int leanTimes(int table) {
            return kind[table] == CASTOR ? 2 : 1;
        }

        boolean withinLimit(int tilt) {
            return Math.abs(tilt) <= limit;
        }
    }

    /**
     * TAKES as cells behind one another, what is worked on before what works on it:
     * a cell of 0 or more is that number, one below 0 is a VALUE or does something.
     */
    private static final class Rule {
        static final int LEVEL = -1;
        static final int HUNGER = -2;
        static final int LEFT = -3;
        static final int KIND = -4;
        static final int ABOVE = -5;
        static final int WEIGHT = -6;
        static final int NOT = -7;
        static final int ADD = -8;
        static final int SUBTRACT = -9;
        static final int MULTIPLY = -10;
        static final int DIVIDE = -11;
        static final int LESS = -12;
        static final int EQUAL = -13;
        static final int AND = -14;
        static final int OR = -15;

        // Five waiting numbers for each of six EXPRs within one another, and one more, are the most.
        private static final int PILE = 40;

        final int[] cells = new int[MOST_BYTES];
        int length;
        int level;
        int hunger;
        int left;
        int kind;
        int above;
        int weight;
        private final int[] pile = new int[PILE];
        private int high;

        void become(Rule other) {
            length = other.length;
            System.arraycopy(other.cells, 0, cells, 0, length);
        }

        void add(int cell) {
            if (length < cells.length) {
                cells[length] = cell;
                length++;
            }
        }

        int gives() {
            high = 0;
            for (int i = 0; i < length; i++) {
                int cell = cells[i];
                if (cell >= 0) {
                    push(cell);
                } else if (cell >= WEIGHT) {
                    push(valueOf(cell));
                } else if (cell == NOT) {
                    push(pop() == 0 ? 1 : 0);
                } else {
                    int right = pop();
                    push(result(cell, pop(), right));
                }
            }
            return pop();
        }

        private void push(int number) {
            if (high < PILE) {
                pile[high] = number;
                high++;
            }
        }

        private int pop() {
            if (high <= 0) {
                return 0;
            }
            high--;
            return pile[high];
        }

        private int valueOf(int cell) {
            switch (cell) {
                case LEVEL: return level;
                case HUNGER: return hunger;
                case LEFT: return left;
                case KIND: return kind;
                case ABOVE: return above;
                default: return weight;
            }
        }

        private static int result(int cell, int a, int b) {
            switch (cell) {
                case ADD: return a + b;
                case SUBTRACT: return a - b;
                case MULTIPLY: return a * b;
                case DIVIDE: return b == 0 ? 0 : a / b;
                case LESS: return a < b ? 1 : 0;
                case EQUAL: return a == b ? 1 : 0;
                case AND: return a != 0 && b != 0 ? 1 : 0;
                default: return a != 0 || b != 0 ? 1 : 0;
            }
        }
    }

    /** Reads a TEXT: its methods say false as soon as there is a FAULT, at the TOKEN that is looked at. */
    private static final class Reader {
        private static final int ENDED = 0;
        private static final int NO_TOKEN = 1;
        private static final int WORD = 2;
        private static final int NUMBER = 3;
        private static final int SIGN = 4;

        private static final int OUT_OF_PLACE = 1;
        private static final int TOO_MUCH = 2;
        private static final int NO_VALUE = 3;
        private static final int TWICE = 4;

        private static final int MOST_EXPRS = 6;
        private static final int MOST_NOTS = 6;
        private static final int MOST_DIGITS = 4;
        private static final String SIGNS = ";()+-*/<=";

        int place;
        private final byte[] text;
        private final Town into;
        private int length;
        private int token;
        private int start;
        private int end;
        private int number;
        private int fault;
        private boolean limitTold;
        private boolean foodTold;

        Reader(byte[] text, Town into) {
            this.text = text;
            this.into = into;
        }

        /** Reads the first n bytes: the FAULT, or 0. */
        int read(int n) {
            length = Math.min(n, text.length);
            into.clear();
            limitTold = false;
            foodTold = false;
            fault = 0;
            place = NONE;
            end = 0;
            next();
            for (int i = 0; i < MOST_BYTES && token != ENDED; i++) {
                if (!line()) {
                    return fault;
                }
            }
            return 0;
        }

        private boolean line() {
            int kind = kindTold();
            if (kind != NONE) {
                return tableLine(kind) && close();
            }
            if (isWord("limit")) {
                return limitLine() && close();
            }
            if (isWord("food")) {
                return foodLine() && close();
            }
            if (isWord("takes")) {
                return takesLine() && close();
            }
            return fail(OUT_OF_PLACE);
        }

        private boolean tableLine(int kind) {
            int table = into.tables;
            if (table >= MOST_TABLES) {
                return fail(TOO_MUCH);
            }
            next();
            int weight = readNumber(1, 99);
            int bears = fault == 0 ? readNumber(0, 999) : NONE;
            int side = fault == 0 && isSign('-') ? -1 : 1;
            if (side < 0) {
                next();
            }
            int lean = fault == 0 ? readNumber(0, STEEPEST) : NONE;
            int hunger = fault == 0 ? readNumber(0, 99) : NONE;
            if (fault != 0) {
                return false;
            }
            into.kind[table] = kind;
            into.weight[table] = weight;
            into.bears[table] = bears;
            into.lean[table] = side * lean;
            into.hunger[table] = hunger;
            into.tables = table + 1;
            return true;
        }

        private boolean limitLine() {
            if (limitTold) {
                return fail(TWICE);
            }
            limitTold = true;
            next();
            into.limit = readNumber(0, MOST_LIMIT);
            return fault == 0;
        }

        private boolean foodLine() {
            if (foodTold) {
                return fail(TWICE);
            }
            foodTold = true;
            next();
            into.food = readNumber(0, MOST_FOOD);
            return fault == 0;
        }

        private boolean takesLine() {
            // A rule that was told has a cell at least.
            if (into.takes.length > 0) {
                return fail(TWICE);
            }
            next();
            return expr(0);
        }

        private boolean close() {
            if (!isSign(';')) {
                return fail(OUT_OF_PLACE);
            }
            next();
            return true;
        }

        /** within: how many other EXPRs this one is in. */
        private boolean expr(int within) {
            if (within >= MOST_EXPRS) {
                return fail(token == NUMBER || token == WORD || isSign('(') ? TOO_MUCH : OUT_OF_PLACE);
            }
            if (!and(within)) {
                return false;
            }
            for (int i = 0; i < MOST_BYTES && isWord("or"); i++) {
                next();
                if (!and(within)) {
                    return false;
                }
                into.takes.add(Rule.OR);
            }
            return true;
        }

        private boolean and(int within) {
            if (!not(within)) {
                return false;
            }
            for (int i = 0; i < MOST_BYTES && isWord("and"); i++) {
                next();
                if (!not(within)) {
                    return false;
                }
                into.takes.add(Rule.AND);
            }
            return true;
        }

        private boolean not(int within) {
            int nots = 0;
            for (int i = 0; i <= MOST_NOTS && isWord("not"); i++) {
                nots++;
                if (nots > MOST_NOTS) {
                    return fail(TOO_MUCH);
                }
                next();
            }
            if (!test(within)) {
                return false;
            }
            for (int i = 0; i < nots; i++) {
                into.takes.add(Rule.NOT);
            }
            return true;
        }

        private boolean test(int within) {
            if (!sum(within)) {
                return false;
            }
            int cell = isSign('<') ? Rule.LESS : isSign('=') ? Rule.EQUAL : 0;
            if (cell == 0) {
                return true;
            }
            next();
            if (!sum(within)) {
                return false;
            }
            into.takes.add(cell);
            return true;
        }

        private boolean sum(int within) {
            if (!product(within)) {
                return false;
            }
            for (int i = 0; i < MOST_BYTES && (isSign('+') || isSign('-')); i++) {
                int cell = isSign('+') ? Rule.ADD : Rule.SUBTRACT;
                next();
                if (!product(within)) {
                    return false;
                }
                into.takes.add(cell);
            }
            return true;
        }

        private boolean product(int within) {
            if (!part(within)) {
                return false;
            }
            for (int i = 0; i < MOST_BYTES && (isSign('*') || isSign('/')); i++) {
                int cell = isSign('*') ? Rule.MULTIPLY : Rule.DIVIDE;
                next();
                if (!part(within)) {
                    return false;
                }
                into.takes.add(cell);
            }
            return true;
        }

        private boolean part(int within) {
            if (token == NUMBER) {
                if (end - start > MOST_DIGITS) {
                    return fail(TOO_MUCH);
                }
                into.takes.add(number);
                next();
                return true;
            }
            if (token == WORD) {
                int cell = valueTold();
                if (cell == 0) {
                    return fail(NO_VALUE);
                }
                into.takes.add(cell);
                next();
                return true;
            }
            if (!isSign('(')) {
                return fail(OUT_OF_PLACE);
            }
            next();
            if (!expr(within + 1)) {
                return false;
            }
            if (!isSign(')')) {
                return fail(OUT_OF_PLACE);
            }
            next();
            return true;
        }

        private int readNumber(int least, int greatest) {
            if (token != NUMBER) {
                fail(OUT_OF_PLACE);
                return NONE;
            }
            int value = number;
            if (end - start > MOST_DIGITS || value < least || value > greatest) {
                fail(TOO_MUCH);
                return NONE;
            }
            next();
            return value;
        }

        private int kindTold() {
            if (isWord("pine")) {
                return 0;
            }
            if (isWord("oak")) {
                return 1;
            }
            if (isWord("folding")) {
                return FOLDING;
            }
            return isWord("castor") ? CASTOR : NONE;
        }

        private int valueTold() {
            if (isWord("level")) {
                return Rule.LEVEL;
            }
            if (isWord("hunger")) {
                return Rule.HUNGER;
            }
            if (isWord("left")) {
                return Rule.LEFT;
            }
            if (isWord("kind")) {
                return Rule.KIND;
            }
            if (isWord("above")) {
                return Rule.ABOVE;
            }
            return isWord("weight") ? Rule.WEIGHT : 0;
        }

        private boolean isWord(String word) {
            if (token != WORD || end - start != word.length()) {
                return false;
            }
            for (int i = 0; i < word.length(); i++) {
                if (text[start + i] != word.charAt(i)) {
                    return false;
                }
            }
            return true;
        }

        private boolean isSign(char sign) {
            return token == SIGN && text[start] == sign;
        }

        private boolean fail(int which) {
            fault = which;
            place = start;
            return false;
        }

        private void next() {
            start = end;
            while (start < length && (text[start] == ' ' || text[start] == '\n')) {
                start++;
            }
            end = start;
            if (start >= length) {
                token = ENDED;
            } else if (isLetter(text[start])) {
                token = WORD;
                while (end < length && isLetter(text[end])) {
                    end++;
                }
            } else if (isDigit(text[start])) {
                token = NUMBER;
                number = 0;
                while (end < length && isDigit(text[end])) {
                    number = number * 10 + text[end] - '0';
                    end++;
                }
            } else {
                token = SIGNS.indexOf((char) (text[start] & 255)) >= 0 ? SIGN : NO_TOKEN;
                end++;
            }
        }

        private static boolean isLetter(byte sign) {
            return sign >= 'a' && sign <= 'z';
        }

        private static boolean isDigit(byte sign) {
            return sign >= '0' && sign <= '9';
        }
    }

    /** TABLES upon one another: what they are loaded with, how they lean, whether they hold. */
    private static final class Tower {
        private final Town town;
        int levels;
        int years;
        int crumbs;
        final int[] order = new int[MOST_TABLES];
        final int[] meal = new int[MOST_TABLES];
        final int[] wedge = new int[MOST_TABLES];
        final int[] lean = new int[MOST_TABLES];
        final int[] load = new int[MOST_TABLES];
        final int[] carries = new int[MOST_TABLES];
        final int[] tilt = new int[MOST_TABLES];

        Tower(Town town) {
            this.town = town;
            levels = 0;
            years = 0;
            crumbs = NONE;
        }

        void begin() {
            levels = town.tables;
            years = 0;
            crumbs = NONE;
            for (int table = 0; table < MOST_TABLES; table++) {
                order[table] = table;
                meal[table] = 0;
                wedge[table] = 0;
                lean[table] = town.lean[table];
            }
        }

        void become(Tower other) {
            levels = other.levels;
            years = other.years;
            crumbs = other.crumbs;
            System.arraycopy(other.order, 0, order, 0, MOST_TABLES);
            System.arraycopy(other.meal, 0, meal, 0, MOST_TABLES);
            System.arraycopy(other.wedge, 0, wedge, 0, MOST_TABLES);
            System.arraycopy(other.lean, 0, lean, 0, MOST_TABLES);
        }

        int levelOf(int table) {
            for (int level = 0; level < levels; level++) {
                if (order[level] == table) {
                    return level;
                }
            }
            return NONE;
        }

        int inIt() {
            int bits = 0;
            for (int level = 0; level < levels; level++) {
                bits |= 1 << order[level];
            }
            return bits;
        }

        void insert(int table, int at) {
            if (levels >= MOST_TABLES || at < 0 || at > levels) {
                return;
            }
            for (int level = levels; level > at; level--) {
                order[level] = order[level - 1];
            }
            order[at] = table;
            levels++;
        }

        void removeAt(int at) {
            if (at < 0 || at >= levels) {
                return;
            }
            for (int level = at; level < levels - 1; level++) {
                order[level] = order[level + 1];
            }
            levels--;
        }

        void exchange(int level, int other) {
            int table = order[level];
            order[level] = order[other];
            order[other] = table;
        }

        int carriesOf(int table, boolean atTop) {
            int bears = town.bears[table];
            if (town.kind[table] == FOLDING && !atTop) {
                bears /= 2;
            }
            return Math.max(0, bears - years * town.wormAYear(table));
        }

        int leanOf(int table) {
            return town.leanTimes(table) * (lean[table] + wedge[table]);
        }

        /** Fills load, carries and tilt: whoever reads these calls it before. */
        void weigh() {
            int above = 0;
            for (int level = levels - 1; level >= 0; level--) {
                int table = order[level];
                load[level] = above + meal[table];
                carries[level] = carriesOf(table, level == levels - 1);
                above += town.weight[table] + meal[table];
            }
            int sum = 0;
            for (int level = 0; level < levels; level++) {
                sum += leanOf(order[level]);
                tilt[level] = sum;
            }
        }

        int slackAt(int level) {
            return carries[level] - load[level];
        }

        boolean holds(int level) {
            return slackAt(level) >= 0 && town.withinLimit(tilt[level]);
        }

        int breaksAt() {
            weigh();
            for (int level = 0; level < levels; level++) {
                if (!holds(level)) {
                    return level;
                }
            }
            return NONE;
        }

        boolean stands() {
            return breaksAt() == NONE;
        }

        /** MORE, or NONE. */
        int room() {
            if (breaksAt() != NONE) {
                return NONE;
            }
            int least = MOST_MORE;
            for (int level = 0; level < levels; level++) {
                least = Math.min(least, slackAt(level));
            }
            return least;
        }

        /** A SUPPER: fills the MEALS, answers CRUMBS. */
        int serve(int food) {
            int left = food;
            for (int level = 0; level < levels; level++) {
                int table = order[level];
                meal[table] = takesOf(level, left);
                left -= meal[table];
            }
            return left;
        }

        /** Whether a SUPPER fills all; it ends at the first TABLE that it doesn't fill. */
        boolean fillsAll(int food) {
            int left = food;
            for (int level = 0; level < levels; level++) {
                int takes = takesOf(level, left);
                if (takes < town.hunger[order[level]]) {
                    return false;
                }
                left -= takes;
            }
            return true;
        }

        private int takesOf(int level, int left) {
            int table = order[level];
            Rule rule = town.takes;
            if (rule.length == 0) {
                return Math.min(left, town.hunger[table]);
            }
            rule.level = level;
            rule.hunger = town.hunger[table];
            rule.left = left;
            rule.kind = town.kind[table];
            rule.above = levels - 1 - level;
            rule.weight = town.weight[table];
            return Math.max(0, Math.min(left, rule.gives()));
        }

        int fullOnes() {
            int bits = 0;
            for (int level = 0; level < levels; level++) {
                int table = order[level];
                if (meal[table] >= town.hunger[table]) {
                    bits |= 1 << table;
                }
            }
            return bits;
        }

        int mostHungry() {
            int best = NONE;
            int mostLack = 0;
            int inIt = inIt();
            for (int table = 0; table < town.tables; table++) {
                int lack = town.hunger[table] - meal[table];
                if ((inIt >> table & 1) != 0 && lack > mostLack) {
                    best = table;
                    mostLack = lack;
                }
            }
            return best;
        }

        int mostTilted() {
            weigh();
            int best = NONE;
            for (int level = 0; level < levels; level++) {
                if (best == NONE || Math.abs(tilt[level]) > Math.abs(tilt[best])) {
                    best = level;
                }
            }
            return best;
        }

        boolean canMarry(int table, int other) {
            return carriesOf(table, false) >= town.weight[other] && carriesOf(other, false) >= town.weight[table];
        }
    }

    /** The ACTS that are kept, each with what undoing it needs. */
    private static final class Acts {
        static final int PUT = 0;
        static final int TAKE = 1;
        static final int CHANGE = 2;
        static final int WEDGE = 3;
        static final int SAW = 4;
        static final int SUPPER = 5;
        static final int YEARS = 6;

        private static final int MOST_ACTS = 40;
        // Which ACT, three numbers of it, a MEAL of each TABLE.
        private static final int MEALS = 4;
        private static final int WIDTH = MEALS + MOST_TABLES;

        int kept;
        private final int[] cells = new int[MOST_ACTS * WIDTH];

        void become(Acts other) {
            kept = other.kept;
            System.arraycopy(other.cells, 0, cells, 0, kept * WIDTH);
        }

        void keep(int act, int a, int b, int c) {
            if (kept >= MOST_ACTS) {
                kept = MOST_ACTS - 1;
                System.arraycopy(cells, WIDTH, cells, 0, kept * WIDTH);
            }
            int at = kept * WIDTH;
            cells[at] = act;
            cells[at + 1] = a;
            cells[at + 2] = b;
            cells[at + 3] = c;
            kept++;
        }

        void keepSupper(Tower tower) {
            keep(SUPPER, tower.crumbs, 0, 0);
            System.arraycopy(tower.meal, 0, cells, (kept - 1) * WIDTH + MEALS, MOST_TABLES);
        }

        boolean undoLast(Tower tower) {
            if (kept <= 0) {
                return false;
            }
            kept--;
            int at = kept * WIDTH;
            int a = cells[at + 1];
            int b = cells[at + 2];
            switch (cells[at]) {
                case PUT: tower.removeAt(a); break;
                case TAKE: putBack(tower, a, b, cells[at + 3]); break;
                case CHANGE: tower.exchange(a, b); break;
                case WEDGE: tower.wedge[a] = b; break;
                case SAW: tower.lean[a] = b; break;
                case SUPPER: clearSupper(tower, at); break;
                default: tower.years -= a; break;
            }
            return true;
        }

        private static void putBack(Tower tower, int table, int level, int meal) {
            tower.insert(table, level);
            tower.meal[table] = meal;
        }

        private void clearSupper(Tower tower, int at) {
            tower.crumbs = cells[at + 1];
            System.arraycopy(cells, at + MEALS, tower.meal, 0, MOST_TABLES);
        }
    }

    /** All that AN IMAGE keeps, and the ACTS upon it. */
    private static final class State {
        private static final int MOST_SEEN = 8;
        private static final int MOST_TILT = 99;

        final Tower tower;
        final Acts acts = new Acts();
        int seen;
        final int[] seenLevel = new int[MOST_SEEN];
        final int[] seenTilt = new int[MOST_SEEN];
        final int[] status = new int[3];
        // Whether THE MOST may be another one since it was looked for.
        boolean altered;

        State(Town town) {
            tower = new Tower(town);
            altered = true;
        }

        void begin() {
            tower.begin();
            acts.kept = 0;
            seen = 0;
            altered = true;
        }

        void become(State other) {
            tower.become(other.tower);
            acts.become(other.acts);
            seen = other.seen;
            System.arraycopy(other.seenLevel, 0, seenLevel, 0, MOST_SEEN);
            System.arraycopy(other.seenTilt, 0, seenTilt, 0, MOST_SEEN);
            System.arraycopy(other.status, 0, status, 0, 3);
            altered = true;
        }

        int refuse(int what) {
            status[what]++;
            return NONE;
        }

        int putOn(int table, int level) {
            if (tower.levelOf(table) != NONE || level < 0 || level > tower.levels) {
                return refuse(BAD_ACTS);
            }
            tower.insert(table, level);
            keep(Acts.PUT, level, 0, 0);
            return tower.levels;
        }

        int takeOff(int table) {
            int level = tower.levelOf(table);
            if (level == NONE) {
                return refuse(BAD_ACTS);
            }
            keep(Acts.TAKE, table, level, tower.meal[table]);
            tower.removeAt(level);
            tower.meal[table] = 0;
            return level;
        }

        boolean changeLevels(int level, int other) {
            if (level == other) {
                refuse(BAD_ACTS);
                return false;
            }
            tower.exchange(level, other);
            keep(Acts.CHANGE, level, other, 0);
            return true;
        }

        int setWedge(int table, int wedge) {
            if (wedge < -STEEPEST || wedge > STEEPEST) {
                refuse(BAD_ACTS);
                return REFUSED;
            }
            int before = tower.wedge[table];
            tower.wedge[table] = wedge;
            keep(Acts.WEDGE, table, before, 0);
            return before;
        }

        int setLean(int table, int lean) {
            if (lean < -STEEPEST || lean > STEEPEST) {
                refuse(BAD_ACTS);
                return REFUSED;
            }
            int before = tower.lean[table];
            tower.lean[table] = lean;
            keep(Acts.SAW, table, before, 0);
            return before;
        }

        int eat(int food) {
            acts.keepSupper(tower);
            altered = true;
            tower.crumbs = tower.serve(food);
            return tower.crumbs;
        }

        int age(int many) {
            if (many < 1 || many > 30 || tower.years + many > MOST_YEARS) {
                return refuse(BAD_ACTS);
            }
            tower.years += many;
            keep(Acts.YEARS, many, 0, 0);
            return tower.years;
        }

        int undoLast() {
            if (!acts.undoLast(tower)) {
                return NONE;
            }
            altered = true;
            return acts.kept;
        }

        int addSight(int level, int tilt) {
            boolean noLevel = level < 0 || level >= tower.levels;
            if (seen >= MOST_SEEN || noLevel || tilt < -MOST_TILT || tilt > MOST_TILT) {
                return refuse(BAD_SIGHTS);
            }
            seenLevel[seen] = level;
            seenTilt[seen] = tilt;
            seen++;
            return seen;
        }

        private void keep(int act, int a, int b, int c) {
            acts.keep(act, a, b, c);
            altered = true;
        }
    }

    /** Orders of sets of TABLES, and couples among them: rows have a cell for each set, as bits. */
    private static final class Piles {
        private static final int SETS = 1 << MOST_TABLES;

        private final Town town;
        private final State state;
        int mostSet;
        final int[] mostRow = new int[MOST_TABLES];
        private final int[] burden = new int[SETS];
        private final int[] tilt = new int[SETS];
        // Of what lies below: in how many orders the rest of the set can stand upon it.
        private final int[] ways = new int[SETS];
        private int set;
        private int raised;
        private int sea;

        Piles(Town town, State state) {
            this.town = town;
            this.state = state;
        }

        void findMost() {
            if (!state.altered) {
                return;
            }
            state.altered = false;
            weighSets();
            mostSet = greatestSet();
            ordersOf(mostSet, 0, 0);
            fillRow();
        }

        long ordersOfTower(int lifted, int level) {
            weighSets();
            return ordersOf(state.tower.inIt(), lifted, level);
        }

        private int greatestSet() {
            for (int many = town.tables; many > 0; many--) {
                for (int tables = 0; tables <= town.all(); tables++) {
                    if (Integer.bitCount(tables) == many && ordersOf(tables, 0, 0) > 0) {
                        return tables;
                    }
                }
            }
            return 0;
        }

        private void fillRow() {
            int below = 0;
            for (int level = 0; level < MOST_TABLES && below != set; level++) {
                int table = 0;
                for (int next = town.tables - 1; next >= 0; next--) {
                    boolean free = (set & ~below & 1 << next) != 0;
                    table = free && waysWith(below, next) > 0 ? next : table;
                }
                mostRow[level] = table;
                below |= 1 << table;
            }
        }

        private void weighSets() {
            Tower tower = state.tower;
            for (int table = 0; table < town.tables; table++) {
                int bit = 1 << table;
                for (int rest = 0; rest < bit; rest++) {
                    burden[rest | bit] = burden[rest] + town.weight[table] + tower.meal[table];
                    tilt[rest | bit] = tilt[rest] + tower.leanOf(table);
                }
            }
        }

        private int ordersOf(int tables, int lifted, int level) {
            set = tables;
            raised = lifted;
            sea = level;
            ways[set] = 1;
            // The highest one's TILT is the same in all orders.
            if (!town.withinLimit(tilt[set])) {
                return 0;
            }
            int below = set;
            for (int i = 0; i < SETS && below > 0; i++) {
                below = below - 1 & set;
                ways[below] = waysUpon(below);
            }
            return ways[0];
        }

        private int waysUpon(int below) {
            int sum = 0;
            int rest = set & ~below;
            for (int table = 0; table < town.tables; table++) {
                if ((rest >> table & 1) != 0) {
                    sum += waysWith(below, table);
                }
            }
            return sum;
        }

        /** In how many orders the rest of the set can stand, if this TABLE of it comes next. */
        private int waysWith(int below, int table) {
            int bit = 1 << table;
            int with = below | bit;
            if (ways[with] == 0 || !town.withinLimit(tilt[with])) {
                return 0;
            }
            if ((raised & bit) != 0 && Integer.bitCount(below) < sea) {
                return 0;
            }
            int above = set & ~with;
            int load = burden[above] + state.tower.meal[table];
            return load <= state.tower.carriesOf(table, above == 0) ? ways[with] : 0;
        }

        /** The most couples of each set, from those of smaller ones: ways is used for these here. */
        int mostCouples() {
            ways[0] = 0;
            for (int table = 0; table < town.tables; table++) {
                int bit = 1 << table;
                for (int rest = 0; rest < bit; rest++) {
                    ways[rest | bit] = couplesWith(rest, table);
                }
            }
            return ways[town.all()];
        }

        private int couplesWith(int rest, int table) {
            int best = ways[rest];
            for (int other = 0; other < table; other++) {
                if ((rest >> other & 1) != 0 && state.tower.canMarry(table, other)) {
                    best = Math.max(best, 1 + ways[rest & ~(1 << other)]);
                }
            }
            return best;
        }
    }

    /** What would be, if: each is tried on a tower of its own, so that THE TOWER stays as it is. */
    private static final class Trials {
        private static final int COSTS = 2 * MOST_LIMIT + 1;
        private static final int TOO_DEAR = 1000000;
        private static final int MOST_EATEN = 9;
        private static final int FALL_COSTS = 20;

        private final Town town;
        private final Tower now;
        private final Tower trial;
        int resting;
        int firstResting;
        int stood;
        int firstFallen;
        int lastLoad;
        private int seed;
        // The fewest WEDGES by which a TILT (and MOST_LIMIT) is come to.
        private int[] cost = new int[COSTS];
        private int[] nextCost = new int[COSTS];
        // The most that the highest TABLE can eat, by what the lowest one eats.
        private final int[] eatable = new int[MOST_EATEN + 1];

        Trials(Town town, Tower now) {
            this.town = town;
            this.now = now;
            trial = new Tower(town);
        }

        /** MORE without a TABLE of THE TOWER; NONE if it wouldn't stand. */
        int roomWithout(int table) {
            trial.become(now);
            trial.removeAt(now.levelOf(table));
            return trial.room();
        }

        int bestTakenOff() {
            int best = NONE;
            int most = NONE;
            for (int table = 0; table < town.tables; table++) {
                int room = now.levelOf(table) == NONE ? NONE : roomWithout(table);
                if (room > most) {
                    best = table;
                    most = room;
                }
            }
            return best;
        }

        int fewestOthersOut(int table) {
            int others = now.inIt() & ~(1 << table);
            int fewest = others;
            trial.become(now);
            for (int out = 0; out < others; out++) {
                boolean fewer = Integer.bitCount(out) < Integer.bitCount(fewest);
                if ((out & ~others) == 0 && fewer && standsWithout(out | 1 << table)) {
                    fewest = out;
                }
            }
            return fewest;
        }

        private boolean standsWithout(int out) {
            trial.levels = 0;
            for (int level = 0; level < now.levels; level++) {
                int table = now.order[level];
                if ((out >> table & 1) == 0) {
                    trial.order[trial.levels] = table;
                    trial.levels++;
                }
            }
            return trial.stands();
        }

        int bestChange() {
            int best = NONE;
            int most = now.room();
            trial.become(now);
            for (int level = 0; level < now.levels; level++) {
                for (int other = level + 1; other < now.levels; other++) {
                    trial.exchange(level, other);
                    int room = trial.room();
                    trial.exchange(level, other);
                    if (room > most) {
                        best = 10 * level + other;
                        most = room;
                    }
                }
            }
            return best;
        }

        int breaksFed(int table, int much) {
            trial.become(now);
            trial.meal[table] += much;
            return trial.breaksAt();
        }

        int breaksIn(int years) {
            trial.become(now);
            trial.years += years;
            return trial.breaksAt();
        }

        int fallsIn() {
            for (int years = 0; years <= YEARS_AHEAD; years++) {
                if (breaksIn(years) != NONE) {
                    return years;
                }
            }
            return NONE;
        }

        int topMeal(int food) {
            if (now.levels == 0) {
                return NONE;
            }
            trial.become(now);
            trial.serve(food);
            return trial.meal[trial.order[trial.levels - 1]];
        }

        int leastFood() {
            for (int food = 0; food <= MOST_FOOD; food++) {
                if (now.fillsAll(food)) {
                    return food;
                }
            }
            return NONE;
        }

        int firstWedge() {
            if (now.stands()) {
                return NONE;
            }
            trial.become(now);
            for (int level = 0; level < now.levels; level++) {
                int table = now.order[level];
                for (int wedge = -STEEPEST; wedge <= STEEPEST; wedge++) {
                    trial.wedge[table] = wedge;
                    if (wedge != now.wedge[table] && trial.stands()) {
                        return 100 * table + wedge + 50;
                    }
                }
                trial.wedge[table] = now.wedge[table];
            }
            return NONE;
        }

        int fewestWedges() {
            for (int i = 0; i < COSTS; i++) {
                cost[i] = i == MOST_LIMIT ? 0 : TOO_DEAR;
            }
            for (int level = 0; level < now.levels; level++) {
                wedgeOne(now.order[level]);
            }
            int fewest = TOO_DEAR;
            for (int i = 0; i < COSTS; i++) {
                fewest = Math.min(fewest, cost[i]);
            }
            return fewest >= TOO_DEAR ? NONE : fewest;
        }

        private void wedgeOne(int table) {
            for (int i = 0; i < COSTS; i++) {
                nextCost[i] = TOO_DEAR;
            }
            for (int i = 0; i < COSTS; i++) {
                for (int wedge = -STEEPEST; wedge <= STEEPEST && cost[i] < TOO_DEAR; wedge++) {
                    int tilt = i - MOST_LIMIT + town.leanTimes(table) * (now.lean[table] + wedge);
                    if (town.withinLimit(tilt)) {
                        int at = tilt + MOST_LIMIT;
                        nextCost[at] = Math.min(nextCost[at], cost[i] + Math.abs(wedge));
                    }
                }
            }
            int[] done = cost;
            cost = nextCost;
            nextCost = done;
        }

        /** A GAME: fills resting and firstResting. */
        void play() {
            resting = 0;
            firstResting = NONE;
            if (now.levels < 2) {
                return;
            }
            fillEatable();
            for (int low = 0; low <= MOST_EATEN; low++) {
                for (int high = 0; high <= MOST_EATEN; high++) {
                    if (rests(low, high)) {
                        firstResting = resting == 0 ? 10 * low + high : firstResting;
                        resting++;
                    }
                }
            }
        }

        private void fillEatable() {
            int lowest = now.order[0];
            trial.become(now);
            for (int low = 0; low <= MOST_EATEN; low++) {
                trial.meal[lowest] = now.meal[lowest] + low;
                // What more the highest one bears is felt by each LEVEL as what it eats is.
                eatable[low] = trial.room();
            }
        }

        private boolean rests(int low, int high) {
            int lowGain = gain(low, low, high);
            int highGain = gain(high, low, high);
            for (int other = 0; other <= MOST_EATEN; other++) {
                if (gain(other, other, high) > lowGain || gain(other, low, other) > highGain) {
                    return false;
                }
            }
            return true;
        }

        private int gain(int eaten, int low, int high) {
            return high <= eatable[low] ? eaten : eaten - FALL_COSTS;
        }

        /** YEARS by a seed: fills stood, firstFallen and lastLoad. */
        void live(int firstSeed, int n) {
            seed = firstSeed;
            stood = 0;
            firstFallen = NONE;
            trial.become(now);
            for (int year = 1; year <= n; year++) {
                liveAYear();
                if (trial.stands()) {
                    stood++;
                } else if (firstFallen == NONE) {
                    firstFallen = year;
                }
            }
            trial.weigh();
            lastLoad = trial.levels == 0 ? 0 : trial.load[0];
        }

        private void liveAYear() {
            trial.years++;
            if (town.tables == 0) {
                return;
            }
            int table = draw(town.tables);
            int what = draw(5);
            if (what == 0) {
                trial.lean[table] = Math.min(STEEPEST, trial.lean[table] + 1);
            } else if (what == 1) {
                trial.lean[table] = Math.max(-STEEPEST, trial.lean[table] - 1);
            } else if (what == 2 && trial.levelOf(table) != NONE) {
                trial.meal[table] += town.hunger[table];
            }
        }

        private int draw(int n) {
            seed = seed * 1103515245 + 12345;
            return n <= 0 ? 0 : (seed >>> 16 & 0x7fff) % n;
        }
    }

    /** WHICH LEG was sawn, and where to LOOK NEXT. */
    private static final class Legs {
        // A LEAN that is another one by 18, of a castor, is the farthest.
        private static final int MOST_SHIFT = 4 * STEEPEST;

        private final Town town;
        private final State state;
        // When a shift of TILT was last counted, in turns, so that it needs no clearing.
        private final int[] counted = new int[2 * MOST_SHIFT + 1];
        private int turn;

        Legs(Town town, State state) {
            this.town = town;
            this.state = state;
        }

        boolean soWithout() {
            state.tower.weigh();
            return allSo(0, 0);
        }

        int howMany() {
            Tower tower = state.tower;
            tower.weigh();
            int many = 0;
            for (int level = 0; level < tower.levels; level++) {
                for (int lean = -STEEPEST; lean <= STEEPEST; lean++) {
                    many += mayBe(level, lean) ? 1 : 0;
                }
            }
            return many;
        }

        int first() {
            Tower tower = state.tower;
            tower.weigh();
            for (int level = 0; level < tower.levels; level++) {
                for (int lean = -STEEPEST; lean <= STEEPEST; lean++) {
                    if (mayBe(level, lean)) {
                        return 100 * tower.order[level] + lean + 50;
                    }
                }
            }
            return NONE;
        }

        int bestLevel() {
            state.tower.weigh();
            int best = NONE;
            int most = 0;
            for (int level = 0; level < state.tower.levels; level++) {
                int unlike = unlikeTilts(level);
                if (unlike > most) {
                    best = level;
                    most = unlike;
                }
            }
            return best;
        }

        private int unlikeTilts(int seenFrom) {
            turn++;
            int unlike = 0;
            for (int level = 0; level < state.tower.levels; level++) {
                for (int lean = -STEEPEST; lean <= STEEPEST; lean++) {
                    if (mayBe(level, lean)) {
                        unlike += countOnce(level <= seenFrom ? shift(level, lean) : 0);
                    }
                }
            }
            return unlike;
        }

        private int countOnce(int shift) {
            int at = shift + MOST_SHIFT;
            if (at < 0 || at >= counted.length || counted[at] == turn) {
                return 0;
            }
            counted[at] = turn;
            return 1;
        }

        private boolean mayBe(int level, int lean) {
            return lean != state.tower.lean[state.tower.order[level]] && allSo(level, shift(level, lean));
        }

        private int shift(int level, int lean) {
            int table = state.tower.order[level];
            return town.leanTimes(table) * (lean - state.tower.lean[table]);
        }

        /** Whether all SEEN is so with TILTS from a LEVEL on more by a shift; what is SEEN of a LEVEL now gone isn't. */
        private boolean allSo(int from, int shift) {
            Tower tower = state.tower;
            for (int i = 0; i < state.seen; i++) {
                int level = state.seenLevel[i];
                if (level >= tower.levels) {
                    return false;
                }
                int tilt = tower.tilt[level] + (level >= from ? shift : 0);
                if (tilt != state.seenTilt[i]) {
                    return false;
                }
            }
            return true;
        }
    }
}
