import java.util.ArrayList;
import java.util.Arrays;
import java.util.HashSet;
import java.util.List;
import java.util.NoSuchElementException;
import java.util.Set;

/** The document told a second time, by trying all there is: slow, and not of one mould with the class. */
final class Model {
    static final int NONE = -1;

    /** A TABLE; copies of it are changed freely. */
    static final class T {
        int id, kind, weight, bears, lean, hunger, meal, wedge;

        T copy() {
            T t = new T();
            t.id = id;
            t.kind = kind;
            t.weight = weight;
            t.bears = bears;
            t.lean = lean;
            t.hunger = hunger;
            t.meal = meal;
            t.wedge = wedge;
            return t;
        }
    }

    /** What an undone ACT brings back. */
    static final class Snap {
        List<T> tables = new ArrayList<>();
        List<Integer> tower = new ArrayList<>();
        int years;
        int crumbs = NONE;

        Snap copy() {
            Snap s = new Snap();
            for (T t : tables) {
                s.tables.add(t.copy());
            }
            s.tower.addAll(tower);
            s.years = years;
            s.crumbs = crumbs;
            return s;
        }

        List<T> pile() {
            List<T> pile = new ArrayList<>();
            for (int t : tower) {
                pile.add(tables.get(t).copy());
            }
            return pile;
        }
    }

    private final List<Byte> tape = new ArrayList<>();
    private int faultPlace = NONE;
    private Snap s = new Snap();
    private List<Snap> acts = new ArrayList<>();
    private List<int[]> seen = new ArrayList<>();
    private int[] status = new int[3];
    private int limit = 9;
    private int food = 100;
    private List<String> rule;

    private Snap imageSnap;
    private List<Snap> imageActs;
    private List<int[]> imageSeen;
    private int[] imageStatus;

    // ---- the text

    private static final class Fault extends Exception {
        private static final long serialVersionUID = 1L;
        final int code, at;

        Fault(int code, int at) {
            super(null, null, false, false);
            this.code = code;
            this.at = at;
        }
    }

    private static final class Tok {
        String s;
        int at;
    }

    private static List<Tok> tokens(String text) {
        List<Tok> list = new ArrayList<>();
        int i = 0;
        while (i < text.length()) {
            char c = text.charAt(i);
            if (c == ' ' || c == '\n') {
                i++;
                continue;
            }
            int j = i + 1;
            if (c >= 'a' && c <= 'z') {
                while (j < text.length() && text.charAt(j) >= 'a' && text.charAt(j) <= 'z') {
                    j++;
                }
            } else if (c >= '0' && c <= '9') {
                while (j < text.length() && text.charAt(j) >= '0' && text.charAt(j) <= '9') {
                    j++;
                }
            }
            Tok t = new Tok();
            t.s = text.substring(i, j);
            t.at = i;
            list.add(t);
            i = j;
        }
        Tok end = new Tok();
        end.s = "";
        end.at = text.length();
        list.add(end);
        return list;
    }

    private static boolean word(String t) {
        return t.matches("[a-z]+");
    }

    private static boolean num(String t) {
        return t.matches("[0-9]+");
    }

    private static final List<String> KINDS = Arrays.asList("pine", "oak", "folding", "castor");
    private static final List<String> VALUES = Arrays.asList("level", "hunger", "left", "kind", "above", "weight");

    private List<Tok> toks;
    private int p;

    private int number(int low, int high) throws Fault {
        Tok t = toks.get(p);
        if (!num(t.s)) {
            throw new Fault(1, t.at);
        }
        if (t.s.length() > 4 || Integer.parseInt(t.s) < low || Integer.parseInt(t.s) > high) {
            throw new Fault(2, t.at);
        }
        p++;
        return Integer.parseInt(t.s);
    }

    private void semicolon() throws Fault {
        if (!toks.get(p).s.equals(";")) {
            throw new Fault(1, toks.get(p).at);
        }
        p++;
    }

    /** Walks an EXPR as an automaton with a pile of parentheses. */
    private List<String> expr() throws Fault {
        List<String> out = new ArrayList<>();
        List<Boolean> compared = new ArrayList<>();
        compared.add(false);
        boolean operand = true;
        boolean notOk = true;
        boolean opening = true;
        int nots = 0;
        while (true) {
            Tok t = toks.get(p);
            String x = t.s;
            if (operand) {
                if (opening && compared.size() > 6 && (word(x) || num(x) || x.equals("("))) {
                    throw new Fault(2, t.at);
                }
                opening = false;
                if (x.equals("not") && notOk) {
                    nots++;
                    if (nots == 7) {
                        throw new Fault(2, t.at);
                    }
                } else if (x.equals("(")) {
                    compared.add(false);
                    notOk = true;
                    opening = true;
                    nots = 0;
                } else if (num(x)) {
                    if (x.length() > 4) {
                        throw new Fault(2, t.at);
                    }
                    operand = false;
                } else if (word(x)) {
                    if (!VALUES.contains(x)) {
                        throw new Fault(3, t.at);
                    }
                    operand = false;
                } else {
                    throw new Fault(1, t.at);
                }
            } else {
                nots = 0;
                int top = compared.size() - 1;
                if (x.equals("and") || x.equals("or")) {
                    compared.set(top, false);
                    operand = true;
                    notOk = true;
                } else if (!x.isEmpty() && "+-*/".contains(x)) {
                    operand = true;
                    notOk = false;
                } else if ((x.equals("<") || x.equals("=")) && !compared.get(top)) {
                    compared.set(top, true);
                    operand = true;
                    notOk = false;
                } else if (x.equals(")") && top > 0) {
                    compared.remove(top);
                } else if (x.equals(";") && top == 0) {
                    return out;
                } else {
                    throw new Fault(1, t.at);
                }
            }
            out.add(x);
            p++;
        }
    }

    private void read(String text, Model into) throws Fault {
        toks = tokens(text);
        p = 0;
        Set<String> told = new HashSet<>();
        while (!toks.get(p).s.isEmpty()) {
            Tok t = toks.get(p);
            if (KINDS.contains(t.s)) {
                if (into.s.tables.size() == 10) {
                    throw new Fault(2, t.at);
                }
                p++;
                T n = new T();
                n.id = into.s.tables.size();
                n.kind = KINDS.indexOf(t.s);
                n.weight = number(1, 99);
                n.bears = number(0, 999);
                boolean minus = toks.get(p).s.equals("-");
                if (minus) {
                    p++;
                }
                n.lean = number(0, 9) * (minus ? -1 : 1);
                n.hunger = number(0, 99);
                into.s.tables.add(n);
            } else if (t.s.equals("limit") || t.s.equals("food") || t.s.equals("takes")) {
                if (!told.add(t.s)) {
                    throw new Fault(4, t.at);
                }
                p++;
                if (t.s.equals("limit")) {
                    into.limit = number(0, 40);
                } else if (t.s.equals("food")) {
                    into.food = number(0, 999);
                } else {
                    into.rule = expr();
                }
            } else {
                throw new Fault(1, t.at);
            }
            semicolon();
        }
    }

    // ---- the rule: split at the operator that binds least, the last one of it

    private static final String[][] RANKS = {{"or"}, {"and"}, {"not"}, {"<", "="}, {"+", "-"}, {"*", "/"}};

    private static int eval(List<String> r, int[] values) {
        for (String[] rank : RANKS) {
            if (rank[0].equals("not")) {
                if (r.get(0).equals("not")) {
                    return eval(r.subList(1, r.size()), values) == 0 ? 1 : 0;
                }
                continue;
            }
            int depth = 0;
            for (int i = r.size() - 1; i > 0; i--) {
                String x = r.get(i);
                depth += x.equals(")") ? 1 : x.equals("(") ? -1 : 0;
                if (depth == 0 && Arrays.asList(rank).contains(x)) {
                    return apply(x, eval(r.subList(0, i), values), eval(r.subList(i + 1, r.size()), values));
                }
            }
        }
        String x = r.get(0);
        if (x.equals("(")) {
            return eval(r.subList(1, r.size() - 1), values);
        }
        return num(x) ? Integer.parseInt(x) : values[VALUES.indexOf(x)];
    }

    private static int apply(String x, int a, int b) {
        switch (x) {
            case "or": return a != 0 || b != 0 ? 1 : 0;
            case "and": return a != 0 && b != 0 ? 1 : 0;
            case "<": return a < b ? 1 : 0;
            case "=": return a == b ? 1 : 0;
            case "+": return a + b;
            case "-": return a - b;
            case "*": return a * b;
            default: return b == 0 ? 0 : a / b;
        }
    }

    // ---- a pile

    private int load(List<T> pile, int level) {
        int sum = pile.get(level).meal;
        for (int i = level + 1; i < pile.size(); i++) {
            sum += pile.get(i).weight + pile.get(i).meal;
        }
        return sum;
    }

    private static int worm(T t, int years) {
        return years * (t.kind == 0 ? 3 : t.kind == 1 ? 1 : 2);
    }

    private static int carries(T t, boolean top, int years) {
        int b = t.kind == 2 && !top ? t.bears / 2 : t.bears;
        return Math.max(0, b - worm(t, years));
    }

    private static int tilt(List<T> pile, int level) {
        int sum = 0;
        for (int i = 0; i <= level; i++) {
            T t = pile.get(i);
            sum += (t.lean + t.wedge) * (t.kind == 3 ? 2 : 1);
        }
        return sum;
    }

    private boolean holds(List<T> pile, int level, int years) {
        return load(pile, level) <= carries(pile.get(level), level == pile.size() - 1, years)
            && Math.abs(tilt(pile, level)) <= limit;
    }

    private int breaks(List<T> pile, int years) {
        for (int i = 0; i < pile.size(); i++) {
            if (!holds(pile, i, years)) {
                return i;
            }
        }
        return NONE;
    }

    /** By putting ever more on it. */
    private int moreOf(List<T> pile, int years) {
        if (breaks(pile, years) != NONE) {
            return NONE;
        }
        for (int more = 1; more <= 9999; more++) {
            for (int i = 0; i < pile.size(); i++) {
                if (load(pile, i) + more > carries(pile.get(i), i == pile.size() - 1, years)) {
                    return more - 1;
                }
            }
        }
        return 9999;
    }

    /** Fills the pile's MEALS; answers CRUMBS. */
    private int serve(List<T> pile, int much) {
        int left = much;
        for (int i = 0; i < pile.size(); i++) {
            T t = pile.get(i);
            int want = t.hunger;
            if (rule != null) {
                want = eval(rule, new int[] {i, t.hunger, left, t.kind, pile.size() - 1 - i, t.weight});
            }
            t.meal = want < 0 ? 0 : want > left ? left : want;
            left -= t.meal;
        }
        return left;
    }

    // ---- the face

    public int feed(int a, int b, int c, int d, int e) {
        if (tape.size() + 20 > 600) {
            return NONE;
        }
        for (int x : new int[] {a, b, c, d, e}) {
            tape.add((byte) (x >> 24));
            tape.add((byte) (x >> 16));
            tape.add((byte) (x >> 8));
            tape.add((byte) x);
        }
        return tape.size();
    }

    public int town(int n) {
        if (n < 0 || n > tape.size()) {
            throw new IllegalArgumentException();
        }
        StringBuilder text = new StringBuilder();
        for (int i = 0; i < n; i++) {
            text.append((char) (tape.get(i) & 255));
        }
        tape.clear();
        Model fresh = new Model();
        try {
            read(text.toString(), fresh);
        } catch (Fault f) {
            faultPlace = f.at;
            status[0]++;
            return f.code;
        }
        faultPlace = NONE;
        s = fresh.s;
        for (int i = 0; i < s.tables.size(); i++) {
            s.tower.add(i);
        }
        limit = fresh.limit;
        food = fresh.food;
        rule = fresh.rule;
        acts = new ArrayList<>();
        seen = new ArrayList<>();
        imageSnap = null;
        return 0;
    }

    public int fault() {
        return faultPlace;
    }

    public int count(int what) {
        switch (what) {
            case 0: return s.tables.size();
            case 1: return s.tower.size();
            case 2: return limit;
            case 3: return food;
            case 4: return breaks(s.pile(), s.years) == NONE ? 1 : 0;
            case 5: return breaks(s.pile(), s.years);
            case 6: return s.crumbs;
            case 7: {
                int bits = 0;
                for (T t : s.pile()) {
                    bits |= t.meal >= t.hunger ? 1 << t.id : 0;
                }
                return bits;
            }
            case 8: return s.years;
            case 9: return acts.size();
            case 10: return seen.size();
            case 11: return tape.size();
            case 12: case 13: case 14: return status[what - 12];
            default: throw new NoSuchElementException();
        }
    }

    private T get(int table) {
        if (table < 0 || table >= s.tables.size()) {
            throw new NoSuchElementException();
        }
        return s.tables.get(table);
    }

    private void needLevel(int level) {
        if (level < 0 || level >= s.tower.size()) {
            throw new NoSuchElementException();
        }
    }

    private void needIn(int table) {
        get(table);
        if (!s.tower.contains(table)) {
            throw new NoSuchElementException();
        }
    }

    public int table(int table, int what) {
        T t = get(table);
        switch (what) {
            case 0: return t.kind;
            case 1: return t.weight;
            case 2: return Math.max(0, t.bears - worm(t, s.years));
            case 3: return t.lean;
            case 4: return t.hunger;
            case 5: return t.meal;
            case 6: return t.wedge;
            case 7: return s.tower.indexOf(table);
            default: throw new NoSuchElementException();
        }
    }

    public int level(int level, int what) {
        needLevel(level);
        List<T> pile = s.pile();
        switch (what) {
            case 0: return s.tower.get(level);
            case 1: return load(pile, level);
            case 2: return carries(pile.get(level), level == pile.size() - 1, s.years);
            case 3: return tilt(pile, level);
            case 4: return holds(pile, level, s.years) ? 1 : 0;
            default: throw new NoSuchElementException();
        }
    }

    public int by() {
        int bits = 0;
        for (T t : s.tables) {
            bits |= s.tower.contains(t.id) ? 0 : 1 << t.id;
        }
        return bits;
    }

    private void act() {
        acts.add(s.copy());
        if (acts.size() > 40) {
            acts.remove(0);
        }
    }

    private boolean refused(boolean bad, int what) {
        status[what] += bad ? 1 : 0;
        return bad;
    }

    public int put(int table, int level) {
        get(table);
        if (refused(s.tower.contains(table) || level < 0 || level > s.tower.size(), 1)) {
            return NONE;
        }
        act();
        s.tower.add(level, table);
        return s.tower.size();
    }

    public int take(int table) {
        get(table);
        if (refused(!s.tower.contains(table), 1)) {
            return NONE;
        }
        act();
        int level = s.tower.indexOf(table);
        s.tower.remove(level);
        s.tables.get(table).meal = 0;
        return level;
    }

    public boolean change(int level, int other) {
        needLevel(level);
        needLevel(other);
        if (refused(level == other, 1)) {
            return false;
        }
        act();
        java.util.Collections.swap(s.tower, level, other);
        return true;
    }

    public int wedge(int table, int wedge) {
        get(table);
        if (refused(wedge < -9 || wedge > 9, 1)) {
            return -99;
        }
        act();
        int was = get(table).wedge;
        get(table).wedge = wedge;
        return was;
    }

    public int saw(int table, int lean) {
        get(table);
        if (refused(lean < -9 || lean > 9, 1)) {
            return -99;
        }
        act();
        int was = get(table).lean;
        get(table).lean = lean;
        return was;
    }

    public int supper() {
        act();
        List<T> pile = s.pile();
        s.crumbs = serve(pile, food);
        for (T t : pile) {
            s.tables.get(t.id).meal = t.meal;
        }
        return s.crumbs;
    }

    public int years(int many) {
        if (refused(many < 1 || many > 30 || s.years + many > 999, 1)) {
            return NONE;
        }
        act();
        s.years += many;
        return s.years;
    }

    public int undo() {
        if (acts.isEmpty()) {
            return NONE;
        }
        s = acts.remove(acts.size() - 1);
        return acts.size();
    }

    public int more() {
        return moreOf(s.pile(), s.years);
    }

    private List<T> pileWithout(int bits) {
        List<T> pile = s.pile();
        pile.removeIf(t -> (bits >> t.id & 1) != 0);
        return pile;
    }

    public boolean without(int table) {
        get(table);
        return s.tower.contains(table) && breaks(pileWithout(1 << table), s.years) == NONE;
    }

    // ---- all orders

    private long found;
    private List<Integer> firstRow;

    /** All orders of a set that stand, the first one first; seaSet's TABLES only on LEVEL sea or higher. */
    private void orders(int set, List<T> row, int seaSet, int sea) {
        if (set == 0) {
            if (breaks(row, s.years) == NONE) {
                if (found == 0) {
                    firstRow = new ArrayList<>();
                    for (T t : row) {
                        firstRow.add(t.id);
                    }
                }
                found++;
            }
            return;
        }
        for (T t : s.tables) {
            boolean low = (seaSet >> t.id & 1) != 0 && row.size() < sea;
            if ((set >> t.id & 1) != 0 && !low) {
                row.add(t);
                orders(set & ~(1 << t.id), row, seaSet, sea);
                row.remove(row.size() - 1);
            }
        }
    }

    private int findMost() {
        for (int many = s.tables.size(); many >= 0; many--) {
            for (int set = 0; set < 1 << s.tables.size(); set++) {
                if (Integer.bitCount(set) == many) {
                    found = 0;
                    orders(set, new ArrayList<>(), 0, 0);
                    if (found > 0) {
                        return set;
                    }
                }
            }
        }
        throw new AssertionError();
    }

    public int most(int what) {
        if (what < 0 || what > 1) {
            throw new NoSuchElementException();
        }
        int set = findMost();
        return what == 0 ? Integer.bitCount(set) : set;
    }

    public int row(int i) {
        findMost();
        if (i < 0 || i >= firstRow.size()) {
            throw new NoSuchElementException();
        }
        return firstRow.get(i);
    }

    private int inIt() {
        return (1 << s.tables.size()) - 1 & ~by();
    }

    public long orders() {
        found = 0;
        orders(inIt(), new ArrayList<>(), 0, 0);
        return found;
    }

    public long lifted(int set, int sea) {
        if (set < 0 || set >= 1 << s.tables.size() || sea < 0 || sea > 10) {
            throw new IllegalArgumentException();
        }
        found = 0;
        orders(inIt(), new ArrayList<>(), set, sea);
        return found;
    }

    /** By trying 0, 1, 2 .. of WEDGES in all. */
    public int wedges() {
        for (int sum = 0; sum <= 90; sum++) {
            if (wedged(s.pile(), 0, 0, sum)) {
                return sum;
            }
        }
        return NONE;
    }

    private boolean wedged(List<T> pile, int level, int tilt, int left) {
        if (level == pile.size()) {
            return true;
        }
        T t = pile.get(level);
        for (int w = -Math.min(9, left); w <= Math.min(9, left); w++) {
            int next = tilt + (t.lean + w) * (t.kind == 3 ? 2 : 1);
            if (Math.abs(next) <= limit && wedged(pile, level + 1, next, left - Math.abs(w))) {
                return true;
            }
        }
        return false;
    }

    public int when() {
        for (int y = 0; y <= 99; y++) {
            if (breaks(s.pile(), s.years + y) != NONE) {
                return y;
            }
        }
        return NONE;
    }

    private boolean could(T a, T b) {
        return carries(a, false, s.years) >= b.weight && carries(b, false, s.years) >= a.weight;
    }

    private int couples(List<T> rest) {
        if (rest.size() < 2) {
            return 0;
        }
        List<T> others = new ArrayList<>(rest.subList(1, rest.size()));
        int best = couples(others);
        for (int i = 0; i < others.size(); i++) {
            if (could(rest.get(0), others.get(i))) {
                List<T> fewer = new ArrayList<>(others);
                fewer.remove(i);
                best = Math.max(best, 1 + couples(fewer));
            }
        }
        return best;
    }

    public int marriages() {
        return couples(s.tables);
    }

    public boolean marry(int table, int other) {
        T a = get(table);
        T b = get(other);
        if (a == b) {
            throw new IllegalArgumentException();
        }
        return could(a, b);
    }

    public int nod(int table, int much) {
        needIn(table);
        if (much < 0 || much > 99) {
            throw new IllegalArgumentException();
        }
        List<T> pile = s.pile();
        pile.get(s.tower.indexOf(table)).meal += much;
        return breaks(pile, s.years);
    }

    public int fair() {
        for (int f = 0; f <= 999; f++) {
            List<T> pile = s.pile();
            serve(pile, f);
            boolean all = true;
            for (T t : pile) {
                all &= t.meal >= t.hunger;
            }
            if (all) {
                return f;
            }
        }
        return NONE;
    }

    public int out(int table) {
        needIn(table);
        int best = NONE;
        for (int bits = 0; bits < 1 << s.tables.size(); bits++) {
            boolean others = (bits & by()) == 0 && (bits >> table & 1) == 0;
            if (others && breaks(pileWithout(bits | 1 << table), s.years) == NONE
                && (best == NONE || Integer.bitCount(bits) < Integer.bitCount(best))) {
                best = bits;
            }
        }
        return best;
    }

    public int oneWedge() {
        if (breaks(s.pile(), s.years) == NONE) {
            return NONE;
        }
        for (int i = 0; i < s.tower.size(); i++) {
            for (int w = -9; w <= 9; w++) {
                List<T> pile = s.pile();
                boolean same = pile.get(i).wedge == w;
                pile.get(i).wedge = w;
                if (!same && breaks(pile, s.years) == NONE) {
                    return 100 * pile.get(i).id + w + 50;
                }
            }
        }
        return NONE;
    }

    public int swap() {
        int best = NONE;
        int most = more();
        for (int i = 0; i < s.tower.size(); i++) {
            for (int j = i + 1; j < s.tower.size(); j++) {
                List<T> pile = s.pile();
                java.util.Collections.swap(pile, i, j);
                int m = moreOf(pile, s.years);
                if (m > most) {
                    most = m;
                    best = 10 * i + j;
                }
            }
        }
        return best;
    }

    public int slack(int level) {
        needLevel(level);
        return level(level, 2) - level(level, 1);
    }

    public int broken(int years) {
        if (years < 0 || years > 99) {
            throw new IllegalArgumentException();
        }
        return breaks(s.pile(), s.years + years);
    }

    public int crooked() {
        List<T> pile = s.pile();
        for (int most = 999; most >= 0; most--) {
            for (int i = 0; i < pile.size(); i++) {
                if (Math.abs(tilt(pile, i)) == most) {
                    return i;
                }
            }
        }
        return NONE;
    }

    public int top(int much) {
        if (much < 0 || much > 999) {
            throw new IllegalArgumentException();
        }
        List<T> pile = s.pile();
        serve(pile, much);
        return pile.isEmpty() ? NONE : pile.get(pile.size() - 1).meal;
    }

    public int relief() {
        int best = NONE;
        int most = NONE;
        for (int t = 0; t < s.tables.size(); t++) {
            int m = s.tower.contains(t) ? moreOf(pileWithout(1 << t), s.years) : NONE;
            if (m > most) {
                most = m;
                best = t;
            }
        }
        return best;
    }

    public int hungriest() {
        for (int lack = 99; lack > 0; lack--) {
            for (T t : s.tables) {
                if (s.tower.contains(t.id) && t.hunger - t.meal == lack) {
                    return t.id;
                }
            }
        }
        return NONE;
    }

    public int see(int level, int tilt) {
        boolean bad = seen.size() == 8 || level < 0 || level >= s.tower.size() || tilt < -99 || tilt > 99;
        if (refused(bad, 2)) {
            return NONE;
        }
        seen.add(new int[] {level, tilt});
        return seen.size();
    }

    private boolean so(List<T> pile) {
        for (int[] one : seen) {
            if (one[0] >= pile.size() || tilt(pile, one[0]) != one[1]) {
                return false;
            }
        }
        return true;
    }

    /** The piles with one leg sawn by which all SEEN is so, and what each is told as. */
    private List<List<T>> sawn(List<Integer> names) {
        List<List<T>> all = new ArrayList<>();
        for (int i = 0; i < s.tower.size(); i++) {
            for (int lean = -9; lean <= 9; lean++) {
                List<T> pile = s.pile();
                boolean same = pile.get(i).lean == lean;
                pile.get(i).lean = lean;
                if (!same && so(pile)) {
                    all.add(pile);
                    names.add(100 * pile.get(i).id + lean + 50);
                }
            }
        }
        return all;
    }

    public int which(int what) {
        List<Integer> names = new ArrayList<>();
        int many = sawn(names).size();
        switch (what) {
            case 0: return many;
            case 1: return many == 0 ? NONE : names.get(0);
            case 2: return so(s.pile()) ? 1 : 0;
            default: throw new NoSuchElementException();
        }
    }

    public int look() {
        List<List<T>> all = sawn(new ArrayList<>());
        int best = NONE;
        int most = 0;
        for (int i = 0; i < s.tower.size(); i++) {
            Set<Integer> tilts = new HashSet<>();
            for (List<T> pile : all) {
                tilts.add(tilt(pile, i));
            }
            if (tilts.size() > most) {
                most = tilts.size();
                best = i;
            }
        }
        return best;
    }

    public void forget() {
        seen.clear();
    }

    private int[] gains(int a, int b) {
        List<T> pile = s.pile();
        pile.get(0).meal += a;
        pile.get(pile.size() - 1).meal += b;
        int loss = breaks(pile, s.years) == NONE ? 0 : 20;
        return new int[] {a - loss, b - loss};
    }

    public int game(int what) {
        if (what < 0 || what > 1) {
            throw new NoSuchElementException();
        }
        int many = 0;
        int first = NONE;
        for (int a = 0; a < 10 && s.tower.size() > 1; a++) {
            for (int b = 0; b < 10; b++) {
                boolean rests = true;
                for (int c = 0; c < 10; c++) {
                    rests &= gains(c, b)[0] <= gains(a, b)[0] && gains(a, c)[1] <= gains(a, b)[1];
                }
                first = rests && many == 0 ? 10 * a + b : first;
                many += rests ? 1 : 0;
            }
        }
        return what == 0 ? many : first;
    }

    public int decades(int seed, int n, int what) {
        if (what < 0 || what > 2) {
            throw new NoSuchElementException();
        }
        if (n < 0 || n > 40) {
            throw new IllegalArgumentException();
        }
        Snap z = s.copy();
        long x = seed;
        int stood = 0;
        int first = NONE;
        for (int y = 1; y <= n; y++) {
            z.years++;
            if (!z.tables.isEmpty()) {
                x = (int) (x * 1103515245L + 12345L);
                T t = z.tables.get((int) (((x & 0xffffffffL) >> 16) % 32768 % z.tables.size()));
                x = (int) (x * 1103515245L + 12345L);
                int d = (int) (((x & 0xffffffffL) >> 16) % 32768 % 5);
                if (d == 0 && t.lean < 9) {
                    t.lean++;
                }
                if (d == 1 && t.lean > -9) {
                    t.lean--;
                }
                if (d == 2 && z.tower.contains(t.id)) {
                    t.meal += t.hunger;
                }
            }
            if (breaks(z.pile(), z.years) == NONE) {
                stood++;
            } else if (first == NONE) {
                first = y;
            }
        }
        return what == 0 ? stood : what == 1 ? first : z.tower.isEmpty() ? 0 : load(z.pile(), 0);
    }

    public void image() {
        imageSnap = s.copy();
        imageActs = new ArrayList<>();
        for (Snap a : acts) {
            imageActs.add(a.copy());
        }
        imageSeen = new ArrayList<>(seen);
        imageStatus = status.clone();
    }

    public boolean restore() {
        if (imageSnap == null) {
            return false;
        }
        s = imageSnap.copy();
        acts = new ArrayList<>();
        for (Snap a : imageActs) {
            acts.add(a.copy());
        }
        seen = new ArrayList<>(imageSeen);
        status = imageStatus.clone();
        return true;
    }
}
