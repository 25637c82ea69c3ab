import java.util.ArrayList;
import java.util.HashMap;
import java.util.List;
import java.util.Map;

/** The document once more, by other means than the class: trees, copies, trying out. For OracleTest alone. */
final class Oracle {
    static final int NONE = -1;

    static final class Fault extends RuntimeException {
        private static final long serialVersionUID = 1L;
        final int kind;
        final int at;

        Fault(int kind, int at) {
            this.kind = kind;
            this.at = at;
        }
    }

    static final class Token {
        final String is;
        final int at;

        Token(String is, int at) {
            this.is = is;
            this.at = at;
        }

        boolean isNumber() {
            return is.matches("[0-9]{1,4}");
        }
    }

    /** A node of THE LAW. */
    static final class Node {
        final String is;
        final Node[] parts;

        Node(String is, Node... parts) {
            this.is = is;
            this.parts = parts;
        }

        int value(Map<String, Integer> facts) {
            if (parts.length == 0) {
                return facts.containsKey(is) ? facts.get(is) : Integer.parseInt(is);
            }
            int a = parts[0].value(facts);
            if (is.equals("not")) {
                return a == 0 ? 1 : 0;
            }
            int b = parts[1].value(facts);
            switch (is) {
                case "+": return a + b;
                case "-": return a - b;
                case "*": return a * b;
                case "/": return a / b;
                case "<": return a < b ? 1 : 0;
                case "=": return a == b ? 1 : 0;
                case ">": return a > b ? 1 : 0;
                case "and": return a != 0 && b != 0 ? 1 : 0;
                default: return a != 0 || b != 0 ? 1 : 0;
            }
        }
    }

    static final class LawLine {
        String word;
        Node amount;
        Node when;
    }

    static final class Order {
        final int what;
        final int who;
        final int where;
        final boolean goesOn;

        Order(int what, int who, int where, boolean goesOn) {
            this.what = what;
            this.who = who;
            this.where = where;
            this.goesOn = goesOn;
        }
    }

    static final class Subject {
        int at;
        int zeal;
        int tired;
        boolean alive = true;
        int done;
        Order standing;

        Subject copy() {
            Subject s = new Subject();
            s.at = at;
            s.zeal = zeal;
            s.tired = tired;
            s.alive = alive;
            s.done = done;
            s.standing = standing;
            return s;
        }
    }

    /** All that THE IMAGE holds. */
    static final class World {
        int[] high = {5, 5, 5, 5, 5, 5, 5, 5, 5, 5, 5, 5};
        int[] fire = new int[12];
        int[] wall = new int[12];
        List<Subject> subjects = new ArrayList<>();
        int sea;
        int drowned;
        int missed;
        int day;
        int state;
        List<Order> today = new ArrayList<>();
        List<Order> yesterday = new ArrayList<>();
        List<int[]> book = new ArrayList<>();
        List<LawLine> law = new ArrayList<>();
        List<Object[]> ledger = new ArrayList<>();
        List<int[]> tide = new ArrayList<>();
        List<int[]> roads = new ArrayList<>();
        List<Integer> prophets = new ArrayList<>();
        List<String> words = new ArrayList<>();
        List<int[]> comers = new ArrayList<>();
        List<int[]> letters = new ArrayList<>();

        World copy() {
            World w = new World();
            w.high = high.clone();
            w.fire = fire.clone();
            w.wall = wall.clone();
            for (Subject s : subjects) {
                w.subjects.add(s.copy());
            }
            w.sea = sea;
            w.drowned = drowned;
            w.missed = missed;
            w.day = day;
            w.state = state;
            w.today = new ArrayList<>(today);
            w.yesterday = new ArrayList<>(yesterday);
            w.book = new ArrayList<>(book);
            w.law = law;
            w.ledger = ledger;
            w.tide = tide;
            w.roads = roads;
            w.prophets = new ArrayList<>(prophets);
            w.words = new ArrayList<>(words);
            w.comers = new ArrayList<>(comers);
            w.letters = new ArrayList<>(letters);
            return w;
        }
    }

    World w = new World();
    World image;
    List<World> past = new ArrayList<>();
    String tape = "";
    int fault;
    int faultAt = NONE;

    static boolean in(int v, int a, int b) {
        return v >= a && v <= b;
    }

    void keep() {
        past.add(w.copy());
        if (past.size() > 6) {
            past.remove(0);
        }
    }

    int state(int v) {
        int was = w.state;
        w.state = v;
        past.clear();
        return was;
    }

    int subject(int place, int zeal) {
        if (!in(place, 0, 11) || !in(zeal, 0, 9) || w.subjects.size() == 18) {
            return NONE;
        }
        Subject s = new Subject();
        s.at = place;
        s.zeal = zeal;
        w.subjects.add(s);
        past.clear();
        return w.subjects.size() - 1;
    }

    boolean set(int what, int who, int v) {
        int top = what == 1 || what == 2 || what == 4 ? 99 : 9;
        if (!in(what, 0, 5) || !in(v, 0, top)) {
            return false;
        }
        if (what <= 2 && !in(who, 0, 11)) {
            return false;
        }
        if ((what == 3 || what == 4) && !in(who, 0, w.subjects.size() - 1)) {
            return false;
        }
        past.clear();
        switch (what) {
            case 0: w.high[who] = v; break;
            case 1: w.fire[who] = v; break;
            case 2: w.wall[who] = v; break;
            case 3: w.subjects.get(who).zeal = v; break;
            case 4: w.subjects.get(who).tired = v; break;
            default: w.sea = v;
        }
        return true;
    }

    int order(int what, int who, int where, boolean goesOn) {
        if (!in(what, 0, 5) || !in(who, 0, w.subjects.size() - 1) || !w.subjects.get(who).alive) {
            return NONE;
        }
        if (what == 0 && !in(where, 0, 11) || what == 5 && goesOn || w.today.size() == 24) {
            return NONE;
        }
        keep();
        w.today.add(new Order(what, who, what == 0 ? where : 0, goesOn));
        return w.today.size();
    }

    int builds(int place) {
        if (!in(place, 0, 11) || w.wall[place] == 99) {
            return NONE;
        }
        keep();
        return ++w.wall[place];
    }

    int days(int n) {
        if (!in(n, 1, 60) || w.day + n > 9999) {
            return NONE;
        }
        int done = 0;
        for (int i = 0; i < n; i++) {
            keep();
            done += oneDay(w, false);
        }
        return done;
    }

    static int crowd(World w, int place) {
        int many = 0;
        for (Subject s : w.subjects) {
            if (s.alive && s.at == place) {
                many++;
            }
        }
        return many;
    }

    static int ask(World w, String word, Subject s, int place, int what) {
        Map<String, Integer> facts = new HashMap<>();
        facts.put("zeal", s == null ? 0 : s.zeal);
        facts.put("tired", s == null ? 0 : s.tired);
        facts.put("done", s == null ? 0 : s.done);
        facts.put("what", s == null ? 0 : what);
        facts.put("fire", w.fire[place]);
        facts.put("wall", w.wall[place]);
        facts.put("high", w.high[place]);
        facts.put("sea", w.sea);
        facts.put("crowd", crowd(w, place));
        facts.put("day", w.day);
        int v = word.equals("tires") ? 5 : 3;
        if (word.equals("obeys")) {
            v = 500 + 50 * facts.get("zeal") - 5 * facts.get("tired");
        }
        for (LawLine line : w.law) {
            if (line.word.equals(word) && (line.when == null || line.when.value(facts) != 0)) {
                v = line.amount.value(facts);
                break;
            }
        }
        int top = word.equals("obeys") ? 1000 : 99;
        return v < 0 ? 0 : v > top ? top : v;
    }

    /** By steps of one road at a time, so that no way is 99. */
    static int[][] distances(World w) {
        int[][] d = new int[12][12];
        for (int i = 0; i < 12; i++) {
            for (int j = 0; j < 12; j++) {
                d[i][j] = i == j ? 0 : 99;
            }
        }
        for (int[] road : w.roads) {
            d[road[0]][road[1]] = 1;
            d[road[1]][road[0]] = 1;
        }
        for (int k = 0; k < 12; k++) {
            for (int i = 0; i < 12; i++) {
                for (int j = 0; j < 12; j++) {
                    d[i][j] = Math.min(d[i][j], d[i][k] + d[k][j]);
                }
            }
        }
        return d;
    }

    static boolean road(World w, int a, int b) {
        for (int[] r : w.roads) {
            if (r[0] == a && r[1] == b || r[0] == b && r[1] == a) {
                return true;
            }
        }
        return false;
    }

    static void write(World w, boolean thought, int what, int who, int much) {
        if (!thought && w.book.size() < 150) {
            w.book.add(new int[] {w.day, what, who, much});
        }
    }

    static int oneDay(World w, boolean thought) {
        for (int[] line : w.tide) {
            if (line[0] == w.day) {
                if (line[1] < 0) {
                    w.sea = line[2];
                } else {
                    w.fire[line[1]] = line[2];
                }
            }
        }
        int before = 0;
        for (Subject s : w.subjects) {
            before += s.done;
        }
        boolean[] had = new boolean[18];
        for (Order o : w.yesterday) {
            had[o.who] = true;
            obey(w, thought, o, o.goesOn);
        }
        for (int i = 0; i < w.subjects.size(); i++) {
            if (!had[i] && w.subjects.get(i).standing != null) {
                obey(w, thought, w.subjects.get(i).standing, false);
            }
        }
        int after = 0;
        for (Subject s : w.subjects) {
            after += s.done;
        }
        for (int p = 0; p < 12; p++) {
            if (w.fire[p] > 0) {
                w.fire[p] = Math.min(99, w.fire[p] + ask(w, "grows", null, p, 0));
            }
        }
        for (int p = 0; p < 12; p++) {
            if (w.sea <= w.high[p] || w.sea <= w.wall[p] / 10) {
                continue;
            }
            for (int i = 0; i < w.subjects.size(); i++) {
                Subject s = w.subjects.get(i);
                if (s.alive && s.at == p) {
                    s.alive = false;
                    w.drowned++;
                    write(w, thought, 3, i, p);
                }
            }
            w.fire[p] = 0;
        }
        w.yesterday = w.today;
        for (Object[] line : w.ledger) {
            if ((Integer) line[0] == w.day && w.yesterday.size() < 24) {
                w.yesterday.add((Order) line[1]);
            }
        }
        w.today = new ArrayList<>();
        w.day++;
        return after - before;
    }

    static void obey(World w, boolean thought, Order o, boolean stays) {
        Subject s = w.subjects.get(o.who);
        if (!s.alive) {
            return;
        }
        if (o.what == 5) {
            write(w, thought, 2, o.who, s.standing == null ? NONE : s.standing.what);
            s.standing = null;
            return;
        }
        int likely = ask(w, "obeys", s, s.at, o.what);
        boolean obeys;
        if (thought) {
            obeys = likely >= 500;
        } else if (likely == 0) {
            obeys = false;
        } else {
            w.state = w.state * 1664525 + 1013904223;
            obeys = (w.state >>> 8) % 1000 < likely;
        }
        if (obeys) {
            int tires = ask(w, "tires", s, s.at, o.what);
            s.done++;
            s.tired = o.what == 1 ? Math.max(0, s.tired - 20) : Math.min(99, s.tired + tires);
            act(w, s, o);
        } else {
            w.missed++;
        }
        write(w, thought, obeys ? 0 : 1, o.who, o.what);
        if (stays) {
            s.standing = o;
        }
    }

    static void act(World w, Subject s, Order o) {
        if (o.what == 2) {
            w.wall[s.at] = Math.min(99, w.wall[s.at] + 3);
        }
        if (o.what == 3) {
            w.fire[s.at] = Math.max(0, w.fire[s.at] - 5);
        }
        if (o.what == 0) {
            int[][] d = distances(w);
            if (d[s.at][o.where] == 0 || d[s.at][o.where] >= 99) {
                return;
            }
            for (int p = 0; p < 12; p++) {
                if (road(w, s.at, p) && d[p][o.where] == d[s.at][o.where] - 1) {
                    s.at = p;
                    return;
                }
            }
        }
    }

    int feed(int a, int b, int c, int d, int e) {
        if (tape.length() + 20 > 400) {
            return NONE;
        }
        StringBuilder t = new StringBuilder(tape);
        for (int v : new int[] {a, b, c, d, e}) {
            t.append((char) (v >>> 24)).append((char) (v >> 16 & 255)).append((char) (v >> 8 & 255)).append((char) (v & 255));
        }
        tape = t.toString();
        return tape.length();
    }

    boolean end(int n) {
        if (!in(n, 0, tape.length())) {
            return false;
        }
        tape = tape.substring(0, n);
        return true;
    }

    // ---- texts, by descent

    List<Token> tokens;
    int next;

    static List<Token> cut(String t) {
        List<Token> all = new ArrayList<>();
        int i = 0;
        while (i < t.length()) {
            int j = i;
            while (j < t.length() && Character.isLetter(t.charAt(j)) && t.charAt(j) < 128) {
                j++;
            }
            if (j == i) {
                while (j < t.length() && t.charAt(j) >= '0' && t.charAt(j) <= '9') {
                    j++;
                }
            }
            if (j == i) {
                j++;
            }
            String is = t.substring(i, j);
            if (!is.equals(" ") && !is.equals("\n")) {
                all.add(new Token(is, i));
            }
            i = j;
        }
        all.add(new Token("", t.length()));
        return all;
    }

    Token token() {
        return tokens.get(next);
    }

    boolean is(String s) {
        return token().is.equals(s);
    }

    void must(String s) {
        if (!is(s)) {
            throw new Fault(1, token().at);
        }
        next++;
    }

    int number(int most) {
        if (!token().isNumber()) {
            throw new Fault(1, token().at);
        }
        int v = Integer.parseInt(token().is);
        if (v > most) {
            throw new Fault(2, token().at);
        }
        next++;
        return v;
    }

    int text(int k) {
        String t = tape;
        tape = "";
        fault = 0;
        faultAt = NONE;
        if (!in(k, 0, 3)) {
            return NONE;
        }
        tokens = cut(t);
        next = 0;
        List<LawLine> law = new ArrayList<>();
        List<Object[]> ledger = new ArrayList<>();
        List<int[]> rows = new ArrayList<>();
        int lines = 0;
        try {
            while (!is("")) {
                boolean begins = k == 0 ? is("obeys") || is("tires") || is("grows") : k == 3 ? is("place") : is("on");
                if (!begins) {
                    throw new Fault(1, token().at);
                }
                if (lines == 16) {
                    throw new Fault(3, token().at);
                }
                lines++;
                readLine(k, law, ledger, rows);
            }
        } catch (Fault f) {
            fault = f.kind;
            faultAt = f.at;
            return NONE;
        }
        if (k == 0) {
            w.law = law;
        } else {
            past.clear();
        }
        if (k == 1) {
            w.ledger = ledger;
        }
        if (k == 2) {
            w.tide = rows;
        }
        if (k == 3) {
            w.roads = rows;
        }
        return lines;
    }

    void readLine(int k, List<LawLine> law, List<Object[]> ledger, List<int[]> rows) {
        String first = token().is;
        next++;
        if (k == 0) {
            LawLine line = new LawLine();
            line.word = first;
            line.amount = amount();
            if (is("when")) {
                next++;
                line.when = either(0);
            }
            law.add(line);
        } else if (k == 1) {
            int day = number(999);
            must("order");
            int who = number(w.subjects.size() - 1);
            int what = List.of("march", "rest", "build", "quench", "stand", "stop").indexOf(token().is);
            if (what < 0) {
                throw new Fault(1, token().at);
            }
            next++;
            int where = what == 0 ? number(11) : 0;
            boolean daily = is("daily") && what != 5;
            if (daily) {
                next++;
            }
            ledger.add(new Object[] {day, new Order(what, who, where, daily)});
        } else if (k == 2) {
            int day = number(999);
            if (is("sea")) {
                next++;
                rows.add(new int[] {day, NONE, number(9)});
            } else {
                must("fire");
                int place = number(11);
                rows.add(new int[] {day, place, number(99)});
            }
        } else {
            int a = number(11);
            must("road");
            int at = token().at;
            int b = number(11);
            if (a == b) {
                throw new Fault(2, at);
            }
            rows.add(new int[] {a, b});
        }
        must(";");
    }

    Node amount() {
        Node v = product();
        while (is("+") || is("-")) {
            String sign = token().is;
            next++;
            v = new Node(sign, v, product());
        }
        return v;
    }

    Node product() {
        Node v = unit();
        while (is("*") || is("/")) {
            String sign = token().is;
            next++;
            if (sign.equals("*")) {
                v = new Node(sign, v, unit());
            } else {
                int at = token().at;
                int by = number(9999);
                if (by == 0) {
                    throw new Fault(2, at);
                }
                v = new Node(sign, v, new Node(Integer.toString(by)));
            }
        }
        return v;
    }

    Node unit() {
        boolean can = token().isNumber()
            || List.of("zeal", "tired", "what", "fire", "wall", "high", "sea", "crowd", "done", "day").contains(token().is);
        if (!can) {
            throw new Fault(1, token().at);
        }
        next++;
        return new Node(tokens.get(next - 1).is);
    }

    Node either(int open) {
        Node v = both(open);
        while (is("or")) {
            next++;
            v = new Node("or", v, both(open));
        }
        return v;
    }

    Node both(int open) {
        Node v = condition(open);
        while (is("and")) {
            next++;
            v = new Node("and", v, condition(open));
        }
        return v;
    }

    Node condition(int open) {
        if (is("not") || is("(")) {
            if (open == 8) {
                throw new Fault(3, token().at);
            }
            boolean not = is("not");
            next++;
            if (not) {
                return new Node("not", condition(open + 1));
            }
            Node v = either(open + 1);
            must(")");
            return v;
        }
        Node a = amount();
        String sign = token().is;
        if (!List.of("<", "=", ">").contains(sign)) {
            throw new Fault(1, token().at);
        }
        next++;
        return new Node(sign, a, amount());
    }

    int fault(int what) {
        return what == 0 ? fault : what == 1 ? faultAt : NONE;
    }

    int place(int place, int what) {
        if (!in(place, 0, 11)) {
            return NONE;
        }
        int set = 0;
        switch (what) {
            case 0: return w.high[place];
            case 1: return w.fire[place];
            case 2: return w.wall[place];
            case 3:
                for (int i = 0; i < w.subjects.size(); i++) {
                    if (w.subjects.get(i).alive && w.subjects.get(i).at == place) {
                        set += 1 << i;
                    }
                }
                return set;
            case 4:
                for (int i = 0; i < 12; i++) {
                    if (road(w, place, i)) {
                        set += 1 << i;
                    }
                }
                return set;
            case 5: return ask(w, "grows", null, place, 0);
            default: return NONE;
        }
    }

    int of(int subject, int what) {
        if (!in(subject, 0, w.subjects.size() - 1)) {
            return NONE;
        }
        Subject s = w.subjects.get(subject);
        switch (what) {
            case 0: return s.at;
            case 1: return s.zeal;
            case 2: return s.tired;
            case 3: return s.alive ? 1 : 0;
            case 4: return s.done;
            case 5: return s.standing == null ? NONE : s.standing.what + 10 * s.standing.where;
            case 6: return ask(w, "obeys", s, s.at, 4);
            case 7: return ask(w, "tires", s, s.at, 4);
            default: return NONE;
        }
    }

    int book(int i, int what) {
        return in(i, 0, w.book.size() - 1) && in(what, 0, 3) ? w.book.get(i)[what] : NONE - 1;
    }

    int goes(int n, int what) {
        if (!in(n, 1, 60) || !in(what, 0, 3)) {
            return NONE;
        }
        World t = w.copy();
        for (int i = 0; i < n; i++) {
            oneDay(t, true);
        }
        int alive = 0;
        for (Subject s : t.subjects) {
            alive += s.alive ? 1 : 0;
        }
        int fires = 0;
        int walls = 0;
        for (int p = 0; p < 12; p++) {
            fires += t.fire[p];
            walls += t.wall[p];
        }
        return new int[] {alive, fires, walls, t.missed}[what];
    }

    int arrives(int subject, int place) {
        if (!in(subject, 0, w.subjects.size() - 1) || !in(place, 0, 11) || !w.subjects.get(subject).alive) {
            return NONE;
        }
        World t = w.copy();
        int day = 0;
        while (t.subjects.get(subject).at != place && day < 60) {
            oneDay(t, true);
            day++;
        }
        return t.subjects.get(subject).at == place ? day : NONE;
    }

    // ---- in thought

    static int heat(int h, int c, int lost) {
        int v = h + c - lost;
        return v < 0 ? 0 : v > 99 ? 99 : v;
    }

    /** The least off and the first order, by trying all, with what was found kept. */
    static int[] tryBath(int h, int g, int y, int lost, int n, Map<Integer, int[]> found) {
        int key = (h * 10 + y) * 11 + n;
        if (found.containsKey(key)) {
            return found.get(key);
        }
        int then = heat(h, y, lost);
        int[] best = {Math.abs(then - g), 0};
        if (n > 1) {
            best = null;
            for (int c = 0; c <= 9; c++) {
                int v = Math.abs(then - g) + tryBath(then, g, c, lost, n - 1, found)[0];
                if (best == null || v < best[0]) {
                    best = new int[] {v, c};
                }
            }
        }
        found.put(key, best);
        return best;
    }

    int bath(int h, int g, int yw, int what) {
        if (!in(h, 0, 99) || !in(g, 0, 99) || !in(yw, 0, 99) || !in(what, 10, 101) || what % 10 > 1) {
            return NONE;
        }
        return tryBath(h, g, yw / 10, yw % 10, what / 10, new HashMap<>())[what % 10];
    }

    int follows(int ab, int d, int m, int k) {
        if (!in(ab, 0, 999999) || !in(d, 1, 5) || !in(m, 1, 1000) || !in(k, 0, 1000000)) {
            return NONE;
        }
        int[] x = new int[k + 1];
        for (int i = 0; i <= k; i++) {
            x[i] = i < d ? 1 % m : (ab / 1000 * x[i - 1] + ab % 1000 * x[i - d]) % m;
        }
        return x[k];
    }

    int caught(int p, int q) {
        if (!in(p, 0, 11) || !in(q, -1, 11)) {
            return NONE;
        }
        int[][] v = new int[12][12];
        for (int i = 0; i < 12; i++) {
            for (int j = 0; j < 12; j++) {
                v[i][j] = i == j ? 0 : 999;
            }
        }
        for (int turn = 0; turn < 150; turn++) {
            for (int i = 0; i < 12; i++) {
                for (int j = 0; j < 12; j++) {
                    if (i != j) {
                        v[i][j] = guardGoes(v, i, j);
                    }
                }
            }
        }
        if (q >= 0) {
            return v[p][q] >= 999 ? NONE : v[p][q];
        }
        int many = 0;
        for (int j = 0; j < 12; j++) {
            many += v[p][j] < 999 ? 1 : 0;
        }
        return many;
    }

    int guardGoes(int[][] v, int p, int q) {
        int best = 999;
        for (int to = 0; to < 12; to++) {
            if (to != p && !road(w, p, to)) {
                continue;
            }
            int late = 0;
            if (to != q) {
                for (int flees = 0; flees < 12; flees++) {
                    if (flees == q || road(w, q, flees)) {
                        late = Math.max(late, v[to][flees]);
                    }
                }
            }
            best = Math.min(best, Math.min(999, 1 + late));
        }
        return best;
    }

    int said(int x, int y, int words, int what) {
        if (!in(x, 0, 999) || !in(y, 0, 999) || !in(words, 0, 31) || !in(what, 0, 1)) {
            return NONE;
        }
        int[] ways = new int[1000];
        ways[x] = 1;
        for (int told = 0; told <= 8; told++) {
            if (ways[y] > 0) {
                return what == 0 ? told : ways[y];
            }
            int[] then = new int[1000];
            for (int v = 0; v < 1000; v++) {
                int[] to = {v * 2 % 1000, (v + 1) % 1000, v < 3 ? 0 : v - 3,
                    Integer.parseInt(new StringBuilder(Integer.toString(v)).reverse().toString()), v / 2};
                for (int word = 0; word < 5; word++) {
                    if ((words >> word & 1) == 1) {
                        then[to[word]] += ways[v];
                    }
                }
            }
            ways = then;
        }
        return NONE;
    }

    int prophet(int yes) {
        if (yes == NONE) {
            w.prophets.clear();
            return 0;
        }
        if (!in(yes, 0, 1023) || w.prophets.size() == 8) {
            return NONE;
        }
        w.prophets.add(yes);
        return w.prophets.size();
    }

    int wrong(int was, int n, int i) {
        if (!in(was, 0, 1023) || !in(n, 0, 10) || !in(i, -2, w.prophets.size() - 1)) {
            return NONE;
        }
        if (i == -2) {
            return fooled(was, n);
        }
        int best = w.prophets.isEmpty() ? 0 : 99;
        for (int j = 0; j < w.prophets.size(); j++) {
            int wrong = 0;
            for (int day = 0; day < n; day++) {
                wrong += (was >> day & 1) != (w.prophets.get(j) >> day & 1) ? 1 : 0;
            }
            if (j == i) {
                return wrong;
            }
            best = Math.min(best, wrong);
        }
        return best;
    }

    int fooled(int was, int n) {
        List<Integer> right = new ArrayList<>(w.prophets);
        int fooled = 0;
        for (int day = 0; day < n; day++) {
            int so = was >> day & 1;
            List<Integer> still = new ArrayList<>();
            int yes = 0;
            for (int p : right) {
                yes += p >> day & 1;
                if ((p >> day & 1) == so) {
                    still.add(p);
                }
            }
            int goes = yes > right.size() - yes ? 1 : 0;
            if (goes != so) {
                fooled++;
            }
            right = still.isEmpty() ? new ArrayList<>(w.prophets) : still;
        }
        return fooled;
    }

    int spell(int digits) {
        if (digits == NONE) {
            w.words.clear();
            return 0;
        }
        if (!in(digits, 1, 9999) || Integer.toString(digits).contains("0") || w.words.size() == 5) {
            return NONE;
        }
        w.words.add(Integer.toString(digits));
        return w.words.size();
    }

    int together(int what) {
        List<Integer> all = new ArrayList<>();
        layAll("", w.words, all);
        int least = 99;
        int many = 0;
        for (int v : all) {
            if (v < least) {
                least = v;
                many = 0;
            }
            many += v == least ? 1 : 0;
        }
        return what == 0 ? least : what == 1 ? many : NONE;
    }

    static void layAll(String row, List<String> left, List<Integer> all) {
        if (left.isEmpty()) {
            all.add(row.length());
        }
        for (int i = 0; i < left.size(); i++) {
            List<String> rest = new ArrayList<>(left);
            String word = rest.remove(i);
            String then = row;
            if (!row.contains(word)) {
                int over = Math.min(word.length(), row.length());
                while (!row.endsWith(word.substring(0, over))) {
                    over--;
                }
                then = row + word.substring(over);
            }
            layAll(then, rest, all);
        }
    }

    int ranks(int n, int what) {
        if (!in(n, 1, 999) || !in(what, 0, 1)) {
            return NONE;
        }
        int many = 0;
        int files = 0;
        for (int r = 1; r <= n; r++) {
            if (n % r == 0) {
                many++;
                if (r <= n / r) {
                    files = n / r;
                }
            }
        }
        return what == 0 ? many : files;
    }

    int comer(int minute, int needs) {
        if (minute == NONE) {
            w.comers.clear();
            return 0;
        }
        if (!in(minute, 0, 99) || !in(needs, 1, 20) || w.comers.size() == 10) {
            return NONE;
        }
        w.comers.add(new int[] {minute, needs});
        return w.comers.size();
    }

    /** Minute by minute. */
    int queue(int k, int what) {
        if (!in(k, 1, 3) || !in(what, 0, 2)) {
            return NONE;
        }
        List<int[]> line = new ArrayList<>();
        int[] busy = new int[k];
        int waited = 0;
        int last = 0;
        int most = 0;
        for (int minute = 0; minute < 400; minute++) {
            for (int[] c : w.comers) {
                if (c[0] == minute) {
                    line.add(c);
                }
            }
            for (int s = 0; s < k; s++) {
                if (busy[s] <= minute && !line.isEmpty()) {
                    int[] c = line.remove(0);
                    busy[s] = minute + c[1];
                    last = Math.max(last, busy[s]);
                }
            }
            waited += line.size();
            most = Math.max(most, line.size());
        }
        return new int[] {waited, last, most}[what];
    }

    int letter(int sent, int comes) {
        if (sent == NONE) {
            w.letters.clear();
            return 0;
        }
        if (!in(sent, 0, 99) || !in(comes, 0, 99) || comes <= sent || w.letters.size() == 10) {
            return NONE;
        }
        w.letters.add(new int[] {sent, comes});
        return w.letters.size();
    }

    boolean crosses(int i, int j) {
        int[] a = w.letters.get(i);
        int[] b = w.letters.get(j);
        return a[0] < b[0] && a[1] > b[1] || a[0] > b[0] && a[1] < b[1];
    }

    int cross(int what) {
        int n = w.letters.size();
        int many = 0;
        for (int i = 0; i < n; i++) {
            for (int j = 0; j < i; j++) {
                many += crosses(i, j) ? 1 : 0;
            }
        }
        if (what != 1) {
            return what == 0 ? many : NONE;
        }
        int roads = 0;
        while (!fits(roads, 0, new int[n])) {
            roads++;
        }
        return roads;
    }

    /** Whether the letters from i on find a road beside those that have one. */
    boolean fits(int roads, int i, int[] road) {
        if (i == road.length) {
            return true;
        }
        for (int r = 0; r < roads; r++) {
            boolean can = true;
            for (int j = 0; j < i; j++) {
                can &= road[j] != r || !crosses(i, j);
            }
            road[i] = r;
            if (can && fits(roads, i + 1, road)) {
                return true;
            }
        }
        return false;
    }

    int bell(int places, int what) {
        if (!in(places, 1, 4095) || !in(what, 0, 1)) {
            return NONE;
        }
        int[][] d = distances(w);
        int day = -1;
        int last = NONE;
        for (int p = 0; p < 12; p++) {
            int near = 99;
            for (int from = 0; from < 12; from++) {
                if ((places >> from & 1) == 1) {
                    near = Math.min(near, d[from][p]);
                }
            }
            if (near >= 99) {
                return NONE;
            }
            if (near > day) {
                day = near;
                last = p;
            }
        }
        return what == 0 ? day : last;
    }

    int sits(int what) {
        int[][] d = distances(w);
        int most = 0;
        int least = 9999;
        int where = NONE;
        int alive = 0;
        for (int p = 0; p < 12; p++) {
            most = Math.max(most, crowd(w, p));
            alive += crowd(w, p);
            int all = 0;
            for (Subject s : w.subjects) {
                all += !s.alive ? 0 : d[s.at][p] < 99 ? d[s.at][p] : 9999;
            }
            if (all < least) {
                least = all;
                where = p;
            }
        }
        if (what == 0) {
            return most;
        }
        if (what == 1) {
            return where == NONE ? NONE : least;
        }
        return what == 2 && alive > 0 ? where : NONE;
    }

    int lights(int row, int n, int what) {
        if (!in(row, 0, 255) || !in(what, 0, 1) || what == 0 && !in(n, 0, 100000)) {
            return NONE;
        }
        List<Integer> rows = new ArrayList<>();
        int now = row;
        while (what == 0 ? rows.size() < n : !rows.contains(now)) {
            rows.add(now);
            int then = 0;
            for (int bit = 0; bit < 8; bit++) {
                int a = now >> (bit + 1) % 8 & 1;
                int b = now >> (bit + 7) % 8 & 1;
                then |= (a != b ? 1 : 0) << bit;
            }
            now = then;
        }
        return what == 0 ? now : rows.size();
    }

    /** wins[left][most]: whether who is to take at most so many of those left takes the last one. */
    private static final boolean[][] WINS = new boolean[301][602];

    static {
        for (int left = 1; left <= 300; left++) {
            for (int most = 1; most <= 601; most++) {
                boolean can = false;
                for (int take = 1; take <= most && take <= left; take++) {
                    can |= take == left || !WINS[left - take][2 * take > 601 ? 601 : 2 * take];
                }
                WINS[left][most] = can;
            }
        }
    }

    /** For n up to 300. */
    int game(int n) {
        if (!in(n, 1, 300)) {
            return NONE;
        }
        for (int take = 1; take < n; take++) {
            if (!WINS[n - take][2 * take]) {
                return take;
            }
        }
        return NONE;
    }

    boolean undo() {
        if (past.isEmpty()) {
            return false;
        }
        World was = past.remove(past.size() - 1);
        was.law = w.law;
        was.prophets = w.prophets;
        was.words = w.words;
        was.comers = w.comers;
        was.letters = w.letters;
        w = was;
        return true;
    }

    boolean image(boolean taken) {
        if (taken) {
            image = w.copy();
            return true;
        }
        if (image == null) {
            return false;
        }
        w = image.copy();
        past.clear();
        return true;
    }

    int look(int what) {
        switch (what) {
            case 0: return w.subjects.size();
            case 1:
                int set = 0;
                for (int i = 0; i < w.subjects.size(); i++) {
                    set |= w.subjects.get(i).alive ? 1 << i : 0;
                }
                return set;
            case 2: return w.sea;
            case 3: return w.drowned;
            case 4: return w.missed;
            case 5: return w.day;
            case 6: return w.today.size();
            case 7: return w.yesterday.size();
            case 8: return w.book.size();
            case 9: return w.state;
            case 10: return w.law.size();
            case 11: return w.ledger.size();
            case 12: return w.tide.size();
            case 13: return w.roads.size();
            case 14: return past.size();
            default: return NONE;
        }
    }
}
