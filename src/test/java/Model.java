import java.util.ArrayDeque;
import java.util.ArrayList;
import java.util.Arrays;
import java.util.HashMap;
import java.util.HashSet;
import java.util.List;
import java.util.Map;
import java.util.Set;
import java.util.TreeSet;

/**
 * The document once more, in another way: all is copied whole, texts are trees, thought is tried out by brute
 * force. Slow and plain; ModelTest holds MockParcels against it.
 */
final class Model {
    static final int NONE = -1;

    static final class Lot {
        int weight, rattle, knots, bill;
        int sold = NONE, in = NONE;

        Lot copy() {
            Lot c = new Lot();
            c.weight = weight;
            c.rattle = rattle;
            c.knots = knots;
            c.bill = bill;
            c.sold = sold;
            c.in = in;
            return c;
        }
    }

    static final class Man {
        int purse, care, owes;
        boolean shill;
        int[] has = new int[8];

        Man copy() {
            Man c = new Man();
            c.purse = purse;
            c.care = care;
            c.owes = owes;
            c.shill = shill;
            c.has = has.clone();
            return c;
        }

        int things() {
            return Arrays.stream(has).sum();
        }
    }

    interface Expr {
        int at(Map<String, Integer> scene);
    }

    record LawLine(String word, Expr value, Expr when) { }

    record WeekLine(int day, String act, int who, int much) { }

    /** What undoing brings back. */
    static final class Scene {
        List<Lot> lots = new ArrayList<>();
        List<Man> men = new ArrayList<>();
        List<int[]> book = new ArrayList<>();
        int draws, till, crowd, wet, day, box;

        Scene copy() {
            Scene c = new Scene();
            for (Lot l : lots) {
                c.lots.add(l.copy());
            }
            for (Man m : men) {
                c.men.add(m.copy());
            }
            c.book.addAll(book);
            c.draws = draws;
            c.till = till;
            c.crowd = crowd;
            c.wet = wet;
            c.day = day;
            c.box = box;
            return c;
        }
    }

    /** What is told beside it. */
    static final class Tell {
        List<LawLine> law = new ArrayList<>();
        Map<Integer, Integer> follows = new HashMap<>();
        int followsLines;
        List<WeekLine> week = new ArrayList<>();
        Map<Integer, Integer> wants = new HashMap<>();
        int wantsLines;
        int[] weights = new int[8];
        List<Integer> lengths = new ArrayList<>();
        List<Integer> coins = new ArrayList<>();
        String[] ranks = new String[8];
        List<int[]> puts = new ArrayList<>();
        List<int[]> clues = new ArrayList<>();
        List<Integer> raids = new ArrayList<>();

        Tell copy() {
            Tell c = new Tell();
            c.law = new ArrayList<>(law);
            c.follows = new HashMap<>(follows);
            c.followsLines = followsLines;
            c.week = new ArrayList<>(week);
            c.wants = new HashMap<>(wants);
            c.wantsLines = wantsLines;
            c.weights = weights.clone();
            c.lengths = new ArrayList<>(lengths);
            c.coins = new ArrayList<>(coins);
            c.ranks = ranks.clone();
            c.puts = new ArrayList<>(puts);
            c.clues = new ArrayList<>(clues);
            c.raids = new ArrayList<>(raids);
            return c;
        }
    }

    private Scene scene = new Scene();
    private Tell told = new Tell();
    private Scene imageScene;
    private Tell imageTold;
    private final ArrayDeque<Scene> past = new ArrayDeque<>();
    private final StringBuilder tape = new StringBuilder();
    private int fault, faultAt = NONE;
    // Of the latest sale, in thought or not.
    private int bid, bidder, rounds;

    Model() {
        Arrays.fill(told.ranks, "01234567");
    }

    private boolean lot(int p) {
        return p >= 0 && p < scene.lots.size();
    }

    private boolean man(int b) {
        return b >= 0 && b < scene.men.size();
    }

    private static boolean in(int v, int a, int b) {
        return a <= v && v <= b;
    }

    private void keep() {
        past.addLast(scene.copy());
        if (past.size() > 6) {
            past.removeFirst();
        }
    }

    int state(int v) {
        int was = scene.draws;
        scene.draws = v;
        past.clear();
        return was;
    }

    int parcel(int weight, int rattle, int knots) {
        if (!in(weight, 0, 99) || !in(rattle, 0, 9) || !in(knots, 0, 9) || scene.lots.size() == 16) {
            return NONE;
        }
        Lot l = new Lot();
        l.weight = weight;
        l.rattle = rattle;
        l.knots = knots;
        scene.lots.add(l);
        past.clear();
        return scene.lots.size() - 1;
    }

    int bidder(int purse, int care, boolean shill) {
        if (!in(purse, 0, 9999) || !in(care, 0, 9) || scene.men.size() == 8) {
            return NONE;
        }
        Man m = new Man();
        m.purse = purse;
        m.care = care;
        m.shill = shill;
        scene.men.add(m);
        past.clear();
        return scene.men.size() - 1;
    }

    boolean set(int what, int who, int v) {
        if (what == 0 && in(v, 0, 99)) {
            scene.crowd = v;
        } else if (what == 1 && in(v, 0, 9)) {
            scene.wet = v;
        } else if (what == 2 && man(who) && in(v, 0, 9999)) {
            scene.men.get(who).purse = v;
        } else if (what == 3 && man(who) && in(v, 0, 9)) {
            scene.men.get(who).care = v;
        } else if (what == 4 && lot(who) && in(v, 0, 9)) {
            scene.lots.get(who).knots = v;
        } else if (what == 5 && lot(who) && in(v, 0, 99)) {
            scene.lots.get(who).bill = v;
        } else {
            return false;
        }
        past.clear();
        return true;
    }

    private int draw(Scene s, int m) {
        s.draws = s.draws * 1664525 + 1013904223;
        long unsigned = s.draws & 0xFFFFFFFFL;
        return (int) ((unsigned / 256) % m);
    }

    private void note(Scene s, int what, int who, int much) {
        if (s.book.size() < 150) {
            s.book.add(new int[] {s.day, what, who, much});
        }
    }

    private int law(Scene s, String word, int p, int b, int price, int round) {
        Lot l = s.lots.get(p);
        Man m = s.men.get(b);
        Map<String, Integer> v = new HashMap<>();
        v.put("weight", l.weight);
        v.put("rattle", l.rattle);
        v.put("knots", l.knots);
        v.put("care", m.care);
        v.put("shill", m.shill ? 1 : 0);
        v.put("purse", m.purse);
        v.put("price", price);
        v.put("round", round);
        v.put("crowd", s.crowd);
        v.put("wet", s.wet);
        v.put("has", m.things());
        v.put("day", s.day);
        int told1 = switch (word) {
            case "bids" -> 600 - m.care * 50 - price * 10;
            case "step" -> m.shill ? 2 : 1;
            default -> l.rattle * 100;
        };
        for (LawLine line : told.law) {
            if (line.word().equals(word) && (line.when() == null || line.when().at(v) == 1)) {
                told1 = line.value().at(v);
                break;
            }
        }
        int least = word.equals("step") ? 1 : 0;
        int most = word.equals("step") ? 99 : 1000;
        return told1 < least ? least : told1 > most ? most : told1;
    }

    private void bidding(Scene s, int p, boolean thought) {
        bid = 0;
        bidder = NONE;
        rounds = 0;
        boolean some;
        do {
            some = false;
            for (int b = 0; b < s.men.size(); b++) {
                if (b == bidder) {
                    continue;
                }
                if (told.follows.containsKey(b) && told.follows.get(b) == bidder) {
                    continue;
                }
                int likely = law(s, "bids", p, b, bid, rounds);
                if (thought ? likely < 500 : draw(s, 1000) >= likely) {
                    continue;
                }
                int next = bid + law(s, "step", p, b, bid, rounds);
                if (s.men.get(b).shill || s.men.get(b).purse >= next) {
                    bid = next;
                    bidder = b;
                    some = true;
                    if (!thought) {
                        note(s, 0, b, next);
                    }
                }
            }
            rounds++;
        } while (some && rounds < 30);
    }

    private boolean selling(Scene s, int p, boolean thought) {
        bidding(s, p, thought);
        if (bidder == NONE) {
            s.crowd = s.crowd - Math.floorDiv(s.crowd, 10);
            return false;
        }
        Man m = s.men.get(bidder);
        Lot l = s.lots.get(p);
        int paid = m.shill ? 0 : bid;
        m.purse -= paid;
        s.till += paid;
        l.sold = bidder;
        if (!thought) {
            note(s, 1, bidder, paid);
        }
        int full = law(s, "full", p, bidder, bid, rounds);
        int kind;
        if (thought) {
            kind = full >= 500 ? 1 : 0;
        } else {
            kind = draw(s, 1000) < full ? 1 + draw(s, 7) : 0;
            note(s, 2, bidder, kind);
        }
        l.in = kind;
        m.owes += l.bill;
        if (kind > 0) {
            m.has[kind]++;
        }
        s.crowd += kind > 0 ? 2 * rounds : -3;
        s.crowd = Math.max(0, Math.min(99, s.crowd));
        return true;
    }

    int sell(int p) {
        if (!lot(p) || scene.lots.get(p).sold != NONE) {
            return NONE;
        }
        keep();
        return selling(scene, p, false) ? bid : 0;
    }

    boolean pay(int b, int n) {
        if (!man(b) || !in(n, 1, 999)) {
            return false;
        }
        keep();
        scene.men.get(b).purse = Math.min(9999, scene.men.get(b).purse + n);
        return true;
    }

    boolean give(int a, int b, int kind) {
        if (!man(a) || !man(b) || a == b || !in(kind, 1, 7) || scene.men.get(a).has[kind] == 0) {
            return false;
        }
        keep();
        scene.men.get(a).has[kind]--;
        scene.men.get(b).has[kind]++;
        note(scene, 4, a, kind);
        return true;
    }

    int settle(int b) {
        if (!man(b) || scene.men.get(b).owes == 0) {
            return NONE;
        }
        keep();
        Man m = scene.men.get(b);
        int n = Math.min(m.owes, m.purse);
        m.owes -= n;
        m.purse -= n;
        scene.till += n;
        note(scene, 5, b, n);
        return n;
    }

    private int passDay(Scene s, boolean thought) {
        int sold = 0;
        for (WeekLine line : told.week) {
            if (line.day() != s.day) {
                continue;
            }
            switch (line.act()) {
                case "sell" -> {
                    if (s.lots.get(line.who()).sold == NONE && selling(s, line.who(), thought)) {
                        sold++;
                    }
                }
                case "wet" -> s.wet = line.much();
                case "crowd" -> s.crowd = line.much();
                case "police" -> raid(s, thought);
                case "bill" -> {
                    if (s.lots.get(line.who()).sold == NONE) {
                        s.lots.get(line.who()).bill = line.much();
                    }
                }
                default -> s.men.get(line.who()).purse = Math.min(9999, s.men.get(line.who()).purse + line.much());
            }
        }
        s.crowd = Math.max(0, s.crowd - s.wet);
        s.day++;
        return sold;
    }

    private void raid(Scene s, boolean thought) {
        int most = 0;
        for (Man m : s.men) {
            most = Math.max(most, m.shill ? 0 : m.things());
        }
        for (int b = 0; b < s.men.size() && most > 0; b++) {
            Man m = s.men.get(b);
            if (!m.shill && m.things() == most) {
                int kind = 1;
                while (m.has[kind] == 0) {
                    kind++;
                }
                m.has[kind]--;
                s.box++;
                if (!thought) {
                    note(s, 3, b, kind);
                }
                return;
            }
        }
    }

    int days(int n) {
        if (!in(n, 1, 60) || scene.day + n > 9999) {
            return NONE;
        }
        int sold = 0;
        for (int i = 0; i < n; i++) {
            keep();
            sold += passDay(scene, false);
        }
        return sold;
    }

    int feed(int... five) {
        if (tape.length() > 380) {
            return NONE;
        }
        for (int v : five) {
            for (int k = 3; k >= 0; k--) {
                tape.append((char) ((v >> (8 * k)) & 255));
            }
        }
        return tape.length();
    }

    boolean end(int n) {
        if (n < 0 || n > tape.length()) {
            return false;
        }
        tape.setLength(n);
        return true;
    }

    int text(int k) {
        String t = tape.toString();
        tape.setLength(0);
        fault = 0;
        faultAt = NONE;
        if (!in(k, 0, 3)) {
            return NONE;
        }
        try {
            return new TextReader(t).read(k);
        } catch (Fault f) {
            fault = f.kind;
            faultAt = f.place;
            return NONE;
        }
    }

    static final class Fault extends Exception {
        private static final long serialVersionUID = 1L;
        final int kind;
        final int place;

        Fault(int kind, int place) {
            super();
            this.kind = kind;
            this.place = place;
        }
    }

    /** Reads sign by sign, without tokens made before. */
    final class TextReader {
        private final String t;
        private int at = 0;
        private int lines = 0;

        TextReader(String t) {
            this.t = t;
        }

        private boolean letter(char c) {
            return c < 128 && Character.isLetter(c);
        }

        private boolean digit(char c) {
            return c >= '0' && c <= '9';
        }

        private void blanks() {
            while (at < t.length() && (t.charAt(at) == 32 || t.charAt(at) == 10)) {
                at++;
            }
        }

        /** The token that comes, "" at the end. */
        private String peek() {
            blanks();
            int to = at;
            if (to == t.length()) {
                return "";
            }
            if (letter(t.charAt(at))) {
                while (to < t.length() && letter(t.charAt(to))) {
                    to++;
                }
            } else if (digit(t.charAt(at))) {
                while (to < t.length() && digit(t.charAt(to))) {
                    to++;
                }
            } else {
                to++;
            }
            return t.substring(at, to);
        }

        private boolean is(String... words) {
            return Arrays.asList(words).contains(peek());
        }

        private String word(String... words) throws Fault {
            String p = peek();
            if (!Arrays.asList(words).contains(p)) {
                throw new Fault(1, at);
            }
            at += p.length();
            return p;
        }

        private int number(int least, int most, int not) throws Fault {
            String p = peek();
            if (p.isEmpty() || !digit(p.charAt(0)) || p.length() > 4) {
                throw new Fault(1, at);
            }
            int v = Integer.parseInt(p);
            if (v < least || v > most || v == not) {
                throw new Fault(2, at);
            }
            at += p.length();
            return v;
        }

        int read(int k) throws Fault {
            Tell fresh = new Tell();
            String[] firsts = k == 0 ? new String[] {"bids", "step", "full"}
                : new String[] {k == 2 ? "on" : "bidder"};
            while (!peek().isEmpty()) {
                if (is(firsts) && lines == 16) {
                    throw new Fault(3, at);
                }
                String first = word(firsts);
                switch (k) {
                    case 0 -> lawLine(fresh, first);
                    case 1 -> {
                        int a = number(0, scene.men.size() - 1, NONE);
                        word("follows");
                        fresh.follows.put(a, number(0, scene.men.size() - 1, a));
                    }
                    case 2 -> weekLine(fresh);
                    default -> {
                        int a = number(0, scene.men.size() - 1, NONE);
                        word("wants");
                        int kind = number(1, 7, NONE);
                        word("for");
                        fresh.wants.put(10 * a + kind, number(0, 99, NONE));
                    }
                }
                word(";");
                lines++;
            }
            take(k, fresh);
            return lines;
        }

        private void take(int k, Tell fresh) {
            switch (k) {
                case 0 -> told.law = fresh.law;
                case 1 -> {
                    told.follows = fresh.follows;
                    told.followsLines = lines;
                    past.clear();
                }
                case 2 -> {
                    told.week = fresh.week;
                    past.clear();
                }
                default -> {
                    told.wants = fresh.wants;
                    told.wantsLines = lines;
                }
            }
        }

        private void weekLine(Tell fresh) throws Fault {
            int day = number(0, 999, NONE);
            String act = word("sell", "wet", "crowd", "police", "bill", "pay");
            int who = NONE;
            int much = NONE;
            if (act.equals("sell") || act.equals("bill")) {
                who = number(0, scene.lots.size() - 1, NONE);
            }
            if (act.equals("pay")) {
                who = number(0, scene.men.size() - 1, NONE);
                much = number(1, 999, NONE);
            }
            if (act.equals("wet")) {
                much = number(0, 9, NONE);
            }
            if (act.equals("crowd") || act.equals("bill")) {
                much = number(0, 99, NONE);
            }
            fresh.week.add(new WeekLine(day, act, who, much));
        }

        private void lawLine(Tell fresh, String first) throws Fault {
            Expr value = sum();
            Expr when = null;
            if (is("when")) {
                word("when");
                when = either(0);
            }
            if (!is(";")) {
                throw new Fault(1, at);
            }
            fresh.law.add(new LawLine(first, value, when));
        }

        private Expr either(int open) throws Fault {
            Expr a = both(open);
            while (is("or")) {
                word("or");
                Expr left = a;
                Expr right = both(open);
                a = v -> left.at(v) == 1 || right.at(v) == 1 ? 1 : 0;
            }
            return a;
        }

        private Expr both(int open) throws Fault {
            Expr a = one(open);
            while (is("and")) {
                word("and");
                Expr left = a;
                Expr right = one(open);
                a = v -> left.at(v) == 1 && right.at(v) == 1 ? 1 : 0;
            }
            return a;
        }

        private Expr one(int open) throws Fault {
            if (is("not", "(") && open == 8) {
                throw new Fault(3, at);
            }
            if (is("not")) {
                word("not");
                Expr a = one(open + 1);
                return v -> a.at(v) == 1 ? 0 : 1;
            }
            if (is("(")) {
                word("(");
                Expr a = either(open + 1);
                word(")");
                return a;
            }
            Expr a = sum();
            String sign = word("<", "=", ">");
            Expr b = sum();
            return v -> (sign.equals("<") ? a.at(v) < b.at(v) : sign.equals("=") ? a.at(v) == b.at(v)
                : a.at(v) > b.at(v)) ? 1 : 0;
        }

        private Expr sum() throws Fault {
            Expr a = product();
            while (is("+", "-")) {
                int sign = word("+", "-").equals("+") ? 1 : -1;
                Expr left = a;
                Expr right = product();
                a = v -> left.at(v) + sign * right.at(v);
            }
            return a;
        }

        private Expr product() throws Fault {
            Expr a = unit();
            while (is("*", "/")) {
                Expr left = a;
                if (word("*", "/").equals("*")) {
                    Expr right = unit();
                    a = v -> left.at(v) * right.at(v);
                } else {
                    int by = number(0, 9999, 0);
                    a = v -> left.at(v) / by;
                }
            }
            return a;
        }

        private Expr unit() throws Fault {
            String p = peek();
            if (!p.isEmpty() && digit(p.charAt(0))) {
                int n = number(0, 9999, NONE);
                return v -> n;
            }
            String w = word("weight", "rattle", "knots", "care", "shill", "purse", "price", "round", "crowd",
                "wet", "has", "day");
            return v -> v.get(w);
        }
    }

    int fault(int what) {
        return what == 0 ? fault : what == 1 ? faultAt : NONE;
    }

    int of(int p, int what) {
        if (!lot(p)) {
            return -2;
        }
        Lot l = scene.lots.get(p);
        int[] plain = {l.weight, l.rattle, l.knots, l.sold, l.in, l.bill};
        if (in(what, 0, 5)) {
            return plain[what];
        }
        String[] words = {"bids", "step", "full"};
        for (int w = 0; w < 3; w++) {
            for (int b = 0; b < scene.men.size(); b++) {
                if (what == 10 * (w + 1) + b) {
                    return law(scene, words[w], p, b, 0, 0);
                }
            }
        }
        return -2;
    }

    int who(int b, int what) {
        if (!man(b)) {
            return -2;
        }
        Man m = scene.men.get(b);
        int[] plain = {m.purse, m.care, m.shill ? 1 : 0, m.owes, told.follows.getOrDefault(b, NONE)};
        if (in(what, 0, 4)) {
            return plain[what];
        }
        if (in(what, 11, 17)) {
            return m.has[what - 10];
        }
        return in(what, 21, 27) ? told.wants.getOrDefault(10 * b + what - 20, 0) : -2;
    }

    int book(int i, int what) {
        return in(i, 0, scene.book.size() - 1) && in(what, 0, 3) ? scene.book.get(i)[what] : NONE;
    }

    int would(int p, int what) {
        if (!lot(p) || !in(what, 0, 2)) {
            return -2;
        }
        bidding(scene.copy(), p, true);
        return new int[] {bidder, bid, rounds}[what];
    }

    int goes(int n, int what) {
        if (!in(n, 1, 60) || !in(what, 0, 3)) {
            return NONE;
        }
        Scene s = scene.copy();
        for (int i = 0; i < n; i++) {
            passDay(s, true);
        }
        int sold = (int) s.lots.stream().filter(l -> l.sold != NONE).count();
        return new int[] {s.till, s.crowd, s.box, sold}[what];
    }

    boolean weighs(int kind, int v) {
        if (!in(kind, 1, 7) || !in(v, 0, 99)) {
            return false;
        }
        told.weights[kind] = v;
        return true;
    }

    int inside(int p, int what) {
        if (!lot(p) || !in(what, 0, 1)) {
            return NONE;
        }
        List<Integer> sizes = new ArrayList<>();
        for (int k = 1; k <= 7; k++) {
            if (told.weights[k] > 0) {
                sizes.add(told.weights[k]);
            }
        }
        return what == 0 ? Brute.ways(sizes, scene.lots.get(p).weight) : Brute.fewest(sizes, scene.lots.get(p).weight);
    }

    int length(int v) {
        if (v == NONE) {
            told.lengths.clear();
            return 0;
        }
        if (!in(v, 1, 60) || told.lengths.size() == 9) {
            return NONE;
        }
        told.lengths.add(v);
        return told.lengths.size();
    }

    int strings(int c, int what) {
        if (!in(c, 1, 99) || !in(what, 0, 1) || told.lengths.stream().anyMatch(v -> v > c)) {
            return NONE;
        }
        int n = Brute.strings(told.lengths, c);
        return what == 0 ? n : n * c - told.lengths.stream().mapToInt(v -> v).sum();
    }

    int coin(int v) {
        if (v == NONE) {
            told.coins.clear();
            return 0;
        }
        if (!in(v, 1, 50) || told.coins.contains(v) || told.coins.size() == 6) {
            return NONE;
        }
        told.coins.add(v);
        return told.coins.size();
    }

    int pays(int n, int what) {
        if (!in(n, 0, 999) || !in(what, 0, 1)) {
            return NONE;
        }
        return what == 0 ? Brute.fewest(told.coins, n) : Brute.ways(told.coins, n);
    }

    boolean rank(int b, int order) {
        if (!in(b, 0, 7) || order < 0) {
            return false;
        }
        String digits = Integer.toString(order);
        if (digits.length() == 7) {
            digits = "0" + digits;
        }
        char[] sorted = digits.toCharArray();
        Arrays.sort(sorted);
        if (!new String(sorted).equals("01234567")) {
            return false;
        }
        told.ranks[b] = digits;
        return true;
    }

    int swaps(int b) {
        if (!in(b, -1, 7)) {
            return NONE;
        }
        Map<Integer, Integer> has = new HashMap<>();
        Set<Integer> left = new TreeSet<>(List.of(0, 1, 2, 3, 4, 5, 6, 7));
        int goes = 0;
        while (!left.isEmpty()) {
            Map<Integer, Integer> points = new HashMap<>();
            for (int m : left) {
                for (char c : told.ranks[m].toCharArray()) {
                    if (left.contains(c - '0') && !points.containsKey(m)) {
                        points.put(m, c - '0');
                    }
                }
            }
            Set<Integer> out = new HashSet<>();
            for (int m : left) {
                Set<Integer> seen = new HashSet<>();
                int at = m;
                while (seen.add(at)) {
                    at = points.get(at);
                }
                if (at == m) {
                    out.add(m);
                    has.put(m, points.get(m));
                }
            }
            left.removeAll(out);
            goes++;
        }
        return b == NONE ? goes : has.get(b);
    }

    int wishes(int what) {
        if (what != 0 && !man(what - 10)) {
            return NONE;
        }
        int[] best = Brute.wishes(told.wants, scene.men.size());
        return what == 0 ? best[8] : best[what - 10];
    }

    int put(int price, int day) {
        if (price == NONE) {
            told.puts.clear();
            return 0;
        }
        if (!in(price, 0, 99) || !in(day, 0, 9) || told.puts.size() == 7) {
            return NONE;
        }
        told.puts.add(new int[] {price, day});
        return told.puts.size();
    }

    int puts(int what) {
        return in(what, 0, 1) ? Brute.puts(told.puts)[what] : NONE;
    }

    int clue(int parcels, boolean is) {
        if (parcels == NONE) {
            told.clues.clear();
            return 0;
        }
        if (!in(parcels, 0, 65535) || told.clues.size() == 8) {
            return NONE;
        }
        told.clues.add(new int[] {parcels, is ? 1 : 0});
        return told.clues.size();
    }

    int which(int what) {
        if (what == 1) {
            return Brute.parts(told.clues, scene.lots.size());
        }
        if (what != 0) {
            return NONE;
        }
        int set = 0;
        for (int p = 0; p < scene.lots.size(); p++) {
            boolean fits = true;
            for (int[] c : told.clues) {
                fits &= (c[0] >> p & 1) == c[1];
            }
            set += fits ? 1 << p : 0;
        }
        return set;
    }

    int police(int day) {
        if (day == NONE) {
            told.raids.clear();
            return 0;
        }
        if (!in(day, 0, 999) || told.raids.size() == 20) {
            return NONE;
        }
        told.raids.add(day);
        return told.raids.size();
    }

    int every(int d) {
        if (!in(d, -1, 9999)) {
            return NONE;
        }
        int every = 0;
        for (int n = 1; n <= 999; n++) {
            boolean all = new HashSet<>(told.raids).size() > 1;
            for (int r : told.raids) {
                all &= Math.abs(r - told.raids.get(0)) % n == 0;
            }
            every = all ? n : every;
        }
        if (d == NONE) {
            return every;
        }
        if (every == 0) {
            return NONE;
        }
        int next = d + 1;
        while (Math.abs(next - told.raids.get(0)) % every != 0) {
            next++;
        }
        return next;
    }

    int shill(int p, int n, int m) {
        if (!in(p, 0, 1000) || !in(n, 0, 20) || !in(m, n, 40)) {
            return NONE;
        }
        java.math.BigInteger million = java.math.BigInteger.valueOf(1000000);
        java.math.BigInteger q = java.math.BigInteger.valueOf(p * 1000L);
        for (int i = 0; i < m; i++) {
            java.math.BigInteger up = q.multiply(java.math.BigInteger.valueOf(i < n ? 6 : 4));
            java.math.BigInteger rest = million.subtract(q).multiply(java.math.BigInteger.valueOf(i < n ? 3 : 7));
            q = up.multiply(million).divide(up.add(rest));
        }
        return q.intValue();
    }

    int halves(int what) {
        int n = scene.men.size();
        if (n < 2 || !in(what, 0, 1)) {
            return NONE;
        }
        int near = Integer.MAX_VALUE;
        int side = 0;
        for (int set = 0; set < 1 << n; set++) {
            if (set % 2 == 0 || set == (1 << n) - 1) {
                continue;
            }
            int one = 0;
            int other = 0;
            for (int b = 0; b < n; b++) {
                if ((set >> b & 1) == 1) {
                    one += scene.men.get(b).purse;
                } else {
                    other += scene.men.get(b).purse;
                }
            }
            if (Math.abs(one - other) < near) {
                near = Math.abs(one - other);
                side = set;
            }
        }
        return what == 0 ? near : side;
    }

    int game(int what) {
        if (!in(what, 0, 1)) {
            return NONE;
        }
        for (int p = 0; p < scene.lots.size(); p++) {
            for (int n = 1; n <= scene.lots.get(p).knots && scene.lots.get(p).sold == NONE; n++) {
                if (n > 2 && n != scene.lots.get(p).knots) {
                    continue;
                }
                int[] heaps = new int[scene.lots.size()];
                for (int q = 0; q < heaps.length; q++) {
                    heaps[q] = scene.lots.get(q).sold == NONE ? scene.lots.get(q).knots : 0;
                }
                heaps[p] -= n;
                if (!Brute.wins(heaps)) {
                    return what == 0 ? p : n;
                }
            }
        }
        return NONE;
    }

    boolean undo() {
        if (past.isEmpty()) {
            return false;
        }
        scene = past.removeLast();
        return true;
    }

    boolean image(boolean taken) {
        if (taken) {
            imageScene = scene.copy();
            imageTold = told.copy();
            return true;
        }
        if (imageScene == null) {
            return false;
        }
        scene = imageScene.copy();
        told = imageTold.copy();
        past.clear();
        return true;
    }

    int look(int what) {
        int set = 0;
        for (int p = 0; p < scene.lots.size(); p++) {
            set |= scene.lots.get(p).sold == NONE ? 1 << p : 0;
        }
        int[] all = {scene.lots.size(), scene.men.size(), scene.till, scene.crowd, scene.wet, scene.day, scene.box,
            set, scene.book.size(), scene.draws, told.law.size(), told.followsLines, told.week.size(),
            told.wantsLines, past.size()};
        return in(what, 0, 14) ? all[what] : NONE;
    }
}
