import java.util.Random;

/** Random runs of up to 512 calls, each answer of which is held against the Model's. */
public final class ModelTest {
    private static final Due DUE = new Due("ModelTest");
    private static final String[] UNITS = {"weight", "rattle", "knots", "care", "shill", "purse", "price", "round",
        "crowd", "wet", "has", "day"};

    private final Random random;
    private final MockParcels x = new MockParcels();
    private final Model y = new Model();
    private final int run;
    private int calls = 0;

    private ModelTest(int run) {
        this.run = run;
        random = new Random(run);
    }

    public static void main(String[] args) {
        int runs = args.length > 0 ? Integer.parseInt(args[0]) : 400;
        for (int run = 0; run < runs; run++) {
            new ModelTest(run).go();
        }
        DUE.end();
    }

    private int r(int n) {
        return random.nextInt(n);
    }

    /** Mostly within, now and then one or far beyond. */
    private int about(int least, int most) {
        int dice = r(40);
        if (dice == 0) {
            return least - 1;
        }
        if (dice == 1) {
            return most + 1;
        }
        if (dice == 2) {
            return r(2) == 0 ? Integer.MIN_VALUE : Integer.MAX_VALUE;
        }
        if (dice == 3) {
            return r(2) == 0 ? least : most;
        }
        return least + r(most - least + 1);
    }

    private void same(String call, long a, long b) {
        calls++;
        DUE.is("run " + run + ", call " + calls + ": " + call, a, b);
    }

    private void same(String call, boolean a, boolean b) {
        same(call, a ? 1 : 0, b ? 1 : 0);
    }

    private void go() {
        int men = r(9);
        int lots = r(10) == 0 ? 17 : r(9);
        for (int i = 0; i < men; i++) {
            addBidder();
        }
        for (int i = 0; i < lots; i++) {
            addParcel(lots > 5 ? 3 : 9);
        }
        int v = r(4) == 0 ? 0 : random.nextInt();
        same("state", x.state(v), y.state(v));
        int size = 40 + r(440);
        for (int i = 0; i < size && calls < 480; i++) {
            step();
        }
        lookAll();
    }

    private void lookAll() {
        for (int what = -1; what <= 15; what++) {
            same("look(" + what + ")", x.look(what), y.look(what));
        }
    }

    private void addBidder() {
        int purse = r(3) == 0 ? about(0, 30) : about(0, r(2) == 0 ? 9999 : 300);
        int care = about(0, 9);
        boolean shill = r(4) == 0;
        same("bidder", x.bidder(purse, care, shill), y.bidder(purse, care, shill));
    }

    private void addParcel(int knotsMost) {
        int weight = about(0, 99);
        int rattle = about(0, 9);
        int knots = r(8) == 0 ? -1 : r(knotsMost + 1);
        same("parcel", x.parcel(weight, rattle, knots), y.parcel(weight, rattle, knots));
    }

    private void step() {
        int dice = r(100);
        if (dice < 34) {
            act();
        } else if (dice < 42) {
            tellText();
        } else if (dice < 60) {
            askPlain();
        } else if (dice < 72) {
            tellThought();
        } else if (dice < 92) {
            askThought();
        } else if (dice < 97) {
            same("undo", x.undo(), y.undo());
        } else if (dice < 98) {
            boolean taken = r(2) == 0;
            same("image(" + taken + ")", x.image(taken), y.image(taken));
        } else {
            tellPlain();
        }
    }

    private void act() {
        int b = about(0, 7);
        int p = about(0, 7);
        switch (r(6)) {
            case 0, 1 -> same("sell(" + p + ")", x.sell(p), y.sell(p));
            case 2 -> {
                int n = about(1, 999);
                same("pay", x.pay(b, n), y.pay(b, n));
            }
            case 3 -> {
                for (int kind = 0; kind <= 8; kind++) {
                    if (y.who(b, 10 + kind) > 0 || r(12) == 0) {
                        int c = about(0, 7);
                        same("give(" + b + ", " + c + ", " + kind + ")", x.give(b, c, kind), y.give(b, c, kind));
                        return;
                    }
                }
            }
            case 4 -> same("settle(" + b + ")", x.settle(b), y.settle(b));
            default -> {
                int n = r(6) == 0 ? about(1, 60) : 1 + r(3);
                same("days(" + n + ")", x.days(n), y.days(n));
            }
        }
    }

    private void tellPlain() {
        int v = random.nextInt();
        int what = about(0, 5);
        int who = about(0, 7);
        switch (r(5)) {
            case 0 -> same("state", x.state(v), y.state(v));
            case 1 -> addBidder();
            case 2 -> addParcel(3);
            default -> {
                int most = new int[] {99, 9, 9999, 9, 3, 99}[Math.floorMod(what, 6)];
                int n = about(0, most);
                if (what == 4 && n > 3) {
                    n = 12;
                }
                same("set(" + what + ", " + who + ", " + n + ")", x.set(what, who, n), y.set(what, who, n));
            }
        }
    }

    private void askPlain() {
        int p = about(0, 7);
        int i = r(3) == 0 ? about(0, 149) : r(12);
        int what;
        switch (r(5)) {
            case 0 -> {
                what = r(3) == 0 ? about(0, 5) : about(10, 39);
                same("of(" + p + ", " + what + ")", x.of(p, what), y.of(p, what));
            }
            case 1 -> {
                what = r(3) == 0 ? about(0, 4) : about(10, 29);
                same("who(" + p + ", " + what + ")", x.who(p, what), y.who(p, what));
            }
            case 2 -> {
                what = about(0, 3);
                same("book(" + i + ", " + what + ")", x.book(i, what), y.book(i, what));
            }
            case 3 -> {
                what = about(0, 14);
                same("look(" + what + ")", x.look(what), y.look(what));
            }
            default -> {
                what = about(0, 1);
                same("fault(" + what + ")", x.fault(what), y.fault(what));
            }
        }
    }

    private void tellThought() {
        int v;
        int w;
        switch (r(7)) {
            case 0 -> {
                v = about(1, 7);
                w = r(3) == 0 ? about(0, 99) : r(8);
                same("weighs(" + v + ", " + w + ")", x.weighs(v, w), y.weighs(v, w));
            }
            case 1 -> {
                v = r(20) == 0 ? -1 : about(1, 60);
                same("length(" + v + ")", x.length(v), y.length(v));
            }
            case 2 -> {
                v = r(20) == 0 ? -1 : about(1, 50);
                same("coin(" + v + ")", x.coin(v), y.coin(v));
            }
            case 3 -> tellRank();
            case 4 -> {
                v = r(20) == 0 ? -1 : about(0, 99);
                w = r(2) == 0 ? about(0, 9) : r(3);
                same("put(" + v + ", " + w + ")", x.put(v, w), y.put(v, w));
            }
            case 5 -> {
                v = r(14) == 0 ? -1 : r(10) == 0 ? about(0, 65535) : r(256);
                boolean is = r(3) != 0;
                same("clue(" + v + ", " + is + ")", x.clue(v, is), y.clue(v, is));
            }
            default -> {
                v = r(12) == 0 ? -1 : r(10) == 0 ? about(0, 999) : 7 + 6 * r(160);
                same("police(" + v + ")", x.police(v), y.police(v));
            }
        }
    }

    private void tellRank() {
        int[] digits = {0, 1, 2, 3, 4, 5, 6, 7};
        for (int i = 7; i > 0; i--) {
            int j = r(i + 1);
            int keep = digits[i];
            digits[i] = digits[j];
            digits[j] = keep;
        }
        if (r(10) == 0) {
            digits[r(8)] = r(10);
        }
        int order = 0;
        for (int d : digits) {
            order = 10 * order + d;
        }
        if (r(20) == 0) {
            order += r(2) == 0 ? 100000000 : -2 * order;
        }
        int b = about(0, 7);
        same("rank(" + b + ", " + order + ")", x.rank(b, order), y.rank(b, order));
    }

    private void askThought() {
        int p = about(0, 7);
        int one = about(0, 1);
        int v;
        switch (r(15)) {
            case 0, 1 -> {
                v = about(0, 2);
                same("would(" + p + ", " + v + ")", x.would(p, v), y.would(p, v));
            }
            case 2, 3 -> {
                int n = r(2) == 0 ? about(1, 60) : 1 + r(4);
                v = about(0, 3);
                same("goes(" + n + ", " + v + ")", x.goes(n, v), y.goes(n, v));
            }
            case 4 -> same("inside(" + p + ", " + one + ")", x.inside(p, one), y.inside(p, one));
            case 5 -> {
                v = about(1, 99);
                same("strings(" + v + ", " + one + ")", x.strings(v, one), y.strings(v, one));
            }
            case 6 -> {
                v = about(0, 999);
                same("pays(" + v + ", " + one + ")", x.pays(v, one), y.pays(v, one));
            }
            case 7 -> {
                v = about(-1, 7);
                same("swaps(" + v + ")", x.swaps(v), y.swaps(v));
            }
            case 8 -> {
                v = r(3) == 0 ? 0 : about(10, 17);
                same("wishes(" + v + ")", x.wishes(v), y.wishes(v));
            }
            case 9 -> same("puts(" + one + ")", x.puts(one), y.puts(one));
            case 10 -> same("which(" + one + ")", x.which(one), y.which(one));
            case 11 -> {
                v = r(3) == 0 ? -1 : r(2) == 0 ? about(0, 9999) : r(60);
                same("every(" + v + ")", x.every(v), y.every(v));
            }
            case 12 -> {
                v = about(0, 1000);
                int n = about(0, 20);
                int m = r(10) == 0 ? about(0, 40) : about(Math.max(0, Math.min(20, n)), 40);
                same("shill(" + v + ", " + n + ", " + m + ")", x.shill(v, n, m), y.shill(v, n, m));
            }
            case 13 -> same("halves(" + one + ")", x.halves(one), y.halves(one));
            default -> same("game(" + one + ")", x.game(one), y.game(one));
        }
    }

    private void tellText() {
        int k = r(30) == 0 ? about(0, 3) : r(4);
        String text = switch (k) {
            case 0 -> lawText();
            case 1 -> followsText();
            case 2 -> weekText();
            default -> wantsText();
        };
        text = r(25) == 0 ? noise() : spoil(text);
        if (text.length() > 400) {
            text = text.substring(0, 400);
        }
        feed(text);
        if (r(12) == 0) {
            int n = about(0, Math.max(0, text.length()));
            same("end(" + n + ")", x.end(n), y.end(n));
        }
        same("text(" + k + ")", x.text(k), y.text(k));
        same("fault(0) of: " + text, x.fault(0), y.fault(0));
        same("fault(1) of: " + text, x.fault(1), y.fault(1));
    }

    private void feed(String text) {
        StringBuilder padded = new StringBuilder(text);
        while (padded.length() % 20 != 0 || r(60) == 0) {
            padded.append(' ');
        }
        for (int i = 0; i + 20 <= padded.length(); i += 20) {
            int[] v = new int[5];
            for (int j = 0; j < 20; j++) {
                v[j / 4] = v[j / 4] << 8 | padded.charAt(i + j) & 255;
            }
            same("feed", x.feed(v[0], v[1], v[2], v[3], v[4]), y.feed(v));
        }
        same("end", x.end(text.length()), y.end(text.length()));
    }

    /** Any bytes, or signs of the texts in any order. */
    private String noise() {
        String signs = "0123456789;+-*/()<=> \nbidsonfl";
        boolean any = r(2) == 0;
        StringBuilder t = new StringBuilder(r(3) == 0 ? "bids " : "");
        for (int i = r(120); i > 0; i--) {
            t.append(any ? (char) r(256) : signs.charAt(r(signs.length())));
        }
        return t.toString();
    }

    /** Now and then one sign or one word is put in, left out or changed. */
    private String spoil(String text) {
        if (r(3) != 0 || text.isEmpty()) {
            return text;
        }
        int at = r(text.length());
        String[] parts = {";", "+", "*", "/", "/ 0", "(", ")", "<", "not ", "0", "9", "12345", "x", "bids ", "Z", "#",
            "\n", " and ", " or ", "when ", "bidder ", "on ", "é", " 8 ", " 1000 ", "police "};
        String part = parts[r(parts.length)];
        return switch (r(4)) {
            case 0 -> text.substring(0, at) + text.substring(at + 1);
            case 1 -> text.substring(0, at) + part + text.substring(at + 1);
            case 2 -> text.substring(0, at);
            default -> text.substring(0, at) + part + text.substring(at);
        };
    }

    private String gap() {
        return r(5) == 0 ? "\n" : r(5) == 0 ? "  " : " ";
    }

    private int lines() {
        return r(12) == 0 ? 15 + r(3) : r(6);
    }

    private String lawText() {
        StringBuilder t = new StringBuilder();
        int n = r(20) == 0 ? 15 + r(3) : r(5);
        for (int i = 0; i < n; i++) {
            String word = new String[] {"bids", "step", "full"}[r(3)];
            if (n > 10) {
                t.append(word).append(" ").append(r(900)).append(";");
                continue;
            }
            t.append(word).append(gap()).append(word.equals("step") ? String.valueOf(r(40)) : sum());
            if (r(3) != 0) {
                t.append(gap()).append("when").append(gap()).append(either(0));
            }
            t.append(";").append(r(2) == 0 ? "" : gap());
        }
        return t.toString();
    }

    private String sum() {
        StringBuilder t = new StringBuilder(r(2) == 0 ? String.valueOf(300 + r(700)) : product());
        for (int i = r(3); i > 0; i--) {
            t.append(r(2) == 0 ? "+" : " - ").append(product());
        }
        return t.toString();
    }

    private String product() {
        StringBuilder t = new StringBuilder(unit());
        for (int i = r(3); i > 0; i--) {
            t.append(r(2) == 0 ? "*" + unit() : " / " + (r(30) == 0 ? 0 : 1 + r(r(2) == 0 ? 9 : 9999)));
        }
        return t.toString();
    }

    private String unit() {
        return r(2) == 0 ? String.valueOf(r(r(2) == 0 ? 10 : 10000)) : UNITS[r(UNITS.length)];
    }

    private String either(int depth) {
        StringBuilder t = new StringBuilder(both(depth));
        for (int i = r(4) / 2; i > 0; i--) {
            t.append(" or ").append(both(depth));
        }
        return t.toString();
    }

    private String both(int depth) {
        StringBuilder t = new StringBuilder(one(depth));
        for (int i = r(4) / 2; i > 0; i--) {
            t.append(" and ").append(one(depth));
        }
        return t.toString();
    }

    private String one(int depth) {
        if (r(30) == 0) {
            int n = 7 + r(3);
            return "not ".repeat(n) + "1<2";
        }
        if (depth < 4 && r(3) == 0) {
            return r(2) == 0 ? "not " + one(depth + 1) : "(" + either(depth + 1) + ")";
        }
        return UNITS[r(UNITS.length)] + new String[] {"<", "=", ">"}[r(3)] + (r(3) == 0 ? sum() : "" + r(20));
    }

    private String followsText() {
        StringBuilder t = new StringBuilder();
        for (int i = lines(); i > 0; i--) {
            int a = r(8);
            t.append("bidder ").append(a).append(" follows").append(gap())
                .append(r(15) == 0 ? a : (a + 1 + r(7)) % 8 % 5).append(";");
        }
        return t.toString();
    }

    private String weekText() {
        StringBuilder t = new StringBuilder();
        int day = y.look(5);
        for (int i = lines(); i > 0; i--) {
            t.append("on ").append(r(20) == 0 ? r(1100) : day + r(4)).append(" ");
            switch (r(7)) {
                case 0 -> t.append("wet ").append(r(60) == 0 ? 10 : r(10));
                case 1 -> t.append("crowd ").append(r(101));
                case 2 -> t.append("police");
                case 3 -> t.append("bill ").append(r(5)).append(gap()).append(r(101));
                case 4 -> t.append("pay ").append(r(4)).append(gap()).append(r(1001));
                default -> t.append("sell ").append(r(7));
            }
            t.append(";");
        }
        return t.toString();
    }

    private String wantsText() {
        StringBuilder t = new StringBuilder();
        for (int i = lines(); i > 0; i--) {
            t.append("bidder ").append(r(r(3) == 0 ? 9 : 4)).append(" wants ").append(r(40) == 0 ? r(10) : 1 + r(7))
                .append(" for ").append(r(3) == 0 ? r(100) : 10 * r(4)).append(";");
        }
        return t.toString();
    }
}
