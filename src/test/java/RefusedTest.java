import java.util.List;
import java.util.function.Supplier;
import java.util.function.ToLongFunction;

/** Of each promise every call that is refused: what it answers, and that it changes nothing. */
public final class RefusedTest {
    private static final Due DUE = new Due("RefusedTest");
    private static final int LEAST = Integer.MIN_VALUE;
    private static final int MOST = Integer.MAX_VALUE;
    private static final int[] FAR = {LEAST, LEAST + 1, MOST - 1, MOST};

    private RefusedTest() {
    }

    public static void main(String[] args) {
        promise3();
        promise4();
        promise5();
        promise6();
        promise7();
        promise8();
        promise9();
        promise10();
        promise11();
        promise12();
        promise13();
        promise14to17();
        promise18and19();
        promise20to25();
        promise26to30();
        promise31to37();
        promise38and39();
        promise40();
        full();
        DUE.end();
    }

    /** A quay on which something of all is told: three BIDDERS (2 a SHILL), three PARCELS (0 is SOLD to BIDDER 0). */
    private static MockParcels quay() {
        MockParcels x = new MockParcels();
        x.bidder(500, 0, false);
        x.bidder(50, 9, false);
        x.bidder(7, 3, true);
        x.parcel(12, 6, 3);
        x.parcel(30, 4, 1);
        x.parcel(0, 9, 9);
        x.set(0, 0, 50);
        x.set(1, 0, 2);
        x.set(5, 0, 9);
        x.set(5, 1, 8);
        Due.text(x, 0, "bids 1000 when care=0 and round<1;bids 0;step 3;full 1000;");
        Due.text(x, 1, "bidder 1 follows 0;");
        Due.text(x, 2, "on 0 sell 1;on 1 police;on 1 wet 4;");
        Due.text(x, 3, "bidder 0 wants 1 for 5;bidder 1 wants 7 for 6;");
        x.weighs(1, 4);
        x.weighs(2, 6);
        x.length(7);
        x.coin(5);
        x.coin(9);
        x.rank(0, 10234567);
        x.put(8, 1);
        x.clue(3, true);
        x.police(3);
        x.police(8);
        Due.text(x, 0, "bids 5/0;");
        x.state(0);
        x.sell(0);
        x.image(true);
        x.days(1);
        x.pay(1, 20);
        x.feed(0x6f6e2033, 0x20776574, 0x20353b20, 0x20202020, 0x20202020);
        x.end(11);
        return x;
    }

    private static void refused(String call, ToLongFunction<MockParcels> act, long answer) {
        DUE.changesNothing(call, RefusedTest::quay, act, answer);
    }

    private static long bit(boolean answer) {
        return answer ? 1 : 0;
    }

    private static void promise3() {
        int[][] wrong = {{-1, 100}, {-1, 10}, {-1, 10}};
        for (int place = 0; place < 3; place++) {
            for (int v : with(FAR, wrong[place])) {
                int w = place == 0 ? v : 5;
                int r = place == 1 ? v : 5;
                int k = place == 2 ? v : 5;
                refused("3: parcel(" + w + ", " + r + ", " + k + ")", x -> x.parcel(w, r, k), -1);
            }
        }
    }

    private static int[] with(int[] some, int... more) {
        int[] all = new int[some.length + more.length];
        System.arraycopy(some, 0, all, 0, some.length);
        System.arraycopy(more, 0, all, some.length, more.length);
        return all;
    }

    private static void promise4() {
        for (int purse : with(FAR, -1, 10000)) {
            refused("4: bidder(" + purse + ", 5, false)", x -> x.bidder(purse, 5, false), -1);
        }
        for (int care : with(FAR, -1, 10)) {
            refused("4: bidder(5, " + care + ", true)", x -> x.bidder(5, care, true), -1);
        }
    }

    private static void promise5() {
        int[] beyond = {100, 10, 10000, 10, 10, 100};
        for (int what = 0; what <= 5; what++) {
            int w = what;
            for (int v : with(FAR, -1, beyond[what])) {
                refused("5: set(" + w + ", 1, " + v + ")", x -> bit(x.set(w, 1, v)), 0);
            }
            for (int who : with(FAR, -1, 3)) {
                if (what >= 2) {
                    refused("5: set(" + w + ", " + who + ", 5)", x -> bit(x.set(w, who, 5)), 0);
                }
            }
        }
        for (int what : with(FAR, -1, 6)) {
            refused("5: set(" + what + ", 0, 5)", x -> bit(x.set(what, 0, 5)), 0);
        }
    }

    private static void promise6() {
        for (int p : with(FAR, -1, 3, 16)) {
            refused("6: sell(" + p + "), none such", x -> x.sell(p), -1);
        }
        refused("6: sell(0), SOLD by hand", x -> x.sell(0), -1);
        refused("6: sell(1), SOLD on a DAY", x -> x.sell(1), -1);
    }

    private static void promise7() {
        for (int b : with(FAR, -1, 3, 8)) {
            refused("7: pay(" + b + ", 5)", x -> bit(x.pay(b, 5)), 0);
        }
        for (int n : with(FAR, -1, 0, 1000)) {
            refused("7: pay(0, " + n + ")", x -> bit(x.pay(0, n)), 0);
        }
    }

    private static void promise8() {
        MockParcels y = quay();
        int kind = y.of(0, 4);
        DUE.is("8: BIDDER 0 has one", y.who(0, 10 + kind) >= 1, true);
        for (int b : with(FAR, -1, 3, 8)) {
            refused("8: give(" + b + ", 1, kind)", x -> bit(x.give(b, 1, kind)), 0);
            refused("8: give(0, " + b + ", kind)", x -> bit(x.give(0, b, kind)), 0);
        }
        for (int k : with(FAR, -1, 0, 8)) {
            refused("8: give(0, 1, " + k + ")", x -> bit(x.give(0, 1, k)), 0);
        }
        for (int k = 1; k <= 7; k++) {
            int none = k;
            if (y.who(0, 10 + k) == 0) {
                refused("8: give(0, 1, " + k + "), he has none", x -> bit(x.give(0, 1, none)), 0);
            }
            refused("8: give(0, 0, " + k + "), alike", x -> bit(x.give(0, 0, none)), 0);
            refused("8: give(1, 0, " + k + "), he has none", x -> bit(x.give(1, 0, none)), 0);
        }
    }

    private static void promise9() {
        for (int b : with(FAR, -1, 3, 8)) {
            refused("9: settle(" + b + "), none such", x -> x.settle(b), -1);
        }
        refused("9: settle(1), he owes nothing", x -> x.settle(1), -1);
    }

    private static void promise10() {
        for (int n : with(FAR, -1, 0, 61)) {
            refused("10: days(" + n + ")", x -> x.days(n), -1);
        }
        Supplier<MockParcels> late = () -> {
            MockParcels x = new MockParcels();
            for (int i = 0; i < 166; i++) {
                x.days(60);
            }
            return x;
        };
        DUE.changesNothing("10: days(40) from 9960", late, x -> x.days(40), -1);
        DUE.changesNothing("10: days(60) from 9960", late, x -> x.days(60), -1);
        MockParcels x = late.get();
        DUE.is("10: days(39) from 9960", x.days(39), 0);
        DUE.is("10: days(1) from 9999", x.days(1), -1);
        DUE.is("10: it stays so", x.look(5), 9999);
    }

    private static void promise11() {
        for (int size = 381; size <= 400; size++) {
            int n = size;
            Supplier<MockParcels> full = () -> {
                MockParcels x = new MockParcels();
                Due.feed(x, "on 0 wet 5;".repeat(9) + " ".repeat(n - 99));
                return x;
            };
            DUE.changesNothing("11: feed behind " + n, full, x -> x.feed(0x3b3b3b3b, 1, 2, 3, 4), -1);
        }
    }

    private static void promise12() {
        for (int n : with(FAR, -1, 12, 20, 400, 401)) {
            refused("12: end(" + n + ") of 11", x -> bit(x.end(n)), 0);
        }
    }

    /** The TAPE is empty then and fault() tells of it; all else stays. */
    private static void promise13() {
        for (int k : with(FAR, -1, 4)) {
            MockParcels x = quay();
            DUE.is("13: text(" + k + "), no such one", x.text(k), -1);
            DUE.is("13: fault() tells 0", x.fault(0), 0);
            DUE.is("14: its place", x.fault(1), -1);
            DUE.same("13: text(" + k + ")", Seen.butTape(x), Seen.butTape(quay()));
        }
        String[] wrong = {"bids 1;step 1;full 1;bids", "bidder 0 follows 2;bidder 2 follows 2;",
            "on 0 wet 9;on 0 wet 10;", "bidder 0 wants 1 for 99;bidder 0 wants 4 for 100;"};
        for (int k = 0; k < 4; k++) {
            MockParcels x = quay();
            x.end(0);
            DUE.is("13: text(" + k + ") with a FAULT", Due.text(x, k, wrong[k]), -1);
            DUE.same("13: TEXT " + k + " stays as it was", Seen.butTape(x), Seen.butTape(quay()));
        }
    }

    private static void promise14to17() {
        for (int what : with(FAR, -1, 2)) {
            refused("14: fault(" + what + ")", x -> x.fault(what), -1);
        }
        for (int p : with(FAR, -1, 3, 16)) {
            refused("15: of(" + p + ", 0)", x -> x.of(p, 0), -2);
            refused("15: of(" + p + ", 10)", x -> x.of(p, 10), -2);
        }
        for (int what : with(FAR, -1, 6, 9, 13, 19, 23, 29, 33, 39, 40, 50)) {
            refused("15: of(0, " + what + ")", x -> x.of(0, what), -2);
        }
        for (int b : with(FAR, -1, 3, 8)) {
            refused("16: who(" + b + ", 0)", x -> x.who(b, 0), -2);
            refused("16: who(" + b + ", 11)", x -> x.who(b, 11), -2);
            refused("16: who(" + b + ", 21)", x -> x.who(b, 21), -2);
        }
        for (int what : with(FAR, -1, 5, 9, 10, 18, 19, 20, 28, 30)) {
            refused("16: who(0, " + what + ")", x -> x.who(0, what), -2);
        }
        int lines = quay().look(8);
        for (int i : with(FAR, -1, lines, 149, 150)) {
            refused("17: book(" + i + ", 0)", x -> x.book(i, 0), -1);
        }
        for (int what : with(FAR, -1, 4)) {
            refused("17: book(0, " + what + ")", x -> x.book(0, what), -1);
        }
    }

    private static void promise18and19() {
        for (int p : with(FAR, -1, 3, 16)) {
            refused("18: would(" + p + ", 0)", x -> x.would(p, 0), -2);
        }
        for (int what : with(FAR, -1, 3)) {
            refused("18: would(0, " + what + ")", x -> x.would(0, what), -2);
        }
        for (int n : with(FAR, -1, 0, 61)) {
            refused("19: goes(" + n + ", 0)", x -> x.goes(n, 0), -1);
        }
        for (int what : with(FAR, -1, 4)) {
            refused("19: goes(1, " + what + ")", x -> x.goes(1, what), -1);
        }
    }

    private static void promise20to25() {
        for (int kind : with(FAR, -1, 0, 8)) {
            refused("20: weighs(" + kind + ", 3)", x -> bit(x.weighs(kind, 3)), 0);
        }
        for (int v : with(FAR, -1, 100)) {
            refused("20: weighs(1, " + v + ")", x -> bit(x.weighs(1, v)), 0);
        }
        for (int p : with(FAR, -1, 3, 16)) {
            refused("21: inside(" + p + ", 0)", x -> x.inside(p, 0), -1);
        }
        for (int v : with(FAR, -2, 0, 61)) {
            refused("22: length(" + v + ")", x -> x.length(v), -1);
        }
        for (int c : with(FAR, -1, 0, 6, 100)) {
            refused("23: strings(" + c + ", 0)", x -> x.strings(c, 0), -1);
            refused("23: strings(" + c + ", 1)", x -> x.strings(c, 1), -1);
        }
        for (int v : with(FAR, -2, 0, 5, 9, 51)) {
            refused("24: coin(" + v + ")", x -> x.coin(v), -1);
        }
        for (int n : with(FAR, -1, 1000)) {
            refused("25: pays(" + n + ", 1)", x -> x.pays(n, 1), -1);
        }
        for (int what : with(FAR, -1, 2)) {
            refused("21: inside(0, " + what + ")", x -> x.inside(0, what), -1);
            refused("23: strings(60, " + what + ")", x -> x.strings(60, what), -1);
            refused("25: pays(5, " + what + ")", x -> x.pays(5, what), -1);
        }
    }

    private static void promise26to30() {
        for (int b : with(FAR, -1, 8)) {
            refused("26: rank(" + b + ", 1234567)", x -> bit(x.rank(b, 1234567)), 0);
        }
        for (int order : with(FAR, -1234567, -1, 0, 1234566, 1234568, 17654321, 76543211, 82345670, 101234567)) {
            refused("26: rank(1, " + order + ")", x -> bit(x.rank(1, order)), 0);
        }
        for (int b : with(FAR, -2, 8)) {
            refused("27: swaps(" + b + ")", x -> x.swaps(b), -1);
        }
        for (int what : with(FAR, -1, 1, 9, 13, 18)) {
            refused("28: wishes(" + what + ")", x -> x.wishes(what), -1);
        }
        for (int price : with(FAR, -2, 100)) {
            refused("29: put(" + price + ", 5)", x -> x.put(price, 5), -1);
        }
        for (int day : with(FAR, -1, 10)) {
            refused("29: put(5, " + day + ")", x -> x.put(5, day), -1);
        }
        for (int what : with(FAR, -1, 2)) {
            refused("30: puts(" + what + ")", x -> x.puts(what), -1);
        }
    }

    private static void promise31to37() {
        for (int set : with(FAR, -2, 65536)) {
            refused("31: clue(" + set + ", true)", x -> x.clue(set, true), -1);
        }
        for (int what : with(FAR, -1, 2)) {
            refused("32: which(" + what + ")", x -> x.which(what), -1);
            refused("36: halves(" + what + ")", x -> x.halves(what), -1);
            refused("37: game(" + what + ")", x -> x.game(what), -1);
        }
        for (int day : with(FAR, -2, 1000)) {
            refused("33: police(" + day + ")", x -> x.police(day), -1);
        }
        for (int d : with(FAR, -2, 10000)) {
            refused("34: every(" + d + ")", x -> x.every(d), -1);
        }
        for (int v : with(FAR, -1)) {
            refused("35: shill(" + v + ", 1, 2)", x -> x.shill(v, 1, 2), -1);
            refused("35: shill(5, " + v + ", 2)", x -> x.shill(5, v, 2), -1);
            refused("35: shill(5, 1, " + v + ")", x -> x.shill(5, 1, v), -1);
        }
        refused("35: shill(1001, 1, 2)", x -> x.shill(1001, 1, 2), -1);
        refused("35: shill(5, 21, 40)", x -> x.shill(5, 21, 40), -1);
        refused("35: shill(5, 3, 2)", x -> x.shill(5, 3, 2), -1);
        refused("35: shill(5, 20, 41)", x -> x.shill(5, 20, 41), -1);
        Supplier<MockParcels> one = () -> {
            MockParcels x = new MockParcels();
            x.bidder(5, 0, false);
            x.parcel(1, 1, 0);
            x.police(7);
            return x;
        };
        DUE.changesNothing("34: every(0), no EVERY", one, x -> x.every(0), -1);
        DUE.changesNothing("36: halves(0) of one", one, x -> x.halves(0), -1);
        DUE.changesNothing("36: halves(1) of one", one, x -> x.halves(1), -1);
        DUE.changesNothing("37: game(0) without knots", one, x -> x.game(0), -1);
        DUE.changesNothing("37: game(1) without knots", one, x -> x.game(1), -1);
    }

    private static void promise38and39() {
        Supplier<MockParcels> told = () -> {
            MockParcels x = new MockParcels();
            x.bidder(500, 0, false);
            x.parcel(12, 6, 3);
            x.set(0, 0, 50);
            return x;
        };
        DUE.changesNothing("38: nothing to undo", told, x -> bit(x.undo()), 0);
        DUE.changesNothing("39: no image", told, x -> bit(x.image(false)), 0);
        DUE.changesNothing("38: a new object", MockParcels::new, x -> bit(x.undo()), 0);
        DUE.changesNothing("39: a new object", MockParcels::new, x -> bit(x.image(false)), 0);
    }

    private static void promise40() {
        for (int what : with(FAR, -1, 15)) {
            refused("40: look(" + what + ")", x -> x.look(what), -1);
        }
    }

    /** One more where there are as many as can be. */
    private static void full() {
        Supplier<MockParcels> full = () -> {
            MockParcels x = new MockParcels();
            for (int i = 0; i < 16; i++) {
                x.parcel(i, i % 10, i % 2);
            }
            for (int i = 0; i < 8; i++) {
                x.bidder(i, i, i == 3);
            }
            for (int i = 0; i < 9; i++) {
                x.length(20 + i);
            }
            for (int i = 0; i < 6; i++) {
                x.coin(2 + i);
            }
            for (int i = 0; i < 7; i++) {
                x.put(10 * i, i % 3);
            }
            for (int i = 0; i < 8; i++) {
                x.clue(1 << i, i == 0);
            }
            for (int i = 0; i < 20; i++) {
                x.police(7 + 4 * i);
            }
            x.pay(0, 9);
            return x;
        };
        DUE.changesNothing("3: there are sixteen", full, x -> x.parcel(1, 1, 1), -1);
        DUE.changesNothing("4: there are eight", full, x -> x.bidder(1, 1, false), -1);
        DUE.changesNothing("22: there are nine", full, x -> x.length(1), -1);
        DUE.changesNothing("24: there are six", full, x -> x.coin(50), -1);
        DUE.changesNothing("29: there are seven", full, x -> x.put(99, 9), -1);
        DUE.changesNothing("31: there are eight", full, x -> x.clue(0, false), -1);
        DUE.changesNothing("33: there are twenty", full, x -> x.police(0), -1);
        List<String> rows = Seen.all(full.get());
        DUE.is("all there are", rows.contains("look(0) = 16") && rows.contains("look(1) = 8"), true);
    }
}
