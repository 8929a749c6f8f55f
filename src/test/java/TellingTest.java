/** Promises 1 to 5, 15, 16 and 40: what is told, and what is told of it. */
public final class TellingTest {
    private static final Due DUE = new Due("TellingTest");

    private TellingTest() {
    }

    public static void main(String[] args) {
        promise1();
        promise2();
        promise3();
        promise4();
        promise5();
        promise15();
        promise15ByLaw();
        promise16();
        promise40();
        DUE.end();
    }

    private static void promise1() {
        MockParcels x = new MockParcels();
        for (int what = 0; what <= 14; what++) {
            DUE.is("1: look(" + what + ") of a new object", x.look(what), 0);
        }
        DUE.is("1: fault(0)", x.fault(0), 0);
        DUE.is("1: fault(1)", x.fault(1), -1);
        DUE.is("1: no image", x.image(false), false);
        DUE.is("1: nothing to undo", x.undo(), false);
        DUE.is("1: NONE", MockParcels.NONE, -1);
    }

    private static void promise2() {
        MockParcels x = new MockParcels();
        DUE.is("2: 0 at first", x.state(7), 0);
        DUE.is("2: what it was", x.state(Integer.MIN_VALUE), 7);
        DUE.is("2: look(9)", x.look(9), Integer.MIN_VALUE);
        DUE.is("2: looking changes nothing", x.state(0), Integer.MIN_VALUE);
    }

    private static void promise3() {
        MockParcels x = new MockParcels();
        int[][] wrong = {{-1, 0, 0}, {100, 0, 0}, {0, -1, 0}, {0, 10, 0}, {0, 0, -1}, {0, 0, 10},
            {Integer.MAX_VALUE, 0, 0}, {0, Integer.MIN_VALUE, 0}};
        for (int[] w : wrong) {
            DUE.is("3: one that can't be", x.parcel(w[0], w[1], w[2]), -1);
        }
        DUE.is("3: none came", x.look(0), 0);
        for (int i = 0; i < 16; i++) {
            DUE.is("3: as they come", x.parcel(i % 2 * 99, i % 3 * 4, 9 - i % 10), i);
        }
        DUE.is("3: the 17th", x.parcel(0, 0, 0), -1);
        DUE.is("3: sixteen", x.look(0), 16);
        DUE.is("3: weight", x.of(15, 0), 99);
        DUE.is("3: rattle", x.of(14, 1), 8);
        DUE.is("3: knots", x.of(15, 2), 4);
    }

    private static void promise4() {
        MockParcels x = new MockParcels();
        DUE.is("4: purse -1", x.bidder(-1, 0, false), -1);
        DUE.is("4: purse 10000", x.bidder(10000, 0, false), -1);
        DUE.is("4: care -1", x.bidder(0, -1, false), -1);
        DUE.is("4: care 10", x.bidder(0, 10, true), -1);
        for (int i = 0; i < 8; i++) {
            DUE.is("4: as they come", x.bidder(i == 3 ? 9999 : i, 9 - i, i % 2 == 1), i);
        }
        DUE.is("4: the 9th", x.bidder(1, 1, false), -1);
        DUE.is("4: eight", x.look(1), 8);
        DUE.is("4: purse", x.who(3, 0), 9999);
        DUE.is("4: care", x.who(7, 1), 2);
        DUE.is("4: shill", x.who(5, 2), 1);
        DUE.is("4: no shill", x.who(6, 2), 0);
    }

    private static void promise5() {
        MockParcels x = new MockParcels();
        x.bidder(5, 5, false);
        x.parcel(5, 5, 5);
        int[] most = {99, 9, 9999, 9, 9, 99};
        for (int what = 0; what < 6; what++) {
            DUE.is("5: set " + what + " below", x.set(what, 0, -1), false);
            DUE.is("5: set " + what + " beyond", x.set(what, 0, most[what] + 1), false);
            DUE.is("5: set " + what + " the most", x.set(what, 0, most[what]), true);
            DUE.is("5: of who there is not", x.set(what, 1, 3), what < 2);
            DUE.is("5: of who there can't be", x.set(what, -1, 4), what < 2);
        }
        DUE.is("5: crowd", x.look(3), 4);
        DUE.is("5: wet", x.look(4), 4);
        DUE.is("5: purse", x.who(0, 0), 9999);
        DUE.is("5: care", x.who(0, 1), 9);
        DUE.is("5: knots", x.of(0, 2), 9);
        DUE.is("5: bill", x.of(0, 5), 99);
        for (int what = 0; what < 6; what++) {
            DUE.is("5: set " + what + " to 0", x.set(what, 0, 0), true);
        }
        DUE.is("5: all 0", x.look(3) + x.look(4) + x.who(0, 0) + x.who(0, 1) + x.of(0, 2) + x.of(0, 5), 0);
        DUE.is("5: another what", x.set(6, 0, 1), false);
        DUE.is("5: another what", x.set(-1, 0, 1), false);
        Due.text(x, 0, "bids 1000;");
        x.set(2, 0, 10);
        x.sell(0);
        DUE.is("5: bill of one SOLD", x.set(5, 0, 8), true);
        DUE.is("5: it is so", x.of(0, 5), 8);
    }

    private static void promise15() {
        MockParcels x = new MockParcels();
        DUE.is("15: no parcel", x.of(0, 0), -2);
        x.parcel(31, 7, 4);
        x.bidder(100, 3, false);
        x.bidder(0, 9, true);
        int[] plain = {31, 7, 4, -1, -1, 0};
        for (int what = 0; what < 6; what++) {
            DUE.is("15: of(0, " + what + ")", x.of(0, what), plain[what]);
        }
        DUE.is("15: bids 600 - 150", x.of(0, 10), 450);
        DUE.is("15: bids 600 - 450", x.of(0, 11), 150);
        DUE.is("15: step of one who is none", x.of(0, 20), 1);
        DUE.is("15: step of a SHILL", x.of(0, 21), 2);
        DUE.is("15: full", x.of(0, 30), 700);
        int[] none = {-1, 6, 9, 12, 17, 18, 19, 22, 28, 29, 32, 38, 39, 40, 41, 1000, Integer.MIN_VALUE};
        for (int what : none) {
            DUE.is("15: of(0, " + what + ")", x.of(0, what), -2);
        }
        DUE.is("15: of(1, 0)", x.of(1, 0), -2);
        DUE.is("15: of(-1, 0)", x.of(-1, 0), -2);
        DUE.is("15: no DRAW is made", x.look(9), 0);
        x.set(0, 0, 20);
        x.set(5, 0, 12);
        Due.text(x, 0, "bids 1000; full 1000;");
        x.state(0);
        // One bids (563), the other one, a SHILL, bids 2 more, then the first one 1 more than that, and so on.
        DUE.is("15: till the purse is empty or rounds are", x.sell(0) > 0, true);
        DUE.is("15: SOLD", x.of(0, 3), 1);
        DUE.is("15: IN", x.of(0, 4) >= 1 && x.of(0, 4) <= 7, true);
        DUE.is("15: BILL", x.of(0, 5), 12);
    }

    /** Each word of THE LAW has its own value here, so that one taken for another one is seen. */
    private static void promise15ByLaw() {
        MockParcels x = new MockParcels();
        x.parcel(31, 7, 4);
        x.bidder(100, 3, false);
        x.bidder(200, 5, true);
        x.set(0, 0, 61);
        x.set(1, 0, 8);
        x.days(2);
        String[] words = {"weight", "rattle", "knots", "care", "shill", "purse", "price", "round", "crowd", "wet",
            "has", "day"};
        int[] values = {31, 7, 4, 5, 1, 200, 0, 0, 45, 8, 0, 2};
        for (int i = 0; i < words.length; i++) {
            DUE.is("15: a law", Due.text(x, 0, "bids " + words[i] + ";step 50+" + words[i] + "/4;full 0+"
                + words[i] + "*2;"), 3);
            DUE.is("15: bids " + words[i], x.of(0, 11), values[i]);
            DUE.is("15: step of " + words[i], x.of(0, 21), Math.min(99, 50 + values[i] / 4));
            DUE.is("15: full of " + words[i], x.of(0, 31), values[i] * 2);
        }
        law(x, "bids 9999;step 9999;full 9999;", 1000, 99, 1000);
        law(x, "bids 0-1;step 0;full 0-1;", 0, 1, 0);
        law(x, "bids 9999*9999*9999;step 5;full 9999*9999*9999-1;", 9999 * 9999 * 9999 < 0 ? 0 : 1000, 5,
            9999 * 9999 * 9999 - 1 < 0 ? 0 : 1000);
        law(x, "bids 10-3-2;step 2*3/4*5;full 100+2*3-1;", 5, 5, 105);
        law(x, "bids 100+(0);", 350, 2, 700);
        law(x, "bids 500+(care);", 350, 2, 700);
        law(x, "bids 1000+0-7/2;step 10+0-9/2;full 1;", 997, 6, 1);
        law(x, "bids 1 when 1>2;bids 2 when 2>1;bids 3;step 7 when 1=2;full 9;full 8;", 2, 2, 9);
        law(x, "bids 1 when 1=1 or 1=2 and 1=2;step 2 when (1=1 or 1=2) and 1=2;full 3 when not 1=2 and 1=1;", 1, 2,
            3);
        law(x, "bids 1 when not (1=1 and 1=2);step 4 when not not 1=1;full 3 when 1=2 or not 1<1;", 1, 4, 3);
        law(x, "bids 0-7/2+10;", 7, 2, 700);
        law(x, "bids 1 when not 1=1;step 4 when not not not 1=1;full 3 when 1=1 and not 2=2;", 350, 2, 700);
        law(x, "bids 1 when 1=1 and (1=2);step 4 when 1=2 or (1=2 or 1=2);full 3 when 1=2 and (1=1 or 1=1);", 350, 2,
            700);
        law(x, "bids 1 when (1=2) or not(1=1 and 2=2) or 3=3;step 4 when not(1=2 or 1=1) and 1=1;full 3 when 1=1 or "
            + "1=1 and 1=2;", 1, 2, 3);
        law(x, "bids 4 when care<5;bids 5 when care=5;step 8 when care>5;full 6 when 5>care or care<5;", 5, 2, 700);
        law(x, "", 350, 2, 700);
    }

    /** What BIDDER 1, a SHILL of CARE 5, is told of PARCEL 0; a text with a fault leaves the LAW empty. */
    private static void law(MockParcels x, String text, int bids, int step, int full) {
        x.text(0);
        Due.text(x, 0, text);
        DUE.is("15: bids by " + text, x.of(0, 11), bids);
        DUE.is("15: step by " + text, x.of(0, 21), step);
        DUE.is("15: full by " + text, x.of(0, 31), full);
    }

    private static void promise16() {
        MockParcels x = new MockParcels();
        DUE.is("16: no bidder", x.who(0, 0), -2);
        x.bidder(100, 3, false);
        x.bidder(50, 0, true);
        x.parcel(0, 9, 0);
        int[] plain = {100, 3, 0, 0, -1};
        for (int what = 0; what < 5; what++) {
            DUE.is("16: who(0, " + what + ")", x.who(0, what), plain[what]);
        }
        for (int k = 1; k <= 7; k++) {
            DUE.is("16: has none of " + k, x.who(1, 10 + k), 0);
            DUE.is("16: wants none of " + k, x.who(1, 20 + k), 0);
        }
        int[] none = {-1, 5, 9, 10, 18, 19, 20, 28, 30, Integer.MAX_VALUE, Integer.MIN_VALUE};
        for (int what : none) {
            DUE.is("16: who(0, " + what + ")", x.who(0, what), -2);
        }
        DUE.is("16: who(2, 0)", x.who(2, 0), -2);
        DUE.is("16: who(-1, 0)", x.who(-1, 0), -2);
        Due.text(x, 1, "bidder 1 follows 0;");
        Due.text(x, 3, "bidder 0 wants 7 for 99;bidder 1 wants 1 for 5;bidder 0 wants 7 for 98;");
        DUE.is("16: follows", x.who(1, 4), 0);
        DUE.is("16: one way", x.who(0, 4), -1);
        DUE.is("16: wants, the last line", x.who(0, 27), 98);
        DUE.is("16: wants", x.who(1, 21), 5);
        x.set(5, 0, 33);
        Due.text(x, 0, "bids 1000*(shill);");
        Due.text(x, 0, "bids 1000 when shill=1;bids 0;full 1000;");
        x.state(0);
        // Draws: 563 (BIDDER 0 does not), 577 (BIDDER 1 bids 2), next round 494 (0 does not), then 947 (full), KIND.
        x.sell(0);
        DUE.is("16: has one thing", has(x, 1), 1);
        DUE.is("16: owes", x.who(1, 3), 33);
    }

    private static int has(MockParcels x, int b) {
        int sum = 0;
        for (int k = 1; k <= 7; k++) {
            sum += x.who(b, 10 + k);
        }
        return sum;
    }

    private static void promise40() {
        MockParcels x = new MockParcels();
        x.bidder(100, 0, false);
        for (int i = 0; i < 4; i++) {
            x.parcel(i, 0, 0);
        }
        x.set(0, 0, 80);
        x.set(1, 0, 3);
        DUE.is("40: law", Due.text(x, 0, "bids 1000;step 20;full 1000;full 0;"), 4);
        DUE.is("40: follows", x.text(1), 0);
        DUE.is("40: week", Due.text(x, 2, "on 0 sell 2;on 0 police;"), 2);
        x.bidder(5, 0, true);
        DUE.is("40: follows", Due.text(x, 1, "bidder 1 follows 0;"), 1);
        DUE.is("40: wants", Due.text(x, 3, "bidder 0 wants 1 for 1;bidder 0 wants 1 for 2;bidder 1 wants 3 for 4;"), 3);
        DUE.is("40: days", x.days(1), 1);
        x.pay(0, 1);
        x.pay(0, 1);
        // Sold to BIDDER 0 for 20 in two rounds, something was in it (84), which the police took; 3 less for the wet.
        int[] due = {4, 2, 20, 81, 3, 1, 1, 11, 4, x.state(0), 4, 1, 2, 3};
        for (int what = 0; what < due.length; what++) {
            if (what != 9) {
                DUE.is("40: look(" + what + ")", x.look(what), due[what]);
            }
        }
        DUE.is("40: forgotten", x.look(14), 0);
        x.pay(0, 1);
        DUE.is("40: what can be undone", x.look(14), 1);
        x.state(123);
        DUE.is("40: STATE as it is", x.look(9), 123);
        int[] none = {-1, 15, 16, Integer.MAX_VALUE, Integer.MIN_VALUE};
        for (int what : none) {
            DUE.is("40: look(" + what + ")", x.look(what), -1);
        }
    }
}
