/** The edges of promises 6 to 10 and 17: each sentence of the document that names one has its own method. */
public final class SellingEdgesTest {
    private static final Due DUE = new Due("SellingEdgesTest");

    private SellingEdgesTest() {
    }

    public static void main(String[] args) {
        notSold();
        nobodyIsThere();
        belowBids();
        belowFull();
        sevenKinds();
        thirtyRounds();
        lastRoundCounts();
        neverAgainstHimself();
        followsWhoBidLast();
        noDrawForAFollower();
        purseAtMost();
        shillBeyondHisPurse();
        aTenthLess();
        hePays();
        fullIsAskedThen();
        owesEitherWay();
        crowdGrows();
        crowdGoes();
        lotsOfOneKind();
        payBounds();
        giveOne();
        settleLess();
        daysBounds();
        lastDay();
        linesOfTheirDay();
        lineByLine();
        sellIfItCanBe();
        wetAndCrowd();
        wetTakes();
        policeTakeOne();
        policeMost();
        policeLeastKind();
        billOfOneNotSold();
        weekPays();
        bookColumns();
        bookIsFull();
        fullBookStopsNothing();
        DUE.end();
    }

    /** BIDDERS 0 .. with CARE as their number and PURSE 100, PARCELS with WEIGHT as theirs. */
    private static MockParcels quay(int bidders, int parcels, String law) {
        MockParcels x = new MockParcels();
        for (int b = 0; b < bidders; b++) {
            x.bidder(100, b, false);
        }
        for (int p = 0; p < parcels; p++) {
            x.parcel(p, 0, 0);
        }
        DUE.is("13: " + law, Due.text(x, 0, law) >= 0, true);
        return x;
    }

    private static void line(String call, MockParcels x, int i, int... due) {
        for (int what = 0; what < 4; what++) {
            DUE.is(call + ": book(" + i + ", " + what + ")", x.book(i, what), due[what]);
        }
    }

    /** "To SELL a PARCEL not SOLD": NONE if it can't be. */
    private static void notSold() {
        MockParcels x = quay(1, 16, "bids 1000;full 0;");
        int[] none = {Integer.MIN_VALUE, -1, 16, Integer.MAX_VALUE};
        for (int p : none) {
            DUE.is("6: sell(" + p + ")", x.sell(p), -1);
        }
        DUE.is("6: the last one", x.sell(15), 1);
        DUE.is("6: SOLD", x.sell(15), -1);
        DUE.is("6: the first one", x.sell(0), 1);
        DUE.is("6: SOLD", x.sell(0), -1);
        DUE.is("6: SOLD to BIDDER 0", x.of(0, 3), 0);
        DUE.is("6: refused ones can't be undone", x.look(14), 2);
        x.undo();
        DUE.is("6: not SOLD again", x.sell(0), 1);
    }

    /** "Has nobody bid: nothing more (it is not SOLD)": 0. */
    private static void nobodyIsThere() {
        MockParcels x = quay(0, 1, "bids 1000;");
        x.set(0, 0, 50);
        DUE.is("6: nobody is there", x.sell(0), 0);
        DUE.is("6: CROWD is a tenth less", x.look(3), 45);
        DUE.is("6: no DRAW", x.look(9), 0);
        DUE.is("6: it can be undone", x.undo(), true);
        DUE.is("6: CROWD", x.look(3), 50);
        MockParcels y = quay(3, 1, "bids 0;");
        y.set(5, 0, 9);
        DUE.is("6: nobody bids", y.sell(0), 0);
        DUE.is("6: a DRAW each, one round", y.look(9), Draws.after(0, 3));
        DUE.is("6: not SOLD", y.of(0, 3), -1);
        DUE.is("6: not opened", y.of(0, 4), -1);
        DUE.is("6: nobody OWES", y.who(0, 3) + y.who(1, 3) + y.who(2, 3), 0);
        DUE.is("6: no line", y.look(8), 0);
        DUE.is("6: no TILL", y.look(2), 0);
    }

    /** "a DRAW of 1000: below it he bids": the least DRAW is 0, the most 999. */
    private static void belowBids() {
        int[][] rows = {{0, 0, 0}, {0, 1, 1}, {999, 999, 0}, {999, 1000, 1}, {500, 500, 0}, {500, 501, 1}};
        for (int[] row : rows) {
            MockParcels x = quay(1, 1, "full 0;bids " + row[1] + ";");
            x.state(Draws.with(row[0], -1, -1));
            DUE.is("6: a DRAW of " + row[0] + ", bids " + row[1], x.sell(0), row[2]);
        }
    }

    /** "full is asked, a DRAW of 1000: below it .. else KIND 0". */
    private static void belowFull() {
        int[][] rows = {{0, 0, 0}, {0, 1, 1}, {999, 999, 0}, {999, 1000, 1}, {500, 500, 0}, {500, 501, 1}};
        for (int[] row : rows) {
            MockParcels x = quay(1, 1, "bids 1000;full " + row[1] + ";");
            int state = Draws.with(7, row[0], -1);
            x.state(state);
            x.sell(0);
            DUE.is("6: a DRAW of " + row[0] + ", full " + row[1], x.of(0, 4) > 0, row[2] == 1);
            DUE.is("6: IN is known", x.of(0, 4) >= 0, true);
            DUE.is("6: a third DRAW if it is full", x.look(9), Draws.after(state, 2 + row[2]));
        }
    }

    /** "a DRAW of 7: KIND that and 1". */
    private static void sevenKinds() {
        for (int kind = 1; kind <= 7; kind++) {
            MockParcels x = quay(1, 1, "bids 1000;full 1000;");
            x.state(Draws.with(5, -1, kind - 1));
            x.sell(0);
            DUE.is("6: a DRAW of " + (kind - 1), x.of(0, 4), kind);
            for (int other = 1; other <= 7; other++) {
                DUE.is("6: he has of KIND " + other, x.who(0, 10 + other), other == kind ? 1 : 0);
            }
            line("6: opened", x, 2, 0, 2, 0, kind);
        }
    }

    /** "Round by round, 30 at most". */
    private static void thirtyRounds() {
        for (int rounds = 28; rounds <= 31; rounds++) {
            MockParcels x = quay(2, 1, "bids 1000 when round<" + rounds + ";bids 0;full 0;");
            DUE.is("6: two bid in " + rounds + " rounds", x.sell(0), 2 * Math.min(30, rounds));
            DUE.is("6: his who bid last", x.of(0, 3), 1);
            // A DRAW for each one who has not bid last, in a last round without bids too, and one for full.
            int draws = rounds >= 30 ? 60 : 2 * rounds + 1;
            DUE.is("6: so many DRAWS", x.look(9), Draws.after(0, draws + 1));
        }
    }

    /** "2 more for each round there was (the last one too)"; round: how many there were. */
    private static void lastRoundCounts() {
        for (int rounds = 1; rounds <= 31; rounds++) {
            int there = Math.min(30, rounds + 1);
            MockParcels x = quay(2, 1, "bids 1000 when round<" + rounds + ";bids 0;full 1000 when round=" + there
                + ";full 0;");
            x.sell(0);
            DUE.is("6: full is asked with " + there + " rounds", x.of(0, 4) > 0, true);
            DUE.is("6: CROWD after " + there + " rounds", x.look(3), 2 * there);
        }
    }

    /** "BIDDER by BIDDER who has not bid last". */
    private static void neverAgainstHimself() {
        MockParcels x = quay(1, 1, "bids 1000;full 0;");
        DUE.is("6: one alone bids once", x.sell(0), 1);
        DUE.is("6: a line", x.look(8), 3);
        DUE.is("6: a DRAW, and one for full", x.look(9), Draws.after(0, 2));
        MockParcels y = quay(2, 1, "bids 1000 when care=0 or price=1;bids 0;full 0;");
        // 0 bids 1, 1 bids 2; then 0 bids 3, 1 does not; then 1 does not.
        DUE.is("6: who has bid before may again", y.sell(0), 3);
        DUE.is("6: SOLD to him", y.of(0, 3), 0);
        DUE.is("6: two DRAWS, two, one, one for full", y.look(9), Draws.after(0, 6));
    }

    /** "is there one he follows who has bid last, he does not bid". */
    private static void followsWhoBidLast() {
        MockParcels x = quay(3, 1, "bids 1000 when round<2;bids 0;full 0;");
        Due.text(x, 1, "bidder 2 follows 0;");
        // 0, 1, 2 (1 has bid last); 0, 1; 2; and so on.
        DUE.is("6: another one has bid last", x.sell(0), 6);
        MockParcels y = quay(3, 1, "bids 1000 when not care=1 and round<2;bids 0;full 0;");
        Due.text(y, 1, "bidder 2 follows 0;");
        DUE.is("6: he has bid last", y.sell(0), 1);
        DUE.is("6: his", y.of(0, 3), 0);
        MockParcels z = quay(2, 1, "bids 1000 when care=1;bids 0;full 0;");
        Due.text(z, 1, "bidder 1 follows 0;");
        DUE.is("6: nobody has bid yet", z.sell(0), 1);
        DUE.is("6: he may begin", z.of(0, 3), 1);
    }

    /** "(nor is a DRAW made)". */
    private static void noDrawForAFollower() {
        MockParcels x = quay(2, 2, "bids 1000 when care=0;bids 0;full 0;");
        x.sell(0);
        // 0 bids, 1 does not; then 1 does not; full.
        DUE.is("6: without FOLLOWS", x.look(9), Draws.after(0, 4));
        Due.text(x, 1, "bidder 1 follows 0;");
        x.state(0);
        x.sell(1);
        DUE.is("6: with FOLLOWS", x.look(9), Draws.after(0, 2));
    }

    /** "if that is PURSE at most"; the DRAW is made all the same. */
    private static void purseAtMost() {
        for (int purse = 0; purse <= 12; purse++) {
            MockParcels x = quay(1, 1, "bids 1000;step 10;full 0;");
            x.set(2, 0, purse);
            DUE.is("6: 10 of " + purse, x.sell(0), purse >= 10 ? 10 : 0);
            DUE.is("6: PURSE then", x.who(0, 0), purse >= 10 ? purse - 10 : purse);
            DUE.is("6: DRAWS", x.look(9), Draws.after(0, purse >= 10 ? 2 : 1));
        }
        MockParcels y = quay(2, 1, "bids 1000;step 10;full 0;");
        y.set(2, 0, 30);
        y.set(2, 1, 39);
        // 10, 20; 30; then 40 is too much for 1.
        DUE.is("6: what is bid in all counts", y.sell(0), 30);
        DUE.is("6: his", y.of(0, 3), 0);
        DUE.is("6: PURSE is empty", y.who(0, 0), 0);
    }

    /** "or he is a SHILL"; "(a SHILL pays nothing)". */
    private static void shillBeyondHisPurse() {
        MockParcels x = new MockParcels();
        x.bidder(0, 0, true);
        x.bidder(0, 0, true);
        x.parcel(0, 0, 0);
        Due.text(x, 0, "bids 1000;step 99;full 0;");
        DUE.is("6: sixty times 99", x.sell(0), 5940);
        DUE.is("6: he pays nothing", x.who(1, 0), 0);
        DUE.is("6: TILL", x.look(2), 0);
        line("6: sold", x, 60, 0, 1, 1, 0);
        MockParcels y = new MockParcels();
        y.bidder(50, 0, true);
        y.parcel(0, 0, 0);
        Due.text(y, 0, "bids 1000;full 0;");
        DUE.is("6: what was bid", y.sell(0), 2);
        DUE.is("6: his PURSE stays", y.who(0, 0), 50);
        DUE.is("6: SOLD to him", y.of(0, 3), 0);
    }

    /** "CROWD is a tenth less", quotients go downwards. */
    private static void aTenthLess() {
        for (int crowd = 0; crowd <= 99; crowd++) {
            MockParcels x = quay(1, 1, "bids 0;");
            x.set(0, 0, crowd);
            x.sell(0);
            DUE.is("6: CROWD " + crowd, x.look(3), crowd - crowd / 10);
        }
    }

    /** "he pays what is bid: PURSE less, TILL more". */
    private static void hePays() {
        MockParcels x = quay(1, 4, "bids 1000;step 50;full 0;");
        DUE.is("6: 50 of 100", x.sell(0), 50);
        DUE.is("6: PURSE", x.who(0, 0), 50);
        DUE.is("6: TILL", x.look(2), 50);
        DUE.is("6: 50 of 50", x.sell(1), 50);
        DUE.is("6: PURSE", x.who(0, 0), 0);
        DUE.is("6: TILL", x.look(2), 100);
        DUE.is("6: none of 0", x.sell(2), 0);
        DUE.is("6: TILL", x.look(2), 100);
    }

    /** "full is asked (PURSE as it is then)": price what was bid, has without what is in it. */
    private static void fullIsAskedThen() {
        MockParcels x = quay(1, 3, "bids 1000;step 40;full 1000 when purse=60 and price=40 and round=2 and has=0;full 0;");
        x.sell(0);
        DUE.is("6: purse, price, round, has", x.of(0, 4) > 0, true);
        x.set(2, 0, 100);
        x.sell(1);
        DUE.is("6: has is 1 then", x.of(1, 4), 0);
        Due.text(x, 0, "bids 1000;step 40;full 1000 when crowd=1 and wet=2 and day=3 and has=1;full 0;");
        x.days(3);
        x.set(0, 0, 1);
        x.set(1, 0, 2);
        x.set(2, 0, 100);
        x.sell(2);
        DUE.is("6: crowd, wet, day, has", x.of(2, 4) > 0, true);
    }

    /** "OWES is BILL more either way". */
    private static void owesEitherWay() {
        MockParcels x = quay(1, 4, "bids 1000;full 1000 when weight=1;full 0;");
        x.set(5, 0, 99);
        x.set(5, 1, 98);
        x.sell(0);
        DUE.is("6: nothing in it", x.of(0, 4), 0);
        DUE.is("6: OWES", x.who(0, 3), 99);
        x.sell(1);
        DUE.is("6: something in it", x.of(1, 4) > 0, true);
        DUE.is("6: OWES more", x.who(0, 3), 197);
        x.sell(2);
        DUE.is("6: BILL 0", x.who(0, 3), 197);
        x.set(5, 0, 50);
        DUE.is("6: a later BILL is not owed", x.who(0, 3), 197);
    }

    /** "is it above 0, 2 more for each round there was .. (0 .. 99 held)". */
    private static void crowdGrows() {
        int[][] rows = {{0, 4}, {94, 98}, {95, 99}, {96, 99}, {97, 99}, {98, 99}, {99, 99}};
        for (int[] row : rows) {
            MockParcels x = quay(1, 1, "bids 1000;full 1000;");
            x.set(0, 0, row[0]);
            x.sell(0);
            DUE.is("6: CROWD " + row[0] + " and two rounds", x.look(3), row[1]);
        }
    }

    /** "else 3 less (0 .. 99 held)". */
    private static void crowdGoes() {
        int[][] rows = {{0, 0}, {1, 0}, {2, 0}, {3, 0}, {4, 1}, {99, 96}};
        for (int[] row : rows) {
            MockParcels x = quay(1, 1, "bids 1000;full 0;");
            x.set(0, 0, row[0]);
            x.sell(0);
            DUE.is("6: CROWD " + row[0] + " and nothing", x.look(3), row[1]);
        }
    }

    /** HAS has no bound but what can come: sixteen of one KIND. */
    private static void lotsOfOneKind() {
        MockParcels x = quay(1, 16, "bids 1000;full 1000;");
        for (int p = 0; p < 16; p++) {
            x.state(Draws.with(5, -1, 6));
            x.sell(p);
        }
        DUE.is("6: sixteen of KIND 7", x.who(0, 17), 16);
        Due.text(x, 0, "bids has;");
        DUE.is("15: has", x.of(0, 10), 16);
        DUE.is("40: none is left", x.look(7), 0);
    }

    /** "To PAY a BIDDER N (1 .. 999)"; "(9999 at most)". */
    private static void payBounds() {
        MockParcels x = quay(8, 0, "");
        int[] none = {Integer.MIN_VALUE, -1, 0, 1000, Integer.MAX_VALUE};
        for (int n : none) {
            DUE.is("7: pay(7, " + n + ")", x.pay(7, n), false);
        }
        DUE.is("7: PURSE stays", x.who(7, 0), 100);
        DUE.is("7: 1", x.pay(7, 1), true);
        DUE.is("7: 999", x.pay(7, 999), true);
        DUE.is("7: PURSE", x.who(7, 0), 1100);
        int[] strangers = {Integer.MIN_VALUE, -1, 8, Integer.MAX_VALUE};
        for (int b : strangers) {
            DUE.is("7: pay(" + b + ", 1)", x.pay(b, 1), false);
        }
        int[][] most = {{9000, 999, 9999}, {9001, 999, 9999}, {9998, 1, 9999}, {9999, 1, 9999}, {8999, 999, 9998}};
        for (int[] row : most) {
            x.set(2, 0, row[0]);
            DUE.is("7: paid", x.pay(0, row[1]), true);
            DUE.is("7: " + row[0] + " and " + row[1], x.who(0, 0), row[2]);
            DUE.is("7: it can be undone", x.undo(), true);
            DUE.is("7: as it was", x.who(0, 0), row[0]);
        }
    }

    /** "To GIVE a thing of a KIND from one BIDDER to another one": one of it. */
    private static void giveOne() {
        MockParcels x = quay(8, 3, "bids 1000 when care=0 and round<1;bids 0;full 1000;");
        Due.text(x, 1, "bidder 1 follows 0;bidder 2 follows 0;bidder 3 follows 0;bidder 4 follows 0;"
            + "bidder 5 follows 0;bidder 6 follows 0;bidder 7 follows 0;");
        for (int p = 0; p < 3; p++) {
            x.state(Draws.with(5, -1, p == 2 ? 0 : 6));
            x.sell(p);
        }
        DUE.is("8: two of KIND 7", x.who(0, 17), 2);
        DUE.is("8: KIND 7", x.give(0, 7, 7), true);
        DUE.is("8: one is left", x.who(0, 17), 1);
        DUE.is("8: one came", x.who(7, 17), 1);
        DUE.is("8: KIND 1", x.give(0, 7, 1), true);
        DUE.is("8: none is left", x.give(0, 7, 1), false);
        DUE.is("8: back", x.give(7, 0, 1), true);
        DUE.is("8: back", x.who(0, 11), 1);
        DUE.is("8: alike", x.give(7, 7, 7), false);
        int lines = x.look(8);
        line("8: who gave", x, lines - 1, 0, 4, 7, 1);
        line("8: who gave", x, lines - 2, 0, 4, 0, 1);
        line("8: who gave", x, lines - 3, 0, 4, 0, 7);
    }

    /** "OWES, or PURSE, if that is less: both less, TILL more". */
    private static void settleLess() {
        for (int purse = 18; purse <= 22; purse++) {
            MockParcels x = quay(1, 1, "bids 1000;full 0;");
            x.set(5, 0, 20);
            x.sell(0);
            x.set(2, 0, purse);
            int due = Math.min(20, purse);
            DUE.is("9: 20 of " + purse, x.settle(0), due);
            DUE.is("9: OWES", x.who(0, 3), 20 - due);
            DUE.is("9: PURSE", x.who(0, 0), purse - due);
            DUE.is("9: TILL", x.look(2), 1 + due);
            line("9: settled", x, 3, 0, 5, 0, due);
            DUE.is("9: again", x.settle(0), purse >= 20 ? -1 : 0);
        }
        MockParcels y = quay(2, 1, "bids 1000;full 0;");
        DUE.is("9: owes nothing", y.settle(0), -1);
        DUE.is("9: none such", y.settle(2), -1);
        DUE.is("9: none such", y.settle(-1), -1);
        DUE.is("9: nothing to undo", y.look(14), 0);
        DUE.is("9: no line", y.look(8), 0);
    }

    /** "DAYS go by (1 .. 60)". */
    private static void daysBounds() {
        MockParcels x = quay(0, 0, "");
        int[] none = {Integer.MIN_VALUE, -1, 0, 61, Integer.MAX_VALUE};
        for (int n : none) {
            DUE.is("10: days(" + n + ")", x.days(n), -1);
            DUE.is("10: nothing is done", x.look(5) + x.look(14), 0);
        }
        DUE.is("10: one", x.days(1), 0);
        DUE.is("10: DAY", x.look(5), 1);
        DUE.is("10: sixty", x.days(60), 0);
        DUE.is("10: DAY", x.look(5), 61);
    }

    /** "NONE, and nothing is done, if DAY would be above 9999". */
    private static void lastDay() {
        MockParcels x = quay(0, 0, "");
        x.set(0, 0, 99);
        for (int i = 0; i < 165; i++) {
            x.days(60);
        }
        x.days(39);
        DUE.is("10: DAY", x.look(5), 9939);
        x.image(true);
        DUE.is("10: to 9999", x.days(60), 0);
        DUE.is("10: DAY", x.look(5), 9999);
        for (int n : new int[] {1, 2, 60}) {
            DUE.is("10: beyond it", x.days(n), -1);
        }
        x.image(false);
        x.days(1);
        x.set(1, 0, 1);
        DUE.is("10: 10000 would be", x.days(60), -1);
        DUE.is("10: DAY stays", x.look(5), 9940);
        DUE.is("10: CROWD stays", x.look(3), 99);
        DUE.is("10: nothing to undo", x.look(14), 0);
        DUE.is("10: 9999 may be", x.days(59), 0);
        DUE.is("10: back", x.undo(), true);
        DUE.is("10: DAY", x.look(5), 9998);
        DUE.is("10: and on", x.days(1), 0);
        DUE.is("10: DAY", x.look(5), 9999);
    }

    /** "line by line of A WEEK for it": DAY 0 and DAY 999, and none other. */
    private static void linesOfTheirDay() {
        MockParcels x = quay(0, 0, "");
        Due.text(x, 2, "on 0 crowd 10;on 999 crowd 20;on 1 crowd 30;");
        x.days(1);
        DUE.is("10: of DAY 0", x.look(3), 10);
        x.days(1);
        DUE.is("10: of DAY 1", x.look(3), 30);
        x.days(1);
        DUE.is("10: none of DAY 2", x.look(3), 30);
        for (int i = 0; i < 16; i++) {
            x.days(60);
        }
        x.days(36);
        DUE.is("10: DAY", x.look(5), 999);
        DUE.is("10: not yet", x.look(3), 30);
        x.days(1);
        DUE.is("10: of DAY 999", x.look(3), 20);
        x.set(0, 0, 5);
        x.days(60);
        DUE.is("10: none beyond", x.look(3), 5);
        // A week that has gone by does not come again.
        Due.text(x, 2, "on 0 crowd 77;on 60 crowd 78;");
        x.days(60);
        DUE.is("10: none of DAY 0 again", x.look(3), 5);
    }

    /** Lines of one DAY in their order, sixteen of them. */
    private static void lineByLine() {
        MockParcels x = quay(0, 0, "");
        StringBuilder week = new StringBuilder();
        for (int i = 0; i < 16; i++) {
            week.append("on 0 crowd ").append(i + 1).append(";");
        }
        DUE.is("10: sixteen lines", Due.text(x, 2, week.toString()), 16);
        x.days(1);
        DUE.is("10: the last one", x.look(3), 16);
        MockParcels y = quay(0, 0, "");
        Due.text(y, 2, "on 0 crowd 5;on 0 wet 9;on 0 crowd 50;on 0 wet 1;");
        y.days(1);
        DUE.is("10: CROWD, less the last WET", y.look(3), 49);
        DUE.is("10: WET", y.look(4), 1);
    }

    /** "sell (if it can be)"; how many PARCELS were sold. */
    private static void sellIfItCanBe() {
        MockParcels x = quay(1, 3, "bids 1000 when weight<2;bids 0;full 0;");
        Due.text(x, 2, "on 0 sell 0;on 0 sell 0;on 0 sell 2;on 0 sell 1;on 1 sell 1;on 1 sell 2;");
        x.set(0, 0, 50);
        DUE.is("10: two, for one is SOLD and nobody bids for another", x.days(1), 2);
        // 47, then a tenth less: 43, then 40.
        DUE.is("10: CROWD", x.look(3), 40);
        // Two DRAWS for each of two, one for whom nobody bids.
        DUE.is("10: no DRAW for one SOLD", x.look(9), Draws.after(0, 5));
        DUE.is("10: none", x.days(1), 0);
        DUE.is("10: CROWD", x.look(3), 36);
        DUE.is("10: none is left to be", x.days(60), 0);
        DUE.is("10: six lines", x.look(8), 6);
        MockParcels y = quay(1, 3, "bids 1000;full 0;");
        Due.text(y, 2, "on 0 sell 0;on 1 sell 1;on 2 sell 2;");
        DUE.is("10: of all days together", y.days(3), 3);
    }

    /** "wet, crowd: so much then": 0 and the most. */
    private static void wetAndCrowd() {
        MockParcels x = quay(0, 0, "");
        Due.text(x, 2, "on 0 wet 9;on 0 crowd 99;on 1 wet 0;on 1 crowd 0;");
        x.days(1);
        DUE.is("10: WET", x.look(4), 9);
        DUE.is("10: CROWD", x.look(3), 90);
        x.days(1);
        DUE.is("10: WET", x.look(4), 0);
        DUE.is("10: CROWD", x.look(3), 0);
    }

    /** "Then CROWD is WET less (0 at least), DAY one more". */
    private static void wetTakes() {
        for (int crowd = 0; crowd <= 12; crowd++) {
            for (int wet = 0; wet <= 9; wet++) {
                MockParcels x = quay(0, 0, "");
                x.set(0, 0, crowd);
                x.set(1, 0, wet);
                x.days(1);
                DUE.is("10: CROWD " + crowd + ", WET " + wet, x.look(3), Math.max(0, crowd - wet));
                DUE.is("10: WET stays", x.look(4), wet);
                DUE.is("10: DAY", x.look(5), 1);
            }
        }
    }

    /** Sells PARCEL p to the BIDDER of that CARE with a thing of that KIND in it. */
    private static void hand(MockParcels x, int p, int care, int kind) {
        Due.text(x, 0, "bids 1000 when care=" + care + ";bids 0;full 1000;");
        for (int s = 0; s < 1 << 20; s++) {
            x.state(s);
            x.sell(p);
            if (x.of(p, 4) == kind) {
                return;
            }
            x.undo();
        }
    }

    /** "one of his least KIND is taken: BOX one more"; "none has any: nothing". */
    private static void policeTakeOne() {
        MockParcels x = quay(2, 2, "");
        Due.text(x, 2, "on 0 police;on 1 police;on 2 police;on 2 police;on 2 police;");
        x.days(1);
        DUE.is("10: none has any", x.look(6) + x.look(8), 0);
        hand(x, 0, 1, 7);
        hand(x, 1, 1, 7);
        int lines = x.look(8);
        x.days(1);
        DUE.is("10: one is taken", x.look(6), 1);
        DUE.is("10: one is left", x.who(1, 17), 1);
        line("10: taken", x, lines, 1, 3, 1, 7);
        x.days(1);
        DUE.is("10: another one, then nothing", x.look(6), 2);
        DUE.is("10: none is left", x.who(1, 17), 0);
        line("10: taken", x, lines + 1, 2, 3, 1, 7);
        DUE.is("10: two lines", x.look(8), lines + 2);
    }

    /** "of the BIDDER not SHILL who has most things (of several the least ..)". */
    private static void policeMost() {
        MockParcels x = new MockParcels();
        x.bidder(100, 0, true);
        x.bidder(100, 1, false);
        x.bidder(100, 2, false);
        for (int p = 0; p < 6; p++) {
            x.parcel(p, 0, 0);
        }
        int[] cares = {0, 0, 0, 1, 2, 2};
        for (int p = 0; p < 6; p++) {
            hand(x, p, cares[p], p % 3 + 1);
        }
        Due.text(x, 2, "on 0 police;on 1 police;on 2 police;on 3 police;");
        int lines = x.look(8);
        x.days(4);
        // 2 has two things, then both have one: the lesser number; then 2; the SHILL is passed by.
        line("10: who has most", x, lines, 0, 3, 2, 2);
        line("10: of several the least", x, lines + 1, 1, 3, 1, 1);
        line("10: who still has one", x, lines + 2, 2, 3, 2, 3);
        DUE.is("10: BOX", x.look(6), 3);
        DUE.is("10: the SHILL has all", x.who(0, 11) + x.who(0, 12) + x.who(0, 13), 3);
        DUE.is("10: no more lines", x.look(8), lines + 3);
    }

    /** Most things count by how many, not by their KINDS; the least KIND goes first. */
    private static void policeLeastKind() {
        MockParcels x = quay(2, 5, "");
        int[] kinds = {7, 6, 1, 2, 2};
        for (int p = 0; p < 5; p++) {
            hand(x, p, p < 2 ? 0 : 1, kinds[p]);
        }
        Due.text(x, 2, "on 0 police;on 0 police;on 0 police;on 0 police;on 0 police;on 0 police;");
        int lines = x.look(8);
        x.days(1);
        int[][] due = {{1, 1}, {0, 6}, {1, 2}, {0, 7}, {1, 2}};
        for (int i = 0; i < 5; i++) {
            line("10: the least KIND", x, lines + i, 0, 3, due[i][0], due[i][1]);
        }
        DUE.is("10: BOX", x.look(6), 5);
        DUE.is("10: nothing is left", x.look(8), lines + 5);
    }

    /** "bill: BILL of one not SOLD": 0 .. 99. */
    private static void billOfOneNotSold() {
        MockParcels x = quay(1, 2, "bids 1000 when weight=0;bids 0;full 0;");
        Due.text(x, 2, "on 0 bill 0 99;on 0 bill 1 99;on 0 sell 0;on 1 bill 0 5;on 1 bill 1 0;");
        x.days(1);
        DUE.is("10: BILL", x.of(0, 5), 99);
        DUE.is("10: BILL", x.of(1, 5), 99);
        DUE.is("10: OWES", x.who(0, 3), 99);
        x.days(1);
        DUE.is("10: BILL of one SOLD stays", x.of(0, 5), 99);
        DUE.is("10: BILL of one not SOLD", x.of(1, 5), 0);
    }

    /** "pay: to PURSE of a BIDDER so many more (9999 at most)". */
    private static void weekPays() {
        int[][] rows = {{0, 1, 1}, {9000, 999, 9999}, {9001, 999, 9999}, {9999, 1, 9999}, {8999, 999, 9998}};
        for (int[] row : rows) {
            MockParcels x = quay(8, 0, "");
            x.set(2, 7, row[0]);
            Due.text(x, 2, "on 0 pay 7 " + row[1] + ";");
            DUE.is("10: none sold", x.days(1), 0);
            DUE.is("10: " + row[0] + " and " + row[1], x.who(7, 0), row[2]);
            DUE.is("10: not from the TILL", x.look(2), 0);
            DUE.is("10: no line", x.look(8), 0);
        }
    }

    /** "Of line i of THE BOOK what 0 DAY, 1 what, 2 who, 3 how much. NONE if there is none such, or another what". */
    private static void bookColumns() {
        MockParcels x = quay(8, 1, "bids 1000 when care=7;bids 0;step 9;full 1000;");
        x.days(60);
        x.state(Draws.with(0, 0, -1));
        x.sell(0);
        line("17: bid", x, 0, 60, 0, 7, 9);
        line("17: sold", x, 1, 60, 1, 7, 9);
        line("17: opened", x, 2, 60, 2, 7, x.of(0, 4));
        int[] none = {Integer.MIN_VALUE, -1, 3, 149, 150, Integer.MAX_VALUE};
        for (int i : none) {
            for (int what = 0; what <= 3; what++) {
                DUE.is("17: book(" + i + ", " + what + ")", x.book(i, what), -1);
            }
        }
        int[] others = {Integer.MIN_VALUE, -1, 4, Integer.MAX_VALUE};
        for (int what : others) {
            DUE.is("17: book(0, " + what + ")", x.book(0, what), -1);
            DUE.is("17: book(2, " + what + ")", x.book(2, what), -1);
        }
    }

    /** THE BOOK with 144 lines, then with as many more as are asked for. */
    private static MockParcels nearlyFull(int more) {
        MockParcels x = quay(2, 6, "bids 1000 when round<30 and weight<2;bids 1000 when weight<5 and round<9;"
            + "bids 0;full 1000;");
        x.set(2, 0, 9999);
        x.set(2, 1, 9999);
        x.set(5, 0, 50);
        x.sell(0);
        x.sell(1);
        x.sell(2);
        DUE.is("17: twice 62 and 20 lines", x.look(8), 144);
        int kind = x.of(0, 4);
        for (int i = 0; i < more; i++) {
            DUE.is("17: given", x.give(i % 2 == 0 ? 1 : 0, i % 2 == 0 ? 0 : 1, kind), true);
        }
        return x;
    }

    /** "THE BOOK (150 lines; no more then)". */
    private static void bookIsFull() {
        for (int more = 4; more <= 8; more++) {
            MockParcels x = nearlyFull(more);
            int lines = Math.min(150, 144 + more);
            DUE.is("17: lines", x.look(8), lines);
            line("17: the last line", x, lines - 1, 0, 4, lines % 2 == 0 ? 0 : 1, x.of(0, 4));
            DUE.is("17: none behind", x.book(lines, 0), -1);
            DUE.is("17: as far as it goes", x.book(150, 0), -1);
            x.undo();
            DUE.is("17: back", x.look(8), Math.min(150, 144 + more - 1));
        }
        MockParcels y = nearlyFull(5);
        y.sell(3);
        DUE.is("17: one line of a selling", y.look(8), 150);
        line("17: its first bid", y, 149, 0, 0, 0, 1);
        y.undo();
        DUE.is("17: back", y.look(8), 149);
        y.sell(5);
        DUE.is("17: nobody bids", y.look(8), 149);
    }

    /** What is done is done, though no line tells of it. */
    private static void fullBookStopsNothing() {
        MockParcels x = nearlyFull(6);
        int kind = x.of(0, 4);
        int has = x.who(0, 10 + kind);
        DUE.is("17: full", x.look(8), 150);
        int gives = has > 0 ? 0 : 1;
        DUE.is("17: given", x.give(gives, 1 - gives, kind), true);
        int owes = x.who(1, 3);
        DUE.is("17: he owes", owes, 50);
        DUE.is("17: settled", x.settle(1), 50);
        DUE.is("17: sold", x.sell(4) > 0, true);
        DUE.is("17: SOLD", x.of(4, 3) >= 0, true);
        Due.text(x, 2, "on 0 police;");
        x.days(1);
        DUE.is("17: taken", x.look(6), 1);
        DUE.is("17: no more lines", x.look(8), 150);
        line("17: the last line as it was", x, 149, 0, 4, 0, kind);
        x.undo();
        DUE.is("17: still full", x.look(8), 150);
        DUE.is("17: BOX", x.look(6), 0);
    }
}
