import java.util.function.Consumer;

/** Promises 38 and 39: what is undone, what forgets it, and the image. */
public final class GoingBackTest {
    private static final Due DUE = new Due("GoingBackTest");

    private GoingBackTest() {
    }

    public static void main(String[] args) {
        promise38();
        promise38Six();
        promise38Forgets();
        promise38Later();
        promise39();
        promise39All();
        promise39Rows();
        promise39Cast();
        promise39Book();
        promise39Tape();
        DUE.end();
    }

    /** Two BIDDERS, the first of whom buys all with something in it; four PARCELS with bills. */
    private static MockParcels quay() {
        MockParcels x = new MockParcels();
        x.bidder(500, 0, false);
        x.bidder(50, 9, false);
        for (int i = 0; i < 4; i++) {
            x.parcel(10 + i, 6, i);
            x.set(5, i, 9);
        }
        x.set(0, 0, 50);
        x.set(1, 0, 2);
        Due.text(x, 0, "bids 1000 when care=0;bids 0;step 3;full 1000;");
        Due.text(x, 2, "on 0 sell 1;on 0 bill 2 55;on 0 pay 1 7;on 0 wet 4;on 0 police;on 1 sell 2;");
        x.state(0);
        return x;
    }

    /** All that can be seen of a quay, as one number; what can be undone is not in it. */
    private static long seen(MockParcels x) {
        long h = 7;
        for (int what = 0; what <= 13; what++) {
            h = 31 * h + x.look(what);
        }
        for (int p = 0; p < x.look(0); p++) {
            for (int what = 0; what <= 5; what++) {
                h = 31 * h + x.of(p, what);
            }
            for (int b = 0; b < x.look(1); b++) {
                h = 31 * (31 * (31 * h + x.of(p, 10 + b)) + x.of(p, 20 + b)) + x.of(p, 30 + b);
            }
        }
        for (int b = 0; b < x.look(1); b++) {
            for (int what = 0; what <= 27; what++) {
                h = 31 * h + x.who(b, what);
            }
        }
        for (int i = 0; i < x.look(8); i++) {
            for (int what = 0; what <= 3; what++) {
                h = 31 * h + x.book(i, what);
            }
        }
        return h;
    }

    private static void promise38() {
        MockParcels x = quay();
        DUE.is("38: nothing", x.undo(), false);
        long[] before = new long[6];
        before[0] = seen(x);
        DUE.is("38: sell", x.sell(0), 3);
        before[1] = seen(x);
        DUE.is("38: pay", x.pay(1, 5), true);
        before[2] = seen(x);
        DUE.is("38: give", x.give(0, 1, x.of(0, 4)), true);
        before[3] = seen(x);
        DUE.is("38: settle", x.settle(0), 9);
        before[4] = seen(x);
        DUE.is("38: a day", x.days(1), 1);
        before[5] = seen(x);
        DUE.is("38: another one", x.days(1), 1);
        for (int i = 5; i >= 0; i--) {
            DUE.is("38: so many", x.look(14), i + 1);
            DUE.is("38: back", x.undo(), true);
            DUE.is("38: as it was before act " + i, seen(x), before[i]);
        }
        DUE.is("38: nothing more", x.undo(), false);
        DUE.is("38: the same again", x.sell(0), 3);
        DUE.is("38: the same again", seen(x), before[1]);
    }

    private static void promise38Six() {
        MockParcels x = quay();
        x.days(4);
        long fourth = seen(x);
        x.days(3);
        long seventh = seen(x);
        x.days(3);
        DUE.is("38: six are kept", x.look(14), 6);
        for (int i = 0; i < 3; i++) {
            x.undo();
        }
        DUE.is("38: three days back", seen(x), seventh);
        x.pay(0, 1);
        x.pay(0, 1);
        DUE.is("38: those before them are kept", x.look(14), 5);
        for (int i = 0; i < 5; i++) {
            DUE.is("38: back", x.undo(), true);
        }
        DUE.is("38: as far as they go", seen(x), fourth);
        DUE.is("38: no farther", x.undo(), false);
    }

    private static void forgets(String what, boolean due, Consumer<MockParcels> act) {
        MockParcels x = quay();
        x.police(5);
        x.pay(0, 1);
        x.pay(0, 1);
        act.accept(x);
        DUE.is("38: " + what, x.look(14), due ? 0 : 2);
        DUE.is("38: " + what, x.undo(), !due);
    }

    private static void promise38Forgets() {
        forgets("state", true, x -> x.state(0));
        forgets("parcel", true, x -> x.parcel(0, 0, 0));
        forgets("bidder", true, x -> x.bidder(0, 0, false));
        for (int what = 0; what <= 5; what++) {
            int w = what;
            forgets("set " + what, true, x -> x.set(w, 0, 1));
        }
        forgets("FOLLOWS", true, x -> Due.text(x, 1, "bidder 0 follows 1;"));
        forgets("A WEEK", true, x -> Due.text(x, 2, "on 5 police;"));
        forgets("no FOLLOWS", true, x -> x.text(1));
        forgets("no WEEK", true, x -> x.text(2));
        forgets("the image gone back to", true, x -> {
            x.image(true);
            x.image(false);
        });
        forgets("the image taken", false, x -> x.image(true));
        forgets("no image to go back to", false, x -> x.image(false));
        forgets("THE LAW", false, x -> Due.text(x, 0, "bids 1;"));
        forgets("WANTS", false, x -> Due.text(x, 3, "bidder 0 wants 1 for 1;"));
        forgets("FOLLOWS with a fault", false, x -> Due.text(x, 1, "bidder 0 follows 0;"));
        forgets("A WEEK with a fault", false, x -> Due.text(x, 2, "on 5;"));
        forgets("no such text", false, x -> x.text(4));
        forgets("the TAPE", false, x -> Due.feed(x, "on 5"));
        forgets("weighs", false, x -> x.weighs(1, 1));
        forgets("length", false, x -> x.length(1));
        forgets("coin", false, x -> x.coin(1));
        forgets("rank", false, x -> x.rank(0, 76543210));
        forgets("put", false, x -> x.put(1, 1));
        forgets("clue", false, x -> x.clue(1, true));
        forgets("police", false, x -> x.police(1));
        forgets("no police", false, x -> x.police(-1));
        forgets("a parcel that can't be", false, x -> x.parcel(100, 0, 0));
        forgets("a bidder that can't be", false, x -> x.bidder(-1, 0, false));
        forgets("a set that can't be", false, x -> x.set(0, 0, 100));
        forgets("acts that can't be", false, x -> {
            x.sell(9);
            x.pay(0, 0);
            x.give(0, 1, 1);
            x.settle(0);
            x.days(0);
        });
        forgets("thought", false, x -> {
            x.would(0, 0);
            x.goes(60, 0);
            x.wishes(0);
            x.halves(0);
            x.game(0);
        });
    }

    /** What may be told without forgetting is not undone either. */
    private static void promise38Later() {
        MockParcels x = quay();
        x.sell(0);
        Due.text(x, 0, "bids 1;");
        Due.text(x, 3, "bidder 0 wants 1 for 44;");
        x.weighs(1, 5);
        x.coin(5);
        x.undo();
        DUE.is("38: THE LAW stays", x.of(0, 10), 1);
        DUE.is("38: WANTS stay", x.who(0, 21), 44);
        DUE.is("38: weights stay", x.inside(0, 1), 2);
        DUE.is("38: COINS stay", x.pays(5, 0), 1);
        DUE.is("38: not SOLD", x.of(0, 3), -1);
    }

    private static void promise39() {
        MockParcels x = quay();
        DUE.is("39: there is none", x.image(false), false);
        x.sell(0);
        DUE.is("39: taken", x.image(true), true);
        DUE.is("39: the taking forgets nothing", x.look(14), 1);
        long then = seen(x);
        x.days(2);
        x.give(0, 1, x.of(0, 4));
        DUE.is("39: gone back to", x.image(false), true);
        DUE.is("39: as it was", seen(x), then);
        DUE.is("39: nothing can be undone", x.look(14), 0);
        DUE.is("39: nothing can be undone", x.undo(), false);
        x.days(5);
        DUE.is("39: more than once", x.image(false), true);
        DUE.is("39: as it was", seen(x), then);
        x.days(1);
        long later = seen(x);
        x.image(true);
        x.days(1);
        x.image(false);
        DUE.is("39: the latest one", seen(x), later);
    }

    private static void promise39All() {
        MockParcels x = quay();
        Due.text(x, 1, "bidder 1 follows 0;");
        Due.text(x, 3, "bidder 1 wants 2 for 3;");
        x.weighs(1, 5);
        x.length(7);
        x.coin(5);
        x.rank(0, 10234567);
        x.put(8, 1);
        x.clue(1, true);
        x.police(3);
        x.police(5);
        x.image(true);
        long then = seen(x);
        x.parcel(0, 0, 0);
        x.bidder(0, 0, true);
        x.set(2, 0, 1);
        x.set(3, 0, 1);
        x.set(4, 0, 9);
        for (int k = 0; k < 4; k++) {
            x.text(k);
        }
        x.weighs(1, 7);
        x.length(8);
        x.coin(10);
        x.rank(0, 1234567);
        x.put(9, 2);
        x.clue(-1, true);
        x.police(6);
        x.state(99);
        x.image(false);
        DUE.is("39: as it was", seen(x), then);
        DUE.is("39: weights", x.inside(0, 1), 2);
        DUE.is("39: STRINGS", x.length(7), 2);
        DUE.is("39: COINS", x.coin(10), 2);
        DUE.is("39: SWAPS", x.swaps(0), 1);
        DUE.is("39: PUT", x.puts(0), 8);
        DUE.is("39: CLUES", x.which(0), 1);
        DUE.is("39: POLICE", x.every(-1), 2);
        DUE.is("39: a parcel comes as new", x.parcel(1, 2, 3), 4);
        DUE.is("39: its bill", x.of(4, 5), 0);
        DUE.is("39: a bidder comes as new", x.bidder(9, 0, false), 2);
        DUE.is("39: his debts", x.who(2, 3), 0);
        DUE.is("39: his things", x.who(2, 11), 0);
        DUE.is("39: the same days again", x.days(2), 2);
    }

    /** Rows that were told anew where others stood before, and those of parcels and bidders that were not yet. */
    private static void promise39Rows() {
        MockParcels x = new MockParcels();
        x.image(true);
        x.parcel(11, 3, 4);
        x.bidder(70, 2, true);
        x.length(10);
        x.length(20);
        x.coin(7);
        x.put(30, 0);
        x.put(20, 0);
        x.clue(1, true);
        x.police(10);
        x.police(14);
        x.image(false);
        DUE.is("39: none", x.look(0) + x.look(1), 0);
        x.parcel(55, 8, 9);
        x.bidder(80, 5, false);
        x.length(40);
        x.length(50);
        x.coin(9);
        x.put(6, 1);
        x.put(5, 1);
        x.clue(1, false);
        x.police(20);
        x.police(25);
        x.image(true);
        x.length(-1);
        x.length(1);
        x.length(2);
        x.coin(-1);
        x.coin(1);
        x.put(-1, 0);
        x.put(1, 0);
        x.put(1, 0);
        x.clue(-1, true);
        x.clue(1, true);
        x.police(-1);
        x.police(1);
        x.police(2);
        x.image(false);
        int[] due = {55, 8, 9};
        for (int what = 0; what < 3; what++) {
            DUE.is("39: of a PARCEL", x.of(0, what), due[what]);
        }
        DUE.is("39: purse", x.who(0, 0), 80);
        DUE.is("39: care", x.who(0, 1), 5);
        DUE.is("39: no shill", x.who(0, 2), 0);
        DUE.is("39: lengths", x.strings(90, 0), 1);
        DUE.is("39: lengths", x.strings(90, 1), 0);
        DUE.is("39: coins", x.pays(9, 0), 1);
        DUE.is("39: puts", x.puts(0), 11);
        DUE.is("39: puts", x.puts(1), 2);
        DUE.is("39: clues", x.which(0), 0);
        DUE.is("39: days", x.every(-1), 5);
        DUE.is("39: days", x.every(0), 5);
    }

    /** Lines that were written over those of the image come back as they were. */
    private static void promise39Book() {
        MockParcels x = quay();
        x.sell(0);
        x.sell(1);
        x.image(true);
        long then = seen(x);
        x.undo();
        x.undo();
        x.days(1);
        x.sell(3);
        x.sell(2);
        DUE.is("39: other lines", x.book(1, 3) == 3 && x.book(3, 0) == 0 && x.look(8) > 6, true);
        x.image(false);
        DUE.is("39: the lines as they were", seen(x), then);
        MockParcels y = quay();
        y.sell(0);
        y.sell(1);
        DUE.is("39: the lines as they were", seen(y), then);
    }

    /** What is told behind the image does not reach into it. */
    private static void promise39Cast() {
        MockParcels x = new MockParcels();
        x.parcel(11, 3, 4);
        x.bidder(70, 2, true);
        x.image(true);
        MockParcels y = new MockParcels();
        y.image(true);
        y.parcel(22, 5, 6);
        y.bidder(90, 4, false);
        y.image(false);
        y.parcel(11, 3, 4);
        y.bidder(70, 2, true);
        x.parcel(22, 5, 6);
        x.bidder(90, 4, false);
        x.image(false);
        DUE.is("39: as if it had not been", seen(x), seen(y));
        y.image(true);
        y.parcel(22, 5, 6);
        y.image(true);
        y.image(false);
        DUE.is("39: weight", y.of(1, 0), 22);
        DUE.is("39: rattle", y.of(1, 1), 5);
    }

    private static void promise39Tape() {
        MockParcels x = quay();
        Due.text(x, 0, "bids");
        Due.feed(x, "bids 5;");
        x.image(true);
        DUE.is("39: the TAPE is no part of it", x.text(0), 1);
        Due.text(x, 0, "bids 5 #");
        DUE.is("39: a fault", x.fault(1), 7);
        Due.feed(x, "full");
        x.image(false);
        DUE.is("39: fault() as it is", x.fault(1), 7);
        DUE.is("39: the TAPE as it is", x.end(4), true);
        DUE.is("39: the TAPE as it is", x.end(5), false);
        DUE.is("39: the TAPE as it is", x.text(0), -1);
        DUE.is("39: place", x.fault(1), 4);
    }
}
