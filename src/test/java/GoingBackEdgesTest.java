import java.util.ArrayList;
import java.util.List;
import java.util.function.Consumer;
import java.util.function.ToLongFunction;

/** The edges of promises 38 and 39: each sentence of the document that names one has its own method. */
public final class GoingBackEdgesTest {
    private static final Due DUE = new Due("GoingBackEdgesTest");

    private GoingBackEdgesTest() {
    }

    public static void main(String[] args) {
        nothingToUndo();
        eachActGoesBack();
        actsThatChangeNothing();
        sixAreKept();
        eachDayIsOne();
        aRingOfSix();
        stateAndBook();
        bookWrittenOver();
        refusedActsAreNone();
        whatForgets();
        refusedForgetsNothing();
        whatDoesNotForget();
        toldMeanwhileStays();
        noImage();
        imageOfANewObject();
        moreThanOnce();
        latestImage();
        nothingUndoneThen();
        allThatWasTold();
        notTheTape();
        fullObjects();
        imageIsNotUndone();
        DUE.end();
    }

    /** BIDDER 0 buys all there is for 3, with something in it; four PARCELS with a BILL of 9. */
    private static MockParcels quay() {
        MockParcels x = new MockParcels();
        x.bidder(500, 0, false);
        x.bidder(50, 9, false);
        for (int i = 0; i < 4; i++) {
            x.parcel(10 + i, 6, i);
            x.set(5, i, 9);
        }
        x.set(0, 0, 50);
        x.set(1, 0, 2);
        Due.text(x, 0, "bids 1000 when care=0;bids 0;step 3;full 1000;");
        Due.text(x, 2, "on 0 sell 1;on 0 bill 2 55;on 0 pay 1 7;on 0 wet 4;on 0 police;on 1 sell 2;");
        x.state(0);
        return x;
    }

    /** "UNDO: true; false if there is nothing". */
    private static void nothingToUndo() {
        MockParcels x = new MockParcels();
        DUE.is("38: a new object", x.undo(), false);
        x.days(1);
        DUE.is("38: one", x.undo(), true);
        DUE.is("38: no more", x.undo(), false);
        DUE.is("38: still no more", x.undo(), false);
        DUE.is("38: DAY", x.look(5), 0);
        x.days(1);
        DUE.is("38: another one", x.undo(), true);
        DUE.is("38: no more", x.undo(), false);
    }

    /** "the latest DAY, SELLING, PAYING, GIVING, SETTLING not undone yet goes back". */
    private static void eachActGoesBack() {
        List<ToLongFunction<MockParcels>> acts = new ArrayList<>();
        acts.add(x -> x.sell(0));
        acts.add(x -> x.pay(1, 999) ? 1 : 0);
        acts.add(x -> x.give(0, 1, x.of(0, 4)) ? 1 : 0);
        acts.add(x -> x.settle(0));
        acts.add(x -> x.days(1));
        acts.add(x -> x.sell(3));
        MockParcels x = quay();
        List<List<String>> before = new ArrayList<>();
        for (int i = 0; i < acts.size(); i++) {
            before.add(Seen.now(x));
            DUE.is("38: act " + i + " is done", acts.get(i).applyAsLong(x) > 0, true);
            DUE.is("38: it can be undone", x.look(14), i + 1);
        }
        for (int i = acts.size() - 1; i >= 0; i--) {
            DUE.is("38: act " + i + " goes back", x.undo(), true);
            DUE.same("38: as before act " + i, Seen.now(x), before.get(i));
            DUE.is("38: fewer can be undone", x.look(14), i);
        }
        DUE.is("38: nothing more", x.undo(), false);
    }

    /** A SELLING without bids, a SETTLING of nothing, a PAYING to a full PURSE, a DAY without lines are acts too. */
    private static void actsThatChangeNothing() {
        MockParcels x = quay();
        x.sell(0);
        x.set(2, 0, 0);
        x.set(2, 1, 9999);
        DUE.is("38: nobody bids", x.sell(1), 0);
        DUE.is("38: an act", x.look(14), 1);
        DUE.is("38: an empty purse", x.settle(0), 0);
        DUE.is("38: an act", x.look(14), 2);
        DUE.is("38: its line", x.book(x.look(8) - 1, 1), 5);
        DUE.is("38: a full purse", x.pay(1, 1), true);
        DUE.is("38: an act", x.look(14), 3);
        x.undo();
        x.undo();
        DUE.is("38: no line", x.book(x.look(8) - 1, 1), 2);
        x.undo();
        DUE.is("38: all of them", x.undo(), false);
        DUE.is("38: CROWD as before", x.look(3), 54);
    }

    /** "6 are kept". */
    private static void sixAreKept() {
        for (int acts = 1; acts <= 13; acts++) {
            MockParcels x = quay();
            for (int i = 0; i < acts; i++) {
                x.pay(1, 1 + i);
            }
            int kept = Math.min(6, acts);
            DUE.is("38: kept of " + acts, x.look(14), kept);
            int purse = x.who(1, 0);
            for (int i = 0; i < kept; i++) {
                DUE.is("38: undone", x.undo(), true);
                purse -= acts - i;
                DUE.is("38: PURSE", x.who(1, 0), purse);
            }
            DUE.is("38: no more than six", x.undo(), false);
            DUE.is("38: PURSE stays", x.who(1, 0), purse);
        }
    }

    /** "the latest DAY": of days(n) each one. */
    private static void eachDayIsOne() {
        int[] rows = {1, 2, 5, 6, 7, 60};
        for (int n : rows) {
            MockParcels x = quay();
            x.days(n);
            DUE.is("38: of " + n + " days", x.look(14), Math.min(6, n));
            for (int i = 1; i <= Math.min(6, n); i++) {
                DUE.is("38: a day back", x.undo(), true);
                DUE.is("38: DAY", x.look(5), n - i);
            }
            DUE.is("38: no more", x.undo(), false);
        }
    }

    /** Done and undone by turns, so that the oldest of six gives way again and again. */
    private static void aRingOfSix() {
        MockParcels x = new MockParcels();
        x.bidder(0, 0, false);
        List<Integer> purses = new ArrayList<>();
        int purse = 0;
        for (int i = 0; i < 100; i++) {
            if (i % 7 == 3 || i % 5 == 4) {
                DUE.is("38: undone", x.undo(), !purses.isEmpty());
                purse = purses.isEmpty() ? purse : purses.remove(purses.size() - 1);
            } else {
                purses.add(purse);
                if (purses.size() > 6) {
                    purses.remove(0);
                }
                purse += i + 1;
                x.pay(0, i + 1);
            }
            DUE.is("38: PURSE", x.who(0, 0), Math.min(9999, purse));
            DUE.is("38: kept", x.look(14), purses.size());
        }
    }

    /** "goes back (STATE, THE BOOK, too)". */
    private static void stateAndBook() {
        MockParcels x = quay();
        x.state(-5);
        x.sell(0);
        int state = x.look(9);
        DUE.is("38: lines", x.look(8), 3);
        x.days(2);
        DUE.is("38: more lines", x.look(8) > 3, true);
        DUE.is("38: more DRAWS", x.look(9) != state, true);
        x.undo();
        x.undo();
        DUE.is("38: STATE", x.look(9), state);
        DUE.is("38: lines", x.look(8), 3);
        DUE.is("38: none behind", x.book(3, 0), -1);
        x.undo();
        DUE.is("38: STATE that was told", x.look(9), -5);
        DUE.is("38: no lines", x.look(8), 0);
        DUE.is("38: none", x.book(0, 0), -1);
        x.sell(0);
        DUE.is("38: the same again", x.look(9), state);
    }

    /** Lines written where others were undone are the new ones; a full BOOK is full no more. */
    private static void bookWrittenOver() {
        MockParcels x = quay();
        x.sell(0);
        int kind = x.of(0, 4);
        x.give(0, 1, kind);
        DUE.is("38: given", x.book(3, 1), 4);
        x.undo();
        x.settle(0);
        DUE.is("38: settled", x.book(3, 1), 5);
        DUE.is("38: how much", x.book(3, 3), 9);
        x.undo();
        DUE.is("38: none", x.book(3, 1), -1);
        MockParcels y = quay();
        y.sell(0);
        kind = y.of(0, 4);
        for (int i = 0; i < 150; i++) {
            y.give(i % 2, 1 - i % 2, kind);
        }
        DUE.is("38: full", y.look(8), 150);
        for (int i = 0; i < 6; i++) {
            y.undo();
        }
        // 153 acts wrote 150 lines; three of the six undone had written one.
        DUE.is("38: full no more", y.look(8), 147);
        DUE.is("38: settled", y.settle(0), 9);
        DUE.is("38: its line", y.book(147, 1), 5);
        DUE.is("38: lines", y.look(8), 148);
    }

    /** A call that is refused is no act. */
    private static void refusedActsAreNone() {
        MockParcels x = quay();
        x.pay(0, 1);
        x.sell(-1);
        x.sell(4);
        x.pay(0, 0);
        x.pay(0, 1000);
        x.pay(2, 5);
        x.give(0, 1, 1);
        x.give(0, 0, 1);
        x.settle(0);
        x.settle(2);
        x.days(0);
        x.days(61);
        DUE.is("38: one act", x.look(14), 1);
        DUE.is("38: it goes back", x.undo(), true);
        DUE.is("38: PURSE", x.who(0, 0), 500);
        DUE.is("38: no more", x.undo(), false);
    }

    private static void after(String what, boolean forgets, Consumer<MockParcels> act) {
        for (int acts : new int[] {1, 6}) {
            MockParcels x = quay();
            x.coin(7);
            for (int i = 0; i < acts; i++) {
                x.pay(1, 1);
            }
            act.accept(x);
            DUE.is("38: " + what + ", of " + acts, x.look(14), forgets ? 0 : acts);
            DUE.is("38: " + what + ", of " + acts, x.undo(), !forgets);
        }
    }

    /** "whatever else is told .. forgets them", though it tells what is so already. */
    private static void whatForgets() {
        after("state", true, x -> x.state(x.look(9)));
        after("parcel", true, x -> x.parcel(0, 0, 0));
        after("bidder", true, x -> x.bidder(0, 0, true));
        after("CROWD", true, x -> x.set(0, 0, x.look(3)));
        after("WET", true, x -> x.set(1, 0, x.look(4)));
        after("PURSE", true, x -> x.set(2, 0, x.who(0, 0)));
        after("CARE", true, x -> x.set(3, 0, x.who(0, 1)));
        after("KNOTS", true, x -> x.set(4, 0, x.of(0, 2)));
        after("BILL", true, x -> x.set(5, 0, x.of(0, 5)));
        after("FOLLOWS", true, x -> Due.text(x, 1, "bidder 1 follows 0;"));
        after("no FOLLOWS", true, x -> x.text(1));
        after("A WEEK", true, x -> Due.text(x, 2, "on 9 police;"));
        after("no WEEK", true, x -> x.text(2));
        after("THE IMAGE, gone back to", true, x -> {
            x.image(true);
            x.image(false);
        });
    }

    /** What is refused is not told. */
    private static void refusedForgetsNothing() {
        after("parcel", false, x -> x.parcel(100, 0, 0));
        after("bidder", false, x -> x.bidder(0, 10, true));
        for (int what = -1; what <= 6; what++) {
            int w = what;
            after("set " + what, false, x -> x.set(w, 0, -1));
        }
        after("set of nobody", false, x -> x.set(2, 2, 5));
        after("FOLLOWS with a FAULT", false, x -> Due.text(x, 1, "bidder 1 follows 1;"));
        after("A WEEK with a FAULT", false, x -> Due.text(x, 2, "on 9 police;on"));
        after("no such text", false, x -> x.text(4));
        after("no such text", false, x -> x.text(-1));
        after("THE IMAGE that is not", false, x -> x.image(false));
        after("feed", false, x -> {
            for (int i = 0; i < 21; i++) {
                x.feed(0, 0, 0, 0, 0);
            }
        });
        after("end", false, x -> x.end(1));
    }

    /** "but THE LAW, WANTS and what is told for thought (..) (the taking of THE IMAGE does not)". */
    private static void whatDoesNotForget() {
        after("THE LAW", false, x -> Due.text(x, 0, "bids 1;"));
        after("no LAW", false, x -> x.text(0));
        after("WANTS", false, x -> Due.text(x, 3, "bidder 0 wants 1 for 1;"));
        after("no WANTS", false, x -> x.text(3));
        after("weights", false, x -> x.weighs(7, 99));
        after("STRINGS", false, x -> x.length(60));
        after("no STRINGS", false, x -> x.length(-1));
        after("COINS", false, x -> x.coin(50));
        after("no COINS", false, x -> x.coin(-1));
        after("SWAPS", false, x -> x.rank(7, 76543210));
        after("PUT", false, x -> x.put(99, 9));
        after("no PUT", false, x -> x.put(-1, 0));
        after("CLUES", false, x -> x.clue(65535, false));
        after("no CLUES", false, x -> x.clue(-1, false));
        after("POLICE", false, x -> x.police(999));
        after("no POLICE", false, x -> x.police(-1));
        after("THE IMAGE is taken", false, x -> x.image(true));
        after("the TAPE", false, x -> Due.feed(x, "on 9"));
        after("asking", false, x -> {
            Seen.now(x);
            x.would(0, 1);
            x.goes(60, 1);
            x.wishes(0);
            x.halves(1);
            x.game(1);
        });
    }

    /** What does not forget is not undone either. */
    private static void toldMeanwhileStays() {
        MockParcels x = quay();
        x.days(1);
        Due.text(x, 0, "bids 77;");
        Due.text(x, 3, "bidder 1 wants 7 for 88;");
        x.weighs(1, 10);
        x.length(60);
        x.coin(50);
        x.rank(0, 70123456);
        x.put(99, 9);
        x.clue(2, true);
        x.police(1);
        x.police(8);
        x.feed(0x62696473, 0x20393b20, 0x20202020, 0x20202020, 0x20202020);
        DUE.is("38: a day back", x.undo(), true);
        DUE.is("38: DAY", x.look(5), 0);
        DUE.is("38: THE LAW", x.of(0, 10), 77);
        DUE.is("38: WANTS", x.who(1, 27), 88);
        DUE.is("38: weights", x.inside(0, 1), 1);
        DUE.is("38: STRINGS", x.strings(60, 0), 1);
        DUE.is("38: COINS", x.pays(50, 0), 1);
        DUE.is("38: SWAPS", x.swaps(0), 7);
        DUE.is("38: PUT", x.puts(0), 99);
        DUE.is("38: CLUES", x.which(0), 2);
        DUE.is("38: POLICE", x.every(-1), 7);
        DUE.is("38: the TAPE", x.text(0), 1);
        DUE.is("38: the TAPE", x.of(0, 10), 9);
    }

    /** "true; false if there is none". */
    private static void noImage() {
        MockParcels x = quay();
        x.pay(0, 1);
        List<String> before = Seen.now(x);
        DUE.is("39: there is none", x.image(false), false);
        DUE.same("39: nothing is changed", Seen.now(x), before);
        DUE.is("39: taken", x.image(true), true);
        DUE.is("39: there is one", x.image(false), true);
        DUE.is("39: taken again", x.image(true), true);
    }

    private static void imageOfANewObject() {
        MockParcels x = new MockParcels();
        x.image(true);
        x.bidder(5, 5, true);
        x.parcel(5, 5, 5);
        x.set(0, 0, 9);
        x.set(1, 0, 8);
        x.state(7);
        Due.text(x, 0, "bids 1000;full 1000;step 2;");
        Due.text(x, 2, "on 0 sell 0;on 1 crowd 5;");
        Due.text(x, 3, "bidder 0 wants 1 for 9;");
        x.days(3);
        x.weighs(1, 1);
        x.length(5);
        x.coin(5);
        x.rank(0, 76543210);
        x.put(5, 5);
        x.clue(5, false);
        x.police(5);
        DUE.is("39: gone back to", x.image(false), true);
        MockParcels y = new MockParcels();
        y.image(true);
        DUE.same("39: as new", Seen.butTape(x), Seen.butTape(y));
    }

    /** "gone back to it may be more than once". */
    private static void moreThanOnce() {
        MockParcels x = quay();
        x.sell(0);
        x.image(true);
        List<String> then = Seen.now(x);
        for (int i = 0; i < 5; i++) {
            x.days(1 + i);
            x.sell(3);
            x.set(0, 0, i);
            DUE.is("39: gone back to, " + i, x.image(false), true);
            DUE.same("39: as it was, " + i, Seen.now(x), then);
        }
        DUE.is("39: at once", x.image(false), true);
        DUE.same("39: as it was", Seen.now(x), then);
    }

    /** "as it was when it was taken": the latest one alone. */
    private static void latestImage() {
        MockParcels x = quay();
        x.image(true);
        x.sell(0);
        List<String> then = Seen.now(x);
        x.image(true);
        x.sell(1);
        x.image(false);
        DUE.same("39: the latest", Seen.now(x), then);
        x.image(false);
        DUE.same("39: the one before is no more", Seen.now(x), then);
        x.undo();
        DUE.same("39: nor by undo()", Seen.now(x), then);
    }

    /** "what can be undone (nothing then)". */
    private static void nothingUndoneThen() {
        MockParcels x = quay();
        x.pay(0, 1);
        x.image(true);
        DUE.is("39: the taking forgets nothing", x.look(14), 1);
        x.pay(0, 1);
        x.pay(0, 1);
        DUE.is("39: three", x.look(14), 3);
        x.image(false);
        DUE.is("39: nothing then", x.look(14), 0);
        DUE.is("39: nothing then", x.undo(), false);
        DUE.is("39: PURSE", x.who(0, 0), 501);
        x.pay(0, 1);
        DUE.is("39: what comes then", x.look(14), 1);
        DUE.is("39: what comes then", x.undo(), true);
        DUE.is("39: PURSE", x.who(0, 0), 501);
        DUE.is("39: no farther", x.undo(), false);
    }

    /** "all that is and was told": each of it alone is told anew and comes back. */
    private static void allThatWasTold() {
        List<Consumer<MockParcels>> tellings = new ArrayList<>();
        tellings.add(x -> x.state(99));
        tellings.add(x -> x.parcel(1, 2, 3));
        tellings.add(x -> x.bidder(1, 2, true));
        for (int what = 0; what <= 5; what++) {
            int w = what;
            tellings.add(x -> x.set(w, 1, 8));
        }
        tellings.add(x -> x.sell(0));
        tellings.add(x -> x.pay(1, 1));
        tellings.add(x -> x.give(0, 1, x.of(3, 4)));
        tellings.add(x -> x.settle(0));
        tellings.add(x -> x.days(1));
        tellings.add(x -> x.days(2));
        tellings.add(x -> Due.text(x, 0, "bids 3;step 4;full 5;"));
        tellings.add(x -> Due.text(x, 1, "bidder 0 follows 1;"));
        tellings.add(x -> Due.text(x, 2, "on 0 wet 9;"));
        tellings.add(x -> Due.text(x, 3, "bidder 0 wants 1 for 9;"));
        tellings.add(x -> x.weighs(1, 10));
        tellings.add(x -> x.length(7));
        tellings.add(x -> x.length(-1));
        tellings.add(x -> x.coin(7));
        tellings.add(x -> x.coin(-1));
        tellings.add(x -> x.rank(0, 76543210));
        tellings.add(x -> x.put(7, 7));
        tellings.add(x -> x.put(-1, 0));
        tellings.add(x -> x.clue(7, true));
        tellings.add(x -> x.clue(-1, true));
        tellings.add(x -> x.police(7));
        tellings.add(x -> x.police(-1));
        tellings.add(x -> {
            x.undo();
            x.undo();
        });
        tellings.add(x -> {
            x.length(-1);
            x.coin(-1);
            x.put(-1, 0);
            x.clue(-1, true);
            x.police(-1);
            for (int i = 1; i <= 3; i++) {
                x.length(11 * i);
                x.coin(11 * i);
                x.put(11 * i, 9);
                x.clue(9 + i, true);
                x.police(11 * i);
                x.weighs(i, 11 * i);
                x.rank(i, 70123456);
            }
        });
        MockParcels y = told();
        y.image(false);
        List<String> due = Seen.butTape(y);
        for (int i = 0; i < tellings.size(); i++) {
            MockParcels x = told();
            tellings.get(i).accept(x);
            DUE.is("39: back from telling " + i, x.image(false), true);
            DUE.same("39: as it was before telling " + i, Seen.butTape(x), due);
        }
    }

    private static MockParcels told() {
        MockParcels x = quay();
        Due.text(x, 1, "bidder 1 follows 0;");
        Due.text(x, 3, "bidder 1 wants 7 for 5;");
        x.weighs(2, 5);
        x.length(30);
        x.length(40);
        x.coin(3);
        x.coin(5);
        x.rank(1, 21034567);
        x.put(50, 0);
        x.put(60, 0);
        x.clue(6, true);
        x.clue(2, false);
        x.police(10);
        x.police(30);
        x.sell(3);
        x.image(true);
        return x;
    }

    /** "but the TAPE, fault()". */
    private static void notTheTape() {
        MockParcels x = quay();
        Due.text(x, 0, "bids 1/0;");
        Due.feed(x, "bids 5;step 6;");
        x.image(true);
        DUE.is("39: the TAPE stays at the taking", x.end(14), true);
        DUE.is("39: fault() stays at the taking", x.fault(0), 2);
        x.end(7);
        x.image(false);
        DUE.is("39: the TAPE as it is", x.end(8), false);
        DUE.is("39: the TAPE as it is", x.text(0), 1);
        x.image(false);
        DUE.is("39: fault() as it is", x.fault(0), 0);
        DUE.is("39: fault() as it is", x.fault(1), -1);
        DUE.is("39: the TAPE is empty still", x.end(1), false);
        DUE.is("39: THE LAW that was", x.of(0, 20), 3);
        Due.text(x, 2, "on 0 wet 10;");
        x.image(false);
        DUE.is("39: fault() as it is", x.fault(1), 9);
    }

    /** With all there can be: sixteen, eight, a full BOOK, sixteen lines. */
    private static void fullObjects() {
        MockParcels x = new MockParcels();
        for (int i = 0; i < 16; i++) {
            x.parcel(99 - i, i % 10, i % 10);
        }
        for (int i = 0; i < 8; i++) {
            x.bidder(9999, i, i == 7);
        }
        Due.text(x, 0, "bids 1000;full 1000;" + "step 9 when 1=2;".repeat(14));
        Due.text(x, 1, "bidder 6 follows 7;".repeat(16));
        Due.text(x, 2, "on 9 sell 15;".repeat(16));
        x.sell(0);
        x.sell(1);
        DUE.is("39: a full BOOK", x.look(8), 150);
        x.image(true);
        int last = x.book(149, 2);
        x.sell(2);
        Due.text(x, 0, "bids 0;");
        x.text(1);
        x.text(2);
        x.undo();
        x.image(false);
        DUE.is("39: sixteen", x.look(0), 16);
        DUE.is("39: eight", x.look(1), 8);
        DUE.is("39: not SOLD", x.look(7), 65532);
        DUE.is("39: the last one's WEIGHT", x.of(15, 0), 84);
        DUE.is("39: a SHILL", x.who(7, 2), 1);
        DUE.is("39: a full BOOK", x.look(8), 150);
        DUE.is("39: its last line", x.book(149, 2), last);
        DUE.is("39: lines", x.look(10) + x.look(11) + x.look(12), 48);
        DUE.is("39: THE LAW", x.of(2, 17), 1000);
        DUE.is("39: FOLLOWS", x.who(6, 4), 7);
        DUE.is("39: A WEEK", x.days(10), 1);
    }

    /** Undone before and behind the taking: THE IMAGE stays as it was taken. */
    private static void imageIsNotUndone() {
        MockParcels x = quay();
        x.sell(0);
        x.sell(1);
        x.image(true);
        List<String> then = Seen.now(x);
        x.undo();
        x.undo();
        DUE.is("39: not SOLD", x.look(7), 15);
        x.sell(3);
        x.image(false);
        DUE.same("39: as it was taken", Seen.now(x), then);
    }
}
