import java.util.ArrayList;
import java.util.List;
import java.util.function.ToLongFunction;

/** The edges of promises 18 to 37: each sentence of the document that names one has its own method. */
public final class ThoughtEdgesTest {
    private static final Due DUE = new Due("ThoughtEdgesTest");
    private static final int LEAST = Integer.MIN_VALUE;
    private static final int MOST = Integer.MAX_VALUE;

    private ThoughtEdgesTest() {
    }

    public static void main(String[] args) {
        nothingStays();
        bidsAtFiveHundred();
        wouldNobody();
        wouldByPurse();
        wouldOfOneSold();
        wouldThirtyRounds();
        wouldByNumbers();
        goesBounds();
        goesFullAtFiveHundred();
        goesTakesKindOne();
        goesBeyondTheLastDay();
        weightBounds();
        insideNothing();
        insideModulo();
        lengthBounds();
        stringsBounds();
        stringsFewest();
        coinBounds();
        coinToldAlready();
        paysBounds();
        rankDigits();
        swapsOfEight();
        swapsGoes();
        swapsLater();
        toldAnew();
        likeNobodyElse();
        wishesBounds();
        wishesTies();
        putBounds();
        putsByTheirDay();
        putsMostOfSeveral();
        clueBounds();
        whichOfThoseThere();
        partsFewest();
        policeBounds();
        everyUnlike();
        nextBehind();
        shillBounds();
        shillDownwards();
        halvesBounds();
        halvesLeastSide();
        gameNoKnots();
        gameOneParcel();
        gameLeastParcel();
        DUE.end();
    }

    private static MockParcels quay(int bidders, int parcels, String law) {
        MockParcels x = new MockParcels();
        for (int b = 0; b < bidders; b++) {
            x.bidder(100, b, false);
        }
        for (int p = 0; p < parcels; p++) {
            x.parcel(p, 0, 0);
        }
        DUE.is("13: " + law, Due.text(x, 0, law) >= 0, true);
        return x;
    }

    private static MockParcels rich() {
        MockParcels x = quay(4, 4, "bids 900-price-100*care;step 7;full 800-weight*200;");
        x.set(0, 0, 40);
        x.set(1, 0, 3);
        x.set(4, 1, 5);
        Due.text(x, 1, "bidder 3 follows 0;");
        Due.text(x, 2, "on 0 sell 1;on 1 police;on 1 sell 2;on 2 bill 3 9;on 2 pay 0 9;on 2 sell 3;");
        Due.text(x, 3, "bidder 0 wants 1 for 5;bidder 1 wants 1 for 6;");
        x.weighs(1, 1);
        x.length(9);
        x.coin(3);
        x.rank(2, 32104567);
        x.put(8, 1);
        x.clue(5, true);
        x.police(3);
        x.police(8);
        x.image(true);
        x.sell(0);
        x.days(1);
        return x;
    }

    private static void stays(String call, ToLongFunction<MockParcels> act) {
        DUE.changesNothing(call, ThoughtEdgesTest::rich, act, act.applyAsLong(rich()));
    }

    /** "IN THOUGHT (nothing of it stays; no DRAWS ..)". */
    private static void nothingStays() {
        for (int i = 0; i <= 3; i++) {
            int v = i;
            stays("18: would(" + v + ", 0)", x -> x.would(v, 0));
            stays("18: would(0, " + v + ")", x -> x.would(0, v));
            stays("19: goes(60, " + v + ")", x -> x.goes(60, v));
            stays("21: inside(" + v + ", 0)", x -> x.inside(v, 0));
        }
        for (int i = 0; i <= 1; i++) {
            int v = i;
            stays("23: strings(20, " + v + ")", x -> x.strings(20, v));
            stays("25: pays(999, " + v + ")", x -> x.pays(999, v));
            stays("27: swaps(" + (v - 1) + ")", x -> x.swaps(v - 1));
            stays("28: wishes(" + 10 * v + ")", x -> x.wishes(10 * v));
            stays("30: puts(" + v + ")", x -> x.puts(v));
            stays("32: which(" + v + ")", x -> x.which(v));
            stays("34: every(" + (v - 1) + ")", x -> x.every(v - 1));
            stays("35: shill(500, 3, 9)", x -> x.shill(500, 3, 9));
            stays("36: halves(" + v + ")", x -> x.halves(v));
            stays("37: game(" + v + ")", x -> x.game(v));
        }
    }

    /** "he bids, if bids is 500 at least". */
    private static void bidsAtFiveHundred() {
        int[][] rows = {{0, -1}, {499, -1}, {500, 0}, {501, 0}, {1000, 0}};
        for (int[] row : rows) {
            MockParcels x = quay(1, 1, "bids " + row[0] + ";");
            DUE.is("18: bids " + row[0], x.would(0, 0), row[1]);
            DUE.is("18: bids " + row[0], x.would(0, 1), row[1] + 1);
            DUE.is("18: bids " + row[0], x.would(0, 2), row[1] + 2);
        }
    }

    /** "0 who (NONE)": nobody bids in one round. */
    private static void wouldNobody() {
        MockParcels x = quay(0, 1, "bids 1000;");
        DUE.is("18: nobody is there", x.would(0, 0), -1);
        DUE.is("18: nothing is bid", x.would(0, 1), 0);
        DUE.is("18: one round", x.would(0, 2), 1);
        MockParcels y = quay(8, 1, "bids 0;");
        DUE.is("18: nobody bids", y.would(0, 0), -1);
        DUE.is("18: nothing is bid", y.would(0, 1), 0);
        DUE.is("18: one round", y.would(0, 2), 1);
        DUE.is("18: CROWD stays", y.look(3), 0);
    }

    /** "if that is PURSE at most, or he is a SHILL". */
    private static void wouldByPurse() {
        for (int purse = 8; purse <= 12; purse++) {
            MockParcels x = quay(1, 1, "bids 1000;step 10;");
            x.set(2, 0, purse);
            DUE.is("18: 10 of " + purse, x.would(0, 1), purse >= 10 ? 10 : 0);
        }
        MockParcels y = new MockParcels();
        y.parcel(0, 0, 0);
        y.bidder(0, 0, true);
        Due.text(y, 0, "bids 500;step 99;");
        DUE.is("18: a SHILL beyond his PURSE", y.would(0, 1), 99);
    }

    /** "WOULD of a PARCEL (SOLD or not)". */
    private static void wouldOfOneSold() {
        MockParcels x = quay(1, 16, "bids 1000;step 10;full 0;");
        DUE.is("18: not SOLD", x.would(15, 1), 10);
        x.sell(15);
        DUE.is("18: SOLD", x.would(15, 1), 10);
        DUE.is("18: who", x.would(15, 0), 0);
        x.set(2, 0, 9);
        DUE.is("18: by PURSE as it is", x.would(15, 0), -1);
        for (int p : new int[] {LEAST, -1, 16, MOST}) {
            DUE.is("18: would(" + p + ", 0)", x.would(p, 0), -2);
        }
        for (int what : new int[] {LEAST, -1, 3, MOST}) {
            DUE.is("18: would(0, " + what + ")", x.would(0, what), -2);
        }
    }

    /** "Round by round, 30 at most". */
    private static void wouldThirtyRounds() {
        for (int rounds = 1; rounds <= 31; rounds++) {
            MockParcels x = quay(2, 1, "bids 500 when round<" + rounds + ";bids 499;");
            DUE.is("18: rounds, the last one too", x.would(0, 2), Math.min(30, rounds + 1));
            DUE.is("18: what is bid", x.would(0, 1), 2 * Math.min(30, rounds));
            DUE.is("18: who", x.would(0, 0), 1);
        }
    }

    /** The law that is not told: 600 less 50 times care less 10 times price, 500 at least. */
    private static void wouldByNumbers() {
        for (int care = 0; care <= 9; care++) {
            MockParcels x = new MockParcels();
            x.parcel(0, 0, 0);
            x.bidder(99, care, false);
            DUE.is("18: CARE " + care, x.would(0, 0), care <= 2 ? 0 : -1);
        }
        MockParcels y = new MockParcels();
        y.parcel(0, 0, 0);
        y.bidder(99, 0, false);
        y.bidder(99, 0, true);
        // 1, 3, 4, 6, 7, 9, 10, 12: at 10 it is 500, at 12 no more.
        DUE.is("18: 500 at price 10", y.would(0, 1), 12);
        MockParcels z = new MockParcels();
        z.parcel(0, 0, 0);
        z.bidder(99, 0, false);
        z.bidder(99, 0, false);
        DUE.is("18: 500 at price 10, 490 at price 11", z.would(0, 1), 11);
        z.set(3, 0, 1);
        z.set(3, 1, 1);
        DUE.is("18: 500 at price 5, 490 at price 6", z.would(0, 1), 6);
        z.set(3, 0, 2);
        z.set(3, 1, 2);
        DUE.is("18: 500 at price 0, 490 at price 1", z.would(0, 1), 1);
        DUE.is("18: the SHILL", y.would(0, 0), 1);
    }

    /** "GOES for n (1 .. 60) DAYS: TILL, CROWD, BOX, how many are SOLD then". */
    private static void goesBounds() {
        MockParcels x = quay(1, 3, "bids 1000;step 5;full 0;");
        x.sell(2);
        x.set(0, 0, 99);
        Due.text(x, 2, "on 0 sell 0;on 58 wet 1;on 59 sell 1;on 60 crowd 7;");
        for (int n : new int[] {LEAST, -1, 0, 61, MOST}) {
            for (int what = 0; what <= 3; what++) {
                DUE.is("19: goes(" + n + ", " + what + ")", x.goes(n, what), -1);
            }
        }
        for (int what : new int[] {LEAST, -1, 4, MOST}) {
            DUE.is("19: goes(1, " + what + ")", x.goes(1, what), -1);
        }
        DUE.is("19: TILL, one day", x.goes(1, 0), 10);
        DUE.is("19: CROWD, one day", x.goes(1, 1), 96);
        DUE.is("19: SOLD, one day, with the one before", x.goes(1, 3), 2);
        DUE.is("19: SOLD, 59 days", x.goes(59, 3), 2);
        DUE.is("19: CROWD, 59 days", x.goes(59, 1), 95);
        DUE.is("19: SOLD, 60 days", x.goes(60, 3), 3);
        DUE.is("19: TILL, 60 days", x.goes(60, 0), 15);
        DUE.is("19: CROWD, 60 days", x.goes(60, 1), 91);
        DUE.is("19: BOX, 60 days", x.goes(60, 2), 0);
        x.days(1);
        DUE.is("19: from the DAY there is", x.goes(60, 1), 6);
    }

    /** "KIND 1, if full is 500 at least, else 0": seen by the CROWD. */
    private static void goesFullAtFiveHundred() {
        int[][] rows = {{0, 47}, {499, 47}, {500, 54}, {501, 54}, {1000, 54}};
        for (int[] row : rows) {
            MockParcels x = quay(1, 1, "bids 500;full " + row[0] + ";");
            x.set(0, 0, 50);
            Due.text(x, 2, "on 0 sell 0;");
            DUE.is("19: full " + row[0], x.goes(1, 1), row[1]);
        }
        MockParcels y = quay(1, 1, "bids 499;");
        y.set(0, 0, 50);
        Due.text(y, 2, "on 0 sell 0;");
        DUE.is("19: nobody bids", y.goes(1, 1), 45);
        DUE.is("19: none SOLD", y.goes(1, 3), 0);
        y.set(0, 0, 2);
        Due.text(y, 0, "bids 500;full 0;");
        DUE.is("19: 0 at least", y.goes(1, 1), 0);
        y.set(0, 0, 97);
        Due.text(y, 0, "bids 500;full 1000;");
        DUE.is("19: 99 at most", y.goes(1, 1), 99);
    }

    /** What the police take in thought goes to the BOX there is. */
    private static void goesTakesKindOne() {
        MockParcels x = quay(1, 3, "bids 1000;full 1000;");
        x.sell(2);
        Due.text(x, 2, "on 0 police;on 1 police;on 1 sell 0;on 1 sell 1;on 2 police;on 3 police;on 4 police;");
        int[] box = {1, 1, 2, 3, 3, 3};
        for (int n = 1; n <= 6; n++) {
            DUE.is("19: BOX after " + n, x.goes(n, 2), box[n - 1]);
        }
        x.days(1);
        DUE.is("19: and the BOX there is", x.goes(3, 2), 3);
        DUE.is("19: and the BOX there is", x.look(6), 1);
    }

    /** "NONE if one can't be": n alone is asked for, so thought goes beyond DAY 9999. */
    private static void goesBeyondTheLastDay() {
        MockParcels x = quay(0, 0, "");
        x.set(0, 0, 99);
        for (int i = 0; i < 166; i++) {
            x.days(60);
        }
        x.set(1, 0, 1);
        DUE.is("19: DAY", x.look(5), 9960);
        DUE.is("19: as far as DAY 9999", x.goes(39, 1), 60);
        DUE.is("19: farther in thought", x.goes(60, 1), 39);
        DUE.is("19: not in deed", x.days(60), -1);
    }

    /** "A weight of KIND 1 .. 7: true; false if one can't be" (0 .. 99). */
    private static void weightBounds() {
        MockParcels x = quay(0, 16, "");
        for (int kind : new int[] {LEAST, -1, 0, 8, MOST}) {
            DUE.is("20: weighs(" + kind + ", 1)", x.weighs(kind, 1), false);
        }
        for (int v : new int[] {LEAST, -1, 100, MOST}) {
            DUE.is("20: weighs(1, " + v + ")", x.weighs(1, v), false);
            DUE.is("20: weighs(7, " + v + ")", x.weighs(7, v), false);
        }
        DUE.is("20: none is told yet", x.inside(1, 0), 0);
        for (int kind = 1; kind <= 7; kind++) {
            DUE.is("20: 0 is told", x.weighs(kind, 0), true);
            DUE.is("20: none of it", x.inside(kind, 0), 0);
        }
        for (int kind = 1; kind <= 7; kind++) {
            DUE.is("20: 99 is told", x.weighs(kind, 99), true);
            DUE.is("20: too heavy", x.inside(2 * kind, 1), kind == 1 ? -1 : 2);
            DUE.is("20: told", x.weighs(kind, 2 * kind), true);
        }
        DUE.is("21: 14 of 2, 4, 6, 8, 10, 12, 14 is 7 of 1 to 7", x.inside(14, 0), 15);
        DUE.is("21: KIND 7 alone", x.inside(14, 1), 1);
        x.weighs(7, 0);
        DUE.is("21: none of it again", x.inside(14, 0), 14);
        DUE.is("21: two", x.inside(14, 1), 2);
    }

    /** "in how many ways; the fewest things (NONE: none)". */
    private static void insideNothing() {
        MockParcels x = new MockParcels();
        x.parcel(0, 0, 0);
        x.parcel(1, 0, 0);
        x.parcel(99, 0, 0);
        DUE.is("21: WEIGHT 0 in one way", x.inside(0, 0), 1);
        DUE.is("21: WEIGHT 0 of no things", x.inside(0, 1), 0);
        DUE.is("21: WEIGHT 1 in no way", x.inside(1, 0), 0);
        DUE.is("21: WEIGHT 1: none", x.inside(1, 1), -1);
        x.weighs(4, 2);
        DUE.is("21: WEIGHT 0 still in one way", x.inside(0, 0), 1);
        DUE.is("21: 99 is odd", x.inside(2, 0), 0);
        DUE.is("21: 99 is odd", x.inside(2, 1), -1);
        x.weighs(5, 99);
        DUE.is("21: 99 at once", x.inside(2, 0), 1);
        DUE.is("21: 99 at once", x.inside(2, 1), 1);
        x.weighs(4, 1);
        x.weighs(6, 98);
        DUE.is("21: 99, 98 and 1, 99 times 1", x.inside(2, 0), 3);
        DUE.is("21: the fewest", x.inside(2, 1), 1);
        for (int p : new int[] {LEAST, -1, 3, MOST}) {
            DUE.is("21: inside(" + p + ", 0)", x.inside(p, 0), -1);
        }
        for (int what : new int[] {LEAST, -1, 2, MOST}) {
            DUE.is("21: inside(0, " + what + ")", x.inside(0, what), -1);
        }
    }

    /** "(modulo 1000000007)": rows of seven, 96 things are the first above it. */
    private static void insideModulo() {
        for (int weight = 88; weight <= 99; weight++) {
            MockParcels x = new MockParcels();
            x.parcel(weight, 0, 0);
            for (int kind = 1; kind <= 7; kind++) {
                x.weighs(kind, 1);
            }
            long rows = 1;
            for (int i = 1; i <= 6; i++) {
                rows = rows * (weight + i) / i;
            }
            DUE.is("21: WEIGHT " + weight, x.inside(0, 0), rows % 1000000007);
            DUE.is("21: the fewest", x.inside(0, 1), weight);
        }
    }

    /** "A length for STRINGS (NONE: none is then): how many; NONE if one can't be, or there are nine" (1 .. 60). */
    private static void lengthBounds() {
        MockParcels x = new MockParcels();
        for (int v : new int[] {LEAST, -2, 0, 61, MOST}) {
            DUE.is("22: length(" + v + ")", x.length(v), -1);
        }
        DUE.is("22: 1", x.length(1), 1);
        DUE.is("22: 60", x.length(60), 2);
        DUE.is("22: alike ones may be", x.length(60), 3);
        for (int i = 4; i <= 9; i++) {
            DUE.is("22: how many", x.length(i), i);
        }
        DUE.is("22: there are nine", x.length(5), -1);
        DUE.is("22: none is then", x.length(-1), 0);
        DUE.is("22: none", x.strings(1, 0), 0);
        DUE.is("22: none of none", x.length(-1), 0);
        DUE.is("22: again", x.length(5), 1);
        DUE.is("22: it alone", x.strings(5, 1), 0);
    }

    /** "STRINGS of c (1 .. 99)"; "NONE if one is longer than c, c can't be, or another what". */
    private static void stringsBounds() {
        MockParcels x = new MockParcels();
        for (int c : new int[] {LEAST, -1, 0, 100, MOST}) {
            DUE.is("23: strings(" + c + ", 0)", x.strings(c, 0), -1);
            DUE.is("23: strings(" + c + ", 1)", x.strings(c, 1), -1);
        }
        for (int c : new int[] {1, 99}) {
            DUE.is("23: none of " + c, x.strings(c, 0), 0);
            DUE.is("23: nothing is left over", x.strings(c, 1), 0);
        }
        x.length(60);
        x.length(1);
        DUE.is("23: 60 is longer than 59", x.strings(59, 0), -1);
        DUE.is("23: 60 is longer than 59", x.strings(59, 1), -1);
        DUE.is("23: 60 of 60", x.strings(60, 0), 2);
        DUE.is("23: 59 are left over", x.strings(60, 1), 59);
        DUE.is("23: both of 61", x.strings(61, 0), 1);
        DUE.is("23: none is left over", x.strings(61, 1), 0);
        DUE.is("23: both of 99", x.strings(99, 0), 1);
        DUE.is("23: 38 are left over", x.strings(99, 1), 38);
        for (int what : new int[] {LEAST, -1, 2, MOST}) {
            DUE.is("23: strings(99, " + what + ")", x.strings(99, what), -1);
        }
        MockParcels y = new MockParcels();
        y.length(1);
        DUE.is("23: 1 of 1", y.strings(1, 0), 1);
        DUE.is("23: nothing is left over", y.strings(1, 1), 0);
    }

    /** "the fewest strings of c from which all are cut": not the longest first, nor as they were told. */
    private static void stringsFewest() {
        int[][] rows = {{10, 2, 5, 5, 3, 3, 2, 2}, {12, 2, 6, 4, 4, 4, 3, 3}, {60, 9, 31, 31, 31, 31, 31, 31, 31, 31, 31},
            {60, 5, 30, 30, 30, 30, 30, 30, 30, 30, 30}, {9, 1, 1, 1, 1, 1, 1, 1, 1, 1, 1}, {8, 2, 1, 1, 1, 1, 1, 1, 1, 1, 1},
            {20, 3, 11, 9, 8, 7, 7, 6, 6, 5, 1}};
        for (int[] row : rows) {
            MockParcels x = new MockParcels();
            int sum = 0;
            List<Integer> lengths = new ArrayList<>();
            for (int i = 2; i < row.length; i++) {
                x.length(row[i]);
                lengths.add(row[i]);
                sum += row[i];
            }
            DUE.is("23: " + lengths + " of " + row[0], x.strings(row[0], 0), row[1]);
            DUE.is("23: left over", x.strings(row[0], 1), row[1] * row[0] - sum);
        }
    }

    /** "A kind of COINS (NONE: none is then): how many; NONE if one can't be .., or there are six" (1 .. 50). */
    private static void coinBounds() {
        MockParcels x = new MockParcels();
        for (int v : new int[] {LEAST, -2, 0, 51, MOST}) {
            DUE.is("24: coin(" + v + ")", x.coin(v), -1);
        }
        DUE.is("24: 1", x.coin(1), 1);
        DUE.is("24: 50", x.coin(50), 2);
        for (int i = 3; i <= 6; i++) {
            DUE.is("24: how many", x.coin(i), i);
        }
        DUE.is("24: there are six", x.coin(7), -1);
        DUE.is("24: none is then", x.coin(-1), 0);
        DUE.is("24: none", x.pays(1, 0), -1);
        DUE.is("24: none of none", x.coin(-1), 0);
        DUE.is("24: again", x.coin(7), 1);
        DUE.is("24: it alone", x.pays(50, 0), -1);
        DUE.is("24: it alone", x.pays(49, 0), 7);
    }

    /** "(told already)": the first one, the last one; not after none is. */
    private static void coinToldAlready() {
        MockParcels x = new MockParcels();
        for (int i = 1; i <= 5; i++) {
            x.coin(10 * i);
            for (int j = 1; j <= i; j++) {
                DUE.is("24: told already", x.coin(10 * j), -1);
            }
        }
        DUE.is("24: the sixth", x.coin(49), 6);
        x.coin(-1);
        for (int i = 1; i <= 5; i++) {
            DUE.is("24: told no more", x.coin(10 * i), i);
        }
    }

    /** "PAYS of n (0 .. 999): the fewest coins (NONE: it can't be); in how many ways". */
    private static void paysBounds() {
        MockParcels x = new MockParcels();
        DUE.is("25: nothing of none", x.pays(0, 0), 0);
        DUE.is("25: in one way", x.pays(0, 1), 1);
        DUE.is("25: it can't be", x.pays(999, 0), -1);
        DUE.is("25: in no way", x.pays(999, 1), 0);
        x.coin(50);
        for (int n : new int[] {LEAST, -1, 1000, MOST}) {
            DUE.is("25: pays(" + n + ", 0)", x.pays(n, 0), -1);
            DUE.is("25: pays(" + n + ", 1)", x.pays(n, 1), -1);
        }
        DUE.is("25: 49", x.pays(49, 0), -1);
        DUE.is("25: 50", x.pays(50, 0), 1);
        DUE.is("25: 51", x.pays(51, 0), -1);
        DUE.is("25: 999", x.pays(999, 0), -1);
        x.coin(1);
        DUE.is("25: 999", x.pays(999, 0), 19 + 49);
        DUE.is("25: 999 in twenty ways", x.pays(999, 1), 20);
        DUE.is("25: nothing in one way", x.pays(0, 1), 1);
        for (int what : new int[] {LEAST, -1, 2, MOST}) {
            DUE.is("25: pays(5, " + what + ")", x.pays(5, what), -1);
        }
        MockParcels y = new MockParcels();
        y.coin(4);
        y.coin(3);
        y.coin(1);
        DUE.is("25: 3 and 3, not 4 and 1 and 1", y.pays(6, 0), 2);
        DUE.is("25: 4 1 1, 3 3, 3 1 1 1, 1 six times", y.pays(6, 1), 4);
        MockParcels z = new MockParcels();
        List<Integer> six = new ArrayList<>();
        for (int i = 1; i <= 6; i++) {
            z.coin(i);
            six.add(i);
        }
        // About 610 the ways of 1 to 6 come to be more than the modulus.
        for (int n = 595; n <= 615; n++) {
            DUE.is("25: modulo, " + n, z.pays(n, 1), Brute.ways(six, n));
        }
        DUE.is("25: modulo, 999", z.pays(999, 1), Brute.ways(six, 999));
    }

    /** "(eight digits of 0 .. 7, each once; leading 0 is THING 0): true; false if one can't be (BIDDERS 0 .. 7)". */
    private static void rankDigits() {
        MockParcels x = new MockParcels();
        int[] wrong = {LEAST, -76543210, -1234567, -1, 0, 1, 1234566, 1234568, 11234567, 12345678, 81234567, 91234567,
            76543219, 7654321, 101234567, 176543210, 123456789, MOST};
        for (int order : wrong) {
            DUE.is("26: rank(7, " + order + ")", x.rank(7, order), order == 7654321);
        }
        for (int b : new int[] {LEAST, -1, 8, MOST}) {
            DUE.is("26: rank(" + b + ", ..)", x.rank(b, 1234567), false);
        }
        // THING by THING the dearest: its holder keeps it, so eight kept at once.
        int[] own = {1234567, 10234567, 20134567, 30124567, 40123567, 50123467, 60123457, 70123456};
        for (int b = 0; b < 8; b++) {
            DUE.is("26: told", x.rank(b, own[b]), true);
        }
        for (int b = 0; b < 8; b++) {
            DUE.is("27: its own", x.swaps(b), b);
        }
        DUE.is("27: in one go", x.swaps(-1), 1);
        DUE.is("26: the least", x.rank(3, 1234567), true);
        DUE.is("26: the most", x.rank(4, 76543210), true);
    }

    /** "one for each BIDDER's number 0 .. 7 (there or not)"; "(bidder NONE). NONE if one can't be". */
    private static void swapsOfEight() {
        MockParcels x = new MockParcels();
        for (int b : new int[] {LEAST, -2, 8, MOST}) {
            DUE.is("27: swaps(" + b + ")", x.swaps(b), -1);
        }
        DUE.is("27: nobody is there", x.look(1), 0);
        x.rank(0, 70123456);
        x.rank(7, 1234567);
        DUE.is("27: the first has the last one's", x.swaps(0), 7);
        DUE.is("27: the last has the first one's", x.swaps(7), 0);
        DUE.is("27: the others theirs", x.swaps(3), 3);
        x.bidder(1, 1, false);
        DUE.is("27: one is there", x.swaps(0), 7);
    }

    /** "again and again each one left points ..; in how many goes": 1 .. 8. */
    private static void swapsGoes() {
        MockParcels x = new MockParcels();
        DUE.is("27: one by one", x.swaps(-1), 8);
        // The last ones as dear as can be to themselves: each of them goes at once.
        int[] own = {1234567, 10234567, 20134567, 30124567, 40123567, 50123467, 60123457, 70123456};
        for (int b = 7; b >= 1; b--) {
            x.rank(b, own[b]);
            DUE.is("27: goes with " + b, x.swaps(-1), b == 1 ? 1 : b);
        }
        // Rounds of two: 0 and 1 at once, 2 and 3 when those are out, and so on.
        MockParcels y = new MockParcels();
        int[] pairs = {10234567, 1234567, 1324567, 1234567, 1235467, 1234567, 1234576, 1234567};
        for (int b = 0; b < 8; b++) {
            y.rank(b, pairs[b]);
        }
        int[] due = {1, 0, 3, 2, 5, 4, 7, 6};
        for (int b = 0; b < 8; b++) {
            DUE.is("27: of pairs, " + b, y.swaps(b), due[b]);
        }
        DUE.is("27: four goes", y.swaps(-1), 4);
    }

    /** Number 0 does not go round at once, but later on. */
    private static void swapsLater() {
        MockParcels x = new MockParcels();
        x.rank(0, 12034567);
        x.rank(1, 10234567);
        x.rank(2, 1234567);
        DUE.is("27: 1 has its own", x.swaps(1), 1);
        DUE.is("27: then 0 has 2", x.swaps(0), 2);
        DUE.is("27: and 2 has 0", x.swaps(2), 0);
        DUE.is("27: 3 to 7 one by one", x.swaps(-1), 7);
        // Only the last one goes round at first, and 0 is the last to go.
        int[] down = {76543210, 76543210, 76543210, 76543210, 76543210, 76543210, 76543210, 76543210};
        for (int b = 0; b < 8; b++) {
            x.rank(b, down[b]);
        }
        for (int b = 0; b < 8; b++) {
            DUE.is("27: its own, " + b, x.swaps(b), b);
        }
        DUE.is("27: eight goes", x.swaps(-1), 8);
    }

    /** "(NONE: none is then)": of those told before nothing is left, though fewer are told then. */
    private static void toldAnew() {
        MockParcels x = quay(0, 3, "");
        for (int i = 0; i < 5; i++) {
            x.length(60 - i);
            x.coin(1 + i);
            x.put(50 + i, i);
            x.clue(2, i % 2 == 0);
            x.police(10 + 3 * i);
        }
        x.length(-1);
        x.coin(-1);
        x.put(-1, 0);
        x.clue(-1, true);
        x.police(-1);
        x.length(20);
        x.coin(7);
        x.put(9, 1);
        x.clue(3, true);
        x.police(500);
        DUE.is("23: one of 20", x.strings(20, 0), 1);
        DUE.is("23: nothing is left over", x.strings(20, 1), 0);
        DUE.is("25: sevens alone", x.pays(8, 0), -1);
        DUE.is("25: two sevens in one way", x.pays(14, 1), 1);
        DUE.is("30: 9", x.puts(0), 9);
        DUE.is("30: one", x.puts(1), 1);
        DUE.is("32: two", x.which(0), 3);
        DUE.is("32: by one", x.which(1), 1);
        DUE.is("34: one told", x.every(-1), 0);
    }

    /** THE IMAGE of fewer BIDDERS and PARCELS is gone back to: none of those there were are reckoned with. */
    private static void likeNobodyElse() {
        MockParcels x = quay(2, 2, "bids 1000;step 5;");
        x.image(true);
        for (int b = 2; b < 8; b++) {
            x.bidder(9999, b, false);
        }
        for (int p = 2; p < 16; p++) {
            x.parcel(p, 9, 7);
        }
        x.clue(65535, true);
        Due.text(x, 3, "bidder 1 wants 1 for 50;bidder 2 wants 2 for 60;bidder 7 wants 3 for 70;");
        DUE.is("28: of eight", x.wishes(0), 180);
        DUE.is("36: of eight", x.halves(0), 0);
        DUE.is("37: of sixteen", x.game(0), -1);
        x.image(false);
        DUE.is("28: nobody wants anything", x.wishes(0), 0);
        DUE.is("28: nor has", x.wishes(10), 0);
        DUE.is("28: none such", x.wishes(12), -1);
        Due.text(x, 3, "bidder 1 wants 1 for 50;");
        DUE.is("28: of two", x.wishes(0), 50);
        DUE.is("28: BIDDER 1", x.wishes(11), 1);
        DUE.is("36: of two", x.halves(0), 0);
        DUE.is("36: of two", x.halves(1), 1);
        DUE.is("32: of two", x.which(0), 3);
        DUE.is("37: no knots", x.game(0), -1);
        DUE.is("40: not SOLD", x.look(7), 3);
        DUE.is("18: two bid", x.would(0, 1), 100);
    }

    /** "0 together, 10 + b the KIND of BIDDER b. NONE if there is none such, or another what". */
    private static void wishesBounds() {
        MockParcels x = new MockParcels();
        DUE.is("28: nobody", x.wishes(0), 0);
        for (int b = 0; b < 8; b++) {
            DUE.is("28: BIDDER " + b + " is not there", x.wishes(10 + b), -1);
            x.bidder(0, 0, b == 5);
            DUE.is("28: he has none", x.wishes(10 + b), 0);
        }
        for (int what : new int[] {LEAST, LEAST + 9, -1, 1, 9, 18, MOST}) {
            DUE.is("28: wishes(" + what + ")", x.wishes(what), -1);
        }
        StringBuilder wants = new StringBuilder();
        for (int b = 0; b < 7; b++) {
            wants.append("bidder ").append(b).append(" wants ").append(7 - b).append(" for 99;");
        }
        DUE.is("28: WANTS", Due.text(x, 3, wants + "bidder 7 wants 7 for 98;"), 8);
        DUE.is("28: seven KINDS", x.wishes(0), 693);
        for (int b = 0; b < 8; b++) {
            DUE.is("28: BIDDER " + b, x.wishes(10 + b), b == 7 ? 0 : 7 - b);
        }
        DUE.is("28: each KIND once", Due.text(x, 3, "bidder 0 wants 3 for 5;bidder 1 wants 3 for 6;bidder 2 wants 3 for 4;"), 3);
        DUE.is("28: the most", x.wishes(0), 6);
        DUE.is("28: one at most", Due.text(x, 3, "bidder 0 wants 3 for 5;bidder 0 wants 4 for 6;bidder 0 wants 5 for 4;"), 3);
        DUE.is("28: the most", x.wishes(0), 6);
        DUE.is("28: KIND 4", x.wishes(10), 4);
    }

    /** "(0: none; of several ways the first, BIDDER by BIDDER, the lesser)". */
    private static void wishesTies() {
        MockParcels x = new MockParcels();
        for (int b = 0; b < 3; b++) {
            x.bidder(0, 0, false);
        }
        Due.text(x, 3, "bidder 0 wants 7 for 5;bidder 0 wants 2 for 5;bidder 0 wants 4 for 5;");
        DUE.is("28: the least KIND", x.wishes(10), 2);
        Due.text(x, 3, "bidder 0 wants 2 for 5;bidder 1 wants 2 for 5;bidder 2 wants 2 for 5;");
        DUE.is("28: none is the least", x.wishes(10), 0);
        DUE.is("28: none is the least", x.wishes(11), 0);
        DUE.is("28: the last one has it", x.wishes(12), 2);
        Due.text(x, 3, "bidder 0 wants 1 for 5;bidder 0 wants 2 for 5;bidder 1 wants 1 for 5;");
        DUE.is("28: most comes first", x.wishes(0), 10);
        DUE.is("28: BIDDER 0", x.wishes(10), 2);
        DUE.is("28: BIDDER 1", x.wishes(11), 1);
        Due.text(x, 3, "bidder 0 wants 1 for 0;bidder 1 wants 2 for 0;bidder 2 wants 3 for 1;");
        DUE.is("28: none, not one for nothing", x.wishes(10), 0);
        DUE.is("28: none, not one for nothing", x.wishes(11), 0);
        DUE.is("28: KIND 3", x.wishes(12), 3);
    }

    /** "A parcel for PUT (price NONE: none is then): how many; NONE if one can't be, or there are seven". */
    private static void putBounds() {
        MockParcels x = new MockParcels();
        for (int price : new int[] {LEAST, -2, 100, MOST}) {
            DUE.is("29: put(" + price + ", 0)", x.put(price, 0), -1);
        }
        for (int day : new int[] {LEAST, -1, 10, MOST}) {
            DUE.is("29: put(0, " + day + ")", x.put(0, day), -1);
        }
        DUE.is("29: none was told", x.puts(1), 0);
        DUE.is("29: 0 by 0", x.put(0, 0), 1);
        DUE.is("29: 99 by 9", x.put(99, 9), 2);
        for (int i = 3; i <= 7; i++) {
            DUE.is("29: how many", x.put(99, 9), i);
        }
        DUE.is("29: there are seven", x.put(1, 1), -1);
        DUE.is("30: six times 99", x.puts(0), 594);
        DUE.is("30: and one for nothing", x.puts(1), 7);
        for (int what : new int[] {LEAST, -1, 2, MOST}) {
            DUE.is("30: puts(" + what + ")", x.puts(what), -1);
        }
        for (int day : new int[] {LEAST, -1, 0, 10, MOST}) {
            DUE.is("29: none is then, whatever day", x.put(-1, day), 0);
            DUE.is("30: none", x.puts(0) + x.puts(1), 0);
            DUE.is("29: again", x.put(5, 5), 1);
        }
    }

    /** "one a day from DAY 0: .. sold by their day". */
    private static void putsByTheirDay() {
        for (int day = 0; day <= 9; day++) {
            MockParcels x = new MockParcels();
            for (int i = 0; i < 7; i++) {
                x.put(10, day);
            }
            DUE.is("30: by DAY " + day, x.puts(1), Math.min(7, day + 1));
            DUE.is("30: by DAY " + day, x.puts(0), 10 * Math.min(7, day + 1));
        }
        MockParcels y = new MockParcels();
        y.put(1, 0);
        y.put(5, 1);
        y.put(9, 1);
        DUE.is("30: 5 and 9", y.puts(0), 14);
        DUE.is("30: two", y.puts(1), 2);
        y.put(2, 2);
        DUE.is("30: and 2 on DAY 2", y.puts(0), 16);
        y.put(3, 2);
        DUE.is("30: 3 for 2", y.puts(0), 17);
        DUE.is("30: three", y.puts(1), 3);
    }

    /** "1 how many (of several ways with most price the most)". */
    private static void putsMostOfSeveral() {
        MockParcels x = new MockParcels();
        x.put(0, 0);
        DUE.is("30: for nothing", x.puts(1), 1);
        DUE.is("30: nothing", x.puts(0), 0);
        x.put(0, 0);
        DUE.is("30: one of both", x.puts(1), 1);
        x.put(7, 0);
        DUE.is("30: 7 alone", x.puts(1), 1);
        DUE.is("30: 7 alone", x.puts(0), 7);
        x.put(0, 1);
        DUE.is("30: and one for nothing", x.puts(1), 2);
        DUE.is("30: still 7", x.puts(0), 7);
    }

    /** "A CLUE (parcels NONE: none is then): how many; NONE if one can't be (bits 0 .. 15), or there are eight". */
    private static void clueBounds() {
        MockParcels x = new MockParcels();
        for (int set : new int[] {LEAST, -65536, -2, 65536, MOST}) {
            DUE.is("31: clue(" + set + ", true)", x.clue(set, true), -1);
            DUE.is("31: clue(" + set + ", false)", x.clue(set, false), -1);
        }
        for (int i = 0; i < 16; i++) {
            x.parcel(0, 0, 0);
        }
        DUE.is("32: all without clues", x.which(0), 65535);
        DUE.is("31: none of them", x.clue(0, false), 1);
        DUE.is("31: all of them", x.clue(65535, true), 2);
        for (int i = 3; i <= 8; i++) {
            DUE.is("31: how many", x.clue(65535, true), i);
        }
        DUE.is("31: there are eight", x.clue(0, false), -1);
        DUE.is("32: all", x.which(0), 65535);
        DUE.is("32: none is told apart", x.which(1), 0);
        DUE.is("31: none is then", x.clue(-1, true), 0);
        DUE.is("31: none is then", x.clue(-1, false), 0);
        DUE.is("31: again", x.clue(32768, true), 1);
        DUE.is("32: the last PARCEL", x.which(0), 32768);
        x.clue(32768, false);
        DUE.is("32: yes and no", x.which(0), 0);
        for (int what : new int[] {LEAST, -1, 2, MOST}) {
            DUE.is("32: which(" + what + ")", x.which(what), -1);
        }
    }

    /** "of PARCELS there are, those in all told sets that are told yes and in none told no". */
    private static void whichOfThoseThere() {
        MockParcels x = new MockParcels();
        x.clue(65535, true);
        for (int i = 0; i <= 16; i++) {
            DUE.is("32: of " + i, x.which(0), (1 << i) - 1);
            if (i < 16) {
                x.parcel(0, 0, 0);
            }
        }
        x.clue(0xFF00, true);
        DUE.is("32: in both", x.which(0), 0xFF00);
        x.clue(0xF000, false);
        DUE.is("32: in none told no", x.which(0), 0x0F00);
        x.clue(0x00FF, false);
        DUE.is("32: nor in another one", x.which(0), 0x0F00);
        x.clue(0, true);
        DUE.is("32: in none told yes", x.which(0), 0);
    }

    /** "the fewest of the told sets (whatever they were told) by which all .. that can be told apart are". */
    private static void partsFewest() {
        MockParcels x = new MockParcels();
        DUE.is("32: no PARCELS", x.which(1), 0);
        x.clue(1, true);
        x.parcel(0, 0, 0);
        DUE.is("32: one PARCEL", x.which(1), 0);
        x.parcel(0, 0, 0);
        DUE.is("32: two, by one", x.which(1), 1);
        x.clue(2, false);
        DUE.is("32: either one does", x.which(1), 1);
        x.parcel(0, 0, 0);
        DUE.is("32: three, by two", x.which(1), 2);
        x.parcel(0, 0, 0);
        DUE.is("32: the fourth is like the third", x.which(1), 2);
        x.clue(8, true);
        DUE.is("32: by three", x.which(1), 3);
        x.clue(3, true);
        x.clue(5, true);
        DUE.is("32: 3 and 5 tell all four apart", x.which(1), 2);
        MockParcels y = new MockParcels();
        for (int i = 0; i < 16; i++) {
            y.parcel(0, 0, 0);
        }
        for (int i = 0; i < 8; i++) {
            y.clue(1 << i, true);
            DUE.is("32: one by one", y.which(1), i + 1);
        }
    }

    /** "A day of POLICE (NONE: none is then): how many; NONE if one can't be, or there are twenty" (0 .. 999). */
    private static void policeBounds() {
        MockParcels x = new MockParcels();
        for (int day : new int[] {LEAST, -2, 1000, MOST}) {
            DUE.is("33: police(" + day + ")", x.police(day), -1);
        }
        DUE.is("33: 0", x.police(0), 1);
        DUE.is("33: 999", x.police(999), 2);
        DUE.is("34: 999", x.every(-1), 999);
        for (int i = 3; i <= 20; i++) {
            DUE.is("33: how many", x.police(i == 20 ? 333 : 999), i);
        }
        DUE.is("34: with the twentieth", x.every(-1), 333);
        DUE.is("33: there are twenty", x.police(1), -1);
        DUE.is("34: as it was", x.every(-1), 333);
        DUE.is("33: none is then", x.police(-1), 0);
        DUE.is("34: none", x.every(-1), 0);
        DUE.is("33: none of none", x.police(-1), 0);
        DUE.is("33: again", x.police(7), 1);
    }

    /** "the greatest number of days of which all are apart a multiple (.. fewer than two unlike: 0)". */
    private static void everyUnlike() {
        MockParcels x = new MockParcels();
        DUE.is("34: none told", x.every(-1), 0);
        x.police(500);
        DUE.is("34: one told", x.every(-1), 0);
        x.police(500);
        x.police(500);
        DUE.is("34: alike ones", x.every(-1), 0);
        DUE.is("34: no NEXT", x.every(0), -1);
        x.police(0);
        DUE.is("34: 500", x.every(-1), 500);
        x.police(999);
        DUE.is("34: 1", x.every(-1), 1);
        MockParcels y = new MockParcels();
        y.police(100);
        y.police(70);
        DUE.is("34: one before the first", y.every(-1), 30);
        y.police(145);
        DUE.is("34: 30 and 45", y.every(-1), 15);
        y.police(100);
        DUE.is("34: the first one again", y.every(-1), 15);
    }

    /** "NEXT day behind a day d: .. the least above d" (0 .. 9999). */
    private static void nextBehind() {
        MockParcels x = new MockParcels();
        x.police(500);
        x.police(493);
        for (int d = 0; d <= 9999; d += d > 30 && d < 9960 ? 331 : 1) {
            int due = d + 1;
            while ((due - 500) % 7 != 0) {
                due++;
            }
            DUE.is("34: behind " + d, x.every(d), due);
        }
        for (int d : new int[] {LEAST, -2, 10000, MOST}) {
            DUE.is("34: every(" + d + ")", x.every(d), -1);
        }
        MockParcels y = new MockParcels();
        y.police(0);
        y.police(999);
        DUE.is("34: above 0", y.every(0), 999);
        DUE.is("34: above 998", y.every(998), 999);
        DUE.is("34: above 999", y.every(999), 1998);
        DUE.is("34: above 9999", y.every(9999), 10989);
        MockParcels z = new MockParcels();
        z.police(999);
        z.police(998);
        DUE.is("34: the very next", z.every(0), 1);
        DUE.is("34: the very next", z.every(9999), 10000);
    }

    /** "SHILL of p (0 .. 1000) .. n (0 .. 20) .. m (n .. 40)": NONE if one can't be. */
    private static void shillBounds() {
        MockParcels x = new MockParcels();
        for (int v : new int[] {LEAST, -1, MOST}) {
            DUE.is("35: p " + v, x.shill(v, 0, 0), -1);
            DUE.is("35: n " + v, x.shill(500, v, 40), -1);
            DUE.is("35: m " + v, x.shill(500, 0, v), -1);
        }
        DUE.is("35: p 1001", x.shill(1001, 0, 0), -1);
        DUE.is("35: n 21", x.shill(500, 21, 40), -1);
        DUE.is("35: m 41", x.shill(500, 0, 41), -1);
        for (int n = 0; n <= 20; n++) {
            DUE.is("35: m is n less 1", x.shill(0, n, n - 1), -1);
            DUE.is("35: m is n", x.shill(0, n, n), 0);
            DUE.is("35: m is 40", x.shill(1000, n, 40), 1000000);
            DUE.is("35: m is 41", x.shill(1000, n, 41), -1);
        }
        DUE.is("35: none of none", x.shill(0, 0, 0), 0);
        DUE.is("35: none of none", x.shill(1, 0, 0), 1000);
        DUE.is("35: none of none", x.shill(1000, 0, 0), 1000000);
    }

    /** "q 6 by (q 6 + (a million less q) 3), of a million, downwards; m less n times with 4 and 7". */
    private static void shillDownwards() {
        MockParcels x = new MockParcels();
        for (int p : new int[] {0, 1, 2, 333, 500, 998, 999, 1000}) {
            for (int n = 0; n <= 20; n += 5) {
                for (int m = n; m <= 40; m += 4) {
                    java.math.BigInteger q = java.math.BigInteger.valueOf(p * 1000L);
                    java.math.BigInteger million = java.math.BigInteger.valueOf(1000000);
                    for (int i = 0; i < m; i++) {
                        java.math.BigInteger one = q.multiply(java.math.BigInteger.valueOf(i < n ? 6 : 4));
                        java.math.BigInteger other = million.subtract(q)
                            .multiply(java.math.BigInteger.valueOf(i < n ? 3 : 7));
                        q = one.multiply(million).divide(one.add(other));
                    }
                    DUE.is("35: shill(" + p + ", " + n + ", " + m + ")", x.shill(p, n, m), q.intValue());
                }
            }
        }
        DUE.is("35: 500000 6 by 4500000", x.shill(500, 1, 1), 666666);
        DUE.is("35: 500000 4 by 5500000", x.shill(500, 0, 1), 363636);
        DUE.is("35: at last 0", x.shill(1, 0, 40), 0);
    }

    /** "(none may be empty; fewer than two: none)"; "NONE if there is none, or for another what". */
    private static void halvesBounds() {
        MockParcels x = new MockParcels();
        DUE.is("36: nobody", x.halves(0), -1);
        DUE.is("36: nobody", x.halves(1), -1);
        x.bidder(0, 0, false);
        DUE.is("36: one", x.halves(0), -1);
        DUE.is("36: one", x.halves(1), -1);
        x.bidder(9999, 0, false);
        DUE.is("36: two", x.halves(0), 9999);
        DUE.is("36: the side of BIDDER 0", x.halves(1), 1);
        for (int what : new int[] {LEAST, -1, 2, MOST}) {
            DUE.is("36: halves(" + what + ")", x.halves(what), -1);
        }
        for (int b = 2; b < 8; b++) {
            x.bidder(0, 0, false);
            DUE.is("36: one against all", x.halves(0), 9999);
        }
        // All ways that part BIDDER 1 from others are alike: BIDDER 0 alone is the least side.
        DUE.is("36: the least side", x.halves(1), 1);
    }

    /** "the side of BIDDER 0 (a set; of several the least)". */
    private static void halvesLeastSide() {
        MockParcels x = new MockParcels();
        for (int b = 0; b < 8; b++) {
            x.bidder(10, 0, false);
        }
        DUE.is("36: four and four", x.halves(0), 0);
        DUE.is("36: the first four", x.halves(1), 15);
        x.set(2, 0, 70);
        DUE.is("36: one against seven", x.halves(0), 0);
        DUE.is("36: BIDDER 0 alone", x.halves(1), 1);
        x.set(2, 0, 10);
        x.set(2, 7, 70);
        DUE.is("36: seven against the last", x.halves(0), 0);
        DUE.is("36: all but the last", x.halves(1), 127);
        x.set(2, 7, 80);
        DUE.is("36: ten apart", x.halves(0), 10);
        x.set(2, 0, 0);
        // 60 against 80: BIDDER 0 on either side; with the last one alone is his least side but for those without.
        DUE.is("36: twenty apart", x.halves(0), 20);
        DUE.is("36: without the last one", x.halves(1), 127);
        MockParcels y = new MockParcels();
        int[] purses = {7, 5, 6, 4};
        for (int purse : purses) {
            y.bidder(purse, 0, false);
        }
        DUE.is("36: 7 4 and 5 6", y.halves(0), 0);
        DUE.is("36: 0 and 3", y.halves(1), 9);
        MockParcels z = new MockParcels();
        z.bidder(0, 0, false);
        z.bidder(0, 0, true);
        DUE.is("36: two of nothing", z.halves(0), 0);
        DUE.is("36: one each", z.halves(1), 1);
    }

    /** "NONE if who begins loses": no PARCEL, no knots, all SOLD. */
    private static void gameNoKnots() {
        MockParcels x = new MockParcels();
        DUE.is("37: no PARCEL", x.game(0), -1);
        DUE.is("37: no PARCEL", x.game(1), -1);
        for (int i = 0; i < 16; i++) {
            x.parcel(0, 0, 0);
        }
        DUE.is("37: no knots", x.game(0), -1);
        DUE.is("37: no knots", x.game(1), -1);
        x.set(4, 15, 1);
        DUE.is("37: one knot", x.game(0), 15);
        DUE.is("37: one knot", x.game(1), 1);
        x.bidder(9, 0, false);
        Due.text(x, 0, "bids 1000;");
        x.sell(15);
        DUE.is("37: it is SOLD", x.game(0), -1);
        DUE.is("37: it is SOLD", x.game(1), -1);
        for (int what : new int[] {LEAST, -1, 2, MOST}) {
            DUE.is("37: game(" + what + ")", x.game(what), -1);
        }
    }

    /** "1 or 2 KNOTS of one PARCEL .., or all of one": of one PARCEL all of it, the fewest. */
    private static void gameOneParcel() {
        for (int knots = 1; knots <= 9; knots++) {
            MockParcels x = new MockParcels();
            x.parcel(0, 0, knots);
            DUE.is("37: of " + knots, x.game(0), 0);
            DUE.is("37: all of " + knots, x.game(1), knots);
        }
    }

    /** "the PARCEL (of several the least), how many (the fewest)": of two and three, against a game played out. */
    private static void gameLeastParcel() {
        for (int a = 0; a <= 9; a++) {
            for (int b = 0; b <= 9; b++) {
                for (int c = 0; c <= 9; c += 3) {
                    int[] knots = {a, b, c};
                    MockParcels x = new MockParcels();
                    for (int k : knots) {
                        x.parcel(0, 0, k);
                    }
                    int[] due = begins(knots);
                    DUE.is("37: the PARCEL of " + a + " " + b + " " + c, x.game(0), due[0]);
                    DUE.is("37: how many of " + a + " " + b + " " + c, x.game(1), due[1]);
                }
            }
        }
    }

    private static final int[] KNOWN = new int[1000];

    /** The least PARCEL and the fewest knots after which the other one loses; NONE, NONE. */
    private static int[] begins(int[] knots) {
        for (int p = 0; p < 3; p++) {
            for (int n = 1; n <= knots[p]; n++) {
                if (n <= 2 || n == knots[p]) {
                    int[] left = knots.clone();
                    left[p] -= n;
                    if (!wins(left)) {
                        return new int[] {p, n};
                    }
                }
            }
        }
        return new int[] {-1, -1};
    }

    private static boolean wins(int[] knots) {
        int key = 100 * knots[0] + 10 * knots[1] + knots[2];
        if (KNOWN[key] == 0) {
            KNOWN[key] = begins(knots)[0] == -1 ? 1 : 2;
        }
        return KNOWN[key] == 2;
    }
}
