import java.util.ArrayList;
import java.util.List;
import java.util.Random;

/** Promises 18 to 37: what is asked in thought. */
public final class ThoughtTest {
    private static final Due DUE = new Due("ThoughtTest");

    private ThoughtTest() {
    }

    public static void main(String[] args) {
        promise18();
        promise19();
        promise20and21();
        promise22and23();
        promise24and25();
        promise26and27();
        promise28();
        promise29and30();
        promise31and32();
        promise33and34();
        promise35();
        promise36();
        promise37();
        bruteForce();
        DUE.end();
    }

    private static void promise18() {
        MockParcels x = new MockParcels();
        x.parcel(1, 1, 1);
        DUE.is("18: nobody", x.would(0, 0), -1);
        DUE.is("18: nothing", x.would(0, 1), 0);
        DUE.is("18: one round", x.would(0, 2), 1);
        x.bidder(30, 0, false);
        x.bidder(40, 1, false);
        x.state(5);
        // 600 and 550 less 10 times the price, 500 at least: 0 bids 1, 1 bids 2, 0 bids 3, 1 bids 4 (520), 0 bids
        // 5 (560), 1 bids 6 (500), 0 bids 7 (540), 1 does not (480).
        DUE.is("18: who", x.would(0, 0), 0);
        DUE.is("18: what is bid", x.would(0, 1), 7);
        DUE.is("18: rounds, the last one too", x.would(0, 2), 5);
        Due.text(x, 0, "bids 500;step 20;");
        // 20, 40; then 0 can't, and 1 has bid last.
        DUE.is("18: PURSE at most", x.would(0, 1), 40);
        DUE.is("18: who", x.would(0, 0), 1);
        DUE.is("18: rounds", x.would(0, 2), 2);
        Due.text(x, 0, "bids 499;");
        DUE.is("18: 500 at least", x.would(0, 0), -1);
        Due.text(x, 0, "bids 1000;step 1;");
        x.set(2, 0, 9999);
        x.set(2, 1, 9999);
        DUE.is("18: thirty rounds at most", x.would(0, 2), 30);
        DUE.is("18: two bids each", x.would(0, 1), 60);
        Due.text(x, 1, "bidder 1 follows 0;");
        DUE.is("18: by FOLLOWS", x.would(0, 1), 1);
        DUE.is("18: no DRAW", x.look(9), 5);
        DUE.is("18: no line", x.look(8), 0);
        DUE.is("18: not SOLD", x.look(7), 1);
        DUE.is("18: nothing to undo", x.look(14), 0);
        x.sell(0);
        DUE.is("18: SOLD or not", x.would(0, 1), 1);
        int[] none = {-1, 3, 10, Integer.MAX_VALUE};
        for (int what : none) {
            DUE.is("18: another what", x.would(0, what), -2);
        }
        DUE.is("18: none such", x.would(1, 0), -2);
        DUE.is("18: none such", x.would(-1, 0), -2);
    }

    private static void promise19() {
        MockParcels x = new MockParcels();
        x.bidder(100, 0, false);
        x.bidder(0, 0, true);
        x.parcel(0, 5, 0);
        x.parcel(1, 4, 0);
        x.parcel(2, 9, 0);
        x.set(0, 0, 40);
        Due.text(x, 0, "bids 500 when weight<2 and shill=0 and round<1;bids 0;step 10;");
        DUE.is("19: a week", Due.text(x, 2, "on 1 sell 0;on 1 wet 3;on 2 sell 1;on 2 sell 2;on 3 police;on 3 sell 0;"
            + "on 4 pay 0 5;"), 7);
        DUE.is("19: till 1 day on", x.goes(1, 0), 0);
        DUE.is("19: till 2 days on", x.goes(2, 0), 10);
        // Full (500): 4 more, then 3 less for the wet.
        DUE.is("19: crowd 2 days on", x.goes(2, 1), 41);
        // Nothing in it (400): 38; nobody bids: 35; wet: 32.
        DUE.is("19: crowd 3 days on", x.goes(3, 1), 32);
        DUE.is("19: sold 3 days on", x.goes(3, 3), 2);
        DUE.is("19: box 3 days on", x.goes(3, 2), 0);
        DUE.is("19: box 4 days on", x.goes(4, 2), 1);
        DUE.is("19: 60 days", x.goes(60, 0), 20);
        DUE.is("19: the crowd goes", x.goes(60, 1), 0);
        DUE.is("19: nothing of it stays", x.look(2) + x.look(5) + x.look(6) + x.look(8) + x.look(9) + x.look(14), 0);
        DUE.is("19: the crowd as it is", x.look(3), 40);
        DUE.is("19: none SOLD", x.look(7), 7);
        DUE.is("19: no day", x.goes(0, 0), -1);
        DUE.is("19: 61", x.goes(61, 0), -1);
        DUE.is("19: -1", x.goes(-1, 0), -1);
        DUE.is("19: another what", x.goes(1, 4), -1);
        DUE.is("19: another what", x.goes(1, -1), -1);
    }

    private static void promise20and21() {
        MockParcels x = new MockParcels();
        DUE.is("20: KIND 0", x.weighs(0, 1), false);
        DUE.is("20: KIND 8", x.weighs(8, 1), false);
        DUE.is("20: KIND -1", x.weighs(-1, 1), false);
        DUE.is("20: -1", x.weighs(1, -1), false);
        DUE.is("20: 100", x.weighs(1, 100), false);
        DUE.is("21: none such", x.inside(0, 0), -1);
        x.parcel(0, 0, 0);
        x.parcel(99, 0, 0);
        x.parcel(7, 0, 0);
        DUE.is("21: nothing weighs 0", x.inside(0, 0), 1);
        DUE.is("21: nothing", x.inside(0, 1), 0);
        DUE.is("21: no way", x.inside(1, 0), 0);
        DUE.is("21: none", x.inside(1, 1), -1);
        DUE.is("20: 99", x.weighs(7, 99), true);
        DUE.is("21: one", x.inside(1, 0), 1);
        DUE.is("21: one", x.inside(1, 1), 1);
        DUE.is("20: 0", x.weighs(7, 0), true);
        DUE.is("21: none of it", x.inside(1, 0), 0);
        x.weighs(1, 2);
        x.weighs(2, 3);
        DUE.is("21: 2 2 3", x.inside(2, 0), 1);
        DUE.is("21: 2 2 3", x.inside(2, 1), 3);
        x.weighs(3, 3);
        DUE.is("21: KINDS that weigh alike", x.inside(2, 0), 2);
        for (int k = 1; k <= 7; k++) {
            x.weighs(k, 1);
        }
        // Rows of seven that are 99 together: 105 over 6 is 1609344100.
        DUE.is("21: modulo", x.inside(1, 0), 1609344100 - 1000000007);
        DUE.is("21: fewest", x.inside(1, 1), 99);
        DUE.is("21: another what", x.inside(0, 2), -1);
        DUE.is("21: another what", x.inside(0, -1), -1);
        DUE.is("21: none such", x.inside(-1, 0), -1);
        DUE.is("21: none such", x.inside(3, 0), -1);
    }

    private static void promise22and23() {
        MockParcels x = new MockParcels();
        DUE.is("22: 0", x.length(0), -1);
        DUE.is("22: 61", x.length(61), -1);
        DUE.is("22: -2", x.length(-2), -1);
        int[] lengths = {60, 1, 30, 31, 29, 30, 20, 20, 20};
        for (int i = 0; i < 9; i++) {
            DUE.is("22: how many", x.length(lengths[i]), i + 1);
        }
        DUE.is("22: the tenth", x.length(1), -1);
        // 241 in all: 61 + 61 (31 30) + 59 (30 29) + 60 of 61.
        DUE.is("23: four", x.strings(61, 0), 4);
        DUE.is("23: left over", x.strings(61, 1), 3);
        DUE.is("23: five of 60", x.strings(60, 0), 5);
        DUE.is("23: left over", x.strings(60, 1), 59);
        DUE.is("23: one is longer", x.strings(59, 0), -1);
        DUE.is("23: one is longer", x.strings(59, 1), -1);
        DUE.is("23: 99", x.strings(99, 0), 3);
        DUE.is("23: 100", x.strings(100, 0), -1);
        DUE.is("23: 0", x.strings(0, 0), -1);
        DUE.is("23: another what", x.strings(61, 2), -1);
        DUE.is("23: another what", x.strings(61, -1), -1);
        DUE.is("22: none is then", x.length(-1), 0);
        DUE.is("23: none", x.strings(1, 0), 0);
        DUE.is("23: nothing", x.strings(1, 1), 0);
        DUE.is("22: again", x.length(60), 1);
    }

    private static void promise24and25() {
        MockParcels x = new MockParcels();
        DUE.is("24: 0", x.coin(0), -1);
        DUE.is("24: 51", x.coin(51), -1);
        DUE.is("24: -2", x.coin(-2), -1);
        DUE.is("25: nothing", x.pays(0, 0), 0);
        DUE.is("25: nothing", x.pays(0, 1), 1);
        DUE.is("25: it can't be", x.pays(1, 0), -1);
        DUE.is("25: no way", x.pays(1, 1), 0);
        int[] coins = {50, 4, 6, 9, 30, 20};
        for (int i = 0; i < 6; i++) {
            DUE.is("24: how many", x.coin(coins[i]), i + 1);
            DUE.is("24: told already", x.coin(coins[i]), -1);
        }
        DUE.is("24: the seventh", x.coin(1), -1);
        DUE.is("25: 6 6", x.pays(12, 0), 2);
        DUE.is("25: 4 4 4, 6 6", x.pays(12, 1), 2);
        DUE.is("25: it can't be", x.pays(11, 0), -1);
        DUE.is("25: no way", x.pays(11, 1), 0);
        DUE.is("25: 999", x.pays(999, 0), 22);
        DUE.is("25: 1000", x.pays(1000, 0), -1);
        DUE.is("25: -1", x.pays(-1, 0), -1);
        DUE.is("25: another what", x.pays(12, 2), -1);
        DUE.is("25: another what", x.pays(12, -1), -1);
        DUE.is("24: none is then", x.coin(-1), 0);
        DUE.is("25: it can't be", x.pays(50, 0), -1);
        DUE.is("24: told no more", x.coin(20), 1);
        DUE.is("25: 20 20", x.pays(40, 1), 1);
        DUE.is("25: no 4", x.pays(4, 1), 0);
        x.coin(-1);
        for (int i = 1; i <= 6; i++) {
            x.coin(i);
        }
        List<Integer> six = List.of(1, 2, 3, 4, 5, 6);
        DUE.is("25: modulo", x.pays(999, 1), Brute.ways(six, 999));
        DUE.is("25: fewest", x.pays(999, 0), 167);
    }

    private static void promise26and27() {
        MockParcels x = new MockParcels();
        DUE.is("27: eight goes at first", x.swaps(-1), 8);
        int[] wrong = {1234566, 1234568, 12345670 + 100000000, -1234567, 0, 123456, 87654321, 76543211,
            Integer.MAX_VALUE, Integer.MIN_VALUE, 91234567};
        for (int order : wrong) {
            DUE.is("26: rank(0, " + order + ")", x.rank(0, order), false);
        }
        DUE.is("26: bidder 8", x.rank(8, 1234567), false);
        DUE.is("26: bidder -1", x.rank(-1, 1234567), false);
        DUE.is("26: leading 0", x.rank(7, 1234567), true);
        DUE.is("26: the last one", x.rank(7, 76543210), true);
        // 7 keeps its own while 0 keeps 0: seven goes.
        DUE.is("27: two go round at once", x.swaps(-1), 7);
        DUE.is("27: its own", x.swaps(7), 7);
        int[] ring = {12345670, 23456701, 34567012, 45670123, 56701234, 67012345, 70123456, 1234567};
        for (int b = 0; b < 8; b++) {
            DUE.is("26: told", x.rank(b, ring[b]), true);
        }
        for (int b = 0; b < 8; b++) {
            DUE.is("27: one ring", x.swaps(b), (b + 1) % 8);
        }
        DUE.is("27: in one go", x.swaps(-1), 1);
        // 0 and 1 swap; 2 wants THING 0, which is out, then THING 3, whose holder wants THING 2.
        x.rank(0, 10234567);
        x.rank(1, 1234567);
        x.rank(2, 3124567);
        x.rank(3, 12034567);
        DUE.is("27: 0 has 1", x.swaps(0), 1);
        DUE.is("27: 1 has 0", x.swaps(1), 0);
        DUE.is("27: 2 has 3", x.swaps(2), 3);
        DUE.is("27: 3 has 2", x.swaps(3), 2);
        DUE.is("27: none such", x.swaps(8), -1);
        DUE.is("27: none such", x.swaps(-2), -1);
    }

    private static void promise28() {
        MockParcels x = new MockParcels();
        DUE.is("28: nobody", x.wishes(0), 0);
        DUE.is("28: none such", x.wishes(10), -1);
        for (int i = 0; i < 8; i++) {
            x.bidder(0, 0, false);
        }
        DUE.is("28: nothing is wanted", x.wishes(0), 0);
        DUE.is("28: none", x.wishes(17), 0);
        DUE.is("28: none such", x.wishes(18), -1);
        DUE.is("28: another what", x.wishes(1), -1);
        DUE.is("28: another what", x.wishes(9), -1);
        DUE.is("28: another what", x.wishes(-1), -1);
        Due.text(x, 3, "bidder 0 wants 1 for 10;bidder 1 wants 1 for 9;bidder 0 wants 2 for 2;bidder 2 wants 3 for 0;");
        DUE.is("28: 9 and 2", x.wishes(0), 11);
        DUE.is("28: BIDDER 0", x.wishes(10), 2);
        DUE.is("28: BIDDER 1", x.wishes(11), 1);
        DUE.is("28: nothing for nothing", x.wishes(12), 0);
        Due.text(x, 3, "bidder 7 wants 7 for 99;bidder 0 wants 7 for 98;bidder 0 wants 6 for 1;");
        DUE.is("28: 99 and 1", x.wishes(0), 100);
        DUE.is("28: BIDDER 7", x.wishes(17), 7);
        DUE.is("28: BIDDER 0", x.wishes(10), 6);
        Due.text(x, 3, "bidder 0 wants 5 for 10;bidder 1 wants 5 for 10;bidder 0 wants 6 for 10;bidder 1 wants 6 for 10;"
            + "bidder 2 wants 6 for 10;");
        DUE.is("28: 20", x.wishes(0), 20);
        // 0 none, 1 KIND 5, 2 KIND 6 is the first way.
        DUE.is("28: the first way", x.wishes(10), 0);
        DUE.is("28: the first way", x.wishes(11), 5);
        DUE.is("28: the first way", x.wishes(12), 6);
    }

    private static void promise29and30() {
        MockParcels x = new MockParcels();
        DUE.is("30: none", x.puts(0), 0);
        DUE.is("30: none", x.puts(1), 0);
        DUE.is("29: price 100", x.put(100, 0), -1);
        DUE.is("29: price -2", x.put(-2, 0), -1);
        DUE.is("29: day 10", x.put(0, 10), -1);
        DUE.is("29: day -1", x.put(0, -1), -1);
        int[][] puts = {{99, 0}, {98, 0}, {50, 1}, {60, 1}, {70, 2}, {0, 9}, {0, 1}};
        for (int i = 0; i < 7; i++) {
            DUE.is("29: how many", x.put(puts[i][0], puts[i][1]), i + 1);
        }
        DUE.is("29: the eighth", x.put(1, 1), -1);
        DUE.is("30: 99 60 70", x.puts(0), 229);
        DUE.is("30: and one for nothing", x.puts(1), 4);
        DUE.is("30: another what", x.puts(2), -1);
        DUE.is("30: another what", x.puts(-1), -1);
        DUE.is("29: none is then", x.put(-1, 77), 0);
        DUE.is("30: none", x.puts(0), 0);
        x.days(3);
        x.put(5, 0);
        DUE.is("30: from DAY 0", x.puts(0), 5);
    }

    private static void promise31and32() {
        MockParcels x = new MockParcels();
        DUE.is("32: no PARCELS", x.which(0), 0);
        DUE.is("32: none to be told apart", x.which(1), 0);
        DUE.is("31: 65536", x.clue(65536, true), -1);
        DUE.is("31: -2", x.clue(-2, true), -1);
        for (int i = 0; i < 16; i++) {
            x.parcel(i, 0, 0);
        }
        DUE.is("32: all", x.which(0), 65535);
        int[] sets = {65535, 0, 0xAAAA, 0xCCCC, 0xF0F0, 0xFF00, 0x0F0F, 0x5555};
        boolean[] is = {true, false, true, false, true, true, false, false};
        int[] which = {65535, 65535, 0xAAAA, 0x2222, 0x2020, 0x2000, 0x2000, 0x2000};
        int[] parts = {0, 0, 1, 2, 3, 4, 4, 4};
        for (int i = 0; i < 8; i++) {
            DUE.is("31: how many", x.clue(sets[i], is[i]), i + 1);
            DUE.is("32: WHICH after " + i, x.which(0), which[i]);
            DUE.is("32: PARTS after " + i, x.which(1), parts[i]);
        }
        DUE.is("31: the ninth", x.clue(1, true), -1);
        DUE.is("32: another what", x.which(2), -1);
        DUE.is("32: another what", x.which(-1), -1);
        DUE.is("31: none is then", x.clue(-1, false), 0);
        DUE.is("32: all again", x.which(0), 65535);
        DUE.is("32: none to be told apart", x.which(1), 0);
        x.clue(3, true);
        DUE.is("32: two", x.which(0), 3);
        DUE.is("32: by one", x.which(1), 1);
        x.clue(3, true);
        x.clue(1, false);
        DUE.is("32: one", x.which(0), 2);
        DUE.is("32: by two", x.which(1), 2);
        MockParcels y = new MockParcels();
        y.parcel(0, 0, 0);
        y.clue(65534, false);
        DUE.is("32: sets of those there are not", y.which(0), 1);
        DUE.is("32: one is apart", y.which(1), 0);
        y.clue(65534, true);
        DUE.is("32: none", y.which(0), 0);
    }

    private static void promise33and34() {
        MockParcels x = new MockParcels();
        DUE.is("33: 1000", x.police(1000), -1);
        DUE.is("33: -2", x.police(-2), -1);
        DUE.is("34: none", x.every(-1), 0);
        DUE.is("34: no NEXT", x.every(0), -1);
        DUE.is("33: told", x.police(500), 1);
        DUE.is("33: alike", x.police(500), 2);
        DUE.is("34: fewer than two unlike", x.every(-1), 0);
        DUE.is("34: no NEXT", x.every(3), -1);
        DUE.is("33: 0", x.police(0), 3);
        DUE.is("34: 500", x.every(-1), 500);
        DUE.is("33: 800", x.police(800), 4);
        DUE.is("34: 100", x.every(-1), 100);
        DUE.is("34: above d", x.every(0), 100);
        DUE.is("34: above d", x.every(99), 100);
        DUE.is("34: far behind", x.every(9999), 10000);
        DUE.is("33: 850", x.police(850), 5);
        DUE.is("34: 50", x.every(-1), 50);
        DUE.is("34: below the first one", x.every(10), 50);
        DUE.is("34: 10000", x.every(10000), -1);
        DUE.is("34: -2", x.every(-2), -1);
        for (int i = 6; i <= 20; i++) {
            DUE.is("33: how many", x.police(999), i);
        }
        DUE.is("33: the 21st", x.police(1), -1);
        DUE.is("34: 1", x.every(-1), 1);
        DUE.is("33: none is then", x.police(-1), 0);
        DUE.is("34: none", x.every(-1), 0);
        x.police(10);
        x.police(3);
        DUE.is("34: 7", x.every(-1), 7);
        DUE.is("34: 3", x.every(0), 3);
        DUE.is("34: 10", x.every(3), 10);
    }

    private static void promise35() {
        MockParcels x = new MockParcels();
        DUE.is("35: p -1", x.shill(-1, 0, 0), -1);
        DUE.is("35: p 1001", x.shill(1001, 0, 0), -1);
        DUE.is("35: n -1", x.shill(1, -1, 0), -1);
        DUE.is("35: n 21", x.shill(1, 21, 30), -1);
        DUE.is("35: m below n", x.shill(1, 5, 4), -1);
        DUE.is("35: m 41", x.shill(1, 5, 41), -1);
        DUE.is("35: 0 stays", x.shill(0, 20, 40), 0);
        DUE.is("35: 1000 stays", x.shill(1000, 20, 40), 1000000);
        DUE.is("35: at once", x.shill(123, 0, 0), 123000);
        DUE.is("35: once of once", x.shill(500, 1, 1), 666666);
        DUE.is("35: none of once", x.shill(500, 0, 1), 363636);
        // 666666 4 by (666666 4 + 333334 7).
        DUE.is("35: once of twice", x.shill(500, 1, 2), (int) (2666664000000L / (2666664 + 2333338)));
        DUE.is("35: twenty of forty", x.shill(500, 20, 40), new Model().shill(500, 20, 40));
        DUE.is("35: none of forty", x.shill(999, 0, 40), new Model().shill(999, 0, 40));
    }

    private static void promise36() {
        MockParcels x = new MockParcels();
        DUE.is("36: none", x.halves(0), -1);
        x.bidder(9999, 0, false);
        DUE.is("36: one", x.halves(1), -1);
        x.bidder(0, 0, true);
        DUE.is("36: none may be empty", x.halves(0), 9999);
        DUE.is("36: BIDDER 0 alone", x.halves(1), 1);
        x.set(2, 0, 10);
        x.set(2, 1, 10);
        x.bidder(20, 0, false);
        x.bidder(20, 0, false);
        // 10 20 and 10 20, in two ways: 0 and 2, 0 and 3; not 0 and 1.
        DUE.is("36: alike", x.halves(0), 0);
        DUE.is("36: the least", x.halves(1), 5);
        x.bidder(61, 0, false);
        DUE.is("36: all others against one", x.halves(0), 1);
        DUE.is("36: the side", x.halves(1), 15);
        x.set(2, 0, 9999);
        DUE.is("36: one against all", x.halves(1), 1);
        DUE.is("36: far apart", x.halves(0), 9999 - 111);
        DUE.is("36: another what", x.halves(2), -1);
        DUE.is("36: another what", x.halves(-1), -1);
    }

    private static void promise37() {
        MockParcels x = new MockParcels();
        DUE.is("37: no PARCELS", x.game(0), -1);
        x.parcel(0, 0, 0);
        DUE.is("37: no knots", x.game(0), -1);
        DUE.is("37: no knots", x.game(1), -1);
        x.parcel(0, 0, 3);
        DUE.is("37: all of one", x.game(0), 1);
        DUE.is("37: all of one", x.game(1), 3);
        x.parcel(0, 0, 3);
        DUE.is("37: who begins loses", x.game(0), -1);
        x.set(4, 2, 4);
        // 3 and 4: one of 4 leaves 3 and 3; but two of 3 leave 1 and 4, which is lost too.
        DUE.is("37: the least PARCEL", x.game(0), 1);
        DUE.is("37: how many", x.game(1), 2);
        x.set(4, 1, 9);
        x.set(4, 2, 0);
        DUE.is("37: 9", x.game(1), 9);
        x.set(4, 1, 1);
        DUE.is("37: 1", x.game(1), 1);
        x.set(4, 1, 2);
        DUE.is("37: 2", x.game(1), 2);
        x.set(4, 2, 5);
        DUE.is("37: 2 and 5", x.game(0), -1);
        x.bidder(5, 0, false);
        Due.text(x, 0, "bids 1000;");
        x.sell(1);
        DUE.is("37: not SOLD alone", x.game(0), 2);
        DUE.is("37: all of it", x.game(1), 5);
        DUE.is("37: another what", x.game(2), -1);
        DUE.is("37: another what", x.game(-1), -1);
    }

    private static void bruteForce() {
        Random random = new Random(37);
        for (int i = 0; i < 300; i++) {
            MockParcels x = new MockParcels();
            Model y = new Model();
            List<Integer> lengths = new ArrayList<>();
            int c = 20 + random.nextInt(80);
            for (int j = random.nextInt(10); j > 0; j--) {
                int v = 1 + random.nextInt(Math.min(60, c));
                lengths.add(v);
                x.length(v);
            }
            DUE.is("23: " + lengths + " of " + c, x.strings(c, 0), Brute.strings(lengths, c));
            List<Integer> coins = new ArrayList<>();
            for (int j = random.nextInt(7); j > 0; j--) {
                int v = 1 + random.nextInt(50);
                if (x.coin(v) != -1) {
                    coins.add(v);
                }
            }
            int n = random.nextInt(400);
            DUE.is("25: fewest of " + coins + " for " + n, x.pays(n, 0), Brute.fewest(coins, n));
            DUE.is("25: ways of " + coins + " for " + n, x.pays(n, 1), Brute.ways(coins, n));
            for (int j = random.nextInt(6); j > 0; j--) {
                int knots = random.nextInt(10);
                x.parcel(0, 0, knots);
                y.parcel(0, 0, knots);
            }
            DUE.is("37: the PARCEL", x.game(0), y.game(0));
            DUE.is("37: how many", x.game(1), y.game(1));
        }
    }
}
