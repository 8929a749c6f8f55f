/** Promises 11 to 14: the TAPE, the texts, and their faults. */
public final class TextsTest {
    private static final Due DUE = new Due("TextsTest");

    private TextsTest() {
    }

    public static void main(String[] args) {
        promise11();
        promise12();
        promise13();
        promise13Tokens();
        promise14();
        promise14Law();
        promise14Open();
        promise14Follows();
        promise14Week();
        promise14Wants();
        promise14Lines();
        DUE.end();
    }

    /** Three BIDDERS, two PARCELS. */
    private static MockParcels quay() {
        MockParcels x = new MockParcels();
        for (int i = 0; i < 3; i++) {
            x.bidder(100, 0, false);
        }
        x.parcel(1, 1, 1);
        x.parcel(2, 2, 2);
        return x;
    }

    private static void good(MockParcels x, int k, String text, int lines) {
        DUE.is("13: " + text, Due.text(x, k, text), lines);
        DUE.is("14: fault of " + text, x.fault(0), 0);
        DUE.is("14: place of " + text, x.fault(1), -1);
        DUE.is("13: lines of " + text, x.look(10 + k), lines);
    }

    private static void bad(MockParcels x, int k, String text, int fault, int place) {
        int lines = x.look(10 + k);
        DUE.is("13: " + text, Due.text(x, k, text), -1);
        DUE.is("14: fault of " + text, x.fault(0), fault);
        DUE.is("14: place of " + text, x.fault(1), place);
        DUE.is("13: it stays as it was", x.look(10 + k), lines);
        DUE.is("13: the TAPE is empty then", x.end(1), false);
    }

    private static void promise11() {
        MockParcels x = new MockParcels();
        for (int i = 1; i <= 20; i++) {
            DUE.is("11: how many", x.feed(0x20202020, 0x20202020, 0x20202020, 0x20202020, 0x20202020), 20 * i);
        }
        DUE.is("11: more than 400", x.feed(1, 2, 3, 4, 5), -1);
        DUE.is("11: nothing came", x.text(0), 0);
        x.feed(0x20202020, 0x20202020, 0x20202020, 0x20202020, 0x20202020);
        for (int i = 0; i < 19; i++) {
            x.feed(0x20202020, 0x20202020, 0x20202020, 0x20202020, 0x20202020);
        }
        x.end(381);
        DUE.is("11: 401 would be", x.feed(1, 2, 3, 4, 5), -1);
        x.end(380);
        DUE.is("11: 400 may be", x.feed(0x62696473, 0x20373b20, 0x20202020, 0x20202020, 0x20202020), 400);
        DUE.is("11: the highest first", x.text(0), 1);
        x.feed(0x66756c6c, 0x2031323b, 0x73746570, 0x2033343b, 0x0a0a0a0a);
        DUE.is("11: in their order", x.text(0), 2);
        x.parcel(0, 0, 0);
        x.bidder(0, 0, false);
        DUE.is("11: full 12", x.of(0, 30), 12);
        DUE.is("11: step 34", x.of(0, 20), 34);
    }

    private static void promise12() {
        MockParcels x = new MockParcels();
        DUE.is("12: 0 of none", x.end(0), true);
        DUE.is("12: 1 of none", x.end(1), false);
        DUE.is("12: below 0", x.end(-1), false);
        Due.feed(x, "bids 1;bids 2;");
        DUE.is("12: not so many", x.end(15), false);
        DUE.is("12: far", x.end(Integer.MAX_VALUE), false);
        DUE.is("12: far below", x.end(Integer.MIN_VALUE), false);
        DUE.is("12: all", x.end(14), true);
        DUE.is("12: the first seven", x.end(7), true);
        DUE.is("12: no longer there", x.end(8), false);
        DUE.is("12: behind them", x.feed(0x62696473, 0x20333b20, 0x20202020, 0x20202020, 0x20202020), 27);
        DUE.is("12: two lines", x.text(0), 2);
    }

    private static void promise13() {
        MockParcels x = quay();
        good(x, 0, "bids 5;", 1);
        good(x, 1, "bidder 0 follows 1;", 1);
        good(x, 2, "on 0 police;", 1);
        good(x, 3, "bidder 0 wants 1 for 1;", 1);
        for (int k = 0; k < 4; k++) {
            good(x, k, "", 0);
            good(x, k, " \n  \n", 0);
        }
        good(x, 0, "bids 5;", 1);
        bad(x, 0, "bids", 1, 4);
        DUE.is("13: the law that was", x.of(0, 10), 5);
        int[] none = {-1, 4, Integer.MAX_VALUE, Integer.MIN_VALUE};
        for (int k : none) {
            bad(x, 0, "#", 1, 0);
            Due.feed(x, "bids 7;");
            DUE.is("13: no such one", x.text(k), -1);
            DUE.is("13: fault() tells 0", x.fault(0), 0);
            DUE.is("13: fault() tells 0", x.fault(1), -1);
            DUE.is("13: the TAPE is empty then", x.end(1), false);
        }
        DUE.is("13: the law that was", x.of(0, 10), 5);
        good(x, 0, "bids 6;", 1);
        DUE.is("13: another law", x.of(0, 10), 6);
    }

    private static void promise13Tokens() {
        MockParcels x = quay();
        good(x, 0, "bids5when(care<1)and not(1>2)or 1=1;", 1);
        good(x, 0, "bids\n5\nwhen\ncare<1\n;\n", 1);
        good(x, 0, "bids 0005;step 9999;full 0;", 3);
        good(x, 2, "on0sell1;on1wet9;on2crowd99;on3police;on4bill1 99;on999pay2 999;", 6);
        good(x, 0, "bids 1+2-3*4/5*6-weight*rattle when 1<2 and 2<3 or 3<4 and not not(4<5 or 5=5);", 1);
        bad(x, 0, "bidsX 5;", 1, 0);
        bad(x, 0, "bidsA 5;", 1, 0);
        bad(x, 0, "bidsZ 5;", 1, 0);
        bad(x, 0, "bidsa 5;", 1, 0);
        bad(x, 0, "bidsz 5;", 1, 0);
        bad(x, 0, "bids@ 5;", 1, 4);
        bad(x, 0, "bids[ 5;", 1, 4);
        bad(x, 0, "bids` 5;", 1, 4);
        bad(x, 0, "bids{ 5;", 1, 4);
        bad(x, 0, "bids 5:", 1, 6);
        bad(x, 0, "bids :;", 1, 5);
        bad(x, 0, "Bids 5;", 1, 0);
        bad(x, 0, "bid s 5;", 1, 0);
        bad(x, 0, "bids 00005;", 1, 5);
        bad(x, 0, "bids 5x;", 1, 6);
        bad(x, 0, "bids\t5;", 1, 4);
        bad(x, 0, "bids 5\r;", 1, 6);
        bad(x, 0, "bids 5 #;", 1, 7);
        bad(x, 0, "bids " + (char) 233 + ";", 1, 5);
        bad(x, 0, "bids 5.", 1, 6);
        bad(x, 0, "" + (char) 0, 1, 0);
        bad(x, 1, "bids 5;", 1, 0);
        bad(x, 0, "bidder 0 follows 1;", 1, 0);
        bad(x, 3, "on 0 police;", 1, 0);
        bad(x, 2, "bidder 0 wants 1 for 1;", 1, 0);
    }

    private static void promise14() {
        MockParcels x = quay();
        DUE.is("14: another what", x.fault(2), -1);
        DUE.is("14: another what", x.fault(-1), -1);
        bad(x, 0, "step 1 when 1/0<1;", 2, 14);
        DUE.is("14: still", x.fault(0), 2);
        x.days(1);
        x.undo();
        DUE.is("14: of the latest text()", x.fault(1), 14);
        DUE.is("14: another what", x.fault(2), -1);
        good(x, 0, "step 1;", 1);
    }

    private static void promise14Law() {
        MockParcels x = quay();
        good(x, 0, "bids 1;", 1);
        bad(x, 0, ";", 1, 0);
        bad(x, 0, "when 1<2;", 1, 0);
        bad(x, 0, "bids;", 1, 4);
        bad(x, 0, "bids ", 1, 5);
        bad(x, 0, "bids 5   ", 1, 9);
        bad(x, 0, "bids 5", 1, 6);
        bad(x, 0, "bids -5;", 1, 5);
        bad(x, 0, "bids (5);", 1, 5);
        bad(x, 0, "bids 5 6;", 1, 7);
        bad(x, 0, "bids 5+;", 1, 7);
        bad(x, 0, "bids 5*;", 1, 7);
        bad(x, 0, "bids 5/;", 1, 7);
        bad(x, 0, "bids 5/care;", 1, 7);
        bad(x, 0, "bids 5/0;", 2, 7);
        bad(x, 0, "bids 5/0000;", 2, 7);
        bad(x, 0, "bids 5/00000;", 1, 7);
        good(x, 0, "bids 5*0;", 1);
        bad(x, 0, "bids 5<6;", 1, 6);
        bad(x, 0, "bids 5 when;", 1, 11);
        bad(x, 0, "bids 5 when 1;", 1, 13);
        bad(x, 0, "bids 5 when 1<;", 1, 14);
        bad(x, 0, "bids 5 when 1<2<3;", 1, 15);
        bad(x, 0, "bids 5 when (1<2;", 1, 16);
        bad(x, 0, "bids 5 when 1<2);", 1, 15);
        bad(x, 0, "bids 5 when (1)<2;", 1, 14);
        bad(x, 0, "bids 5 when 1<(2);", 1, 14);
        bad(x, 0, "bids 5 when not;", 1, 15);
        bad(x, 0, "bids 5 when 1<2 and;", 1, 19);
        bad(x, 0, "bids 5 when 1<2 or or 1<2;", 1, 19);
        bad(x, 0, "bids 5 when 1<2 when 1<2;", 1, 16);
        bad(x, 0, "bids 5 when 1<2", 1, 15);
        bad(x, 0, "bids 5;step", 1, 11);
        bad(x, 0, "bids bids;", 1, 5);
        bad(x, 0, "bids follows;", 1, 5);
        bad(x, 0, "bids 5/0 6;", 2, 7);
        bad(x, 0, "bids 5 6/0;", 1, 7);
    }

    private static void promise14Open() {
        MockParcels x = quay();
        String law = "step 1 when ";
        good(x, 0, law + "((((((((1<2))))))));", 1);
        bad(x, 0, law + "(((((((((1<2)))))))));", 3, 20);
        good(x, 0, law + "not not not not not not not not 1<2;", 1);
        bad(x, 0, law + "not not not not not not not not not 1<2;", 3, 44);
        bad(x, 0, law + "not(not(not(not((1<2)))));", 3, 28);
        good(x, 0, law + "not(not(not(not(1<2))));", 1);
        bad(x, 0, law + "((((((((not 1<2))))))));", 3, 20);
        // A not is open till what it denies is told, a ( till its ).
        good(x, 0, law + "((((((((1<2 and 2<3)))))))) and ((((((((1<2 or 2<3))))))));", 1);
        good(x, 0, law + "not not not not 1<2 and not not not not not not not not 1<2;", 1);
        bad(x, 0, law + "((((((((1<2 or not 1<2))))))));", 3, 27);
        bad(x, 0, law + "(((((((((", 3, 20);
        bad(x, 0, law + "((((((((;", 1, 20);
    }

    private static void promise14Follows() {
        MockParcels x = quay();
        good(x, 1, "bidder 0 follows 1;bidder 0 follows 2;bidder 1 follows 0;", 3);
        DUE.is("13: the last", x.who(0, 4), 2);
        DUE.is("13: each", x.who(1, 4), 0);
        DUE.is("13: none", x.who(2, 4), -1);
        bad(x, 1, "bidder 3 follows 0;", 2, 7);
        bad(x, 1, "bidder 0 follows 3;", 2, 17);
        bad(x, 1, "bidder 2 follows 2;", 2, 17);
        bad(x, 1, "bidder 3 follows 3;", 2, 7);
        bad(x, 1, "bidder 0 wants 1;", 1, 9);
        bad(x, 1, "bidder follows 1;", 1, 7);
        bad(x, 1, "bidder 0 follows;", 1, 16);
        bad(x, 1, "bidder 0 follows 1", 1, 18);
        bad(x, 1, "bidder 0 follows 1,", 1, 18);
        bad(x, 1, "bidder 0 follows 1;follows", 1, 19);
        bad(new MockParcels(), 1, "bidder 0 follows 1;", 2, 7);
        DUE.is("13: as it was", x.who(0, 4), 2);
        good(x, 1, "bidder 2 follows 1;", 1);
        DUE.is("13: not any more", x.who(0, 4), -1);
    }

    private static void promise14Week() {
        MockParcels x = quay();
        good(x, 2, "on 999 sell 1;", 1);
        bad(x, 2, "on 1000 sell 1;", 2, 3);
        bad(x, 2, "on 0 sell 2;", 2, 10);
        bad(x, 2, "on 0 wet 10;", 2, 9);
        bad(x, 2, "on 0 crowd 100;", 2, 11);
        bad(x, 2, "on 0 bill 2 0;", 2, 10);
        bad(x, 2, "on 0 bill 1 100;", 2, 12);
        bad(x, 2, "on 0 pay 3 1;", 2, 9);
        bad(x, 2, "on 0 pay 0 0;", 2, 11);
        bad(x, 2, "on 0 pay 0 1000;", 2, 11);
        good(x, 2, "on 0 pay 0 1;on 0 wet 0;on 0 crowd 0;on 0 bill 0 0;", 4);
        bad(x, 2, "on 0 police 1;", 1, 12);
        bad(x, 2, "on 0;", 1, 4);
        bad(x, 2, "on sell 1;", 1, 3);
        bad(x, 2, "on 0 sell;", 1, 9);
        bad(x, 2, "on 0 bill 1;", 1, 11);
        bad(x, 2, "on 0 day 1;", 1, 5);
        bad(x, 2, "on 0 police", 1, 11);
        bad(x, 2, "sell 0;", 1, 0);
        bad(new MockParcels(), 2, "on 0 sell 0;", 2, 10);
        bad(new MockParcels(), 2, "on 0 pay 0 1;", 2, 9);
    }

    private static void promise14Wants() {
        MockParcels x = quay();
        good(x, 3, "bidder 0 wants 1 for 0;bidder 2 wants 7 for 99;bidder 2 wants 7 for 98;", 3);
        DUE.is("13: the last", x.who(2, 27), 98);
        bad(x, 3, "bidder 3 wants 1 for 1;", 2, 7);
        bad(x, 3, "bidder 0 wants 0 for 1;", 2, 15);
        bad(x, 3, "bidder 0 wants 8 for 1;", 2, 15);
        bad(x, 3, "bidder 0 wants 1 for 100;", 2, 21);
        bad(x, 3, "bidder 0 wants for 1;", 1, 15);
        bad(x, 3, "bidder 0 wants 1 1;", 1, 17);
        bad(x, 3, "bidder 0 wants 1 for;", 1, 20);
        bad(x, 3, "bidder 0 wants 1 for 1", 1, 22);
        bad(x, 3, "bidder 0 follows 1;", 1, 9);
        DUE.is("13: as it was", x.who(2, 27), 98);
        good(x, 3, "bidder 0 wants 2 for 3;", 1);
        DUE.is("13: not any more", x.who(2, 27), 0);
    }

    private static void promise14Lines() {
        MockParcels x = quay();
        String[] lines = {"step 1;", "bidder 0 follows 1;", "on 0 police;", "bidder 0 wants 1 for 2;"};
        for (int k = 0; k < 4; k++) {
            String line = lines[k];
            good(x, k, line.repeat(16), 16);
            good(x, k, line.repeat(16) + "\n ", 16);
            bad(x, k, line.repeat(17), 3, 16 * line.length());
            bad(x, k, line.repeat(16) + " " + line, 3, 16 * line.length() + 1);
            bad(x, k, line.repeat(16) + ";", 1, 16 * line.length());
            bad(x, k, line.repeat(16) + "wants", 1, 16 * line.length());
            // The fault of a line before is the first by its place.
            bad(x, k, line.repeat(15) + "5" + line.repeat(1), 1, 15 * line.length());
        }
        bad(x, 0, "step 1;".repeat(16) + "full", 3, 112);
    }
}
