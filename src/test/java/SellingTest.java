/** Promises 6 to 10 and 17: sales, acts by hand, days, and the book of them. */
public final class SellingTest {
    private static final Due DUE = new Due("SellingTest");

    private SellingTest() {
    }

    public static void main(String[] args) {
        promise6Draws();
        promise6Edges();
        promise6Nobody();
        promise6Rounds();
        promise6Purse();
        promise6Opened();
        promise6Follows();
        promise7();
        promise8();
        promise9();
        promise10();
        promise10Lines();
        promise10Shorter();
        promise10Police();
        promise10LastKind();
        promise17();
        promise17Full();
        DUE.end();
    }

    private static void line(MockParcels x, int i, int... due) {
        for (int what = 0; what < 4; what++) {
            DUE.is("17: book(" + i + ", " + what + ")", x.book(i, what), due[what]);
        }
    }

    /** The first draws of 1000 from STATE 0 are 563, 577, 494, 947; the third of 7 is 3, the fourth 5. */
    private static void promise6Draws() {
        MockParcels x = new MockParcels();
        x.bidder(50, 1, false);
        x.bidder(50, 0, false);
        x.parcel(1, 5, 0);
        // BIDDER 0: 563 is not below 550. BIDDER 1: 577 is below 600: 1. Then BIDDER 0: 494 below 540: 2. Then
        // BIDDER 1: 947 not below 580. Next round: BIDDER 1 again.
        MockParcels y = new MockParcels();
        y.bidder(50, 1, false);
        y.bidder(50, 0, false);
        y.parcel(1, 5, 0);
        Due.text(y, 0, "bids 550-10*price when care=1 and round<2;bids 600-10*price when care=0 and round<2;bids 0;"
            + "step 1;full 500;");
        int bid = x.sell(0);
        DUE.is("6: the law that is not told", y.sell(0) > 0, bid > 0);
        line(x, 0, 0, 0, 1, 1);
        line(x, 1, 0, 0, 0, 2);
        line(y, 0, 0, 0, 1, 1);
        line(y, 1, 0, 0, 0, 2);
        DUE.is("6: sold to who bid last", x.of(0, 3), x.book(x.look(8) - 1, 2));
        DUE.is("6: he pays it", x.who(x.of(0, 3), 0), 50 - bid);
        DUE.is("6: to the TILL", x.look(2), bid);
        DUE.is("6: SOLD already", x.sell(0), -1);
        DUE.is("6: none such", x.sell(1), -1);
        DUE.is("6: none such", x.sell(-1), -1);
        DUE.is("6: none such", x.sell(Integer.MAX_VALUE), -1);
    }

    /** The first draw of 1000 from STATE 0 is 563. */
    private static void promise6Edges() {
        MockParcels x = new MockParcels();
        x.bidder(50, 0, false);
        x.parcel(1, 0, 0);
        Due.text(x, 0, "bids 563 when round<1;bids 0;");
        DUE.is("6: 563 is not below 563", x.sell(0), 0);
        Due.text(x, 0, "bids 564 when round<1;bids 0;");
        x.state(0);
        DUE.is("6: 563 is below 564", x.sell(0), 1);
    }

    private static void promise6Nobody() {
        MockParcels x = new MockParcels();
        x.parcel(1, 5, 0);
        x.set(0, 0, 99);
        DUE.is("6: nobody is there", x.sell(0), 0);
        DUE.is("6: no draws", x.look(9), 0);
        DUE.is("6: a tenth less", x.look(3), 90);
        x.bidder(0, 0, false);
        x.set(0, 0, 9);
        DUE.is("6: his purse is empty", x.sell(0), 0);
        DUE.is("6: one draw in one round", x.look(9), 1013904223);
        DUE.is("6: a tenth of 9 is 0", x.look(3), 9);
        DUE.is("6: not SOLD", x.of(0, 3), -1);
        DUE.is("6: not opened", x.of(0, 4), -1);
        DUE.is("6: no line", x.look(8), 0);
        DUE.is("6: not SOLD, so again", x.sell(0), 0);
        DUE.is("6: it can be undone", x.look(14), 2);
        DUE.is("6: back", x.undo(), true);
        DUE.is("6: the STATE too", x.look(9), 1013904223);
    }

    /** Two who always bid go on for thirty rounds. */
    private static void promise6Rounds() {
        MockParcels x = new MockParcels();
        x.bidder(9999, 0, false);
        x.bidder(9999, 0, false);
        x.parcel(1, 5, 0);
        Due.text(x, 0, "bids 1000;step 2 when round<29;step 3;full round*30+price when price>0;");
        x.set(0, 0, 50);
        // 29 rounds of two bids of 2, a last one of two bids of 3.
        DUE.is("6: thirty rounds", x.sell(0), 29 * 4 + 6);
        DUE.is("6: his who bid last", x.of(0, 3), 1);
        DUE.is("6: sixty bids, sold, opened", x.look(8), 62);
        DUE.is("6: the crowd is held", x.look(3), 99);
        line(x, 59, 0, 0, 1, 122);
        line(x, 60, 0, 1, 1, 122);
        DUE.is("6: price and rounds for full", x.of(0, 4) > 0, true);
        MockParcels y = new MockParcels();
        y.bidder(9999, 0, false);
        y.parcel(1, 9, 0);
        // full is 0 unless it is asked with what was bid and two rounds.
        Due.text(y, 0, "bids 1000;step 7;full 1000 when price=7 and round=2 and purse=9992 and has=0;full 0;");
        y.set(0, 0, 10);
        DUE.is("6: one bid", y.sell(0), 7);
        DUE.is("6: full is asked then", y.of(0, 4) > 0, true);
        DUE.is("6: 2 more for each of two rounds", y.look(3), 14);
    }

    private static void promise6Purse() {
        MockParcels x = new MockParcels();
        x.bidder(19, 0, false);
        x.bidder(20, 0, false);
        x.bidder(0, 9, true);
        x.parcel(1, 0, 0);
        x.parcel(1, 0, 0);
        Due.text(x, 0, "bids 1000 when shill=0;bids 0;step 20;full 0;");
        DUE.is("6: PURSE at most", x.sell(0), 20);
        DUE.is("6: the one who can", x.of(0, 3), 1);
        DUE.is("6: PURSE less", x.who(1, 0), 0);
        Due.text(x, 0, "bids 1000 when shill=1;bids 0;step 99;full 0;");
        DUE.is("6: a SHILL bids beyond it", x.sell(1), 99);
        DUE.is("6: SOLD to him", x.of(1, 3), 2);
        DUE.is("6: he pays nothing", x.who(2, 0), 0);
        DUE.is("6: nothing to the TILL", x.look(2), 20);
        line(x, 3, 0, 0, 2, 99);
        line(x, 4, 0, 1, 2, 0);
        line(x, 5, 0, 2, 2, 0);
    }

    private static void promise6Opened() {
        MockParcels x = new MockParcels();
        x.bidder(20, 0, false);
        for (int i = 0; i < 3; i++) {
            x.parcel(1, 5, 0);
            x.set(5, i, 9);
        }
        x.set(0, 0, 2);
        x.state(0);
        // 563 is below 600; 577 is not below 500.
        DUE.is("6: sold", x.sell(0), 1);
        DUE.is("6: nothing in it", x.of(0, 4), 0);
        DUE.is("6: 3 less, 0 at least", x.look(3), 0);
        DUE.is("6: OWES either way", x.who(0, 3), 9);
        Due.text(x, 0, "full 578;");
        x.state(0);
        DUE.is("6: sold", x.sell(1), 1);
        DUE.is("6: 577 is below 578; then 3 and 1", x.of(1, 4), 4);
        DUE.is("6: he has it", x.who(0, 14), 1);
        DUE.is("6: OWES", x.who(0, 3), 18);
        Due.text(x, 0, "full 577;");
        x.state(0);
        DUE.is("6: sold", x.sell(2), 1);
        DUE.is("6: 577 is not below 577", x.of(2, 4), 0);
        DUE.is("6: two draws", x.look(9), 1196435762);
        DUE.is("6: BILL stays", x.of(2, 5), 9);
    }

    private static void promise6Follows() {
        MockParcels x = new MockParcels();
        x.bidder(99, 0, false);
        x.bidder(99, 0, false);
        x.bidder(99, 0, false);
        x.parcel(1, 0, 0);
        Due.text(x, 1, "bidder 0 follows 2;bidder 1 follows 2;bidder 1 follows 0;bidder 2 follows 1;");
        Due.text(x, 0, "bids 1000;full 0;");
        x.state(0);
        // 0 bids; 1 follows 0; 2 bids; then 0 follows 2; 1 bids; 2 follows 1; then 0 bids; 1 does not; 2 bids, ...
        x.sell(0);
        line(x, 0, 0, 0, 0, 1);
        line(x, 1, 0, 0, 2, 2);
        line(x, 2, 0, 0, 1, 3);
        line(x, 3, 0, 0, 0, 4);
        line(x, 4, 0, 0, 2, 5);
        MockParcels y = new MockParcels();
        y.bidder(99, 0, false);
        y.bidder(99, 0, false);
        y.parcel(1, 0, 0);
        Due.text(y, 1, "bidder 1 follows 0;");
        Due.text(y, 0, "bids 1000 when round<1;bids 0;full 0;");
        y.state(0);
        DUE.is("6: he does not bid against him", y.sell(0), 1);
        // One draw of BIDDER 0, one for what is in it, none of BIDDER 1.
        DUE.is("6: nor is a draw made", y.look(9), 1196435762);
    }

    private static void promise7() {
        MockParcels x = new MockParcels();
        DUE.is("7: none such", x.pay(0, 5), false);
        x.bidder(9000, 0, true);
        DUE.is("7: 0", x.pay(0, 0), false);
        DUE.is("7: 1000", x.pay(0, 1000), false);
        DUE.is("7: -5", x.pay(0, -5), false);
        DUE.is("7: -1", x.pay(-1, 5), false);
        DUE.is("7: 1", x.pay(0, 1), true);
        DUE.is("7: more", x.who(0, 0), 9001);
        DUE.is("7: 999", x.pay(0, 999), true);
        DUE.is("7: 9999 at most", x.who(0, 0), 9999);
        DUE.is("7: at its most", x.pay(0, 999), true);
        DUE.is("7: still", x.who(0, 0), 9999);
        DUE.is("7: no line", x.look(8), 0);
        DUE.is("7: not from the TILL", x.look(2), 0);
        DUE.is("7: can be undone", x.look(14), 3);
    }

    /** One who has one thing of KIND 4, another one who has none. */
    private static MockParcels withThing() {
        MockParcels x = new MockParcels();
        x.bidder(50, 0, false);
        x.bidder(50, 9, false);
        x.parcel(1, 6, 0);
        Due.text(x, 0, "bids 1000 when care=0 and round<1;bids 0;full 1000;");
        Due.text(x, 1, "bidder 1 follows 0;");
        x.state(0);
        x.sell(0);
        return x;
    }

    private static void promise8() {
        MockParcels x = withThing();
        DUE.is("8: he has one of KIND 4", x.who(0, 14), 1);
        DUE.is("8: alike", x.give(0, 0, 4), false);
        DUE.is("8: he has none", x.give(0, 1, 3), false);
        DUE.is("8: he has none", x.give(1, 0, 4), false);
        DUE.is("8: KIND 0", x.give(0, 1, 0), false);
        DUE.is("8: KIND 8", x.give(0, 1, 8), false);
        DUE.is("8: none such", x.give(0, 2, 4), false);
        DUE.is("8: none such", x.give(2, 0, 4), false);
        DUE.is("8: none such", x.give(-1, 0, 4), false);
        DUE.is("8: none such", x.give(0, -1, 4), false);
        DUE.is("8: given", x.give(0, 1, 4), true);
        DUE.is("8: one has none", x.who(0, 14), 0);
        DUE.is("8: another one has it", x.who(1, 14), 1);
        line(x, x.look(8) - 1, 0, 4, 0, 4);
        DUE.is("8: once", x.give(0, 1, 4), false);
    }

    private static void promise9() {
        MockParcels x = new MockParcels();
        DUE.is("9: none such", x.settle(0), -1);
        x.bidder(10, 0, false);
        x.parcel(1, 0, 0);
        x.set(5, 0, 50);
        DUE.is("9: owes nothing", x.settle(0), -1);
        Due.text(x, 0, "bids 1000;step 4;full 0;");
        x.sell(0);
        DUE.is("9: PURSE is less", x.settle(0), 6);
        DUE.is("9: PURSE", x.who(0, 0), 0);
        DUE.is("9: OWES", x.who(0, 3), 44);
        DUE.is("9: TILL", x.look(2), 10);
        line(x, 3, 0, 5, 0, 6);
        DUE.is("9: an empty purse settles nothing", x.settle(0), 0);
        DUE.is("9: a line", x.look(8), 5);
        x.pay(0, 100);
        DUE.is("9: the rest", x.settle(0), 44);
        DUE.is("9: PURSE", x.who(0, 0), 56);
        DUE.is("9: none left", x.settle(0), -1);
        DUE.is("9: none such", x.settle(-1), -1);
        DUE.is("9: none such", x.settle(1), -1);
    }

    private static void promise10() {
        MockParcels x = new MockParcels();
        DUE.is("10: 0", x.days(0), -1);
        DUE.is("10: 61", x.days(61), -1);
        DUE.is("10: -1", x.days(-1), -1);
        DUE.is("10: far", x.days(Integer.MAX_VALUE), -1);
        x.set(0, 0, 20);
        x.set(1, 0, 9);
        DUE.is("10: 1", x.days(1), 0);
        DUE.is("10: the wet", x.look(3), 11);
        DUE.is("10: 2", x.days(2), 0);
        DUE.is("10: 0 at least", x.look(3), 0);
        DUE.is("10: the day", x.look(5), 3);
        for (int i = 0; i < 166; i++) {
            x.days(60);
        }
        DUE.is("10: the day", x.look(5), 9963);
        DUE.is("10: beyond", x.days(37), -1);
        DUE.is("10: nothing is done", x.look(5), 9963);
        DUE.is("10: to the last one", x.days(36), 0);
        DUE.is("10: the last one", x.look(5), 9999);
        DUE.is("10: no more", x.days(1), -1);
        DUE.is("10: six can be undone", x.look(14), 6);
    }

    private static void promise10Lines() {
        MockParcels x = new MockParcels();
        x.bidder(100, 0, false);
        x.parcel(1, 0, 0);
        x.parcel(1, 0, 0);
        x.parcel(1, 0, 0);
        Due.text(x, 0, "bids 1000 when wet=2;bids 0;step 5;full 0;");
        DUE.is("10: a week", Due.text(x, 2, "on 2 sell 2;on 0 crowd 50;on 0 sell 0;on 0 wet 2;on 0 bill 0 7;on 0 sell 0;"
            + "on 0 bill 0 8;on 0 bill 1 99;on 1 pay 0 999;on 1 sell 1;on 1 sell 1;on 999 wet 0;"), 12);
        // CROWD 50, nobody bids: 45, WET 2, sold with nothing in it: 42, 2 less: 40.
        DUE.is("10: one sold", x.days(1), 1);
        DUE.is("10: CROWD", x.look(3), 40);
        DUE.is("10: WET", x.look(4), 2);
        DUE.is("10: BILL of one not SOLD", x.of(0, 5), 7);
        DUE.is("10: BILL of another one", x.of(1, 5), 99);
        DUE.is("10: OWES", x.who(0, 3), 7);
        DUE.is("10: two sold on two days", x.days(2), 2);
        DUE.is("10: paid", x.who(0, 0), 100 - 5 + 999 - 10);
        DUE.is("10: all SOLD", x.look(7), 0);
        line(x, x.look(8) - 3, 2, 0, 0, 5);
        line(x, x.look(8) - 2, 2, 1, 0, 5);
        line(x, x.look(8) - 1, 2, 2, 0, 0);
    }

    private static void promise10Shorter() {
        MockParcels x = new MockParcels();
        Due.text(x, 2, "on 0 wet 1;on 0 crowd 77;on 1 crowd 78;");
        Due.text(x, 2, "on 1 wet 2;");
        x.days(1);
        DUE.is("10: lines that are no more", x.look(3) + x.look(4), 0);
        x.days(1);
        DUE.is("10: lines that are no more", x.look(3), 0);
        DUE.is("10: the line that is", x.look(4), 2);
    }

    private static void promise10Police() {
        MockParcels x = new MockParcels();
        x.bidder(9999, 0, false);
        x.bidder(9999, 0, false);
        x.bidder(9999, 0, true);
        for (int i = 0; i < 8; i++) {
            x.parcel(i, 0, 0);
        }
        Due.text(x, 2, "on 0 police;on 1 police;on 1 police;");
        DUE.is("10: none has any", x.days(1), 0);
        DUE.is("10: nothing is taken", x.look(6) + x.look(8), 0);
        x.set(0, 0, 0);
        // PARCELS 0 to 3 go to the SHILL, 4 and 5 to BIDDER 0, 6 and 7 to BIDDER 1, all of them full.
        Due.text(x, 0, "bids 1000 when weight<4 and shill=1;bids 0 when weight<4 or shill=1;full 1000;bids 1000;");
        for (int i = 0; i < 4; i++) {
            x.sell(i);
        }
        x.set(2, 1, 0);
        x.sell(4);
        x.sell(5);
        x.set(2, 1, 50);
        x.set(2, 0, 0);
        x.sell(6);
        x.sell(7);
        int[] sold = {2, 2, 2, 2, 0, 0, 1, 1};
        for (int i = 0; i < 8; i++) {
            DUE.is("10: SOLD", x.of(i, 3), sold[i]);
        }
        int first = Math.min(x.of(4, 4), x.of(5, 4));
        int second = Math.min(x.of(6, 4), x.of(7, 4));
        int lines = x.look(8);
        x.days(1);
        // The SHILL has most and is passed by; of two with two things the lesser number, then the other one.
        line(x, lines, 1, 3, 0, first);
        line(x, lines + 1, 1, 3, 1, second);
        DUE.is("10: BOX", x.look(6), 2);
        DUE.is("10: no more than two lines", x.look(8), lines + 2);
    }

    /** KIND 7: the third draw must be the second one from STATE 0, so the first one must leave STATE 0 behind it. */
    private static void promise10LastKind() {
        MockParcels x = new MockParcels();
        x.bidder(9, 0, false);
        x.bidder(9, 9, false);
        x.parcel(0, 0, 0);
        Due.text(x, 0, "bids 1000 when care=0;bids 0;full 1000;");
        Due.text(x, 1, "bidder 1 follows 0;");
        Due.text(x, 2, "on 0 police;");
        x.state(before(0));
        x.sell(0);
        DUE.is("6: KIND 7", x.of(0, 4), 7);
        DUE.is("6: he has it", x.who(0, 17), 1);
        Due.text(x, 0, "bids 10+has;");
        DUE.is("15: it is one thing", x.of(0, 10), 11);
        DUE.is("8: given", x.give(0, 1, 7), true);
        x.days(1);
        line(x, x.look(8) - 1, 0, 3, 1, 7);
        DUE.is("10: BOX", x.look(6), 1);
        DUE.is("10: taken", x.who(1, 17), 0);
    }

    /** The STATE from which one draw leads to another one. */
    private static int before(int state) {
        int inverse = 1;
        for (int i = 0; i < 6; i++) {
            inverse *= 2 - 1664525 * inverse;
        }
        return (state - 1013904223) * inverse;
    }

    private static void promise17() {
        MockParcels x = withThing();
        line(x, 0, 0, 0, 0, 1);
        line(x, 1, 0, 1, 0, 1);
        line(x, 2, 0, 2, 0, 4);
        DUE.is("17: no such line", x.book(3, 0), -1);
        DUE.is("17: no such line", x.book(-1, 0), -1);
        DUE.is("17: no such line", x.book(Integer.MAX_VALUE, 0), -1);
        DUE.is("17: another what", x.book(0, 4), -1);
        DUE.is("17: another what", x.book(0, -1), -1);
        x.days(3);
        x.give(0, 1, 4);
        line(x, 3, 3, 4, 0, 4);
        x.undo();
        DUE.is("17: gone back", x.book(3, 0), -1);
    }

    private static void promise17Full() {
        MockParcels x = new MockParcels();
        x.bidder(9999, 0, false);
        x.bidder(9999, 0, false);
        for (int i = 0; i < 3; i++) {
            x.parcel(0, 0, 0);
        }
        Due.text(x, 0, "bids 1000;full 0;");
        x.sell(0);
        x.sell(1);
        DUE.is("17: twice sixty-two lines", x.look(8), 124);
        x.sell(2);
        DUE.is("17: no more", x.look(8), 150);
        DUE.is("17: the last line", x.book(149, 3), 26);
        DUE.is("17: none behind", x.book(150, 0), -1);
        DUE.is("17: it is SOLD all the same", x.of(2, 3), 1);
        x.undo();
        DUE.is("17: gone back", x.look(8), 124);
        DUE.is("17: gone back", x.book(124, 0), -1);
    }
}
