/** The edges of promises 1 to 5, 15, 16 and 40: each sentence of the document that names one has its own method. */
public final class TellingEdgesTest {
    private static final Due DUE = new Due("TellingEdgesTest");
    private static final int LEAST = Integer.MIN_VALUE;
    private static final int MOST = Integer.MAX_VALUE;

    private TellingEdgesTest() {
    }

    public static void main(String[] args) {
        newObject();
        newParcel();
        newBidder();
        stateIsAnyInt();
        drawsWrap();
        parcelBounds();
        sixteenParcels();
        bidderBounds();
        eightBidders();
        setBounds();
        setAsksWho();
        setTouchesOneAlone();
        lawOfEight();
        heldBids();
        heldStep();
        heldFull();
        notTold();
        firstLineThatIsSo();
        priceAndRoundAreNone();
        soldAndIn();
        hasAndWants();
        unsoldSet();
        linesOfTexts();
        whatCanBeUndone();
        DUE.end();
    }

    /** "A wet quay": all is 0, empty, none at first. */
    private static void newObject() {
        MockParcels x = new MockParcels();
        for (int what = 0; what <= 14; what++) {
            DUE.is("1: look(" + what + ")", x.look(what), 0);
        }
        DUE.is("1: no PARCEL", x.of(0, 0), -2);
        DUE.is("1: no BIDDER", x.who(0, 0), -2);
        DUE.is("1: THE BOOK is empty", x.book(0, 0), -1);
        DUE.is("1: the TAPE is empty", x.end(1), false);
        DUE.is("1: the TAPE has none", x.end(0), true);
        DUE.is("1: no text() yet", x.fault(0), 0);
        DUE.is("1: no place", x.fault(1), -1);
        for (int what = 0; what <= 3; what++) {
            DUE.is("1: goes(60, " + what + ")", x.goes(60, what), 0);
        }
        DUE.is("1: no lengths", x.strings(1, 0), 0);
        DUE.is("1: no COINS", x.pays(1, 1), 0);
        for (int b = 0; b < 8; b++) {
            DUE.is("1: RANK 01234567", x.swaps(b), b);
        }
        DUE.is("1: one by one", x.swaps(-1), 8);
        DUE.is("1: no WISHES", x.wishes(0), 0);
        DUE.is("1: no PUT", x.puts(1), 0);
        DUE.is("1: no CLUES", x.which(0), 0);
        DUE.is("1: no POLICE", x.every(-1), 0);
        DUE.is("1: no sides", x.halves(0), -1);
        DUE.is("1: no knots", x.game(0), -1);
        DUE.is("1: nothing to undo", x.undo(), false);
        DUE.is("1: no image", x.image(false), false);
        DUE.is("1: NONE", MockParcels.NONE, -1);
    }

    /** "SOLD: none at first, IN: not known at first, BILL: 0 at first". */
    private static void newParcel() {
        MockParcels x = new MockParcels();
        for (int i = 0; i < 16; i++) {
            x.parcel(99, 9, 9);
            DUE.is("3: not SOLD at first", x.of(i, 3), -1);
            DUE.is("3: IN is not known at first", x.of(i, 4), -1);
            DUE.is("3: BILL at first", x.of(i, 5), 0);
        }
    }

    /** "HAS: 0 at first, OWES: 0 at first"; he follows nobody and wants nothing. */
    private static void newBidder() {
        MockParcels x = new MockParcels();
        for (int b = 0; b < 8; b++) {
            x.bidder(9999, 9, true);
            DUE.is("4: OWES at first", x.who(b, 3), 0);
            DUE.is("4: follows nobody", x.who(b, 4), -1);
            for (int kind = 1; kind <= 7; kind++) {
                DUE.is("4: HAS at first", x.who(b, 10 + kind), 0);
                DUE.is("4: wants at first", x.who(b, 20 + kind), 0);
            }
        }
    }

    /** "STATE is told: what it was": an int, so any. */
    private static void stateIsAnyInt() {
        MockParcels x = new MockParcels();
        int was = 0;
        for (int v : new int[] {1, -1, MOST, LEAST, 0, 12345, 12345}) {
            DUE.is("2: what it was", x.state(v), was);
            DUE.is("40: STATE as it is", x.look(9), v);
            was = v;
        }
    }

    /** "it becomes 1664525 times itself + 1013904223 (ints, which wrap), then its highest 24 bits (without sign)". */
    private static void drawsWrap() {
        int[] states = {0, 1, -1, MOST, LEAST, 1013904223, 77777, -77777, 1 << 30, -(1 << 30), 3, 9};
        int below = 0;
        for (int s : states) {
            int drawn = Draws.drawn(s, 1000);
            below += Draws.after(s) < 0 ? 1 : 0;
            MockParcels x = new MockParcels();
            x.bidder(9, 0, false);
            x.parcel(0, 0, 0);
            Due.text(x, 0, "full 0;bids " + drawn + ";");
            x.state(s);
            DUE.is("2: a DRAW of " + drawn + " is not below it", x.sell(0), 0);
            DUE.is("2: one DRAW from " + s, x.look(9), Draws.after(s));
            Due.text(x, 0, "full 0;bids " + (drawn + 1) + ";");
            x.state(s);
            DUE.is("2: a DRAW of " + drawn + " is below one more", x.sell(0), 1);
            DUE.is("2: a second DRAW from " + s, x.look(9), Draws.after(s, 2));
        }
        DUE.is("2: some were below 0, some not", below > 2 && below < states.length - 2, true);
    }

    /** "WEIGHT 0 .. 99, RATTLE 0 .. 9, KNOTS 0 .. 9". */
    private static void parcelBounds() {
        int[] most = {99, 9, 9};
        for (int place = 0; place < 3; place++) {
            MockParcels x = new MockParcels();
            int count = 0;
            for (int v : new int[] {LEAST, -1, 0, 1, most[place] - 1, most[place], most[place] + 1, MOST}) {
                boolean can = v >= 0 && v <= most[place];
                int got = x.parcel(place == 0 ? v : 4, place == 1 ? v : 4, place == 2 ? v : 4);
                DUE.is("3: " + v + " at " + place, got, can ? count : -1);
                if (can) {
                    DUE.is("3: it is so", x.of(count, place), v);
                    DUE.is("3: the others are theirs", x.of(count, 0) + x.of(count, 1) + x.of(count, 2), 8 + v);
                    count++;
                }
                DUE.is("3: so many are there", x.look(0), count);
            }
        }
    }

    /** "the number; NONE if there are sixteen". */
    private static void sixteenParcels() {
        MockParcels x = new MockParcels();
        for (int i = 0; i < 16; i++) {
            DUE.is("3: there is none yet", x.of(i, 0), -2);
            DUE.is("3: one that can't be has no number", x.parcel(100, 0, 0), -1);
            DUE.is("3: as they come", x.parcel(i, 0, 0), i);
        }
        DUE.is("3: the 17th", x.parcel(0, 0, 0), -1);
        DUE.is("3: the last one", x.of(15, 0), 15);
        DUE.is("3: the first one", x.of(0, 0), 0);
        DUE.is("3: no more", x.of(16, 0), -2);
        x.image(true);
        DUE.is("3: nor the 18th", x.parcel(0, 0, 0), -1);
        DUE.is("3: sixteen", x.look(0), 16);
    }

    /** "PURSE 0 .. 9999, CARE 0 .. 9, SHILL 0, 1". */
    private static void bidderBounds() {
        MockParcels x = new MockParcels();
        int count = 0;
        for (int purse : new int[] {LEAST, -1, 0, 1, 9998, 9999, 10000, MOST}) {
            boolean can = purse >= 0 && purse <= 9999;
            DUE.is("4: purse " + purse, x.bidder(purse, 5, false), can ? count : -1);
            if (can) {
                DUE.is("4: PURSE", x.who(count, 0), purse);
                DUE.is("4: CARE", x.who(count, 1), 5);
                DUE.is("4: no SHILL", x.who(count, 2), 0);
                count++;
            }
            DUE.is("4: so many are there", x.look(1), count);
        }
        for (int care : new int[] {LEAST, -1, 0, 1, 8, 9, 10, MOST}) {
            boolean can = care >= 0 && care <= 9;
            DUE.is("4: care " + care, x.bidder(77, care, true), can ? count : -1);
            if (can) {
                DUE.is("4: CARE", x.who(count, 1), care);
                DUE.is("4: PURSE", x.who(count, 0), 77);
                DUE.is("4: a SHILL", x.who(count, 2), 1);
                count++;
            }
            DUE.is("4: so many are there", x.look(1), count);
        }
    }

    /** "the number; NONE if there are eight". */
    private static void eightBidders() {
        MockParcels x = new MockParcels();
        for (int i = 0; i < 8; i++) {
            DUE.is("4: there is none yet", x.who(i, 0), -2);
            DUE.is("4: one that can't be has no number", x.bidder(10000, 0, true), -1);
            DUE.is("4: as they come", x.bidder(i, 0, false), i);
        }
        DUE.is("4: the ninth", x.bidder(0, 0, false), -1);
        DUE.is("4: the ninth", x.bidder(0, 0, true), -1);
        DUE.is("4: the last one", x.who(7, 0), 7);
        DUE.is("4: no more", x.who(8, 0), -2);
        DUE.is("4: eight", x.look(1), 8);
    }

    private static int told(MockParcels x, int what) {
        int[] asked = {x.look(3), x.look(4), x.who(1, 0), x.who(1, 1), x.of(1, 2), x.of(1, 5)};
        return asked[what];
    }

    private static MockParcels two() {
        MockParcels x = new MockParcels();
        for (int i = 0; i < 2; i++) {
            x.bidder(5, 5, false);
            x.parcel(5, 5, 5);
        }
        return x;
    }

    /** "What 0 CROWD, 1 WET, 2 PURSE, 3 CARE, 4 KNOTS, 5 BILL: false if one can't be". */
    private static void setBounds() {
        int[] most = {99, 9, 9999, 9, 9, 99};
        for (int what = 0; what <= 5; what++) {
            MockParcels x = two();
            for (int v : new int[] {0, 1, most[what] - 1, most[what]}) {
                DUE.is("5: set(" + what + ", 1, " + v + ")", x.set(what, 1, v), true);
                DUE.is("5: it is so", told(x, what), v);
            }
            for (int v : new int[] {LEAST, -1, most[what] + 1, MOST}) {
                DUE.is("5: set(" + what + ", 1, " + v + ")", x.set(what, 1, v), false);
                DUE.is("5: it stays so", told(x, what), most[what]);
            }
        }
        MockParcels x = two();
        for (int what : new int[] {LEAST, -1, 6, 7, MOST}) {
            DUE.is("5: another what: " + what, x.set(what, 0, 1), false);
        }
    }

    /** "(who not asked)" of CROWD and WET; "of BIDDER who", "of PARCEL who". */
    private static void setAsksWho() {
        for (int who : new int[] {LEAST, -1, 2, 8, 16, MOST}) {
            MockParcels x = two();
            DUE.is("5: CROWD, who not asked", x.set(0, who, 7), true);
            DUE.is("5: WET, who not asked", x.set(1, who, 8), true);
            DUE.is("5: CROWD is so", x.look(3), 7);
            DUE.is("5: WET is so", x.look(4), 8);
            for (int what = 2; what <= 5; what++) {
                DUE.is("5: set(" + what + ", " + who + ", 7)", x.set(what, who, 7), false);
            }
        }
        MockParcels y = new MockParcels();
        DUE.is("5: CROWD of nobody", y.set(0, 0, 99), true);
        DUE.is("5: WET of nobody", y.set(1, 0, 9), true);
        for (int what = 2; what <= 5; what++) {
            DUE.is("5: nobody is there", y.set(what, 0, 1), false);
        }
        y.parcel(0, 0, 0);
        DUE.is("5: a PARCEL is no BIDDER", y.set(2, 0, 1) || y.set(3, 0, 1), false);
        DUE.is("5: a PARCEL is", y.set(4, 0, 1) && y.set(5, 0, 1), true);
        MockParcels z = new MockParcels();
        z.bidder(0, 0, false);
        DUE.is("5: a BIDDER is no PARCEL", z.set(4, 0, 1) || z.set(5, 0, 1), false);
        DUE.is("5: a BIDDER is", z.set(2, 0, 1) && z.set(3, 0, 1), true);
    }

    private static void setTouchesOneAlone() {
        for (int what = 0; what <= 5; what++) {
            MockParcels x = two();
            x.set(what, 0, 9);
            int all = x.look(3) + x.look(4) + x.who(0, 0) + x.who(0, 1) + x.of(0, 2) + x.of(0, 5) + x.who(1, 0)
                + x.who(1, 1) + x.of(1, 2) + x.of(1, 5);
            // Of six 5s one may be a 9 now, else one of three 0s.
            DUE.is("5: set(" + what + ", 0, 9) alone", all, what == 0 || what == 1 || what == 5 ? 39 : 34);
        }
    }

    /** "10 + b bids of BIDDER b, 20 + b step, 30 + b full": 0 .. 7, those there are. */
    private static void lawOfEight() {
        MockParcels x = new MockParcels();
        x.parcel(0, 0, 0);
        for (int b = 0; b < 8; b++) {
            for (int word = 10; word <= 30; word += 10) {
                DUE.is("15: BIDDER " + b + " is not there", x.of(0, word + b), -2);
            }
            x.bidder(100 + b, b, false);
        }
        Due.text(x, 0, "bids purse;step care+20;full purse*2;");
        for (int b = 0; b < 8; b++) {
            DUE.is("15: bids of " + b, x.of(0, 10 + b), 100 + b);
            DUE.is("15: step of " + b, x.of(0, 20 + b), 20 + b);
            DUE.is("15: full of " + b, x.of(0, 30 + b), 200 + 2 * b);
        }
        for (int what : new int[] {LEAST, -1, 6, 7, 8, 9, 18, 19, 28, 29, 38, 39, 40, 47, MOST}) {
            DUE.is("15: of(0, " + what + ")", x.of(0, what), -2);
        }
    }

    private static MockParcels law(String text) {
        MockParcels x = new MockParcels();
        x.parcel(0, 0, 0);
        x.bidder(0, 0, false);
        DUE.is("13: " + text, Due.text(x, 0, text), 1);
        return x;
    }

    /** "bids held to 0 .. 1000". */
    private static void heldBids() {
        DUE.is("15: bids 999", law("bids 999;").of(0, 10), 999);
        DUE.is("15: bids 1000", law("bids 1000;").of(0, 10), 1000);
        DUE.is("15: bids 1001", law("bids 1001;").of(0, 10), 1000);
        DUE.is("15: bids 1", law("bids 1;").of(0, 10), 1);
        DUE.is("15: bids 0", law("bids 0;").of(0, 10), 0);
        DUE.is("15: bids -1", law("bids 0-1;").of(0, 10), 0);
        DUE.is("15: far above", law("bids 9999*9999;").of(0, 10), 1000);
        DUE.is("15: far below", law("bids 0-9999*9999;").of(0, 10), 0);
    }

    /** "step to 1 .. 99". */
    private static void heldStep() {
        DUE.is("15: step 98", law("step 98;").of(0, 20), 98);
        DUE.is("15: step 99", law("step 99;").of(0, 20), 99);
        DUE.is("15: step 100", law("step 100;").of(0, 20), 99);
        DUE.is("15: step 2", law("step 2;").of(0, 20), 2);
        DUE.is("15: step 1", law("step 1;").of(0, 20), 1);
        DUE.is("15: step 0", law("step 0;").of(0, 20), 1);
        DUE.is("15: step -1", law("step 0-1;").of(0, 20), 1);
        DUE.is("15: far above", law("step 9999*9999;").of(0, 20), 99);
        DUE.is("15: far below", law("step 0-9999*9999;").of(0, 20), 1);
    }

    /** "full to 0 .. 1000". */
    private static void heldFull() {
        DUE.is("15: full 999", law("full 999;").of(0, 30), 999);
        DUE.is("15: full 1000", law("full 1000;").of(0, 30), 1000);
        DUE.is("15: full 1001", law("full 1001;").of(0, 30), 1000);
        DUE.is("15: full 1", law("full 1;").of(0, 30), 1);
        DUE.is("15: full 0", law("full 0;").of(0, 30), 0);
        DUE.is("15: full -1", law("full 0-1;").of(0, 30), 0);
        DUE.is("15: far above", law("full 9999*9999;").of(0, 30), 1000);
        DUE.is("15: far below", law("full 0-9999*9999;").of(0, 30), 0);
    }

    /** "(none: bids: 600 less 50 times care less 10 times price, step: 1 and shill, full: 100 times rattle)". */
    private static void notTold() {
        for (int v = 0; v <= 9; v++) {
            MockParcels x = new MockParcels();
            x.parcel(99, v, 9);
            x.bidder(9999, v, v % 2 == 1);
            DUE.is("15: bids of CARE " + v, x.of(0, 10), 600 - 50 * v);
            DUE.is("15: step of SHILL " + v % 2, x.of(0, 20), 1 + v % 2);
            DUE.is("15: full of RATTLE " + v, x.of(0, 30), 100 * v);
        }
        MockParcels y = new MockParcels();
        y.parcel(0, 3, 0);
        y.bidder(0, 2, true);
        Due.text(y, 0, "bids 7 when 1=2;step 7 when 1=2;full 7 when 1=2;");
        DUE.is("15: no B is so", y.of(0, 10), 500);
        DUE.is("15: no B is so", y.of(0, 20), 2);
        DUE.is("15: no B is so", y.of(0, 30), 300);
        Due.text(y, 0, "bids 7;");
        DUE.is("15: no line with that word", y.of(0, 20), 2);
        DUE.is("15: no line with that word", y.of(0, 30), 300);
        y.text(0);
        DUE.is("15: no line", y.of(0, 10), 500);
    }

    /** "E of the first line with that word whose B is so, or that has none". */
    private static void firstLineThatIsSo() {
        MockParcels x = new MockParcels();
        x.parcel(0, 0, 0);
        x.bidder(0, 0, false);
        String none = "full 3 when 1>2;";
        Due.text(x, 0, none.repeat(15) + "full 5 when 1<2;");
        DUE.is("15: the last line of sixteen", x.of(0, 30), 5);
        Due.text(x, 0, "full 4;" + none.repeat(15));
        DUE.is("15: the first line of sixteen", x.of(0, 30), 4);
        Due.text(x, 0, none.repeat(15) + "full 500-6*7+8*9/3 when (((1+2*3<9)));");
        DUE.is("15: a long one behind fifteen others", x.of(0, 30), 482);
        Due.text(x, 0, "step 9;bids 8;full 7 when 1=1;full 6;bids 5;step 4;");
        DUE.is("15: full", x.of(0, 30), 7);
        DUE.is("15: bids", x.of(0, 10), 8);
        DUE.is("15: step", x.of(0, 20), 9);
    }

    /** "(price, round 0) .. likewise". */
    private static void priceAndRoundAreNone() {
        MockParcels x = new MockParcels();
        x.parcel(0, 0, 0);
        x.parcel(0, 0, 0);
        x.bidder(500, 0, false);
        Due.text(x, 0, "bids 700+price+round;step 50+price+round;full 300+price+round;");
        x.state(0);
        DUE.is("15: sold for 50", x.sell(0), 50);
        for (int p = 0; p < 2; p++) {
            DUE.is("15: bids, price and round 0", x.of(p, 10), 700);
            DUE.is("15: step, price and round 0", x.of(p, 20), 50);
            DUE.is("15: full, price and round 0", x.of(p, 30), 300);
        }
    }

    /** "3 SOLD (NONE), 4 IN (NONE: not known)": nothing in it is 0. */
    private static void soldAndIn() {
        MockParcels x = new MockParcels();
        for (int b = 0; b < 8; b++) {
            x.bidder(100, b, false);
        }
        for (int p = 0; p < 16; p++) {
            x.parcel(0, 0, 0);
        }
        Due.text(x, 0, "bids 1000 when care=0;bids 0;full 0;");
        x.sell(0);
        Due.text(x, 0, "bids 1000 when care=7;bids 0;full 1000;");
        x.sell(15);
        DUE.is("15: SOLD to 0", x.of(0, 3), 0);
        DUE.is("15: IN 0", x.of(0, 4), 0);
        DUE.is("15: SOLD to 7", x.of(15, 3), 7);
        DUE.is("15: IN", x.of(15, 4) >= 1 && x.of(15, 4) <= 7, true);
        DUE.is("15: he has it", x.who(7, 10 + x.of(15, 4)), 1);
        DUE.is("15: not SOLD", x.of(1, 3), -1);
        DUE.is("15: not known", x.of(1, 4), -1);
        DUE.is("40: not SOLD, as a set", x.look(7), 0x7FFE);
    }

    /** "10 + k how many he HAS of KIND k, 20 + k what he wants KIND k for (1 .. 7)". */
    private static void hasAndWants() {
        MockParcels x = new MockParcels();
        for (int b = 0; b < 8; b++) {
            x.bidder(0, 0, false);
        }
        Due.text(x, 3, "bidder 0 wants 1 for 99;bidder 7 wants 7 for 98;bidder 7 wants 1 for 0;bidder 0 wants 7 for 1;");
        DUE.is("16: KIND 1 of the first", x.who(0, 21), 99);
        DUE.is("16: KIND 7 of the last", x.who(7, 27), 98);
        DUE.is("16: for nothing", x.who(7, 21), 0);
        DUE.is("16: KIND 7 of the first", x.who(0, 27), 1);
        for (int b = 0; b < 8; b++) {
            for (int what : new int[] {LEAST, -1, 5, 6, 7, 8, 9, 10, 18, 19, 20, 28, 29, 30, 31, MOST}) {
                DUE.is("16: who(" + b + ", " + what + ")", x.who(b, what), -2);
            }
        }
        for (int b : new int[] {LEAST, -1, 8, MOST}) {
            for (int what : new int[] {0, 4, 11, 17, 21, 27}) {
                DUE.is("16: who(" + b + ", " + what + ")", x.who(b, what), -2);
            }
        }
    }

    /** "7 PARCELS not SOLD (a set)": of those there are. */
    private static void unsoldSet() {
        MockParcels x = new MockParcels();
        for (int i = 0; i < 16; i++) {
            DUE.is("40: of " + i, x.look(7), (1 << i) - 1);
            x.parcel(0, 0, 0);
        }
        DUE.is("40: of sixteen", x.look(7), 65535);
        x.bidder(9999, 0, false);
        Due.text(x, 0, "bids 1000;full 0;");
        for (int i = 15; i >= 0; i--) {
            x.sell(i);
            DUE.is("40: without " + i, x.look(7), (1 << i) - 1);
        }
    }

    /** "10 lines of THE LAW, 11 of FOLLOWS, 12 of A WEEK, 13 of WANTS": 0 .. 16, all lines, overtold ones too. */
    private static void linesOfTexts() {
        MockParcels x = new MockParcels();
        x.bidder(0, 0, false);
        x.bidder(0, 0, false);
        String[] line = {"bids 1;", "bidder 0 follows 1;", "on 0 police;", "bidder 0 wants 1 for 2;"};
        for (int k = 0; k < 4; k++) {
            for (int n : new int[] {1, 16, 2, 0}) {
                DUE.is("13: lines", Due.text(x, k, line[k].repeat(n)), n);
                DUE.is("40: look(" + (10 + k) + ")", x.look(10 + k), n);
            }
            Due.text(x, k, line[k].repeat(3));
            for (int other = 0; other < 4; other++) {
                DUE.is("40: the others", x.look(10 + other), other <= k ? 3 : 0);
            }
        }
    }

    /** "14 what can be undone": 0 .. 6. */
    private static void whatCanBeUndone() {
        MockParcels x = new MockParcels();
        x.bidder(0, 0, false);
        for (int i = 1; i <= 9; i++) {
            x.pay(0, 1);
            DUE.is("40: after " + i, x.look(14), Math.min(6, i));
        }
        for (int i = 5; i >= 0; i--) {
            x.undo();
            DUE.is("40: then", x.look(14), i);
        }
        x.undo();
        DUE.is("40: never below 0", x.look(14), 0);
    }
}
