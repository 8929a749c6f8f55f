/** The edges of promises 11 to 14: each sentence of the document that names one has its own method. */
public final class TextsEdgesTest {
    private static final Due DUE = new Due("TextsEdgesTest");
    private static final int BLANKS = 0x20202020;
    private static final String[] LINE = {"step 1;", "bidder 0 follows 1;", "on 0 police;", "bidder 0 wants 1 for 2;"};

    private TextsEdgesTest() {
    }

    public static void main(String[] args) {
        fourHundredBytes();
        highestFirst();
        refusedFeedBringsNothing();
        firstBytesAlone();
        endOfAnEmptyTape();
        tapeIsEmptyThen();
        noSuchText();
        stayAsTheyWere();
        emptyText();
        faultOfTheLatest();
        everyByteBetween();
        everyByteAsASign();
        everyByteBehindANumber();
        blanksAnywhere();
        wordsOfThatTextAlone();
        wordsOneByOne();
        fourDigits();
        sixteenLines();
        leastAtOnePlace();
        firstByItsPlace();
        endIsTheLength();
        partByNothing();
        nineOpen();
        openTillItEnds();
        wraps();
        towardsNothing();
        bindings();
        comparisons();
        followsBounds();
        lastOfSeveralFollows();
        weekBounds();
        wantsBounds();
        lastOfSeveralWants();
        aTextOfFourHundred();
        asManyTokens();
        bytesBehindTheEnd();
        DUE.end();
    }

    /** Three BIDDERS, two PARCELS. */
    private static MockParcels quay() {
        return quay(3, 2);
    }

    private static MockParcels quay(int bidders, int parcels) {
        MockParcels x = new MockParcels();
        for (int i = 0; i < bidders; i++) {
            x.bidder(100, 0, false);
        }
        for (int i = 0; i < parcels; i++) {
            x.parcel(1, 1, 1);
        }
        return x;
    }

    private static void good(MockParcels x, int k, String text, int lines) {
        DUE.is("13: " + text, Due.text(x, k, text), lines);
        DUE.is("14: fault of " + text, x.fault(0), 0);
        DUE.is("14: place of " + text, x.fault(1), -1);
    }

    private static void bad(MockParcels x, int k, String text, int fault, int place) {
        DUE.is("13: " + text, Due.text(x, k, text), -1);
        DUE.is("14: fault of " + text, x.fault(0), fault);
        DUE.is("14: place of " + text, x.fault(1), place);
    }

    /** "NONE, and nothing comes, if there would be more than 400". */
    private static void fourHundredBytes() {
        MockParcels x = new MockParcels();
        for (int i = 1; i <= 20; i++) {
            DUE.is("11: how many", x.feed(BLANKS, BLANKS, BLANKS, BLANKS, BLANKS), 20 * i);
        }
        DUE.is("11: 420 would be", x.feed(BLANKS, BLANKS, BLANKS, BLANKS, BLANKS), -1);
        DUE.is("11: 400 are", x.end(400), true);
        for (int size = 399; size > 380; size--) {
            x.end(size);
            DUE.is("11: " + (size + 20) + " would be", x.feed(BLANKS, BLANKS, BLANKS, BLANKS, BLANKS), -1);
            DUE.is("11: none came", x.end(size + 1), false);
        }
        x.end(380);
        DUE.is("11: 400 may be", x.feed(BLANKS, BLANKS, BLANKS, BLANKS, BLANKS), 400);
        x.end(0);
        DUE.is("11: twenty of none", x.feed(BLANKS, BLANKS, BLANKS, BLANKS, BLANKS), 20);
    }

    /** "of each number the highest first": twenty unlike bytes, each found by the fault at it. */
    private static void highestFirst() {
        for (int place = 0; place < 20; place++) {
            int[] v = {BLANKS, BLANKS, BLANKS, BLANKS, BLANKS};
            v[place / 4] = v[place / 4] & ~(255 << 24 - place % 4 * 8) | 255 << 24 - place % 4 * 8;
            MockParcels x = new MockParcels();
            x.feed(v[0], v[1], v[2], v[3], v[4]);
            DUE.is("11: a byte that can't stand", x.text(0), -1);
            DUE.is("11: it stands at " + place, x.fault(1), place);
        }
        MockParcels y = quay();
        y.feed(0x62696473, 0x20313233, 0x343b2020, BLANKS, BLANKS);
        y.feed(0x66756c6c, 0x20353637, 0x3b737465, 0x70203839, 0x3b202020);
        DUE.is("11: behind what there is", y.text(0), 3);
        DUE.is("11: 1234", y.of(0, 10), 1000);
        DUE.is("11: 567", y.of(0, 30), 567);
        DUE.is("11: 89", y.of(0, 20), 89);
    }

    private static void refusedFeedBringsNothing() {
        MockParcels x = quay();
        Due.feed(x, "bids 7;" + " ".repeat(374));
        DUE.is("11: 401 would be", x.feed(0x3b3b3b3b, 0x3b3b3b3b, 0, 0, 0), -1);
        DUE.is("11: the TAPE as it was", x.text(0), 1);
        DUE.is("11: bids", x.of(0, 10), 7);
    }

    /** "The TAPE has its first n bytes alone: true; false, changing nothing, if it has not so many, or n below 0". */
    private static void firstBytesAlone() {
        MockParcels x = quay();
        Due.feed(x, "bids 12;bids 9;#");
        for (int n : new int[] {Integer.MIN_VALUE, -1, 17, 400, Integer.MAX_VALUE}) {
            DUE.is("12: end(" + n + ") of 16", x.end(n), false);
        }
        DUE.is("12: all of them", x.end(16), true);
        DUE.is("12: fifteen", x.end(15), true);
        DUE.is("12: sixteen are no more", x.end(16), false);
        DUE.is("12: eight", x.end(8), true);
        DUE.is("12: one line", x.text(0), 1);
        DUE.is("12: its value", x.of(0, 10), 12);
        Due.feed(x, "bids 12;");
        x.end(6);
        DUE.is("12: behind the first six", x.feed(0x333b2020, BLANKS, BLANKS, BLANKS, BLANKS), 26);
        DUE.is("12: one line", x.text(0), 1);
        DUE.is("12: 1 and 3", x.of(0, 10), 13);
        Due.feed(x, "bids 12;");
        DUE.is("12: none", x.end(0), true);
        DUE.is("12: an empty text", x.text(0), 0);
    }

    private static void endOfAnEmptyTape() {
        MockParcels x = new MockParcels();
        DUE.is("12: none of none", x.end(0), true);
        DUE.is("12: one of none", x.end(1), false);
        DUE.is("12: below none", x.end(-1), false);
        x.feed(BLANKS, BLANKS, BLANKS, BLANKS, BLANKS);
        DUE.is("12: twenty", x.end(20), true);
        DUE.is("12: twenty-one", x.end(21), false);
    }

    /** "The TAPE, empty then": good or not, and with no such text. */
    private static void tapeIsEmptyThen() {
        for (int k = -1; k <= 4; k++) {
            for (String text : new String[] {"step 1;", "#"}) {
                MockParcels x = quay();
                Due.feed(x, text);
                x.text(k);
                DUE.is("13: the TAPE is empty after text(" + k + ")", x.end(1), false);
                DUE.is("13: twenty come", x.feed(BLANKS, BLANKS, BLANKS, BLANKS, BLANKS), 20);
            }
        }
    }

    /** "NONE: no such one (fault() tells 0)". */
    private static void noSuchText() {
        for (int k : new int[] {Integer.MIN_VALUE, -1, 4, Integer.MAX_VALUE}) {
            MockParcels x = quay();
            bad(x, 0, "bids 5/0;", 2, 7);
            Due.feed(x, "bids 5;");
            DUE.is("13: text(" + k + ")", x.text(k), -1);
            DUE.is("13: fault() tells 0", x.fault(0), 0);
            DUE.is("13: no place", x.fault(1), -1);
            DUE.is("13: no lines", x.look(10) + x.look(11) + x.look(12) + x.look(13), 0);
        }
    }

    /** "a FAULT (it stays as it was)": its lines, and what they tell. */
    private static void stayAsTheyWere() {
        MockParcels x = quay();
        good(x, 0, "bids 11;step 12;full 13;", 3);
        good(x, 1, "bidder 1 follows 0;bidder 2 follows 1;", 2);
        good(x, 2, "on 0 crowd 44;", 1);
        good(x, 3, "bidder 2 wants 7 for 55;", 1);
        bad(x, 0, "full 1;step 1;bids 1;bids 1/0;", 2, 28);
        bad(x, 1, "bidder 0 follows 1;bidder 1 follows 2;bidder 1 follows 1;", 2, 55);
        bad(x, 2, "on 0 crowd 11;on 0 wet 5;on 0 wet 10;", 2, 34);
        bad(x, 3, "bidder 2 wants 7 for 1;bidder 2 wants 8 for 1;", 2, 38);
        DUE.is("13: THE LAW", x.of(0, 10) + 100 * x.of(0, 20) + 10000 * x.of(0, 30), 131211);
        DUE.is("13: FOLLOWS", 100 * x.who(0, 4) + 10 * x.who(1, 4) + x.who(2, 4), -99);
        DUE.is("13: WANTS", x.who(2, 27), 55);
        x.days(1);
        DUE.is("13: A WEEK", x.look(3), 44);
        DUE.is("13: A WEEK", x.look(4), 0);
        DUE.is("13: lines", x.look(10) + 10 * x.look(11) + 100 * x.look(12) + 1000 * x.look(13), 1123);
    }

    /** A text of no bytes, or of blanks alone, has no lines: it is told all the same. */
    private static void emptyText() {
        for (String empty : new String[] {"", " ", "\n", " \n \n ", " ".repeat(400)}) {
            MockParcels x = quay();
            good(x, 0, "bids 11;", 1);
            good(x, 1, "bidder 1 follows 0;", 1);
            good(x, 2, "on 0 crowd 44;", 1);
            good(x, 3, "bidder 2 wants 7 for 55;", 1);
            for (int k = 0; k < 4; k++) {
                good(x, k, empty, 0);
                DUE.is("13: no lines", x.look(10 + k), 0);
            }
            DUE.is("13: no LAW", x.of(0, 10), 600);
            DUE.is("13: no FOLLOWS", x.who(1, 4), -1);
            DUE.is("13: no WANTS", x.who(2, 27), 0);
            x.days(1);
            DUE.is("13: no WEEK", x.look(3), 0);
        }
    }

    /** "Of the latest text() what 0 the FAULT (0 without one), 1 its place (NONE). NONE for another what". */
    private static void faultOfTheLatest() {
        MockParcels x = quay();
        DUE.is("14: before any", x.fault(0), 0);
        DUE.is("14: before any", x.fault(1), -1);
        bad(x, 0, "bids 1;;", 1, 7);
        for (int what : new int[] {Integer.MIN_VALUE, -1, 2, 3, Integer.MAX_VALUE}) {
            DUE.is("14: fault(" + what + ")", x.fault(what), -1);
        }
        x.feed(BLANKS, BLANKS, BLANKS, BLANKS, BLANKS);
        x.end(5);
        x.days(1);
        x.undo();
        x.image(true);
        x.image(false);
        DUE.is("14: till the next text()", x.fault(0), 1);
        DUE.is("14: till the next text()", x.fault(1), 7);
        DUE.is("14: a good one", x.text(3), 0);
        DUE.is("14: 0 without one", x.fault(0), 0);
        DUE.is("14: NONE without one", x.fault(1), -1);
        bad(x, 1, "bidder 3", 2, 7);
        bad(x, 0, "step 1;".repeat(17), 3, 112);
    }

    /** "Blanks (32, 10) between": each of 256 bytes behind a word. */
    private static void everyByteBetween() {
        for (int c = 0; c < 256; c++) {
            MockParcels x = quay();
            String text = "bids" + (char) c + "5;";
            boolean letter = c >= 'a' && c <= 'z' || c >= 'A' && c <= 'Z';
            if (c == 32 || c == 10 || c >= '0' && c <= '9') {
                good(x, 0, text, 1);
            } else {
                bad(x, 0, text, 1, letter ? 0 : 4);
            }
        }
    }

    /** "; + - * / ( ) < = >": each of 256 bytes between two NUMBERS. */
    private static void everyByteAsASign() {
        for (int c = 0; c < 256; c++) {
            MockParcels x = quay();
            String sum = "bids 5" + (char) c + "6;";
            if ("+-*/".indexOf(c) >= 0 || c >= '0' && c <= '9') {
                good(x, 0, sum, 1);
            } else {
                // A second NUMBER stands behind a blank, a 6 that begins no line behind a ;.
                bad(x, 0, sum, 1, c == 32 || c == 10 || c == ';' ? 7 : 6);
            }
            String when = "bids 5 when 5" + (char) c + "6;";
            if ("<=>".indexOf(c) >= 0) {
                good(x, 0, when, 1);
            } else if ("+-*/".indexOf(c) >= 0 || c >= '0' && c <= '9') {
                bad(x, 0, when, 1, 15);
            } else {
                bad(x, 0, when, 1, c == 32 || c == 10 ? 14 : 13);
            }
        }
    }

    /** Each of 256 bytes where ; is due, and where a line begins. */
    private static void everyByteBehindANumber() {
        for (int c = 0; c < 256; c++) {
            MockParcels x = quay();
            String text = "bidder 0 follows 1" + (char) c;
            if (c == ';') {
                good(x, 1, text, 1);
            } else if (c >= '0' && c <= '9') {
                bad(x, 1, text, 2, 17);
            } else {
                bad(x, 1, text, 1, c == 32 || c == 10 ? 19 : 18);
            }
            String first = (char) c + "bidder 0 follows 1;";
            if (c == 32 || c == 10) {
                good(x, 1, first, 1);
            } else {
                bad(x, 1, first, 1, 0);
            }
        }
    }

    private static void blanksAnywhere() {
        MockParcels x = quay();
        good(x, 0, "\n\n  bids\n 5 \n+ \n6 when\n(\n1 < 2\n)\n;\n\n", 1);
        DUE.is("13: its value", x.of(0, 10), 11);
        good(x, 0, "bids5+6when(1<2)and not 2<1or 3>4;step7;", 2);
        DUE.is("13: its value", x.of(0, 10), 11);
        good(x, 1, "bidder0follows1;bidder1follows2;", 2);
        good(x, 2, "on0pay0 1;on1bill0 1;on2sell0;on3wet1;on4crowd1;on5police;", 6);
        good(x, 3, "bidder0wants1for2;", 1);
        bad(x, 0, "bi ds 5;", 1, 0);
        bad(x, 0, "bids 5when1<2andnot 1<2;", 1, 13);
        bad(x, 1, "bidder 0 follows1 2;", 1, 18);
        bad(x, 0, "bids 1 2;", 1, 7);
    }

    /** "KEYWORDS (those told here for that text) or none". */
    private static void wordsOfThatTextAlone() {
        String[] foreign = {"bidder follows on sell police bill pay wants for",
            "bids step full when or and not weight wet crowd day has on sell police bill pay wants for",
            "bids step full when or and not weight day has bidder follows wants for",
            "bids step full when or and not weight wet crowd day has on sell police bill pay follows"};
        String[] before = {"bids ", "bidder 0 ", "on 0 ", "bidder 0 "};
        for (int k = 0; k < 4; k++) {
            for (String word : foreign[k].split(" ")) {
                bad(quay(), k, word, 1, 0);
                bad(quay(), k, before[k] + word, 1, before[k].length());
            }
        }
        bad(quay(), 0, "bids parcel;", 1, 5);
        bad(quay(), 2, "on 0 sells 1;", 1, 5);
    }

    /** Each word in its place is known; one letter more, one fewer, and it is none. */
    private static void wordsOneByOne() {
        String units = "weight rattle knots care shill purse price round crowd wet has day";
        for (String word : units.split(" ")) {
            good(quay(), 0, "bids " + word + ";", 1);
            bad(quay(), 0, "bids " + word + "s;", 1, 5);
            bad(quay(), 0, "bids " + word.substring(1) + ";", 1, 5);
            bad(quay(), 0, "bids " + word.substring(0, word.length() - 1) + ";", 1, 5);
            bad(quay(), 0, "bids " + word.toUpperCase() + ";", 1, 5);
        }
        for (String word : "bids step full".split(" ")) {
            good(quay(), 0, word + " 1;", 1);
            bad(quay(), 0, word + "s 1;", 1, 0);
            bad(quay(), 0, word.substring(0, 3) + " 1;", 1, 0);
        }
        String[][] rows = {{"0", "bids 1 ", "when", " 1<2;"}, {"0", "bids 1 when 1<2 ", "or", " 1<2;"},
            {"0", "bids 1 when 1<2 ", "and", " 1<2;"}, {"0", "bids 1 when ", "not", " 1<2;"},
            {"1", "", "bidder", " 0 follows 1;"}, {"1", "bidder 0 ", "follows", " 1;"}, {"2", "", "on", " 0 police;"},
            {"2", "on 0 ", "sell", " 1;"}, {"2", "on 0 ", "wet", " 1;"}, {"2", "on 0 ", "crowd", " 1;"},
            {"2", "on 0 ", "police", ";"}, {"2", "on 0 ", "bill", " 1 1;"}, {"2", "on 0 ", "pay", " 1 1;"},
            {"3", "", "bidder", " 0 wants 1 for 1;"}, {"3", "bidder 0 ", "wants", " 1 for 1;"},
            {"3", "bidder 0 wants 1 ", "for", " 1;"}};
        for (String[] row : rows) {
            int k = Integer.parseInt(row[0]);
            int place = row[1].length();
            String word = row[2];
            good(quay(), k, row[1] + word + row[3], 1);
            bad(quay(), k, row[1] + word + "x" + row[3], 1, place);
            bad(quay(), k, row[1] + "x" + word + row[3], 1, place);
            bad(quay(), k, row[1] + word.substring(0, word.length() - 1) + row[3], 1, place);
            if (!word.equals("not")) {
                bad(quay(), k, row[1] + row[3], 1, place + (row[3].charAt(0) == ' ' ? 1 : 0));
            }
        }
    }

    /** "NUMBERS of 1 to 4 digits or none". */
    private static void fourDigits() {
        String[] numbers = {"0", "9", "00", "99", "000", "999", "0000", "9999", "0001"};
        for (String n : numbers) {
            MockParcels x = quay();
            good(x, 0, "full " + n + ";", 1);
            DUE.is("13: " + n, x.of(0, 30), Math.min(1000, Integer.parseInt(n)));
        }
        for (String n : new String[] {"00000", "00001", "10000", "99999", "000000", "4294967296", "0".repeat(390)}) {
            bad(quay(), 0, "full " + n + ";", 1, 5);
            bad(quay(), 0, "full 5/" + n + ";", 1, 7);
            bad(quay(), 1, "bidder " + n + ";", 1, 7);
        }
        MockParcels y = quay();
        good(y, 0, "full 9999-9000;", 1);
        DUE.is("13: all four digits", y.of(0, 30), 999);
        good(y, 1, "bidder 0001 follows 0002;", 1);
        DUE.is("13: leading 0", y.who(1, 4), 2);
        good(y, 2, "on 0000 wet 0009;", 1);
    }

    /** "16 lines of each at most"; "3 (at its KEYWORD) the 17th line of a text". */
    private static void sixteenLines() {
        for (int k = 0; k < 4; k++) {
            int size = LINE[k].length();
            for (int n = 0; n <= 16; n++) {
                good(quay(), k, LINE[k].repeat(n), n);
            }
            good(quay(), k, LINE[k].repeat(16) + " \n", 16);
            bad(quay(), k, LINE[k].repeat(17), 3, 16 * size);
            if (size < 22) {
                bad(quay(), k, LINE[k].repeat(18), 3, 16 * size);
            }
            bad(quay(), k, LINE[k].repeat(16) + "\n\n" + LINE[k].substring(0, 6), 3, 16 * size + 2);
        }
        for (String word : new String[] {"bids", "step", "full"}) {
            bad(quay(), 0, LINE[0].repeat(16) + word, 3, 112);
        }
    }

    /** "at one place the least". */
    private static void leastAtOnePlace() {
        for (int k = 0; k < 4; k++) {
            int size = 16 * LINE[k].length();
            // What can't begin a line is a 1, though it would be the 17th.
            for (String wrong : new String[] {";", "5", "when", "x", "#", "("}) {
                bad(quay(), k, LINE[k].repeat(16) + wrong, 1, size);
            }
        }
        String open = "step 1 when " + "(".repeat(8);
        // What can't stand there is a 1, though it would be the 9th that is open.
        bad(quay(), 0, open + "1(", 1, 21);
        bad(quay(), 0, open + "1 not", 1, 22);
        bad(quay(), 0, open + "1<(", 1, 22);
        bad(quay(), 0, open + "1<2(", 1, 23);
        bad(quay(), 0, open + "1<2 not", 1, 24);
        bad(quay(), 0, open + "(", 3, 20);
        bad(quay(), 0, open + "not", 3, 20);
        // A NUMBER of five digits is none, so it is not beyond its bounds.
        bad(quay(), 2, "on 10000 police;", 1, 3);
        bad(quay(), 2, "on 1000 police;", 2, 3);
    }

    /** "FAULTS, the first by its place". */
    private static void firstByItsPlace() {
        bad(quay(), 0, "bids 1/0 2;", 2, 7);
        bad(quay(), 0, "bids 1 2/0;", 1, 7);
        bad(quay(), 0, "bids 1/0;#", 2, 7);
        bad(quay(), 0, "#bids 1/0;", 1, 0);
        bad(quay(), 0, "bids 1/0;" + "step 1;".repeat(16), 2, 7);
        bad(quay(), 0, "step 1;".repeat(15) + "bids 1/0;step 1;", 2, 112);
        bad(quay(), 0, "step 1 when 1/0<" + "(".repeat(9), 2, 14);
        bad(quay(), 0, "step 1 when " + "(".repeat(9) + "1/0", 3, 20);
        bad(quay(), 1, "bidder 3 follows 3", 2, 7);
        bad(quay(), 1, "bidder 0 follows 0", 2, 17);
        bad(quay(), 1, "bidder 0 follow 0", 1, 9);
        bad(quay(), 2, "on 1000 wet 10", 2, 3);
        bad(quay(), 2, "on 999 wet 10", 2, 11);
        bad(quay(), 2, "on 0 bill 2 100", 2, 10);
        bad(quay(), 2, "on 0 pay 3 0", 2, 9);
        bad(quay(), 3, "bidder 3 wants 0 for 100", 2, 7);
        bad(quay(), 3, "bidder 2 wants 0 for 100", 2, 15);
        bad(quay(), 3, "bidder 2 wants 1 for 100", 2, 21);
        bad(quay(), 3, "bidder 2 wants 1 four 100", 1, 17);
    }

    /** "(the end: the text's length)": blanks at the end count. */
    private static void endIsTheLength() {
        String[] good = {"bids 1+2*3/4 when not(1<2 or 3=4)and 5>6;", "bidder 0 follows 1;", "on 0 bill 1 2;",
            "bidder 0 wants 1 for 2;"};
        for (int k = 0; k < 4; k++) {
            for (int cut = 1; cut < good[k].length(); cut++) {
                String text = good[k].substring(0, cut);
                MockParcels x = quay();
                DUE.is("14: " + text, Due.text(x, k, text), -1);
                boolean midWord = Character.isLetter(good[k].charAt(cut - 1)) && Character.isLetter(good[k].charAt(cut));
                if (!midWord) {
                    DUE.is("14: the end of " + text, x.fault(0), 1);
                    DUE.is("14: the end of " + text, x.fault(1), cut);
                    bad(x, k, text + " \n ", 1, cut + 3);
                }
            }
        }
    }

    /** "2 (at the NUMBER) a part by 0". */
    private static void partByNothing() {
        for (String zero : new String[] {"0", "00", "000", "0000"}) {
            bad(quay(), 0, "bids 1/" + zero + ";", 2, 7);
            bad(quay(), 0, "bids 1*2/3/ " + zero + ";", 2, 12);
            bad(quay(), 0, "bids 1 when 1<1/" + zero + ";", 2, 16);
        }
        good(quay(), 0, "bids 1/1;", 1);
        good(quay(), 0, "bids 0/9999;", 1);
        good(quay(), 0, "bids 0*0-0+0;", 1);
        bad(quay(), 0, "bids 1/care;", 1, 7);
        bad(quay(), 0, "bids 1/(1);", 1, 7);
        bad(quay(), 0, "bids /1;", 1, 5);
    }

    /** "(at it) the 9th ( or not that is open". */
    private static void nineOpen() {
        String law = "step 1 when ";
        for (int parens = 0; parens <= 9; parens++) {
            for (int nots = 0; nots + parens <= 9; nots++) {
                String before = "(".repeat(parens) + "not ".repeat(nots);
                String text = law + before + "1<2" + ")".repeat(parens) + ";";
                if (parens + nots <= 8) {
                    good(quay(), 0, text, 1);
                } else {
                    bad(quay(), 0, text, 3, 12 + before.length() - (nots > 0 ? 4 : 1));
                }
            }
        }
        bad(quay(), 0, law + "not ".repeat(8) + "(1<2);", 3, 44);
        bad(quay(), 0, law + "not(".repeat(4) + "(1<2)" + ")".repeat(4) + ";", 3, 28);
        bad(quay(), 0, law + "not(".repeat(4) + "not 1<2" + ")".repeat(4) + ";", 3, 28);
    }

    /** One that has ended is open no more: as many as may be, again and again. */
    private static void openTillItEnds() {
        MockParcels x = quay();
        String eight = "((((((((1<2))))))))";
        good(x, 0, "step 9 when " + eight + " and " + eight + " or " + eight + ";", 1);
        DUE.is("13: it is so", x.of(0, 20), 9);
        String nots = "not not not not not not not not 1<2";
        good(x, 0, "step 8 when " + nots + " and " + nots + " or " + nots + ";", 1);
        DUE.is("13: it is so", x.of(0, 20), 8);
        good(x, 0, "step 7 when (((((((1<2)and(2<3))or not 2<3)))));step 6 when " + eight + ";", 2);
        DUE.is("13: it is so", x.of(0, 20), 7);
        bad(x, 0, "step 1 when ((((((((1<2 and (1<2)))))))));", 3, 28);
        bad(x, 0, "step 1 when ((((((((1<2 or not 1<2))))))));", 3, 27);
        // The not behind seven ( ends with its C, so another one may come.
        good(x, 0, "step 5 when (((((((not 1<2 or not 2<1)))))));", 1);
        DUE.is("13: it is so", x.of(0, 20), 5);
    }

    /** "Ints, which wrap". */
    private static void wraps() {
        int cube = 9999 * 9999 * 9999;
        DUE.is("13: it is below 0", cube < 0, true);
        MockParcels x = quay();
        good(x, 0, "bids 7 when 9999*9999*9999<0;full 8 when 9999*9999>0;", 2);
        DUE.is("13: a product wraps", x.of(0, 10), 7);
        DUE.is("13: this one does not", x.of(0, 30), 8);
        // 2147483647 is 9999 * 9999 * 21 and 47903626, that is 9999 * 4790 and 8416.
        String most = "9999*9999*21+9999*4790+8416";
        DUE.is("13: the most there is", 9999 * 9999 * 21 + 9999 * 4790 + 8416, Integer.MAX_VALUE);
        good(x, 0, "bids 6 when " + most + ">0;step 5 when " + most + "+1<0;full 4 when 0-" + "9999*9999*21-9999*4790"
            + "-8416-1<0;", 3);
        DUE.is("13: the most is above 0", x.of(0, 10), 6);
        DUE.is("13: one more is below 0", x.of(0, 20), 5);
        DUE.is("13: the least is below 0", x.of(0, 30), 4);
        good(x, 0, "bids 3 when 0-9999*9999*21-9999*4790-8416-2>0;", 1);
        DUE.is("13: one less is above 0", x.of(0, 10), 3);
        good(x, 0, "bids " + most + ";full " + most + "+1;step " + most + "+1;", 3);
        DUE.is("13: held", x.of(0, 10), 1000);
        DUE.is("13: held", x.of(0, 30), 0);
        DUE.is("13: held", x.of(0, 20), 1);
    }

    /** "/ goes towards 0". */
    private static void towardsNothing() {
        // 9999 * 9999 * 9999 wraps to -1027349969; half of that is -513674984 towards 0.
        DUE.is("13: odd and below 0", 9999 * 9999 * 9999, -1027349969);
        MockParcels x = quay();
        good(x, 0, "bids 9999*9999*9999/2+9999*9999*5+9999*1377+6856;", 1);
        DUE.is("13: 9999 * 9999 * 5 + 9999 * 1377 + 6856", 9999 * 9999 * 5 + 9999 * 1377 + 6856, 513675484);
        DUE.is("13: towards 0, below it", x.of(0, 10), 500);
        good(x, 0, "bids 7/2;full 999/1000;step 10/3*3;", 3);
        DUE.is("13: towards 0", x.of(0, 10), 3);
        DUE.is("13: towards 0", x.of(0, 30), 0);
        DUE.is("13: from the left", x.of(0, 20), 9);
        good(x, 0, "bids 77/1;full 9999/10;step 0/1;", 3);
        DUE.is("13: by 1", x.of(0, 10), 77);
        DUE.is("13: by 10", x.of(0, 30), 999);
        DUE.is("13: 0 by 1", x.of(0, 20), 1);
        good(x, 0, "bids 100-7/2;full 9999/9999;step 2*7/4;", 3);
        DUE.is("13: a part alone", x.of(0, 10), 97);
        DUE.is("13: by the most", x.of(0, 30), 1);
        DUE.is("13: from the left", x.of(0, 20), 3);
    }

    /** E, T, A, B: what binds closer, and all from the left. */
    private static void bindings() {
        String[] texts = {"20-5-3", "20-5+3", "2+3*4", "2*3+4", "20-2*3", "24/4/3", "24/4*3", "2*7/3", "9-8/3"};
        int[] values = {12, 18, 14, 10, 14, 2, 18, 4, 7};
        for (int i = 0; i < texts.length; i++) {
            MockParcels x = quay();
            good(x, 0, "full " + texts[i] + ";", 1);
            DUE.is("13: " + texts[i], x.of(0, 30), values[i]);
        }
        for (int bits = 0; bits < 8; bits++) {
            boolean a = (bits & 4) != 0;
            boolean b = (bits & 2) != 0;
            boolean c = (bits & 1) != 0;
            String p = a ? "3>2" : "2>2";
            String q = b ? "1<2" : "2<2";
            String r = c ? "2=2" : "2=3";
            holds(p + " or " + q + " and " + r, a || b && c);
            holds(p + " and " + q + " or " + r, a && b || c);
            holds("(" + p + " or " + q + ")and " + r, (a || b) && c);
            holds(p + " and(" + q + " or " + r + ")", a && (b || c));
            holds("not " + p + " and " + q + " or " + r, !a && b || c);
            holds("not " + p + " or not " + q + " and not " + r, !a || !b && !c);
            holds("not(" + p + " or " + q + ")or " + r, !(a || b) || c);
            holds("not(" + p + " and not(" + q + " or " + r + "))", !(a && !(b || c)));
            holds(p + " or " + q + " or " + r, a || b || c);
            holds(p + " and " + q + " and " + r, a && b && c);
        }
    }

    private static void holds(String b, boolean is) {
        MockParcels x = quay();
        good(x, 0, "full 9 when " + b + ";", 1);
        DUE.is("13: " + b, x.of(0, 30), is ? 9 : 100);
    }

    /** "E (< | = | >) E": less, alike, more by one. */
    private static void comparisons() {
        for (int v = 4; v <= 6; v++) {
            holds(v + "<5", v < 5);
            holds(v + "=5", v == 5);
            holds(v + ">5", v > 5);
            holds("2+" + v + "<2*3+1", v + 2 < 7);
            holds("5>" + v, 5 > v);
            holds("not " + v + ">5", v <= 5);
            holds("not " + v + "=5", v != 5);
            holds("not " + v + "<5", v >= 5);
            holds("not not " + v + ">5", v > 5);
        }
    }

    /** "a BIDDER that there is not; the same BIDDER again (of FOLLOWS)". */
    private static void followsBounds() {
        for (int there = 0; there <= 8; there++) {
            MockParcels x = quay(there, 0);
            bad(x, 1, "bidder " + there + " follows 0;", 2, 7);
            bad(x, 1, "bidder 9999 follows 0;", 2, 7);
            if (there >= 1) {
                bad(x, 1, "bidder 0 follows " + there + ";", 2, 17);
                bad(x, 1, "bidder 0 follows 9999;", 2, 17);
                bad(x, 1, "bidder 0 follows 0;", 2, 17);
                bad(x, 1, "bidder " + (there - 1) + " follows 000" + (there - 1) + ";", 2, 17);
            }
            if (there >= 2) {
                good(x, 1, "bidder " + (there - 1) + " follows 0;bidder 0 follows " + (there - 1) + ";", 2);
                DUE.is("16: the last follows the first", x.who(there - 1, 4), 0);
                DUE.is("16: the first follows the last", x.who(0, 4), there - 1);
            }
        }
    }

    /** "(one way; unlike; of several lines of one the last.)" */
    private static void lastOfSeveralFollows() {
        MockParcels x = quay();
        good(x, 1, "bidder 0 follows 1;", 1);
        DUE.is("16: one way", x.who(1, 4), -1);
        good(x, 1, "bidder 0 follows 1;bidder 2 follows 0;bidder 0 follows 2;bidder 2 follows 1;", 4);
        DUE.is("16: the last", x.who(0, 4), 2);
        DUE.is("16: the last", x.who(2, 4), 1);
        good(x, 1, "bidder 1 follows 0;", 1);
        DUE.is("16: the text before is no more", x.who(0, 4) + x.who(2, 4), -2);
    }

    private static void bounds(MockParcels x, int k, String before, int least, int most, String behind) {
        good(x, k, before + least + behind, 1);
        good(x, k, before + most + behind, 1);
        bad(x, k, before + (most + 1) + behind, 2, before.length());
        bad(x, k, before + 9999 + behind, 2, before.length());
        bad(x, k, before + "-1" + behind, 1, before.length());
        if (least > 0) {
            bad(x, k, before + (least - 1) + behind, 2, before.length());
        }
    }

    /** "(DAY 0 .. 999; wet 0 .. 9, crowd 0 .. 99, bill 0 .. 99, pay 1 .. 999.)" */
    private static void weekBounds() {
        MockParcels x = quay(8, 16);
        bounds(x, 2, "on ", 0, 999, " police;");
        bounds(x, 2, "on 5 wet ", 0, 9, ";");
        bounds(x, 2, "on 5 crowd ", 0, 99, ";");
        bounds(x, 2, "on 5 bill 3 ", 0, 99, ";");
        bounds(x, 2, "on 5 pay 3 ", 1, 999, ";");
        bounds(x, 2, "on 5 sell ", 0, 15, ";");
        bounds(x, 2, "on 5 bill ", 0, 15, " 1;");
        bounds(x, 2, "on 5 pay ", 0, 7, " 1;");
        for (int there = 0; there <= 7; there++) {
            MockParcels y = quay(there, there * 2);
            bad(y, 2, "on 5 sell " + 2 * there + ";", 2, 10);
            bad(y, 2, "on 5 bill " + 2 * there + " 1;", 2, 10);
            bad(y, 2, "on 5 pay " + there + " 1;", 2, 9);
        }
    }

    /** "(KIND 1 .. 7, N 0 .. 99 ..)". */
    private static void wantsBounds() {
        MockParcels x = quay(8, 0);
        bounds(x, 3, "bidder ", 0, 7, " wants 1 for 2;");
        bounds(x, 3, "bidder 5 wants ", 1, 7, " for 2;");
        bounds(x, 3, "bidder 5 wants 3 for ", 0, 99, ";");
        for (int there = 0; there <= 7; there++) {
            bad(quay(there, 9), 3, "bidder " + there + " wants 1 for 1;", 2, 7);
        }
    }

    /** "of several of one for one the last". */
    private static void lastOfSeveralWants() {
        MockParcels x = quay();
        good(x, 3, "bidder 0 wants 1 for 9;bidder 0 wants 2 for 8;bidder 1 wants 1 for 7;bidder 0 wants 1 for 0;", 4);
        DUE.is("16: the last", x.who(0, 21), 0);
        DUE.is("16: of another KIND", x.who(0, 22), 8);
        DUE.is("16: of another one", x.who(1, 21), 7);
        good(x, 3, "bidder 2 wants 7 for 1;", 1);
        DUE.is("16: the text before is no more", x.who(0, 22) + x.who(1, 21), 0);
    }

    /** A text as long as the TAPE. */
    private static void aTextOfFourHundred() {
        MockParcels x = quay();
        String sum = "full 1" + "+1".repeat(196) + ";";
        good(x, 0, sum + " ".repeat(400 - sum.length()), 1);
        DUE.is("13: 197 times 1", x.of(0, 30), 197);
        String long400 = "full 1" + "+1".repeat(196) + " ;";
        DUE.is("13: 400 bytes", long400.length(), 400);
        good(x, 0, long400, 1);
        DUE.is("13: 197 times 1", x.of(0, 30), 197);
        bad(x, 0, long400.substring(0, 399) + "+", 1, 400);
        bad(x, 0, " ".repeat(399) + "#", 1, 399);
        String units = "bids " + "1*".repeat(195) + "7;";
        good(x, 0, units, 1);
        DUE.is("13: 7", x.of(0, 10), 7);
        good(x, 0, "bids 5 when 1=1" + " or 1=1".repeat(54) + ";", 1);
        DUE.is("13: so", x.of(0, 10), 5);
        good(x, 0, "bids 6 when 1=1" + " and 1=1".repeat(48) + ";", 1);
        DUE.is("13: so", x.of(0, 10), 6);
    }

    /** Each byte a token of its own; a word, a NUMBER up to the last byte there can be. */
    private static void asManyTokens() {
        for (String sign : new String[] {";", "(", "+", "#", "1;", "a1"}) {
            String text = sign.repeat(400 / sign.length());
            for (int k = 0; k < 4; k++) {
                bad(quay(), k, text, 1, 0);
            }
        }
        bad(quay(), 0, " ".repeat(397) + "bid", 1, 397);
        bad(quay(), 0, " ".repeat(396) + "bids", 1, 400);
        bad(quay(), 0, " ".repeat(395) + "bids1", 1, 400);
        bad(quay(), 0, " ".repeat(391) + "bids 1234", 1, 400);
        bad(quay(), 0, " ".repeat(390) + "bids 12345", 1, 395);
        bad(quay(), 1, " ".repeat(392) + "bidder 0", 1, 400);
        bad(quay(), 0, "x".repeat(400), 1, 0);
        bad(quay(), 0, "1".repeat(400), 1, 0);
        good(quay(), 0, " ".repeat(393) + "bids 1;", 1);
    }

    /** What was cut off the TAPE is no part of the text. */
    private static void bytesBehindTheEnd() {
        String[] fed = {"bidsx", "bids 12345", "bids 1234", "bids 5;;", "bids 5;bids 6;", "bids 5 when 1<2"};
        int[] sizes = {4, 9, 8, 7, 7, 6};
        int[] places = {4, 9, 8, -1, -1, 6};
        for (int i = 0; i < fed.length; i++) {
            MockParcels x = quay();
            Due.feed(x, fed[i]);
            DUE.is("12: " + sizes[i] + " of " + fed[i], x.end(sizes[i]), true);
            DUE.is("13: " + sizes[i] + " of " + fed[i], x.text(0), places[i] == -1 ? 1 : -1);
            DUE.is("14: its place", x.fault(1), places[i]);
        }
        MockParcels y = quay();
        good(y, 0, "bids 5;step 7;full 8;", 3);
        good(y, 0, "bids 6;", 1);
        DUE.is("13: a shorter text", y.of(0, 20), 1);
    }
}
