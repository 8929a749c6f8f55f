/**
 * A mock auction of parcels before a crowd, as the document tells it.
 *
 * All that is now, and all that an image has, is a Whole. What a day or an act by hand may change is its
 * Quay alone, so that what can be undone is a few rows of it.
 */
public final class MockParcels {
    public static final int NONE = -1;

    private static final int NO_SUCH = NONE - 1;

    private static final int PARCELS = 16;
    private static final int BIDDERS = 8;
    private static final int KINDS = 7;
    private static final int KIND_ROW = KINDS + 1;
    private static final int LINES = 16;
    private static final int TAPE = 400;
    private static final int BOOK_LINES = 150;
    private static final int BOOK_COLUMNS = 4;
    private static final int ROUNDS = 30;
    private static final int MOST_DAYS = 60;
    private static final int LAST_DAY = 9999;
    private static final int PURSE_MOST = 9999;
    private static final int CROWD_MOST = 99;
    private static final int WET_MOST = 9;
    private static final int BILL_MOST = 99;
    private static final int PAY_MOST = 999;
    private static final int KEPT = 6;
    private static final int DEEPEST = 8;

    private static final int LENGTHS = 9;
    private static final int COINS = 6;
    private static final int PAYS_MOST = 999;
    private static final int PUTS = 7;
    private static final int CLUES = 8;
    private static final int RAIDS = 20;
    private static final int THINGS = 8;
    private static final int MODULUS = 1000000007;
    private static final int MILLION = 1000000;

    private static final int THE_LAW = 0;
    private static final int FOLLOWERS = 1;
    private static final int A_WEEK = 2;
    private static final int WISHED = 3;

    private static final int NOTE_BID = 0;
    private static final int NOTE_SOLD = 1;
    private static final int NOTE_OPENED = 2;
    private static final int NOTE_TAKEN = 3;
    private static final int NOTE_GIVEN = 4;
    private static final int NOTE_SETTLED = 5;

    private static final int MISPLACED = 1;
    private static final int OUT_OF_BOUNDS = 2;
    private static final int TOO_MANY = 3;

    // A token is END, BAD, a sign's own number, BIDS and a keyword's place in KEYWORDS, or NUMBER and its value.
    private static final int END = 0;
    private static final int BAD = 1;
    private static final int NUMBER = 1000;
    private static final String SIGNS = ";+-*/()<=>";
    // Each word has a blank behind it, the last one too.
    private static final String KEYWORDS = "bids step full when or and not weight rattle knots care shill purse price round crowd wet has day bidder follows on sell police bill pay wants for ";
    private static final int BIDS = 256;
    private static final int STEP = 257;
    private static final int FULL = 258;
    private static final int WHEN = 259;
    private static final int OR = 260;
    private static final int AND = 261;
    private static final int NOT = 262;
    private static final int WEIGHT = 263;
    private static final int RATTLE = 264;
    private static final int KNOTS = 265;
    private static final int CARE = 266;
    private static final int SHILL = 267;
    private static final int PURSE = 268;
    private static final int PRICE = 269;
    private static final int ROUND = 270;
    private static final int CROWD = 271;
    private static final int WET = 272;
    private static final int HAS = 273;
    private static final int DAY = 274;
    private static final int BIDDER = 275;
    private static final int FOLLOWS = 276;
    private static final int ON = 277;
    private static final int SELL = 278;
    private static final int POLICE = 279;
    private static final int BILL = 280;
    private static final int PAY = 281;
    private static final int WANTS = 282;
    private static final int FOR = 283;
    private static final int VALUES = DAY - WEIGHT + 1;

    private final Whole now = new Whole();
    private final Whole kept = new Whole();
    private final Past past = new Past();
    private final Quay dream = new Quay();
    private final Auction auction = new Auction(now, now.quay, false);
    private final Auction thought = new Auction(now, dream, true);
    private final Reader reader = new Reader();
    private final Parser parser = new Parser(reader);
    private final Sums sums = new Sums();
    private boolean taken = false;
    private int faultKind = 0;
    private int faultPlace = NONE;

    public MockParcels() {
    }

    public int state(int v) {
        int was = now.quay.draws;
        now.quay.draws = v;
        past.forget();
        return was;
    }

    public int parcel(int weight, int rattle, int knots) {
        if (!isWithin(weight, 0, 99) || !isWithin(rattle, 0, 9) || !isWithin(knots, 0, 9)
            || now.cast.parcels >= PARCELS) {
            return NONE;
        }
        past.forget();
        return now.cast.addParcel(weight, rattle, knots);
    }

    public int bidder(int purse, int care, boolean shill) {
        if (!isWithin(purse, 0, PURSE_MOST) || !isWithin(care, 0, 9) || now.cast.bidders >= BIDDERS) {
            return NONE;
        }
        past.forget();
        now.quay.purse[now.cast.bidders] = purse;
        return now.cast.addBidder(care, shill ? 1 : 0);
    }

    public boolean set(int what, int who, int v) {
        if (!canChange(what, who, v)) {
            return false;
        }
        past.forget();
        switch (what) {
            case 0:
                now.quay.crowd = v;
                break;
            case 1:
                now.quay.wet = v;
                break;
            case 2:
                now.quay.purse[who] = v;
                break;
            case 3:
                now.cast.care[who] = v;
                break;
            case 4:
                now.cast.knots[who] = v;
                break;
            default:
                now.quay.bill[who] = v;
                break;
        }
        return true;
    }

    private boolean canChange(int what, int who, int v) {
        switch (what) {
            case 0:
                return isWithin(v, 0, CROWD_MOST);
            case 1:
                return isWithin(v, 0, WET_MOST);
            case 2:
                return now.cast.hasBidder(who) && isWithin(v, 0, PURSE_MOST);
            case 3:
                return now.cast.hasBidder(who) && isWithin(v, 0, 9);
            case 4:
                return now.cast.hasParcel(who) && isWithin(v, 0, 9);
            case 5:
                return now.cast.hasParcel(who) && isWithin(v, 0, BILL_MOST);
            default:
                return false;
        }
    }

    public int sell(int parcel) {
        if (!auction.canSell(parcel)) {
            return NONE;
        }
        past.keep(now.quay);
        auction.sellOff(parcel);
        return auction.price;
    }

    public boolean pay(int bidder, int n) {
        if (!now.cast.hasBidder(bidder) || !isWithin(n, 1, PAY_MOST)) {
            return false;
        }
        past.keep(now.quay);
        auction.payOut(bidder, n);
        return true;
    }

    public boolean give(int a, int b, int kind) {
        if (!now.cast.hasBidder(a) || !now.cast.hasBidder(b) || a == b || !isWithin(kind, 1, KINDS)
            || now.quay.has[a * KIND_ROW + kind] < 1) {
            return false;
        }
        past.keep(now.quay);
        auction.handOver(a, b, kind);
        return true;
    }

    public int settle(int bidder) {
        if (!now.cast.hasBidder(bidder) || now.quay.owes[bidder] <= 0) {
            return NONE;
        }
        past.keep(now.quay);
        return auction.clearBill(bidder);
    }

    public int days(int n) {
        if (!isWithin(n, 1, MOST_DAYS) || now.quay.day + n > LAST_DAY) {
            return NONE;
        }
        int sold = 0;
        for (int i = 0; i < n; i++) {
            past.keep(now.quay);
            sold += auction.passDay();
        }
        return sold;
    }

    public int feed(int a, int b, int c, int d, int e) {
        if (reader.size + 20 > TAPE) {
            return NONE;
        }
        reader.append(a);
        reader.append(b);
        reader.append(c);
        reader.append(d);
        reader.append(e);
        return reader.size;
    }

    public boolean end(int n) {
        if (n < 0 || n > reader.size) {
            return false;
        }
        reader.size = n;
        return true;
    }

    public int text(int k) {
        faultKind = 0;
        faultPlace = NONE;
        int lines = NONE;
        if (isWithin(k, THE_LAW, WISHED)) {
            reader.begin();
            lines = parser.parse(k, now.cast);
            faultKind = reader.fault;
            faultPlace = reader.faultAt;
        }
        reader.size = 0;
        if (lines != NONE) {
            takeText(k);
        }
        return lines;
    }

    private void takeText(int k) {
        if (k == THE_LAW) {
            now.law.copyFrom(parser.law);
        } else if (k == FOLLOWERS) {
            now.plans.copyFollows(parser.plans);
            past.forget();
        } else if (k == A_WEEK) {
            now.plans.copyWeek(parser.plans);
            past.forget();
        } else {
            now.plans.copyWants(parser.plans);
        }
    }

    public int fault(int what) {
        if (what == 0) {
            return faultKind;
        }
        return what == 1 ? faultPlace : NONE;
    }

    public int of(int parcel, int what) {
        if (!now.cast.hasParcel(parcel)) {
            return NO_SUCH;
        }
        switch (what) {
            case 0:
                return now.cast.weight[parcel];
            case 1:
                return now.cast.rattle[parcel];
            case 2:
                return now.cast.knots[parcel];
            case 3:
                return now.quay.sold[parcel];
            case 4:
                return now.quay.in[parcel];
            case 5:
                return now.quay.bill[parcel];
            default:
                return lawOf(parcel, what);
        }
    }

    private int lawOf(int parcel, int what) {
        if (!isWithin(what, 10, 39) || !now.cast.hasBidder(what % 10)) {
            return NO_SUCH;
        }
        auction.setScene(parcel, what % 10, 0, 0);
        return now.law.tell(BIDS + what / 10 - 1);
    }

    public int who(int bidder, int what) {
        if (!now.cast.hasBidder(bidder)) {
            return NO_SUCH;
        }
        switch (what) {
            case 0:
                return now.quay.purse[bidder];
            case 1:
                return now.cast.care[bidder];
            case 2:
                return now.cast.shill[bidder];
            case 3:
                return now.quay.owes[bidder];
            case 4:
                return now.plans.follows[bidder];
            default:
                break;
        }
        if (isWithin(what, 11, 10 + KINDS)) {
            return now.quay.has[bidder * KIND_ROW + what - 10];
        }
        if (isWithin(what, 21, 20 + KINDS)) {
            return now.plans.wants[bidder * KIND_ROW + what - 20];
        }
        return NO_SUCH;
    }

    public int book(int i, int what) {
        if (i < 0 || i >= now.quay.lines || i >= BOOK_LINES || what < 0 || what >= BOOK_COLUMNS) {
            return NONE;
        }
        return now.book[i * BOOK_COLUMNS + what];
    }

    public int would(int parcel, int what) {
        if (!now.cast.hasParcel(parcel) || !isWithin(what, 0, 2)) {
            return NO_SUCH;
        }
        dream.copyFrom(now.quay);
        thought.callBids(parcel);
        if (what == 0) {
            return thought.last;
        }
        return what == 1 ? thought.price : thought.rounds;
    }

    public int goes(int n, int what) {
        if (!isWithin(n, 1, MOST_DAYS) || !isWithin(what, 0, 3)) {
            return NONE;
        }
        dream.copyFrom(now.quay);
        for (int i = 0; i < n; i++) {
            thought.passDay();
        }
        switch (what) {
            case 0:
                return dream.till;
            case 1:
                return dream.crowd;
            case 2:
                return dream.box;
            default:
                return now.cast.parcels - Integer.bitCount(dream.unsold(now.cast.parcels));
        }
    }

    public boolean weighs(int kind, int v) {
        if (!isWithin(kind, 1, KINDS) || !isWithin(v, 0, 99)) {
            return false;
        }
        now.told.weights[kind] = v;
        return true;
    }

    public int inside(int parcel, int what) {
        if (!now.cast.hasParcel(parcel) || !isWithin(what, 0, 1)) {
            return NONE;
        }
        int weight = now.cast.weight[parcel];
        sums.change(now.told.weights, KIND_ROW, weight);
        return what == 0 ? sums.ways[weight] : sums.fewest[weight];
    }

    public int length(int v) {
        if (v == NONE) {
            now.told.lengthCount = 0;
            return 0;
        }
        if (!isWithin(v, 1, 60) || now.told.lengthCount >= LENGTHS) {
            return NONE;
        }
        now.told.lengths[now.told.lengthCount] = v;
        now.told.lengthCount++;
        return now.told.lengthCount;
    }

    public int strings(int c, int what) {
        if (!isWithin(c, 1, 99) || !isWithin(what, 0, 1)) {
            return NONE;
        }
        int sum = 0;
        for (int i = 0; i < now.told.lengthCount; i++) {
            if (now.told.lengths[i] > c) {
                return NONE;
            }
            sum += now.told.lengths[i];
        }
        int many = sums.fewestStrings(now.told, c);
        return what == 0 ? many : many * c - sum;
    }

    public int coin(int v) {
        if (v == NONE) {
            now.told.coinCount = 0;
            return 0;
        }
        if (!isWithin(v, 1, 50) || now.told.coinCount >= COINS || now.told.hasCoin(v)) {
            return NONE;
        }
        now.told.coins[now.told.coinCount] = v;
        now.told.coinCount++;
        return now.told.coinCount;
    }

    public int pays(int n, int what) {
        if (!isWithin(n, 0, PAYS_MOST) || !isWithin(what, 0, 1)) {
            return NONE;
        }
        sums.change(now.told.coins, now.told.coinCount, n);
        return what == 0 ? sums.fewest[n] : sums.ways[n];
    }

    public boolean rank(int bidder, int order) {
        return isWithin(bidder, 0, THINGS - 1) && now.told.takeRank(bidder, order);
    }

    public int swaps(int bidder) {
        if (!isWithin(bidder, NONE, THINGS - 1)) {
            return NONE;
        }
        int goes = sums.trade(now.told);
        return bidder == NONE ? goes : sums.got[bidder];
    }

    public int wishes(int what) {
        if (what != 0 && !now.cast.hasBidder(what - 10)) {
            return NONE;
        }
        int most = sums.shareOut(now.plans, now.cast.bidders);
        return what == 0 ? most : sums.got[what - 10];
    }

    public int put(int price, int day) {
        if (price == NONE) {
            now.told.putCount = 0;
            return 0;
        }
        if (!isWithin(price, 0, 99) || !isWithin(day, 0, 9) || now.told.putCount >= PUTS) {
            return NONE;
        }
        now.told.prices[now.told.putCount] = price;
        now.told.dues[now.told.putCount] = day;
        now.told.putCount++;
        return now.told.putCount;
    }

    public int puts(int what) {
        if (!isWithin(what, 0, 1)) {
            return NONE;
        }
        int best = sums.bestPut(now.told);
        return what == 0 ? best / (PUTS + 1) : best % (PUTS + 1);
    }

    public int clue(int parcels, boolean is) {
        if (parcels == NONE) {
            now.told.clueCount = 0;
            return 0;
        }
        if (!isWithin(parcels, 0, (1 << PARCELS) - 1) || now.told.clueCount >= CLUES) {
            return NONE;
        }
        now.told.clues[now.told.clueCount] = parcels;
        now.told.clueIs[now.told.clueCount] = is ? 1 : 0;
        now.told.clueCount++;
        return now.told.clueCount;
    }

    public int which(int what) {
        if (what == 0) {
            return sums.matching(now.told, now.cast.parcels);
        }
        return what == 1 ? sums.fewestClues(now.told, now.cast.parcels) : NONE;
    }

    public int police(int day) {
        if (day == NONE) {
            now.told.raidCount = 0;
            return 0;
        }
        if (!isWithin(day, 0, 999) || now.told.raidCount >= RAIDS) {
            return NONE;
        }
        now.told.raids[now.told.raidCount] = day;
        now.told.raidCount++;
        return now.told.raidCount;
    }

    public int every(int d) {
        if (!isWithin(d, NONE, LAST_DAY)) {
            return NONE;
        }
        int apart = sums.raidsApart(now.told);
        if (d == NONE) {
            return apart;
        }
        if (apart <= 0) {
            return NONE;
        }
        return d + 1 + Math.floorMod(now.told.raids[0] - d - 1, apart);
    }

    public int shill(int p, int n, int m) {
        if (!isWithin(p, 0, 1000) || !isWithin(n, 0, 20) || !isWithin(m, n, 40)) {
            return NONE;
        }
        return sums.suspicion(p, n, m);
    }

    public int halves(int what) {
        if (!isWithin(what, 0, 1) || now.cast.bidders < 2) {
            return NONE;
        }
        int side = sums.nearestSide(now.quay.purse, now.cast.bidders);
        return what == 1 ? side : sums.gap(now.quay.purse, now.cast.bidders, side);
    }

    public int game(int what) {
        if (!isWithin(what, 0, 1)) {
            return NONE;
        }
        int parcel = sums.winningParcel(now.cast, now.quay);
        if (parcel == NONE || what == 0) {
            return parcel;
        }
        return sums.winningKnots(now.cast, now.quay, parcel);
    }

    public boolean undo() {
        return past.goBack(now.quay);
    }

    public boolean image(boolean taken) {
        if (taken) {
            kept.copyFrom(now);
            this.taken = true;
            return true;
        }
        if (!this.taken) {
            return false;
        }
        now.copyFrom(kept);
        past.forget();
        return true;
    }

    public int look(int what) {
        switch (what) {
            case 0:
                return now.cast.parcels;
            case 1:
                return now.cast.bidders;
            case 2:
                return now.quay.till;
            case 3:
                return now.quay.crowd;
            case 4:
                return now.quay.wet;
            case 5:
                return now.quay.day;
            case 6:
                return now.quay.box;
            case 7:
                return now.quay.unsold(now.cast.parcels);
            case 8:
                return now.quay.lines;
            case 9:
                return now.quay.draws;
            default:
                return lookAtTexts(what);
        }
    }

    private int lookAtTexts(int what) {
        switch (what) {
            case 10:
                return now.law.lines;
            case 11:
                return now.plans.followsLines;
            case 12:
                return now.plans.weekLines;
            case 13:
                return now.plans.wantsLines;
            case 14:
                return past.count;
            default:
                return NONE;
        }
    }

    private static boolean isWithin(int v, int least, int most) {
        return v >= least && v <= most;
    }

    private static void copyRow(int[] from, int[] to) {
        for (int i = 0; i < from.length && i < to.length; i++) {
            to[i] = from[i];
        }
    }

    private static void fillRow(int[] row, int v) {
        for (int i = 0; i < row.length; i++) {
            row[i] = v;
        }
    }

    /** Of PARCELS and BIDDERS what no day and no act by hand changes. */
    private static final class Cast {
        int parcels = 0;
        int bidders = 0;
        final int[] weight = new int[PARCELS];
        final int[] rattle = new int[PARCELS];
        final int[] knots = new int[PARCELS];
        final int[] care = new int[BIDDERS];
        final int[] shill = new int[BIDDERS];

        boolean hasParcel(int p) {
            return p >= 0 && p < parcels && p < PARCELS;
        }

        boolean hasBidder(int b) {
            return b >= 0 && b < bidders && b < BIDDERS;
        }

        int addParcel(int itsWeight, int itsRattle, int itsKnots) {
            if (parcels >= PARCELS) {
                return NONE;
            }
            weight[parcels] = itsWeight;
            rattle[parcels] = itsRattle;
            knots[parcels] = itsKnots;
            parcels++;
            return parcels - 1;
        }

        int addBidder(int hisCare, int isShill) {
            if (bidders >= BIDDERS) {
                return NONE;
            }
            care[bidders] = hisCare;
            shill[bidders] = isShill;
            bidders++;
            return bidders - 1;
        }

        void copyFrom(Cast other) {
            parcels = other.parcels;
            bidders = other.bidders;
            copyRow(other.weight, weight);
            copyRow(other.rattle, rattle);
            copyRow(other.knots, knots);
            copyRow(other.care, care);
            copyRow(other.shill, shill);
        }
    }

    /** What a day or an act by hand may change: one row of what can be undone. */
    private static final class Quay {
        final int[] sold = new int[PARCELS];
        final int[] in = new int[PARCELS];
        final int[] bill = new int[PARCELS];
        final int[] purse = new int[BIDDERS];
        final int[] owes = new int[BIDDERS];
        final int[] has = new int[BIDDERS * KIND_ROW];
        int draws = 0;
        int till = 0;
        int crowd = 0;
        int wet = 0;
        int day = 0;
        int box = 0;
        int lines = 0;

        Quay() {
            fillRow(sold, NONE);
            fillRow(in, NONE);
        }

        int draw(int m) {
            draws = 1664525 * draws + 1013904223;
            return m > 0 ? (draws >>> 8) % m : 0;
        }

        int things(int bidder) {
            int sum = 0;
            for (int kind = 1; kind <= KINDS; kind++) {
                sum += has[bidder * KIND_ROW + kind];
            }
            return sum;
        }

        int unsold(int parcels) {
            int open = 0;
            for (int p = 0; p < parcels && p < PARCELS; p++) {
                if (sold[p] == NONE) {
                    open |= 1 << p;
                }
            }
            return open;
        }

        void copyFrom(Quay other) {
            copyRow(other.sold, sold);
            copyRow(other.in, in);
            copyRow(other.bill, bill);
            copyRow(other.purse, purse);
            copyRow(other.owes, owes);
            copyRow(other.has, has);
            draws = other.draws;
            till = other.till;
            crowd = other.crowd;
            wet = other.wet;
            day = other.day;
            box = other.box;
            lines = other.lines;
        }
    }

    /** The quays that can be gone back to, the latest last: a ring, so that the oldest gives way. */
    private static final class Past {
        final Quay[] rows = new Quay[KEPT];
        int first = 0;
        int count = 0;

        Past() {
            for (int i = 0; i < KEPT; i++) {
                rows[i] = new Quay();
            }
        }

        void keep(Quay quay) {
            Quay row = rows[(first + count) % KEPT];
            if (row != null) {
                row.copyFrom(quay);
            }
            if (count < KEPT) {
                count++;
            } else {
                first = (first + 1) % KEPT;
            }
        }

        boolean goBack(Quay quay) {
            if (count == 0) {
                return false;
            }
            count--;
            Quay row = rows[(first + count) % KEPT];
            if (row != null) {
                quay.copyFrom(row);
            }
            return true;
        }

        void forget() {
            first = 0;
            count = 0;
        }
    }

    /** The three texts that are plain lines: FOLLOWS, A WEEK, WANTS. */
    private static final class Plans {
        final int[] follows = new int[BIDDERS];
        final int[] wants = new int[BIDDERS * KIND_ROW];
        final int[] weekDay = new int[LINES];
        final int[] weekAct = new int[LINES];
        final int[] weekWho = new int[LINES];
        final int[] weekMuch = new int[LINES];
        int followsLines = 0;
        int wantsLines = 0;
        int weekLines = 0;

        Plans() {
            fillRow(follows, NONE);
        }

        void clear() {
            fillRow(follows, NONE);
            fillRow(wants, 0);
            followsLines = 0;
            wantsLines = 0;
            weekLines = 0;
        }

        void addFollows(int one, int other) {
            if (isWithin(one, 0, BIDDERS - 1)) {
                follows[one] = other;
                followsLines++;
            }
        }

        void addWants(int one, int kind, int much) {
            if (isWithin(one, 0, BIDDERS - 1) && isWithin(kind, 1, KINDS)) {
                wants[one * KIND_ROW + kind] = much;
                wantsLines++;
            }
        }

        void addDay(int day, int act, int who, int much) {
            if (weekLines < LINES) {
                weekDay[weekLines] = day;
                weekAct[weekLines] = act;
                weekWho[weekLines] = who;
                weekMuch[weekLines] = much;
                weekLines++;
            }
        }

        void copyFollows(Plans other) {
            copyRow(other.follows, follows);
            followsLines = other.followsLines;
        }

        void copyWants(Plans other) {
            copyRow(other.wants, wants);
            wantsLines = other.wantsLines;
        }

        void copyWeek(Plans other) {
            copyRow(other.weekDay, weekDay);
            copyRow(other.weekAct, weekAct);
            copyRow(other.weekWho, weekWho);
            copyRow(other.weekMuch, weekMuch);
            weekLines = other.weekLines;
        }
    }

    /**
     * THE LAW as it is reckoned: operands before their signs, so that no tree is needed. A line's E stands
     * from the end of the line before to its middle, its B from there to its end.
     */
    private static final class Law {
        // A code below FIRST_WORD is a number, one below FIRST_SIGN a word of the scene, else a sign's token.
        static final int FIRST_WORD = 10000;
        static final int FIRST_SIGN = 20000;
        // Eight levels leave two values each behind them, a comparison four.
        static final int STACK = 32;

        final int[] codes = new int[TAPE];
        final int[] words = new int[LINES];
        final int[] middles = new int[LINES];
        final int[] ends = new int[LINES];
        final int[] scene = new int[VALUES];
        final int[] stack = new int[STACK];
        int size = 0;
        int lines = 0;

        void clear() {
            size = 0;
            lines = 0;
        }

        /** Always true, for there are never more codes than signs on the TAPE. */
        boolean add(int code) {
            if (size < TAPE) {
                codes[size] = code;
                size++;
            }
            return true;
        }

        void addLine(int word, int middle) {
            if (lines < LINES) {
                words[lines] = word;
                middles[lines] = middle;
                ends[lines] = size;
                lines++;
            }
        }

        void copyFrom(Law other) {
            size = other.size;
            lines = other.lines;
            for (int i = 0; i < size && i < TAPE; i++) {
                codes[i] = other.codes[i];
            }
            copyRow(other.words, words);
            copyRow(other.middles, middles);
            copyRow(other.ends, ends);
        }

        int tell(int word) {
            int from = 0;
            for (int i = 0; i < lines && i < LINES; i++) {
                if (words[i] == word && (middles[i] == ends[i] || reckon(middles[i], ends[i]) != 0)) {
                    return held(word, reckon(from, middles[i]));
                }
                from = ends[i];
            }
            return held(word, untold(word));
        }

        private int untold(int word) {
            if (word == BIDS) {
                return 600 - 50 * scene[CARE - WEIGHT] - 10 * scene[PRICE - WEIGHT];
            }
            return word == STEP ? 1 + scene[SHILL - WEIGHT] : 100 * scene[RATTLE - WEIGHT];
        }

        private int held(int word, int v) {
            return word == STEP ? Math.max(1, Math.min(99, v)) : Math.max(0, Math.min(1000, v));
        }

        private int reckon(int from, int to) {
            int top = 0;
            for (int i = Math.max(0, from); i < to && i < TAPE; i++) {
                int code = codes[i];
                if (code < FIRST_SIGN) {
                    if (top < STACK) {
                        stack[top] = operand(code);
                        top++;
                    }
                } else if (code == FIRST_SIGN + NOT) {
                    if (top > 0) {
                        stack[top - 1] = 1 - stack[top - 1];
                    }
                } else if (top > 1) {
                    top--;
                    stack[top - 1] = join(code - FIRST_SIGN, stack[top - 1], stack[top]);
                }
            }
            return top > 0 ? stack[top - 1] : 0;
        }

        private int operand(int code) {
            if (code < FIRST_WORD) {
                return code;
            }
            int word = code - FIRST_WORD;
            return word < VALUES ? scene[word] : 0;
        }

        private int join(int sign, int a, int b) {
            switch (sign) {
                case '+':
                    return a + b;
                case '-':
                    return a - b;
                case '*':
                    return a * b;
                case '/':
                    return b == 0 ? 0 : a / b;
                case '<':
                    return a < b ? 1 : 0;
                case '=':
                    return a == b ? 1 : 0;
                case '>':
                    return a > b ? 1 : 0;
                case AND:
                    return a & b;
                case OR:
                    return a | b;
                default:
                    return 0;
            }
        }
    }

    /** What is told for thought alone. */
    private static final class Told {
        final int[] weights = new int[KIND_ROW];
        final int[] lengths = new int[LENGTHS];
        final int[] coins = new int[COINS];
        final int[] ranks = new int[THINGS * THINGS];
        final int[] prices = new int[PUTS];
        final int[] dues = new int[PUTS];
        final int[] clues = new int[CLUES];
        final int[] clueIs = new int[CLUES];
        final int[] raids = new int[RAIDS];
        int lengthCount = 0;
        int coinCount = 0;
        int putCount = 0;
        int clueCount = 0;
        int raidCount = 0;

        Told() {
            for (int i = 0; i < THINGS * THINGS; i++) {
                ranks[i] = i % THINGS;
            }
        }

        boolean hasCoin(int v) {
            for (int i = 0; i < coinCount && i < COINS; i++) {
                if (coins[i] == v) {
                    return true;
                }
            }
            return false;
        }

        boolean takeRank(int bidder, int order) {
            if (!isRank(order)) {
                return false;
            }
            int rest = order;
            for (int i = THINGS - 1; i >= 0; i--) {
                ranks[bidder * THINGS + i] = rest % 10;
                rest /= 10;
            }
            return true;
        }

        private boolean isRank(int order) {
            if (order < 0) {
                return false;
            }
            int rest = order;
            int seen = 0;
            for (int i = 0; i < THINGS; i++) {
                seen |= 1 << (rest % 10);
                rest /= 10;
            }
            return rest == 0 && seen == (1 << THINGS) - 1;
        }

        void copyFrom(Told other) {
            copyRow(other.weights, weights);
            copyRow(other.lengths, lengths);
            copyRow(other.coins, coins);
            copyRow(other.ranks, ranks);
            copyRow(other.prices, prices);
            copyRow(other.dues, dues);
            copyRow(other.clues, clues);
            copyRow(other.clueIs, clueIs);
            copyRow(other.raids, raids);
            lengthCount = other.lengthCount;
            coinCount = other.coinCount;
            putCount = other.putCount;
            clueCount = other.clueCount;
            raidCount = other.raidCount;
        }
    }

    /** All that is and was told: what THE IMAGE has. */
    private static final class Whole {
        final Cast cast = new Cast();
        final Quay quay = new Quay();
        // How many lines it has stands in the quay: going back needs no more than that number.
        final int[] book = new int[BOOK_LINES * BOOK_COLUMNS];
        final Law law = new Law();
        final Plans plans = new Plans();
        final Told told = new Told();

        void copyFrom(Whole other) {
            cast.copyFrom(other.cast);
            quay.copyFrom(other.quay);
            copyRow(other.book, book);
            law.copyFrom(other.law);
            plans.copyFollows(other.plans);
            plans.copyWeek(other.plans);
            plans.copyWants(other.plans);
            told.copyFrom(other.told);
        }
    }

    /** What happens on a quay: the one there is, with draws and the book, or one in thought without both. */
    private static final class Auction {
        private final Cast cast;
        private final Law law;
        private final Plans plans;
        private final int[] book;
        private final Quay quay;
        private final boolean thinking;
        int last = NONE;
        int price = 0;
        int rounds = 0;

        Auction(Whole whole, Quay itsQuay, boolean inThought) {
            cast = whole.cast;
            law = whole.law;
            plans = whole.plans;
            book = whole.book;
            quay = itsQuay;
            thinking = inThought;
        }

        /** What the words of THE LAW stand for, till they stand for something else. */
        void setScene(int parcel, int bidder, int itsPrice, int itsRound) {
            if (!cast.hasParcel(parcel) || !cast.hasBidder(bidder)) {
                return;
            }
            int[] scene = law.scene;
            scene[0] = cast.weight[parcel];
            scene[RATTLE - WEIGHT] = cast.rattle[parcel];
            scene[KNOTS - WEIGHT] = cast.knots[parcel];
            scene[CARE - WEIGHT] = cast.care[bidder];
            scene[SHILL - WEIGHT] = cast.shill[bidder];
            scene[PURSE - WEIGHT] = quay.purse[bidder];
            scene[PRICE - WEIGHT] = itsPrice;
            scene[ROUND - WEIGHT] = itsRound;
            scene[CROWD - WEIGHT] = quay.crowd;
            scene[WET - WEIGHT] = quay.wet;
            scene[HAS - WEIGHT] = quay.things(bidder);
            scene[DAY - WEIGHT] = quay.day;
        }

        boolean canSell(int parcel) {
            return cast.hasParcel(parcel) && quay.sold[parcel] == NONE;
        }

        /** Bids round by round; last, price and rounds tell then how it went. */
        void callBids(int parcel) {
            last = NONE;
            price = 0;
            rounds = 0;
            boolean going = true;
            for (int round = 0; round < ROUNDS && going; round++) {
                going = false;
                for (int b = 0; b < cast.bidders && b < BIDDERS; b++) {
                    if (b != last && !isHeldBack(b) && hasBid(parcel, b, round)) {
                        going = true;
                    }
                }
                rounds++;
            }
        }

        private boolean isHeldBack(int bidder) {
            return last != NONE && plans.follows[bidder] == last;
        }

        private boolean hasBid(int parcel, int bidder, int round) {
            setScene(parcel, bidder, price, round);
            int likely = law.tell(BIDS);
            boolean eager = thinking ? likely >= 500 : quay.draw(1000) < likely;
            if (!eager) {
                return false;
            }
            int more = price + law.tell(STEP);
            if (more > quay.purse[bidder] && cast.shill[bidder] == 0) {
                return false;
            }
            price = more;
            last = bidder;
            note(NOTE_BID, bidder, more);
            return true;
        }

        /** Sells what canSell allows: whether somebody has it then. */
        boolean sellOff(int parcel) {
            if (!canSell(parcel)) {
                return false;
            }
            callBids(parcel);
            if (!cast.hasBidder(last)) {
                quay.crowd -= quay.crowd / 10;
                return false;
            }
            int paid = cast.shill[last] == 1 ? 0 : price;
            quay.purse[last] -= paid;
            quay.till += paid;
            quay.sold[parcel] = last;
            note(NOTE_SOLD, last, paid);
            open(parcel, last);
            return true;
        }

        private void open(int parcel, int bidder) {
            setScene(parcel, bidder, price, rounds);
            int kind = found(law.tell(FULL));
            quay.in[parcel] = kind;
            note(NOTE_OPENED, bidder, kind);
            quay.owes[bidder] += quay.bill[parcel];
            if (kind > 0) {
                quay.has[bidder * KIND_ROW + kind]++;
                quay.crowd = Math.min(CROWD_MOST, quay.crowd + 2 * rounds);
            } else {
                quay.crowd = Math.max(0, quay.crowd - 3);
            }
        }

        private int found(int likely) {
            if (thinking) {
                return likely >= 500 ? 1 : 0;
            }
            return quay.draw(1000) < likely ? quay.draw(KINDS) + 1 : 0;
        }

        /** How many PARCELS were sold on it. */
        int passDay() {
            int sold = 0;
            for (int i = 0; i < plans.weekLines && i < LINES; i++) {
                if (plans.weekDay[i] != quay.day) {
                    continue;
                }
                int act = plans.weekAct[i];
                if (act != SELL) {
                    change(act, plans.weekWho[i], plans.weekMuch[i]);
                } else if (sellOff(plans.weekWho[i])) {
                    sold++;
                }
            }
            quay.crowd = Math.max(0, quay.crowd - quay.wet);
            quay.day++;
            return sold;
        }

        private void change(int act, int who, int much) {
            switch (act) {
                case WET:
                    quay.wet = much;
                    break;
                case CROWD:
                    quay.crowd = much;
                    break;
                case POLICE:
                    raid();
                    break;
                case BILL:
                    if (canSell(who)) {
                        quay.bill[who] = much;
                    }
                    break;
                default:
                    payOut(who, much);
                    break;
            }
        }

        private void raid() {
            int richest = NONE;
            int most = 0;
            for (int b = 0; b < cast.bidders && b < BIDDERS; b++) {
                int many = quay.things(b);
                if (cast.shill[b] == 0 && many > most) {
                    richest = b;
                    most = many;
                }
            }
            if (richest != NONE) {
                seize(richest);
            }
        }

        private void seize(int bidder) {
            for (int kind = 1; kind <= KINDS; kind++) {
                if (quay.has[bidder * KIND_ROW + kind] > 0) {
                    quay.has[bidder * KIND_ROW + kind]--;
                    quay.box++;
                    note(NOTE_TAKEN, bidder, kind);
                    return;
                }
            }
        }

        void payOut(int bidder, int n) {
            if (cast.hasBidder(bidder)) {
                quay.purse[bidder] = Math.min(PURSE_MOST, quay.purse[bidder] + n);
            }
        }

        void handOver(int a, int b, int kind) {
            if (cast.hasBidder(a) && cast.hasBidder(b) && isWithin(kind, 1, KINDS)) {
                quay.has[a * KIND_ROW + kind]--;
                quay.has[b * KIND_ROW + kind]++;
                note(NOTE_GIVEN, a, kind);
            }
        }

        int clearBill(int bidder) {
            if (!cast.hasBidder(bidder)) {
                return NONE;
            }
            int paid = Math.min(quay.owes[bidder], quay.purse[bidder]);
            quay.owes[bidder] -= paid;
            quay.purse[bidder] -= paid;
            quay.till += paid;
            note(NOTE_SETTLED, bidder, paid);
            return paid;
        }

        private void note(int what, int who, int much) {
            if (thinking || quay.lines < 0 || quay.lines >= BOOK_LINES) {
                return;
            }
            int at = quay.lines * BOOK_COLUMNS;
            book[at] = quay.day;
            book[at + 1] = what;
            book[at + 2] = who;
            book[at + 3] = much;
            quay.lines++;
        }
    }

    /** The TAPE, its tokens, and the first fault that is found among them. */
    private static final class Reader {
        final int[] tape = new int[TAPE];
        int size = 0;
        // One more than the TAPE can have, for the end.
        private final int[] tokens = new int[TAPE + 1];
        private final int[] starts = new int[TAPE + 1];
        private int count = 0;
        private int at = 0;
        int token = END;
        int fault = 0;
        int faultAt = NONE;

        void append(int four) {
            for (int shift = 24; shift >= 0 && size < TAPE; shift -= 8) {
                tape[size] = (four >>> shift) & 255;
                size++;
            }
        }

        /** Reads all tokens at once, so that the parser's way down to a token is short. */
        void begin() {
            fault = 0;
            faultAt = NONE;
            count = 0;
            int place = 0;
            for (int i = 0; i < TAPE && place < size && place < TAPE; i++) {
                int behind = place + 1;
                if (!isBlank(tape[place])) {
                    behind = behindToken(place);
                    addToken(tokenOf(place, behind), place);
                }
                place = behind;
            }
            addToken(END, size);
            at = 0;
            token = tokens[0];
        }

        void step() {
            if (at < count - 1) {
                at++;
            }
            token = tokens[at];
        }

        boolean refuse(int kind) {
            fault = kind;
            faultAt = starts[at];
            return false;
        }

        boolean take(int wanted) {
            if (token != wanted) {
                return refuse(MISPLACED);
            }
            step();
            return true;
        }

        /** Looks at a NUMBER and stays before it: it may be refused for more than its bounds. */
        boolean isNumber(int least, int most) {
            if (token < NUMBER) {
                return refuse(MISPLACED);
            }
            return isWithin(token - NUMBER, least, most) || refuse(OUT_OF_BOUNDS);
        }

        private void addToken(int itsToken, int place) {
            if (count <= TAPE) {
                tokens[count] = itsToken;
                starts[count] = place;
                count++;
            }
        }

        /** Letters and digits go as far as they stand together, all else is one sign. */
        private int behindToken(int from) {
            boolean letters = isLetter(tape[from]);
            boolean digits = isDigit(tape[from]);
            int to = from + 1;
            while (to < size && to < TAPE && (letters && isLetter(tape[to]) || digits && isDigit(tape[to]))) {
                to++;
            }
            return to;
        }

        private int tokenOf(int from, int to) {
            if (isLetter(tape[from])) {
                return keyword(from, to);
            }
            if (isDigit(tape[from])) {
                return number(from, to);
            }
            return SIGNS.indexOf((char) tape[from]) >= 0 ? tape[from] : BAD;
        }

        private int keyword(int from, int to) {
            int word = 0;
            int place = from;
            boolean same = true;
            for (int i = 0; i < KEYWORDS.length(); i++) {
                char sign = KEYWORDS.charAt(i);
                if (sign != ' ') {
                    same = same && place < to && tape[place] == sign;
                    place++;
                } else if (same && place == to) {
                    return BIDS + word;
                } else {
                    word++;
                    place = from;
                    same = true;
                }
            }
            return BAD;
        }

        private int number(int from, int to) {
            if (to - from > 4) {
                return BAD;
            }
            int value = 0;
            for (int place = from; place < to && place < TAPE; place++) {
                value = 10 * value + tape[place] - '0';
            }
            return NUMBER + value;
        }

        private static boolean isBlank(int sign) {
            return sign == ' ' || sign == '\n';
        }

        private static boolean isLetter(int sign) {
            return sign >= 'a' && sign <= 'z' || sign >= 'A' && sign <= 'Z';
        }

        private static boolean isDigit(int sign) {
            return sign >= '0' && sign <= '9';
        }
    }

    /** Reads a text into rows of its own, so that a fault leaves what stood before. */
    private static final class Parser {
        final Law law = new Law();
        final Plans plans = new Plans();
        private final Reader reader;
        private int parcels = 0;
        private int bidders = 0;

        Parser(Reader itsReader) {
            reader = itsReader;
        }

        /** How many lines it has; NONE with a fault, which the reader tells. */
        int parse(int k, Cast cast) {
            parcels = cast.parcels;
            bidders = cast.bidders;
            law.clear();
            plans.clear();
            int lines = 0;
            for (int i = 0; i <= LINES && reader.token != END; i++) {
                boolean good = beginsLine(k, lines);
                if (good && k == THE_LAW) {
                    good = parseLaw();
                } else if (good && k == FOLLOWERS) {
                    good = parseFollows();
                } else if (good && k == A_WEEK) {
                    good = parseDay();
                } else if (good) {
                    good = parseWants();
                }
                if (!good) {
                    return NONE;
                }
                lines++;
            }
            return lines;
        }

        private boolean beginsLine(int k, int lines) {
            boolean fits;
            if (k == THE_LAW) {
                fits = isWithin(reader.token, BIDS, FULL);
            } else {
                fits = reader.token == (k == A_WEEK ? ON : BIDDER);
            }
            if (!fits) {
                return reader.refuse(MISPLACED);
            }
            return lines < LINES || reader.refuse(TOO_MANY);
        }

        /** The NUMBER that stands there, which is left behind; NONE with a fault. */
        private int takeNumber(int least, int most) {
            if (!reader.isNumber(least, most)) {
                return NONE;
            }
            int value = reader.token - NUMBER;
            reader.step();
            return value;
        }

        private boolean parseFollows() {
            reader.step();
            int one = takeNumber(0, bidders - 1);
            if (one == NONE || !reader.take(FOLLOWS) || !reader.isNumber(0, bidders - 1)) {
                return false;
            }
            int other = reader.token - NUMBER;
            if (one == other) {
                return reader.refuse(OUT_OF_BOUNDS);
            }
            reader.step();
            if (!reader.take(';')) {
                return false;
            }
            plans.addFollows(one, other);
            return true;
        }

        private boolean parseWants() {
            reader.step();
            int one = takeNumber(0, bidders - 1);
            if (one == NONE || !reader.take(WANTS)) {
                return false;
            }
            int kind = takeNumber(1, KINDS);
            if (kind == NONE || !reader.take(FOR)) {
                return false;
            }
            int much = takeNumber(0, 99);
            if (much == NONE || !reader.take(';')) {
                return false;
            }
            plans.addWants(one, kind, much);
            return true;
        }

        private boolean parseDay() {
            reader.step();
            int day = takeNumber(0, 999);
            if (day == NONE) {
                return false;
            }
            int act = reader.token;
            if (!isWithin(act, SELL, PAY) && act != WET && act != CROWD) {
                return reader.refuse(MISPLACED);
            }
            reader.step();
            int who = 0;
            if (act == SELL || act == BILL || act == PAY) {
                who = takeNumber(0, (act == PAY ? bidders : parcels) - 1);
            }
            int much = 0;
            if (who != NONE && act != SELL && act != POLICE) {
                much = takeNumber(act == PAY ? 1 : 0, mostOf(act));
            }
            if (who == NONE || much == NONE || !reader.take(';')) {
                return false;
            }
            plans.addDay(day, act, who, much);
            return true;
        }

        private static int mostOf(int act) {
            switch (act) {
                case WET:
                    return WET_MOST;
                case CROWD:
                    return CROWD_MOST;
                case BILL:
                    return BILL_MOST;
                default:
                    return PAY_MOST;
            }
        }

        private boolean parseLaw() {
            int word = reader.token;
            reader.step();
            if (!parseSum()) {
                return false;
            }
            int middle = law.size;
            if (reader.token == WHEN) {
                reader.step();
                if (!parseEither(0)) {
                    return false;
                }
            }
            if (!reader.take(';')) {
                return false;
            }
            law.addLine(word, middle);
            return true;
        }

        /** B, with each A of it: an or waits till the A behind it is whole. */
        private boolean parseEither(int open) {
            for (int ors = 0; ors <= TAPE; ors++) {
                if (!parseCase(open)) {
                    return false;
                }
                for (int ands = 0; ands < TAPE && reader.token == AND; ands++) {
                    reader.step();
                    if (!parseCase(open)) {
                        return false;
                    }
                    law.add(Law.FIRST_SIGN + AND);
                }
                if (ors > 0) {
                    law.add(Law.FIRST_SIGN + OR);
                }
                if (reader.token != OR) {
                    return true;
                }
                reader.step();
            }
            return false;
        }

        /** C: the ( and not that are open are counted, so it goes no deeper than eight of them. */
        private boolean parseCase(int open) {
            int opener = reader.token;
            if (opener != NOT && opener != '(') {
                if (!parseSum()) {
                    return false;
                }
                int sign = reader.token;
                if (sign != '<' && sign != '=' && sign != '>') {
                    return reader.refuse(MISPLACED);
                }
                reader.step();
                return parseSum() && law.add(Law.FIRST_SIGN + sign);
            }
            if (open >= DEEPEST) {
                return reader.refuse(TOO_MANY);
            }
            reader.step();
            if (opener == '(') {
                return parseEither(open + 1) && reader.take(')');
            }
            return parseCase(open + 1) && law.add(Law.FIRST_SIGN + NOT);
        }

        /** E, with each T of it: a + or - waits till the T behind it is whole. */
        private boolean parseSum() {
            int waiting = NONE;
            for (int i = 0; i <= TAPE; i++) {
                if (!parseUnit(false)) {
                    return false;
                }
                for (int j = 0; j < TAPE && (reader.token == '*' || reader.token == '/'); j++) {
                    int sign = reader.token;
                    reader.step();
                    if (!parseUnit(sign == '/')) {
                        return false;
                    }
                    law.add(Law.FIRST_SIGN + sign);
                }
                if (waiting != NONE) {
                    law.add(Law.FIRST_SIGN + waiting);
                }
                if (reader.token != '+' && reader.token != '-') {
                    return true;
                }
                waiting = reader.token;
                reader.step();
            }
            return false;
        }

        private boolean parseUnit(boolean divides) {
            int token = reader.token;
            if (token >= NUMBER) {
                if (divides && token == NUMBER) {
                    return reader.refuse(OUT_OF_BOUNDS);
                }
                law.add(token - NUMBER);
            } else if (!divides && token >= WEIGHT && token <= DAY) {
                law.add(Law.FIRST_WORD + token - WEIGHT);
            } else {
                return reader.refuse(MISPLACED);
            }
            reader.step();
            return true;
        }
    }

    /** What is reckoned in thought; its rows are made once and used again by every call. */
    private static final class Sums {
        static final int KIND_SETS = 1 << KINDS;
        // A row of cuts is how many strings, a hundred times, and how much of the last one is used.
        static final int FULL_STRING = 100;
        static final int MOST_CUT = FULL_STRING * (LENGTHS + 1);

        final int[] fewest = new int[PAYS_MOST + 1];
        final int[] ways = new int[PAYS_MOST + 1];
        final int[] got = new int[THINGS];
        private final int[] cut = new int[1 << LENGTHS];
        private final int[] most = new int[(BIDDERS + 1) * KIND_SETS];
        private final int[] marks = new int[PARCELS];
        private final int[] points = new int[THINGS];

        /** Fills fewest and ways up to a sum; sizes of 0 are left out. */
        void change(int[] sizes, int count, int sum) {
            for (int s = 0; s <= sum && s <= PAYS_MOST; s++) {
                fewest[s] = s == 0 ? 0 : NONE;
                ways[s] = s == 0 ? 1 : 0;
            }
            for (int i = 0; i < count && i < sizes.length; i++) {
                if (sizes[i] > 0) {
                    addSize(sizes[i], sum);
                }
            }
        }

        private void addSize(int size, int sum) {
            for (int s = Math.max(0, size); s <= sum && s <= PAYS_MOST; s++) {
                int before = fewest[s - size];
                if (before != NONE && (fewest[s] == NONE || before + 1 < fewest[s])) {
                    fewest[s] = before + 1;
                }
                ways[s] = (int) (((long) ways[s] + ways[s - size]) % MODULUS);
            }
        }

        /** For each set of lengths: the fewest strings, and of those ways the least that is used of the last. */
        int fewestStrings(Told told, int c) {
            int count = Math.min(told.lengthCount, LENGTHS);
            cut[0] = c;
            for (int set = 1; set < 1 << count; set++) {
                int best = MOST_CUT;
                for (int i = 0; i < count; i++) {
                    if ((set >> i & 1) == 1) {
                        best = Math.min(best, cutOne(cut[set ^ (1 << i)], told.lengths[i], c));
                    }
                }
                cut[set] = best;
            }
            return cut[(1 << count) - 1] / FULL_STRING;
        }

        private int cutOne(int before, int piece, int c) {
            int used = before % FULL_STRING;
            return used + piece <= c ? before + piece : before - used + FULL_STRING + piece;
        }

        /** Fills got with who has which THING at last: in how many goes. */
        int trade(Told told) {
            int left = (1 << THINGS) - 1;
            int goes = 0;
            for (int i = 0; i < THINGS && left != 0; i++) {
                pointAll(told, left);
                int out = 0;
                for (int b = 0; b < THINGS; b++) {
                    if ((left >> b & 1) == 1 && goesRound(b)) {
                        got[b] = points[b];
                        out |= 1 << b;
                    }
                }
                left &= ~out;
                goes++;
            }
            return goes;
        }

        private void pointAll(Told told, int left) {
            for (int b = 0; b < THINGS; b++) {
                points[b] = b;
                for (int i = THINGS - 1; i >= 0; i--) {
                    int thing = told.ranks[b * THINGS + i];
                    if ((left >> thing & 1) == 1) {
                        points[b] = thing;
                    }
                }
            }
        }

        private boolean goesRound(int bidder) {
            int at = points[bidder];
            for (int i = 0; i < THINGS && at != bidder && isWithin(at, 0, THINGS - 1); i++) {
                at = points[at];
            }
            return at == bidder;
        }

        /** Fills got with which KIND a BIDDER has: how much is wanted together. */
        int shareOut(Plans plans, int bidders) {
            int count = Math.min(bidders, BIDDERS);
            for (int set = 0; set < KIND_SETS; set++) {
                most[count * KIND_SETS + set] = 0;
            }
            for (int b = count - 1; b >= 0; b--) {
                for (int set = 0; set < KIND_SETS; set++) {
                    most[b * KIND_SETS + set] = bestFor(plans, b, set);
                }
            }
            int set = 0;
            for (int b = 0; b < count; b++) {
                got[b] = leastKind(plans, b, set);
                set |= bitOf(got[b]);
            }
            return most[0];
        }

        private int bestFor(Plans plans, int bidder, int set) {
            int best = 0;
            for (int kind = 0; kind <= KINDS; kind++) {
                if ((set & bitOf(kind)) == 0) {
                    best = Math.max(best, wanted(plans, bidder, kind, set));
                }
            }
            return best;
        }

        private int leastKind(Plans plans, int bidder, int set) {
            for (int kind = 0; kind <= KINDS; kind++) {
                if ((set & bitOf(kind)) == 0
                    && wanted(plans, bidder, kind, set) == most[bidder * KIND_SETS + set]) {
                    return kind;
                }
            }
            return 0;
        }

        /** What a BIDDER and those behind him want together, if he has that KIND; nobody wants KIND 0. */
        private int wanted(Plans plans, int bidder, int kind, int set) {
            return plans.wants[bidder * KIND_ROW + kind] + most[(bidder + 1) * KIND_SETS + (set | bitOf(kind))];
        }

        private int bitOf(int kind) {
            return kind > 0 ? 1 << (kind - 1) : 0;
        }

        /** The best price, eight times, and how many are sold for it. */
        int bestPut(Told told) {
            int count = Math.min(told.putCount, PUTS);
            int best = 0;
            for (int set = 0; set < 1 << count; set++) {
                if (isInTime(told, count, set)) {
                    int price = 0;
                    for (int i = 0; i < count; i++) {
                        price += (set >> i & 1) * told.prices[i];
                    }
                    best = Math.max(best, price * (PUTS + 1) + Integer.bitCount(set));
                }
            }
            return best;
        }

        /** By each day no more are due than there were days. */
        private boolean isInTime(Told told, int count, int set) {
            for (int day = 0; day <= 9; day++) {
                int due = 0;
                for (int i = 0; i < count; i++) {
                    if ((set >> i & 1) == 1 && told.dues[i] <= day) {
                        due++;
                    }
                }
                if (due > day + 1) {
                    return false;
                }
            }
            return true;
        }

        int matching(Told told, int parcels) {
            int set = (1 << Math.min(parcels, PARCELS)) - 1;
            for (int i = 0; i < told.clueCount && i < CLUES; i++) {
                set &= told.clueIs[i] == 1 ? told.clues[i] : ~told.clues[i];
            }
            return set;
        }

        int fewestClues(Told told, int parcels) {
            int count = Math.min(told.clueCount, CLUES);
            int there = Math.min(parcels, PARCELS);
            for (int p = 0; p < there; p++) {
                marks[p] = 0;
                for (int i = 0; i < count; i++) {
                    marks[p] |= (told.clues[i] >> p & 1) << i;
                }
            }
            int best = count;
            for (int set = 0; set < 1 << count; set++) {
                if (Integer.bitCount(set) < best && tellsAll(set, there)) {
                    best = Integer.bitCount(set);
                }
            }
            return best;
        }

        private boolean tellsAll(int set, int there) {
            for (int p = 1; p < there && p < PARCELS; p++) {
                for (int q = 0; q < p; q++) {
                    if (marks[p] != marks[q] && (marks[p] & set) == (marks[q] & set)) {
                        return false;
                    }
                }
            }
            return true;
        }

        int raidsApart(Told told) {
            int apart = 0;
            for (int i = 1; i < told.raidCount && i < RAIDS; i++) {
                apart = divisor(apart, Math.abs(told.raids[i] - told.raids[0]));
            }
            return apart;
        }

        private int divisor(int a, int b) {
            int one = a;
            int other = b;
            for (int i = 0; i < 64 && other != 0; i++) {
                int rest = one % other;
                one = other;
                other = rest;
            }
            return one;
        }

        int suspicion(int p, int n, int m) {
            int q = 1000 * p;
            for (int i = 0; i < m && i < 40; i++) {
                q = i < n ? weighed(q, 6, 3) : weighed(q, 4, 7);
            }
            return q;
        }

        private int weighed(int q, int shills, int others) {
            long one = (long) q * shills;
            long both = one + (long) (MILLION - q) * others;
            return both <= 0 ? 0 : (int) (one * MILLION / both);
        }

        int nearestSide(int[] purses, int bidders) {
            int count = Math.min(bidders, BIDDERS);
            int side = 1;
            // Odd sets have BIDDER 0; the last odd one has everybody and is left out.
            for (int set = 3; set < (1 << count) - 1; set += 2) {
                if (gap(purses, count, set) < gap(purses, count, side)) {
                    side = set;
                }
            }
            return side;
        }

        int gap(int[] purses, int bidders, int side) {
            int apart = 0;
            for (int b = 0; b < bidders && b < purses.length; b++) {
                apart += (side >> b & 1) == 1 ? purses[b] : -purses[b];
            }
            return Math.abs(apart);
        }

        int winningParcel(Cast cast, Quay quay) {
            for (int p = 0; p < cast.parcels && p < PARCELS; p++) {
                if (quay.sold[p] == NONE && winningKnots(cast, quay, p) != NONE) {
                    return p;
                }
            }
            return NONE;
        }

        /** The fewest knots of a PARCEL not SOLD after which the other one loses. */
        int winningKnots(Cast cast, Quay quay, int parcel) {
            if (!cast.hasParcel(parcel)) {
                return NONE;
            }
            int knots = cast.knots[parcel];
            int rest = worthOfAll(cast, quay) ^ worth(knots);
            for (int n = 1; n <= knots; n++) {
                if ((n <= 2 || n == knots) && rest == worth(knots - n)) {
                    return n;
                }
            }
            return NONE;
        }

        private int worthOfAll(Cast cast, Quay quay) {
            int all = 0;
            for (int p = 0; p < cast.parcels && p < PARCELS; p++) {
                if (quay.sold[p] == NONE) {
                    all ^= worth(cast.knots[p]);
                }
            }
            return all;
        }

        /**
         * The Nim heap that so many knots are like: one can leave one fewer, two fewer or none at all, and
         * the least worth that can't be left so goes 1, 2, 3 again and again.
         */
        private int worth(int knots) {
            return knots <= 0 ? 0 : (knots - 1) % 3 + 1;
        }
    }
}
