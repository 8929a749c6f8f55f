import java.util.List;
import java.util.function.Supplier;
import java.util.function.ToLongFunction;

/** Counts and prints the answers that are not as due; what the tests of the project share. */
final class Due {
    private final String test;
    private int wrong = 0;
    private int asked = 0;

    Due(String test) {
        this.test = test;
    }

    void is(String call, long got, long want) {
        asked++;
        if (got != want) {
            wrong++;
            if (wrong <= 20) {
                System.out.println(test + ": " + call + " answered " + got + ", due is " + want);
            }
        }
    }

    void is(String call, boolean got, boolean want) {
        is(call, got ? 1 : 0, want ? 1 : 0);
    }

    void same(String call, List<String> got, List<String> want) {
        for (int i = 0; i < got.size() && i < want.size(); i++) {
            if (!got.get(i).equals(want.get(i))) {
                is(call + ": " + got.get(i) + ", due is " + want.get(i) + ", row", i, -1);
                return;
            }
        }
        is(call + ": rows", got.size(), want.size());
    }

    /** A call that is made on one of two like objects: what it answers, and that both are alike then too. */
    void changesNothing(String call, Supplier<MockParcels> made, ToLongFunction<MockParcels> act, long want) {
        MockParcels x = made.get();
        is(call, act.applyAsLong(x), want);
        same(call + " changes nothing", Seen.all(x), Seen.all(made.get()));
    }

    void end() {
        System.out.println(test + ": " + asked + " answers, " + wrong + " wrong");
        if (wrong != 0) {
            System.exit(1);
        }
    }

    /** Feeds a text of up to 400 signs to an empty TAPE: twenty at a time, the blanks behind it are cut off again. */
    static void feed(MockParcels x, String text) {
        int length = text.length();
        StringBuilder padded = new StringBuilder(text);
        while (padded.length() % 20 != 0) {
            padded.append(' ');
        }
        for (int i = 0; i < padded.length(); i += 20) {
            x.feed(four(padded, i), four(padded, i + 4), four(padded, i + 8), four(padded, i + 12),
                four(padded, i + 16));
        }
        x.end(length);
    }

    static int text(MockParcels x, int k, String text) {
        feed(x, text);
        return x.text(k);
    }

    private static int four(CharSequence text, int from) {
        int v = 0;
        for (int i = from; i < from + 4; i++) {
            v = v << 8 | text.charAt(i) & 255;
        }
        return v;
    }
}
