import java.util.ArrayList;
import java.util.List;

/** All that can be asked of an object, as rows of text; the asking spends the object, within its 512 calls. */
final class Seen {
    private final MockParcels x;
    private final List<String> rows = new ArrayList<>();

    private Seen(MockParcels x) {
        this.x = x;
    }

    static List<String> all(MockParcels x) {
        Seen seen = new Seen(x);
        seen.row("fault(0)", x.fault(0));
        seen.row("fault(1)", x.fault(1));
        seen.plain();
        seen.book();
        seen.law();
        seen.thought();
        seen.past();
        seen.tape();
        seen.image();
        seen.counts();
        return seen.rows;
    }

    /** All but the TAPE and fault(). */
    static List<String> butTape(MockParcels x) {
        Seen seen = new Seen(x);
        seen.plain();
        seen.book();
        seen.law();
        seen.thought();
        seen.past();
        seen.image();
        seen.counts();
        return seen.rows;
    }

    /** What is there now, without what can be undone and gone back to: this may be asked again and again. */
    static List<String> now(MockParcels x) {
        Seen seen = new Seen(x);
        seen.quay();
        seen.book();
        return seen.rows;
    }

    private void row(String call, long answer) {
        rows.add(call + " = " + answer);
    }

    private void row(String call, boolean answer) {
        row(call, answer ? 1 : 0);
    }

    private void plain() {
        quay();
        for (int what = 10; what <= 14; what++) {
            row("look(" + what + ")", x.look(what));
        }
        for (int b = 0; b < x.look(1); b++) {
            row("who(" + b + ", 1)", x.who(b, 1));
            row("who(" + b + ", 2)", x.who(b, 2));
            row("who(" + b + ", 4)", x.who(b, 4));
            for (int kind = 1; kind <= 7; kind += 3) {
                row("wants", x.who(b, 20 + kind));
            }
        }
        for (int p = 0; p < x.look(0); p++) {
            row("weight", x.of(p, 0));
            row("rattle", x.of(p, 1));
            row("knots", x.of(p, 2));
        }
    }

    /** What days and acts by hand change. */
    private void quay() {
        for (int what = 0; what <= 9; what++) {
            row("look(" + what + ")", x.look(what));
        }
        for (int p = 0; p < x.look(0); p++) {
            row("SOLD of " + p, x.of(p, 3));
            row("IN of " + p, x.of(p, 4));
            row("BILL of " + p, x.of(p, 5));
        }
        for (int b = 0; b < x.look(1); b++) {
            row("PURSE of " + b, x.who(b, 0));
            row("OWES of " + b, x.who(b, 3));
            for (int kind = 1; kind <= 7; kind++) {
                row("has " + b + " of " + kind, x.who(b, 10 + kind));
            }
        }
    }

    private void book() {
        for (int i = 0; i < Math.min(8, x.look(8)); i++) {
            for (int what = 0; what <= 3; what++) {
                row("book(" + i + ", " + what + ")", x.book(i, what));
            }
        }
    }

    private void law() {
        for (int b = 0; b < Math.min(3, x.look(1)); b++) {
            for (int word = 10; word <= 30; word += 10) {
                row("of(0, " + (word + b) + ")", x.of(0, word + b));
            }
        }
    }

    private void thought() {
        for (int what = 0; what <= 1; what++) {
            row("would(0, " + what + ")", x.would(0, what));
            row("goes(5, " + what + ")", x.goes(5, what));
            row("inside(0, " + what + ")", x.inside(0, what));
            row("strings(60, " + what + ")", x.strings(60, what));
            row("pays(99, " + what + ")", x.pays(99, what));
            row("puts(" + what + ")", x.puts(what));
            row("which(" + what + ")", x.which(what));
            row("every(" + (what - 1) + ")", x.every(what - 1));
            row("halves(" + what + ")", x.halves(what));
            row("game(" + what + ")", x.game(what));
            row("wishes(" + 10 * what + ")", x.wishes(10 * what));
        }
        for (int b = -1; b <= 7; b++) {
            row("swaps(" + b + ")", x.swaps(b));
        }
    }

    private void past() {
        boolean more = true;
        for (int i = 0; i <= 6 && more; i++) {
            more = x.undo();
            row("undo " + i, more);
            for (int what = 2; what <= 9; what++) {
                row("look(" + what + ") then", x.look(what));
            }
        }
    }

    private void tape() {
        int size = x.feed(0x23232323, 0x23232323, 0x23232323, 0x23232323, 0x23232323);
        row("feed", size);
        for (int k = 2; k <= 3; k++) {
            row("text(" + k + ")", x.text(k));
            row("its fault", x.fault(0));
            row("its place", x.fault(1));
        }
    }

    private void image() {
        row("image(false)", x.image(false));
        quay();
    }

    private void counts() {
        row("weighs", x.weighs(1, 1));
        row("length", x.length(1));
        row("coin", x.coin(50));
        row("put", x.put(1, 1));
        row("clue", x.clue(0, true));
        row("police", x.police(0));
    }
}
