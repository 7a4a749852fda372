import java.util.TreeSet;
import java.util.function.Supplier;

/**
 * Every number that a call takes: the last that is taken and the first that is refused, on both sides, those that
 * would fit if they were cut to fewer bits, and that a refused call leaves all as it was.
 */
public final class BoundsTest {
    private static final int BAD = WalnutHouses.BAD, FULL = WalnutHouses.FULL;
    private static final int LOWEST = Rows.LOWEST, HIGHEST = Rows.HIGHEST;

    private interface Call {
        long on(WalnutHouses x, int v);
    }

    public static void main(String[] args) {
        theTape();
        whatIsTold();
        whatIsChanged();
        days();
        whatIsBest();
        odds();
        whatStoodWhen();
        bySeed();
        images();
        sheets();
        members();
        nothingAndAllThereIs();
        Rows.close();
    }

    private static Supplier<WalnutHouses> rich() {
        return () -> Rows.rich(5);
    }

    /** Numbers near the bounds and those that are one of them by their lowest 8 or 16 bits alone. */
    private static TreeSet<Integer> near(int low, int high) {
        TreeSet<Integer> all = new TreeSet<>();
        int[] far = {LOWEST, LOWEST + 1, -1000, -32, -16, -8, -4, 7, 8, 16, 32, 64, 127, 128, 1000, HIGHEST - 1, HIGHEST};
        for (int v : far) {
            all.add(v);
        }
        for (int v : new int[] {low, high}) {
            for (int by = -2; by <= 2; by++) {
                all.add(v + by);
            }
            all.add(~v);
            all.add(-v);
            all.add(LOWEST + v);
            for (int bits = 8; bits <= 24; bits += 8) {
                all.add(v + (1 << bits));
                all.add(v - (1 << bits));
            }
        }
        for (int v = low; v <= high; v++) {
            all.add(v);
        }
        return all;
    }

    /** From low to high it is taken, everything else is BAD and changes nothing. */
    private static void taken(String call, int low, int high, Supplier<WalnutHouses> made, Call op) {
        Rows.sentence(call + " takes " + low + " to " + high);
        for (int v : near(low, high)) {
            if (v >= low && v <= high) {
                long answer = op.on(made.get(), v);
                Rows.due(call + " with " + v + " is taken", answer == BAD || answer == FULL ? answer : 0, 0);
            } else {
                Rows.leaves(call + " with " + v, made, x -> op.on(x, v), BAD);
            }
        }
    }

    private static void theTape() {
        taken("feed(c)", 0, 127, rich(), (x, v) -> x.feed(v));
        taken("end(n), 8 bytes", 0, 8, rich(), (x, v) -> x.end(v));
    }

    private static void whatIsTold() {
        taken("rule(what)", 0, 6, rich(), (x, v) -> x.rule(v));
        taken("member(.., what)", 0, 5, rich(), (x, v) -> x.member(4, v));
        taken("house(h, ..)", 0, 1, rich(), (x, v) -> x.house(v, 3));
        taken("house(.., what)", 0, 3, rich(), (x, v) -> x.house(1, v));
        taken("count(what)", 0, 5, rich(), (x, v) -> x.count(v));
    }

    private static void whatIsChanged() {
        taken("alter(.., what, ..)", 0, 3, rich(), (x, v) -> x.alter(2, v, 1));
        taken("alter: KIND", 0, 3, rich(), (x, v) -> x.alter(2, 0, v));
        taken("alter: HOUSE", 0, 1, rich(), (x, v) -> x.alter(2, 1, v));
        taken("alter: WANT", 0, 20, rich(), (x, v) -> x.alter(2, 2, v));
        taken("alter: SLACK", 0, 20, rich(), (x, v) -> x.alter(2, 3, v));
        taken("word(v)", 0, 20, rich(), (x, v) -> x.word(v));
        taken("seat(house, ..)", 0, 1, rich(), (x, v) -> x.seat(v, 7));
        taken("seat(.., want)", 0, 20, rich(), (x, v) -> x.seat(1, v));
        taken("clear(n), 5 MEMBERS", 0, 5, rich(), (x, v) -> x.clear(v));
    }

    private static void days() {
        taken("days(n)", 0, 30, rich(), (x, v) -> x.days(v));
        taken("runs(n, ..)", 0, 60, rich(), (x, v) -> x.runs(v, 0));
        taken("runs(.., what)", 0, 4, rich(), (x, v) -> x.runs(3, v));
        taken("ahead(.., n)", 0, 60, rich(), (x, v) -> x.ahead(1, v));
    }

    private static void whatIsBest() {
        taken("wording(what)", 0, 1, rich(), (x, v) -> x.wording(v));
        taken("middle(what)", 0, 1, rich(), (x, v) -> x.middle(v));
        taken("lose(what)", 0, 1, rich(), (x, v) -> x.lose(v));
        taken("cross(what)", 0, 1, rich(), (x, v) -> x.cross(v));
        taken("give(.., n)", 0, 60, rich(), (x, v) -> x.give(1, v));
        taken("mind(.., what)", 0, 1, rich(), (x, v) -> x.mind(1, v));
        taken("kind(.., what)", 0, 1, rich(), (x, v) -> x.kind(1, v));
    }

    private static void odds() {
        taken("luck(v, ..)", 0, 10, rich(), (x, v) -> x.luck(v, 3, 1));
        taken("luck(.., n, ..)", 0, 8, rich(), (x, v) -> x.luck(3, v, 1));
        taken("luck(.., what)", 0, 1, rich(), (x, v) -> x.luck(3, 3, v));
        taken("mean(v, ..)", 0, 10, rich(), (x, v) -> x.mean(v, 3, 1));
        taken("mean(.., n, ..)", 0, 8, rich(), (x, v) -> x.mean(3, v, 1));
        taken("mean(.., what)", 0, 1, rich(), (x, v) -> x.mean(3, 3, v));
    }

    private static void whatStoodWhen() {
        taken("see(n, ..)", 0, 20, rich(), (x, v) -> x.see(v, 5));
        taken("see(.., v)", 0, 20, rich(), (x, v) -> x.see(5, v));
        taken("forget(n), 3 SEEN", 0, 3, rich(), (x, v) -> x.forget(v));
        taken("ask(.., what)", 0, 1, rich(), (x, v) -> x.ask(1, v));
    }

    private static void bySeed() {
        taken("drift(.., n, ..)", 1, 60, rich(), (x, v) -> x.drift(77, v, 0));
        taken("drift(.., what)", 0, 1, rich(), (x, v) -> x.drift(77, 9, v));
        Rows.sentence("drift(seed, ..) takes every seed");
        for (int seed : near(LOWEST, LOWEST)) {
            long answer = Rows.rich(5).drift(seed, 60, 0);
            Rows.due("drift(" + seed + ", 60, 0) is a MOTION", answer >= 0 && answer <= 20 ? 1 : 0, 1);
        }
    }

    private static void images() {
        taken("keep(k)", 0, 1, rich(), (x, v) -> x.keep(v));
        taken("back(k)", 0, 1, rich(), (x, v) -> x.back(v));
    }

    private static void sheets() {
        taken("sheet(k, ..)", 0, 3, rich(), (x, v) -> x.sheet(v, 1, 3));
        taken("sheet(.., lane, ..)", 0, 2, rich(), (x, v) -> x.sheet(3, v, 3));
        sizes();
        taken("lay(k, ..)", 0, 3, rich(), (x, v) -> x.lay(v, 0, 1));
        for (int size : new int[] {0, 1, 2, 39, 40}) {
            cells(size);
        }
        taken("read(k, ..)", 0, 3, rich(), (x, v) -> x.read(v, 0, 0, 2));
        taken("read(.., lane, ..)", 0, 2, rich(), (x, v) -> x.read(0, v, 0, 2));
        taken("read(.., n)", 0, 20, rich(), (x, v) -> x.read(1, 1, 12, v));
        places();
    }

    private static void places() {
        Rows.sentence("read(.., f, ..): no f is BAD; where there is no CELL, the machine finds INDEX");
        // of the CELLS 1, 15, 4, 2, 3 there is no MEMBER 15, and a WANT is missing behind the last
        int[] answers = {1, -20, 1, 1};
        int[] faults = {0, 2, 0, 0};
        for (int f : near(0, 3)) {
            WalnutHouses x = Rows.rich(5);
            boolean whole = f >= 0 && f <= 3;
            Rows.due("read(0, 0, " + f + ", 1)", x.read(0, 0, f, 1), whole ? answers[f] : 0);
            Rows.due("torn() behind it", x.torn(), whole ? faults[f] : 2);
        }
    }

    private static void sizes() {
        Rows.sentence("sheet(.., n): BAD: also n above 40; -10 - 4 below 0");
        for (int n : near(0, 40)) {
            for (int k = 0; k < 4; k++) {
                int sheet = k;
                String call = "sheet(" + k + ", 1, " + n + ")";
                if (n < 0 || n > 40) {
                    Rows.leaves(call, rich(), x -> x.sheet(sheet, 1, n), n < 0 ? -14 : BAD);
                } else {
                    WalnutHouses x = Rows.rich(5);
                    Rows.due(call, x.sheet(sheet, 1, n), 1);
                    Rows.due("lay the last", x.lay(sheet, n - 1, 1), n == 0 ? -12 : 1);
                    Rows.due("lay behind it", x.lay(sheet, n, 1), -12);
                }
            }
        }
    }

    private static void cells(int size) {
        Rows.sentence("lay(.., i, ..): a row of " + size + " has CELLS 0 to " + (size - 1) + ", else INDEX");
        for (int lane = 0; lane < 3; lane++) {
            int of = lane;
            Supplier<WalnutHouses> made = () -> {
                WalnutHouses x = Rows.rich(5);
                x.sheet(3, of, size);
                return x;
            };
            for (int i : near(0, Math.max(0, size - 1))) {
                String call = "lay(3, " + i + ", 1) in lane " + lane;
                if (i >= 0 && i < size) {
                    Rows.due(call, made.get().lay(3, i, 1), 1);
                } else {
                    Rows.leaves(call, made, x -> x.lay(3, i, 1), -12);
                }
            }
        }
    }

    private static void members() {
        ofMembers("member(i, ..)", (x, i) -> x.member(i, 0));
        ofMembers("alter(i, ..): KIND", (x, i) -> x.alter(i, 0, 1));
        ofMembers("alter(i, ..): HOUSE", (x, i) -> x.alter(i, 1, 1));
        ofMembers("alter(i, ..): WANT", (x, i) -> x.alter(i, 2, 1));
        ofMembers("alter(i, ..): SLACK", (x, i) -> x.alter(i, 3, 1));
        ofMembers("ahead(i, ..)", (x, i) -> x.ahead(i, 5));
        ofMembers("swing(i)", (x, i) -> x.swing(i));
        ofMembers("give(i, ..)", (x, i) -> x.give(i, 5));
        ofMembers("mind(i, ..)", (x, i) -> x.mind(i, 0));
        ofMembers("kind(i, ..)", (x, i) -> x.kind(i, 0));
        ofMembers("kinds(i)", (x, i) -> x.kinds(i));
        ofMembers("wants(i)", (x, i) -> x.wants(i));
        ofMembers("ask(i, ..)", (x, i) -> x.ask(i, 0));
    }

    /** There are as many MEMBERS as there are, from none to six. */
    private static void ofMembers(String call, Call op) {
        for (int n = 0; n <= 6; n++) {
            int members = n;
            taken(call + ", MEMBERS " + n, 0, n - 1, () -> Rows.rich(members), op);
        }
    }

    private static void nothingAndAllThereIs() {
        for (int n = 0; n <= 6; n++) {
            int there = n;
            taken("clear(n), MEMBERS " + n, 0, n, () -> Rows.rich(there), (x, v) -> x.clear(v));
            taken("forget(n), SEEN " + n, 0, n, () -> seen(there), (x, v) -> x.forget(v));
        }
        for (int n : new int[] {0, 1, 159, 160}) {
            taken("end(n), bytes " + n, 0, n, () -> tape(n), (x, v) -> x.end(v));
        }
    }

    private static WalnutHouses seen(int n) {
        WalnutHouses x = Rows.rich(3);
        x.forget(0);
        for (int s = 0; s < n; s++) {
            x.see(3 * s, x.runs(3 * s, 0));
        }
        return x;
    }

    private static WalnutHouses tape(int bytes) {
        WalnutHouses x = Rows.rich(3);
        x.end(0);
        Rows.feed(x, " ".repeat(bytes));
        return x;
    }
}
