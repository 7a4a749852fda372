import java.util.ArrayList;
import java.util.Arrays;
import java.util.List;
import java.util.function.Supplier;
import java.util.function.ToLongFunction;

/** What the tests of the document's edges share: sentences with their rows, walnuts, and twins. */
final class Rows {
    static final int LOWEST = Integer.MIN_VALUE, HIGHEST = Integer.MAX_VALUE;

    /** KIND, HOUSE, WANT, SLACK of each. */
    static final int[][] SIX = {{1, 0, 3, 1}, {0, 1, 17, 0}, {2, 0, 20, 2}, {3, 1, 9, 4}, {0, 0, 12, 0}, {1, 1, 6, 3}};

    private static String sentence = "";
    private static int sentences = 0;
    private static int rowsOfSentence = 1;
    private static int rows = 0;
    private static int wrong = 0;

    private Rows() {
    }

    /** The rows that follow stand for this sentence of the document. */
    static void sentence(String words) {
        endSentence();
        sentence = words;
        sentences++;
        rowsOfSentence = 0;
    }

    private static void endSentence() {
        if (rowsOfSentence == 0) {
            wrong++;
            System.out.println("no row for: " + sentence);
        }
    }

    static void due(String call, long got, long want) {
        rows++;
        rowsOfSentence++;
        if (got != want) {
            wrong++;
            System.out.println(sentence + ": " + call + " answered " + got + ", due is " + want);
        }
    }

    /** Prints how it went, and ends with exit code 1 if a row was wrong. */
    static void close() {
        endSentence();
        System.out.println(sentences + " sentences, " + rows + " rows, " + wrong + " not as due");
        if (wrong != 0) {
            System.exit(1);
        }
    }

    static void feed(WalnutHouses x, String text) {
        for (char c : text.toCharArray()) {
            x.feed(c);
        }
    }

    static WalnutHouses told(String text) {
        WalnutHouses x = new WalnutHouses();
        feed(x, text);
        if (x.text() < 0) {
            due("text of " + text, x.fault(), 0);
        }
        return x;
    }

    /** Two whips that never agree: THE MOTION changes on every DAY. */
    static WalnutHouses quarrel() {
        return told("whip 0 0 0;whip 1 20 0;");
    }

    /** A quarrel that has come to this DAY. */
    static WalnutHouses quarrelAt(int day) {
        WalnutHouses x = quarrel();
        for (int left = day; left > 0; left -= 30) {
            x.days(Math.min(30, left));
        }
        return x;
    }

    /** MEMBERS by calls that are fewer than the letters of a text: an object is used for at most 512. */
    static WalnutHouses seated(int[][] members) {
        WalnutHouses x = new WalnutHouses();
        for (int i = 0; i < members.length; i++) {
            x.seat(members[i][1], members[i][2]);
            x.alter(i, 0, members[i][0]);
            x.alter(i, 3, members[i][3]);
        }
        return x;
    }

    /** A walnut of which every part differs from that of a new one, so that any change of it can be seen. */
    static WalnutHouses rich(int members) {
        WalnutHouses x = seated(Arrays.copyOf(SIX, members));
        x.word(8);
        feed(x, "?");
        x.text();
        x.days(3);
        x.see(2, x.runs(2, 0));
        x.keep(0);
        x.days(2);
        x.forget(0);
        x.see(0, x.rule(2));
        x.see(4, x.runs(4, 0));
        x.keep(1);
        x.word(13);
        x.forget(0);
        x.see(1, x.runs(1, 0));
        x.see(20, x.runs(20, 0));
        x.see(3, x.runs(3, 0));
        richSheets(x);
        feed(x, "motion 1");
        return x;
    }

    private static void richSheets(WalnutHouses x) {
        x.sheet(0, 0, 5);
        x.sheet(1, 1, 40);
        x.sheet(2, 2, 1);
        int[] cells = {1, 15, 4, 2, 3};
        for (int c = 0; c < cells.length; c++) {
            x.lay(0, c, cells[c]);
        }
        for (int c = 0; c < 12; c += 2) {
            x.lay(1, c, c / 2);
            x.lay(1, c + 1, 20 - c);
        }
        x.lay(2, 0, 5);
        x.read(2, 2, 0, 1);
    }

    /** The call's answer is due, and one that was called and one that was not are told apart by nothing. */
    static void leaves(String call, Supplier<WalnutHouses> made, ToLongFunction<WalnutHouses> op, long want) {
        WalnutHouses called = made.get();
        due(call, op.applyAsLong(called), want);
        same(call, called, made.get());
    }

    /** Both are the same in all that can be asked; neither is of use behind it. */
    static void same(String call, WalnutHouses one, WalnutHouses other) {
        List<Long> all = look(one);
        List<Long> due = look(other);
        int at = 0;
        while (at < all.size() && at < due.size() && all.get(at).equals(due.get(at))) {
            at++;
        }
        due(call + ": what it leaves differs at", at, due.size());
    }

    /** All that can be asked, in some 370 calls. */
    private static List<Long> look(WalnutHouses x) {
        List<Long> all = new ArrayList<>();
        all.add((long) x.fault());
        all.add((long) x.torn());
        for (int what = 0; what <= 5; what++) {
            all.add((long) x.count(what));
        }
        lookAtNut(x, all);
        lookAtSheets(x, all);
        for (int k = 0; k < 2; k++) {
            all.add((long) x.back(k));
            lookAtNut(x, all);
        }
        feed(x, "7;");
        all.add((long) x.text());
        all.add((long) x.fault());
        lookAtNut(x, all);
        return all;
    }

    private static void lookAtNut(WalnutHouses x, List<Long> all) {
        for (int what = 0; what <= 6; what++) {
            all.add((long) x.rule(what));
        }
        for (int what = 0; what <= 4; what++) {
            all.add((long) x.runs(60, what));
        }
        for (int i = 0; i < x.rule(0); i++) {
            for (int what = 0; what <= 3; what++) {
                all.add((long) x.member(i, what));
            }
            all.add((long) x.kinds(i));
            all.add((long) x.wants(i));
        }
        all.add((long) x.count(0));
    }

    private static void lookAtSheets(WalnutHouses x, List<Long> all) {
        for (int k = 0; k < 4; k++) {
            all.addAll(sheet(x, k));
        }
    }

    /** A SHEET's lane, size and CELLS: they show in the WANTS of six MEMBERS, six pairs at a time. */
    static List<Long> sheet(WalnutHouses x, int k) {
        List<Long> all = new ArrayList<>();
        x.clear(0);
        for (int i = 0; i < 6; i++) {
            x.seat(0, i);
        }
        for (int lane = 0; lane < 3; lane++) {
            boolean more = true;
            for (int f = 0; f <= 36 && more; f += 12) {
                long came = x.read(k, lane, f, 6);
                all.add(came);
                all.add((long) x.torn());
                more = came != 0;
                for (int i = 0; i < 6 && more; i++) {
                    all.add((long) x.member(i, 2));
                }
            }
        }
        return all;
    }
}
