import java.util.Arrays;

/**
 * The boundary cases that the promises name. What is asked (how it would be, what had better be) is also done, on
 * another object, by calls that change it, and must come to the same.
 */
public final class EdgesTest {
    private static final int BAD = WalnutHouses.BAD, STATE = WalnutHouses.STATE, FULL = WalnutHouses.FULL, NONE = WalnutHouses.NONE;
    private static final int KIND = 0, HOUSE = 1, WANT = 2, SLACK = 3;
    private static final int[] TOP_OF = {3, 1, 20, 20};
    private static final int LOWEST = Rows.LOWEST, HIGHEST = Rows.HIGHEST;
    private static final int NEVER = 61;

    /** Nobody, one, six; CARRIED at once, late (46 DAYS are the most that were found), never; at both ends. */
    private static final String[] NUTS = {
        "", "motion 0;", "motion 20;", "plain 0 10 0;", "plain 1 0 0;motion 20;", "whip 1 20 0;motion 0;",
        "maggot 0 20 0;motion 0;", "maggot 1 0 3;motion 20;", "doubter 0 12 0;plain 1 9 0;",
        "whip 0 0 0;whip 1 20 0;", "whip 0 0 0;whip 0 20 0;whip 1 0 0;whip 1 20 0;",
        "plain 0 6 0;whip 0 12 1;plain 1 9 1;motion 7;", "plain 0 8 0;whip 1 20 0;plain 0 15 18;plain 1 3 0;motion 0;",
        "whip 0 7 0;whip 1 0 0;maggot 1 10 12;maggot 0 13 19;plain 1 20 0;motion 20;",
        "maggot 0 13 8;plain 1 18 2;whip 0 16 0;maggot 0 13 7;whip 0 2 1;whip 1 0 0;motion 20;",
        "doubter 0 14 9;maggot 0 6 8;plain 0 13 15;maggot 0 20 17;plain 1 0 2;whip 1 20 0;motion 0;",
        "plain 1 0 0;whip 1 20 0;motion 6;", "whip 1 4 1;whip 1 3 2;motion 8;", "whip 1 6 4;whip 0 6 0;motion 7;",
        "plain 0 4 2;plain 0 10 1;plain 0 13 2;plain 1 0 0;doubter 1 19 3;maggot 1 7 1;"
    };

    public static void main(String[] args) {
        anew();
        feed();
        lines();
        latestFault();
        bits();
        alter();
        word();
        seat();
        clear();
        lastDay();
        asDone();
        soonest();
        far();
        ties();
        soonerThanItIs();
        middle();
        swing();
        give();
        odds();
        seen();
        ask();
        drift();
        images();
        newRows();
        cells();
        pairs();
        refusedPairs();
        noPairs();
        torn();
        counts();
        Rows.close();
    }

    /** DAYS that pass until it is CARRIED, one by one; x is of no use behind it. */
    private static int passed(WalnutHouses x) {
        for (int n = 0; n < NEVER; n++) {
            if (x.rule(3) == 1) {
                return n;
            }
            x.days(1);
        }
        return NEVER;
    }

    private static void pass(WalnutHouses x, int n) {
        x.days(Math.min(30, n));
        x.days(Math.max(0, n - 30));
    }

    private static void anew() {
        Rows.sentence("1: No MEMBERS; SHEETS of nothing");
        int[] rules = {0, 0, 10, 1, 3, 0, 0};
        int[] counts = {0, 0, 0, NONE, 0, 0};
        int[] runs = {10, 0, 1, 0, 3};
        WalnutHouses x = new WalnutHouses();
        for (int what = 0; what < rules.length; what++) {
            Rows.due("rule(" + what + ")", x.rule(what), rules[what]);
        }
        for (int what = 0; what < counts.length; what++) {
            Rows.due("count(" + what + ")", x.count(what), counts[what]);
        }
        for (int what = 0; what < runs.length; what++) {
            Rows.due("runs(60, " + what + ")", x.runs(60, what), runs[what]);
        }
        int[] houses = {0, 0, 0, 20};
        for (int what = 0; what < houses.length; what++) {
            Rows.due("house(0, " + what + ")", x.house(0, what), houses[what]);
            Rows.due("house(1, " + what + ")", x.house(1, what), houses[what]);
        }
        int[] due = {x.fault(), 0, x.torn(), 0, x.text(), 0, x.end(0), 0, x.clear(0), 0, x.forget(0), 0, x.days(0), 0,
            x.carries(), 0, x.wording(0), 0, x.wording(1), 0, x.middle(0), 0, x.middle(1), 0, x.lose(0), NONE, x.lose(1), NONE,
            x.cross(0), NONE, x.cross(1), NONE, x.drift(1, 1, 0), STATE, x.back(0), STATE, x.back(1), STATE};
        for (int n = 0; n < due.length; n += 2) {
            Rows.due("a call of a new object, " + n / 2, due[n], due[n + 1]);
        }
        Rows.due("luck(5, 8, 0)", x.luck(5, 8, 0), 1);
        Rows.due("luck(5, 8, 1)", x.luck(5, 8, 1), 1);
        Rows.due("mean(5, 8, 0)", x.mean(5, 8, 0), 10);
        Rows.due("mean(5, 8, 1)", x.mean(5, 8, 1), 1);
        for (int k = 0; k < 4; k++) {
            Rows.due("lay(" + k + ", 0, 0)", x.lay(k, 0, 0), -11);
            Rows.due("read(" + k + ", 0, 0, 1)", x.read(k, 0, 0, 1), 0);
            Rows.due("torn()", x.torn(), 1);
        }
    }

    private static void feed() {
        Rows.sentence("2: A byte comes behind THE TAPE: how many it has. FULL: more than 160");
        WalnutHouses x = new WalnutHouses();
        for (int n = 1; n <= 160; n++) {
            Rows.due("feed, the " + n + "th", x.feed(n % 128), n);
        }
        Rows.due("feed, the 161st", x.feed(0), FULL);
        Rows.due("count(2)", x.count(2), 160);
        Rows.sentence("3: THE TAPE keeps its first n bytes: how many it had");
        Rows.due("end(160)", x.end(160), 160);
        Rows.due("feed, the 161st", x.feed(0), FULL);
        Rows.due("end(159)", x.end(159), 160);
        Rows.due("feed, the 160th", x.feed(0), 160);
        Rows.due("feed, the 161st", x.feed(0), FULL);
        Rows.due("end(161)", x.end(161), BAD);
        Rows.due("end(0)", x.end(0), 160);
        Rows.due("end(0)", x.end(0), 0);
        Rows.due("end(1)", x.end(1), BAD);
        for (int n = 0; n <= 9; n++) {
            Rows.feed(x, "motion 7;");
            Rows.due("end(" + n + ")", x.end(n), 9);
            Rows.feed(x, "motion 7;".substring(n));
            Rows.due("text(): the first " + n + " were kept", x.text(), 1);
            Rows.due("count(2): empty then", x.count(2), 0);
        }
    }

    private static void lines() {
        Rows.sentence("4: THE TAPE (empty then) tells all: how many lines");
        String line = "plain 1 2 3;";
        for (int n = 0; n <= 6; n++) {
            WalnutHouses x = new WalnutHouses();
            Rows.feed(x, line.repeat(n));
            Rows.due("text() of " + n, x.text(), n);
            Rows.due("count(2)", x.count(2), 0);
            Rows.due("rule(0)", x.rule(0), n);
            Rows.feed(x, line.repeat(n) + "motion 0;");
            Rows.due("text() of one more", x.text(), n + 1);
            Rows.due("rule(0)", x.rule(0), n);
            Rows.due("rule(2)", x.rule(2), 0);
            Rows.due("text() of nothing", x.text(), 0);
            Rows.due("rule(0)", x.rule(0), 0);
            for (int b = 1; b <= 160; b++) {
                Rows.due("feed behind it", x.feed('z'), b);
            }
            Rows.due("text() of 160 bytes", x.text(), -10);
            Rows.due("count(2): empty though it is refused", x.count(2), 0);
        }
    }

    private static void latestFault() {
        Rows.sentence("5: The FAULT of the latest text(); 0");
        WalnutHouses x = new WalnutHouses();
        Rows.due("fault() at first", x.fault(), 0);
        String[] texts = {"$", "q", "motion 21;", "motion 1;motion", "whip 0 0 0;".repeat(6) + "whip"};
        for (int fault = 1; fault <= 5; fault++) {
            Rows.feed(x, texts[fault - 1]);
            x.text();
            Rows.due("fault()", x.fault(), fault);
            x.feed(200);
            x.word(3);
            x.read(0, 0, 0, 1);
            Rows.due("fault(): no text() was between", x.fault(), fault);
            if (fault % 2 == 0) {
                x.text();
                Rows.due("fault() of a text that is taken", x.fault(), 0);
            }
        }
    }

    private static void bits() {
        Rows.sentence("6, 8: bits of MEMBERS and HOUSES");
        for (int i = 0; i < 6; i++) {
            WalnutHouses x = Rows.told("plain 0 0 0;".repeat(6));
            Rows.due("rule(5): nobody", x.rule(5), 0);
            x.alter(i, WANT, 10);
            Rows.due("rule(5): " + i + " alone", x.rule(5), 1 << i);
            x.alter(i, HOUSE, 1);
            Rows.due("house(0, 0)", x.house(0, 0), 63 & ~(1 << i));
            Rows.due("house(1, 0)", x.house(1, 0), 1 << i);
            Rows.due("house(1, 1)", x.house(1, 1), 1);
            Rows.due("house(1, 2)", x.house(1, 2), 0);
            Rows.due("house(0, 1)", x.house(0, 1), 0);
            Rows.due("house(0, 2)", x.house(0, 2), 5);
            Rows.due("rule(4)", x.rule(4), 2);
        }
        WalnutHouses x = Rows.told("plain 1 10 0;".repeat(6));
        Rows.due("rule(5): all", x.rule(5), 63);
        Rows.due("rule(4): HOUSE 0 has none", x.rule(4), 3);
        Rows.due("house(1, 1)", x.house(1, 1), 6);
    }

    private static void alter() {
        Rows.sentence("9: KIND, HOUSE, WANT, SLACK of a MEMBER becomes v: what it was");
        for (int i = 0; i < 6; i++) {
            WalnutHouses x = Rows.told("plain 0 0 0;".repeat(6));
            for (int what = KIND; what <= SLACK; what++) {
                int was = 0;
                for (int v = TOP_OF[what]; v >= 0; v--) {
                    Rows.due("alter(" + i + ", " + what + ", " + v + ")", x.alter(i, what, v), was);
                    Rows.due("member(" + i + ", " + what + ")", x.member(i, what), v);
                    was = v;
                }
                x.alter(i, what, TOP_OF[what]);
                Rows.due("alter: BAD leaves it", x.alter(i, what, TOP_OF[what] + 1), BAD);
                Rows.due("member: BAD leaves it", x.member(i, what), TOP_OF[what]);
            }
            for (int j = 0; j < 6; j++) {
                for (int what = KIND; what <= SLACK; what++) {
                    Rows.due("member(" + j + ", " + what + ")", x.member(j, what), j == i ? TOP_OF[what] : 0);
                }
            }
        }
    }

    private static void word() {
        Rows.sentence("10: THE MOTION becomes v: what it was");
        WalnutHouses x = Rows.quarrelAt(3);
        int was = 9;
        for (int v = 0; v <= 20; v++) {
            Rows.due("word(" + v + ")", x.word(v), was);
            Rows.due("rule(2)", x.rule(2), v);
            was = v;
        }
        Rows.due("word(20): as it is", x.word(20), 20);
        Rows.due("word(21)", x.word(21), BAD);
        Rows.due("word(-1)", x.word(-1), BAD);
        Rows.due("rule(2)", x.rule(2), 20);
        Rows.due("rule(1)", x.rule(1), 3);
        Rows.due("rule(6): that is no AMENDMENT", x.rule(6), 3);
    }

    private static void seat() {
        Rows.sentence("11: A MEMBER more, plain, of a HOUSE, with a WANT, SLACK 0: how many there are. FULL");
        for (int left = 0; left < 6; left++) {
            // where one was left out, he who comes is new
            WalnutHouses x = Rows.told("maggot 1 13 17;".repeat(6));
            x.clear(left);
            for (int n = left; n < 6; n++) {
                Rows.due("seat", x.seat(n % 2, 20 - n), n + 1);
                int[] due = {0, n % 2, 20 - n, 0};
                for (int what = KIND; what <= SLACK; what++) {
                    Rows.due("member(" + n + ", " + what + ")", x.member(n, what), due[what]);
                }
            }
            Rows.due("seat: the 7th", x.seat(0, 0), FULL);
            Rows.due("rule(0)", x.rule(0), 6);
            Rows.due("count(4)", x.count(4), 13 * left + (20 * 6 - 15) - (20 * left - left * (left - 1) / 2));
            Rows.due("count(5)", x.count(5), 17 * left);
        }
    }

    private static void clear() {
        Rows.sentence("12: MEMBERS are the first n alone: how many there were");
        String[] lines = {"plain 0 1 2;", "whip 1 3 4;", "doubter 0 5 6;", "maggot 1 7 8;", "plain 1 9 10;", "whip 0 11 12;"};
        for (int there = 0; there <= 6; there++) {
            for (int n = 0; n <= there; n++) {
                WalnutHouses x = Rows.told(String.join("", Arrays.copyOf(lines, there)) + "motion 4;");
                Rows.due("clear(" + n + ")", x.clear(n), there);
                WalnutHouses y = Rows.told(String.join("", Arrays.copyOf(lines, n)) + "motion 4;");
                Rows.due("clear(" + (n + 1) + ")", x.clear(n + 1), BAD);
                Rows.due("clear(" + n + ")", x.clear(n), n);
                Rows.same("clear(" + n + ") of " + there, x, y);
            }
        }
    }

    private static void lastDay() {
        Rows.sentence("13: n DAYS (0 to 30): AMENDMENTS in them. FULL: DAY would be 1000 or more");
        for (int n = 0; n <= 30; n++) {
            int days = n;
            WalnutHouses x = Rows.quarrelAt(999 - n);
            Rows.due("days(" + n + ") to DAY 999", x.days(n), n);
            Rows.due("rule(1)", x.rule(1), 999);
            Rows.due("rule(6)", x.rule(6), 999);
            if (n > 0) {
                Rows.leaves("days(" + n + ") to DAY 1000", () -> Rows.quarrelAt(1000 - days), y -> y.days(days), FULL);
            }
        }
        WalnutHouses x = new WalnutHouses();
        for (int n = 0; n < 33; n++) {
            Rows.due("days(30), CARRIED", x.days(30), 0);
        }
        Rows.due("days(10), CARRIED", x.days(10), FULL);
        Rows.due("rule(1)", x.rule(1), 990);
        Rows.due("days(9), CARRIED", x.days(9), 0);
        Rows.due("days(1), CARRIED", x.days(1), FULL);
        Rows.due("days(0)", x.days(0), 0);
        Rows.due("rule(1)", x.rule(1), 999);
        Rows.feed(x, "whip 0 0 0;");
        x.text();
        Rows.due("days(30): a text begins at DAY 0", x.days(30), 10);
    }

    private static void asDone() {
        Rows.sentence("14, 15: BY DAYS, n of them (0 to 60)");
        for (String text : NUTS) {
            for (int n = 0; n <= 60; n++) {
                WalnutHouses now = Rows.told(text);
                WalnutHouses then = Rows.told(text);
                pass(then, n);
                int[] due = {then.rule(2), then.rule(6), then.rule(3), then.count(5), then.rule(4)};
                for (int what = 0; what < due.length; what++) {
                    Rows.due("runs(" + n + ", " + what + ") of " + text, now.runs(n, what), due[what]);
                }
                for (int i = 0; i < then.rule(0); i++) {
                    Rows.due("ahead(" + i + ", " + n + ") of " + text, now.ahead(i, n), then.member(i, SLACK));
                }
            }
        }
    }

    /** Of tried ones the first that is soonest, and sooner than a bound: which, and behind how many DAYS. */
    private static int[] first(int[] tried, int bound) {
        int[] found = {NONE, NONE};
        int best = bound;
        for (int v = 0; v < tried.length; v++) {
            if (tried[v] < best) {
                best = tried[v];
                found[0] = v;
                found[1] = best;
            }
        }
        return found;
    }

    private static WalnutHouses without(String text, int i) {
        String[] lines = text.split(";");
        StringBuilder left = new StringBuilder();
        for (int n = 0; n < lines.length; n++) {
            left.append(n == i ? "" : lines[n] + ";");
        }
        return Rows.told(left.toString());
    }

    private static WalnutHouses altered(String text, int i, int what, int v) {
        WalnutHouses x = Rows.told(text);
        x.alter(i, what, v);
        return x;
    }

    private static void soonest() {
        Rows.sentence("16, 17, 20, 21, 23, 24: CARRIED first, soonest, sooner than as it is, of several the least, the first");
        for (String text : NUTS) {
            int now = passed(Rows.told(text));
            WalnutHouses x = Rows.told(text);
            Rows.due("carries() of " + text, x.carries(), now == NEVER ? NONE : now);
            int members = x.rule(0);
            int[] worded = new int[21], fewer = new int[members], crossed = new int[members];
            for (int v = 0; v <= 20; v++) {
                WalnutHouses y = Rows.told(text);
                y.word(v);
                worded[v] = passed(y);
            }
            for (int i = 0; i < members; i++) {
                fewer[i] = passed(without(text, i));
                crossed[i] = passed(altered(text, i, HOUSE, 1 - x.member(i, HOUSE)));
            }
            for (int what = 0; what < 2; what++) {
                Rows.due("wording(" + what + ") of " + text, x.wording(what), first(worded, NEVER)[what]);
                Rows.due("lose(" + what + ") of " + text, x.lose(what), first(fewer, now)[what]);
                Rows.due("cross(" + what + ") of " + text, x.cross(what), first(crossed, now)[what]);
                for (int i = 0; i < members; i++) {
                    Rows.due("mind(" + i + ", " + what + ") of " + text, x.mind(i, what), first(tried(text, i, WANT), NEVER)[what]);
                    Rows.due("kind(" + i + ", " + what + ") of " + text, x.kind(i, what), first(tried(text, i, KIND), NEVER)[what]);
                }
            }
        }
    }

    private static int[] tried(String text, int i, int part) {
        int[] tried = new int[TOP_OF[part] + 1];
        for (int v = 0; v < tried.length; v++) {
            tried[v] = passed(altered(text, i, part, v));
        }
        return tried;
    }

    private static void far() {
        Rows.sentence("16: behind how many (0 to 60) THE MOTION is CARRIED first. NONE: behind none");
        Rows.due("carries()", Rows.told("").carries(), 0);
        Rows.due("carries()", Rows.told("whip 0 11 0;").carries(), 1);
        Rows.due("carries()", Rows.told("whip 1 11 0;").carries(), 2);
        Rows.due("carries()", Rows.told("whip 0 20 0;motion 0;").carries(), 39);
        Rows.due("carries()", Rows.told("whip 1 20 0;motion 0;").carries(), 40);
        Rows.due("carries(): 46", Rows.told("whip 1 20 0;plain 1 1 2;maggot 0 7 3;plain 0 18 1;motion 0;").carries(), 46);
        Rows.due("carries()", Rows.quarrel().carries(), NONE);
        Rows.due("carries() from an odd DAY", Rows.quarrelAt(999).carries(), NONE);
        WalnutHouses x = Rows.told("whip 1 20 0;motion 0;");
        for (int n = 0; n <= 40; n++) {
            x.runs(60, 0);
            Rows.due("carries() from DAY " + n, x.carries(), 40 - n);
            Rows.due("carries(): once more, nothing has passed", x.carries(), 40 - n);
            x.days(1);
        }
        Rows.due("carries(): it is CARRIED", x.carries(), 0);
        Rows.sentence("17: soonest, behind how many DAYS; 20, 21, 23, 24 likewise, as far as was found");
        Rows.due("wording(1): 42", Rows.told("plain 1 0 0;whip 1 20 0;motion 6;").wording(1), 42);
        Rows.due("lose(1): 46", Rows.told(NUTS[14]).lose(1), 46);
        Rows.due("cross(1): 46", Rows.told(NUTS[13]).cross(1), 46);
        Rows.due("mind(0, 1): 46", Rows.told(NUTS[15]).mind(0, 1), 46);
        Rows.due("kind(0, 1): 46", Rows.told(NUTS[12]).kind(0, 1), 46);
    }

    private static void ties() {
        Rows.sentence("17, 18, 23: of several the least; 20, 21, 24: of several the first");
        WalnutHouses x = Rows.told("plain 0 10 3;plain 1 12 3;");
        Rows.due("wording(0): 9 to 13", x.wording(0), 9);
        Rows.due("wording(1)", x.wording(1), 0);
        Rows.due("middle(0): 9 to 13", x.middle(0), 9);
        Rows.due("mind(0, 0): 7 to 13", x.mind(0, 0), 7);
        Rows.due("kind(0, 0): any", x.kind(0, 0), 0);
        x = Rows.told("whip 0 20 0;whip 1 20 0;");
        Rows.due("wording(0): the last", x.wording(0), 20);
        Rows.due("middle(0): the last", x.middle(0), 20);
        Rows.due("mind(0, 0)", Rows.told("plain 0 0 0;motion 20;").mind(0, 0), 20);
        Rows.due("mind(0, 0)", Rows.told("plain 0 20 0;motion 0;").mind(0, 0), 0);
        x = Rows.told("plain 0 10 0;whip 0 0 0;plain 1 10 0;whip 1 10 0;whip 1 10 9;");
        Rows.due("lose(0): 1 alone is against it", x.lose(0), 1);
        Rows.due("lose(1)", x.lose(1), 0);
        x = Rows.told("whip 0 0 0;whip 0 20 0;");
        Rows.due("lose(0): the first of two", x.lose(0), 0);
        Rows.due("lose(1)", x.lose(1), 19);
        x = Rows.told("whip 1 12 0;".repeat(6));
        // HOUSE 0 has none and would sit in vain; with any of the six in it each DAY brings it nearer
        Rows.due("carries()", x.carries(), 4);
        Rows.due("cross(0): the first of six", x.cross(0), 0);
        Rows.due("cross(1)", x.cross(1), 2);
        x = Rows.told("plain 0 10 0;plain 0 10 0;plain 0 0 0;plain 0 0 0;plain 1 10 9;plain 1 10 9;");
        Rows.due("cross(0): 2 or 3", x.cross(0), 2);
        Rows.due("cross(1)", x.cross(1), 0);
        Rows.due("lose(0): 2 or 3", x.lose(0), 2);
        Rows.due("lose(1)", x.lose(1), 0);
    }

    private static void soonerThanItIs() {
        Rows.sentence("20, 21: sooner than as it is. NONE: none");
        // without either, or with either in HOUSE 0, it takes as long as it does
        WalnutHouses x = Rows.told("whip 1 7 1;whip 1 7 1;motion 5;");
        Rows.due("carries()", x.carries(), 2);
        Rows.due("lose(0)", x.lose(0), NONE);
        Rows.due("lose(1)", x.lose(1), NONE);
        x = Rows.told("whip 1 6 4;whip 0 6 0;motion 7;");
        Rows.due("carries()", x.carries(), 1);
        Rows.due("cross(0)", x.cross(0), NONE);
        Rows.due("cross(1)", x.cross(1), NONE);
        x = Rows.told("whip 0 10 0;whip 1 10 0;");
        Rows.due("lose(0): CARRIED now", x.lose(0), NONE);
        Rows.due("cross(0): CARRIED now", x.cross(0), NONE);
        x = Rows.told("plain 1 20 0;");
        Rows.due("carries()", x.carries(), 10);
        Rows.due("cross(0): one DAY sooner", x.cross(0), 0);
        Rows.due("cross(1)", x.cross(1), 9);
    }

    private static void middle() {
        Rows.sentence("18: THE MOTION for which most MEMBERS VOTE now, of several the least, how many");
        for (String text : NUTS) {
            WalnutHouses x = Rows.told(text);
            int most = -1, least = 0;
            for (int v = 0; v <= 20; v++) {
                x.word(v);
                int votes = Integer.bitCount(x.rule(5));
                if (votes > most) {
                    most = votes;
                    least = v;
                }
            }
            Rows.due("middle(0) of " + text, x.middle(0), least);
            Rows.due("middle(1) of " + text, x.middle(1), most);
        }
        Rows.due("middle(1) of all", Rows.told("plain 0 0 20;".repeat(6)).middle(1), 6);
        Rows.due("middle(0) of all", Rows.told("plain 0 0 20;".repeat(6)).middle(0), 0);
    }

    /** Whether his HOUSE AGREES on v, when he is made to VOTE so. */
    private static boolean agrees(String text, int i, int v, boolean isFor) {
        WalnutHouses x = altered(text, i, WANT, isFor ? v : v > 10 ? 0 : 20);
        x.alter(i, SLACK, 0);
        x.word(v);
        return (x.rule(4) >> x.member(i, HOUSE) & 1) == 1;
    }

    private static void swing() {
        Rows.sentence("19: For how many MOTIONS (0 to 20) the VOTE of a MEMBER decides");
        for (String text : NUTS) {
            WalnutHouses x = Rows.told(text);
            for (int i = 0; i < x.rule(0); i++) {
                int due = 0;
                for (int v = 0; v <= 20; v++) {
                    due += agrees(text, i, v, true) && !agrees(text, i, v, false) ? 1 : 0;
                }
                Rows.due("swing(" + i + ") of " + text, x.swing(i), due);
            }
        }
        Rows.due("swing(0): alone", Rows.told("whip 0 3 20;").swing(0), 21);
        Rows.due("swing(0): none", Rows.told("plain 0 0 0;".repeat(2) + "plain 0 0 20;".repeat(4)).swing(0), 0);
        // 2 for and 2 against; 3 for and 2 against; 2 for and 3 against
        Rows.due("swing(0): 2 to 2", Rows.told("whip 0 0 0;" + "plain 0 0 20;".repeat(2) + "maggot 0 20 0;maggot 0 20 0;").swing(0), 20);
        Rows.due("swing(0): 3 to 2", Rows.told("whip 0 0 0;" + "plain 0 0 20;".repeat(3) + "maggot 0 20 0;maggot 0 20 0;").swing(0), 20);
        Rows.due("swing(0): 2 to 3", Rows.told("whip 0 0 0;" + "plain 0 0 20;".repeat(2) + "maggot 0 20 0;".repeat(3)).swing(0), 0);
    }

    private static void give() {
        Rows.sentence("22: The least SLACK of a MEMBER (0 to 20) by which it is CARRIED behind n DAYS (0 to 60)");
        for (String text : NUTS) {
            WalnutHouses x = Rows.told(text);
            for (int i = 0; i < x.rule(0); i++) {
                for (int n : new int[] {0, 1, 2, 5, 45, 46, 60}) {
                    int due = NONE;
                    for (int slack = 20; slack >= 0; slack--) {
                        WalnutHouses y = altered(text, i, SLACK, slack);
                        pass(y, n);
                        due = y.rule(3) == 1 ? slack : due;
                    }
                    Rows.due("give(" + i + ", " + n + ") of " + text, x.give(i, n), due);
                }
            }
        }
        Rows.due("give(0, 0): 0", Rows.told("plain 0 10 7;").give(0, 0), 0);
        Rows.due("give(0, 0): 20", Rows.told("plain 0 0 7;motion 20;").give(0, 0), 20);
        Rows.due("give(0, 38): 1", Rows.told("whip 0 0 7;motion 20;").give(0, 38), 1);
        Rows.due("give(0, 39): 0", Rows.told("whip 0 0 7;motion 20;").give(0, 39), 0);
    }

    /** A DAY on which nobody sits, done: while all are for everything it is CARRIED, and nothing is done. */
    private static void idle(WalnutHouses x) {
        int[] slacks = new int[x.rule(0)];
        for (int i = 0; i < slacks.length; i++) {
            slacks[i] = x.alter(i, SLACK, 20);
        }
        x.days(1);
        for (int i = 0; i < slacks.length; i++) {
            x.alter(i, SLACK, slacks[i]);
        }
    }

    private static void odds() {
        Rows.sentence("25, 26: On each of n DAYS (0 to 8) nobody sits by v out of ten (0 to 10)");
        int[] nuts = {4, 6, 8, 11, 12, 13};
        for (int nut : nuts) {
            for (int n = 0; n <= 8; n++) {
                long[] carried = new long[n + 1], motions = new long[n + 1];
                for (int way = 0; way < 1 << n; way++) {
                    WalnutHouses y = Rows.told(NUTS[nut]);
                    for (int d = 0; d < n; d++) {
                        if ((way >> d & 1) == 1) {
                            idle(y);
                        } else {
                            y.days(1);
                        }
                    }
                    carried[Integer.bitCount(way)] += y.rule(3);
                    motions[Integer.bitCount(way)] += y.rule(2);
                }
                for (int v : new int[] {0, 1, 3, 5, 8, 10}) {
                    WalnutHouses x = Rows.told(NUTS[nut]);
                    String call = "(" + v + ", " + n + ") of " + NUTS[nut];
                    fraction("luck" + call, x.luck(v, n, 0), x.luck(v, n, 1), carried, v, n);
                    fraction("mean" + call, x.mean(v, n, 0), x.mean(v, n, 1), motions, v, n);
                }
            }
        }
        for (String text : NUTS) {
            WalnutHouses x = Rows.told(text);
            for (int n = 0; n <= 8; n++) {
                Rows.due("luck(0, n, 0): all sit", x.luck(0, n, 0), x.runs(n, 2));
                Rows.due("luck(10, n, 0): none sits", x.luck(10, n, 0), x.rule(3));
                Rows.due("mean(0, n, 0): all sit", x.mean(0, n, 0), x.runs(n, 0));
                Rows.due("mean(10, n, 0): none sits", x.mean(10, n, 0), x.rule(2));
                Rows.due("by 1", x.luck(0, n, 1) + x.luck(10, n, 1) + x.mean(0, n, 1) + x.mean(10, n, 1), 4);
            }
            Rows.due("luck(5, 0, 0)", x.luck(5, 0, 0), x.rule(3));
            Rows.due("luck(5, 0, 1)", x.luck(5, 0, 1), 1);
            Rows.due("mean(5, 0, 0)", x.mean(5, 0, 0), x.rule(2));
            Rows.due("mean(5, 0, 1)", x.mean(5, 0, 1), 1);
        }
    }

    /** above by below is the sum over all ways, each weighed by how many of its DAYS are idle. */
    private static void fraction(String call, long above, long below, long[] sums, int v, int n) {
        long sum = 0, whole = 1;
        for (int d = 0; d < n; d++) {
            whole *= 10;
        }
        for (int idle = 0; idle <= n; idle++) {
            long weight = sums[idle];
            for (int d = 0; d < n; d++) {
                weight *= d < idle ? v : 10 - v;
            }
            sum += weight;
        }
        Rows.due(call, above * whole, sum * below);
    }

    private static void seen() {
        Rows.sentence("27 to 30: SEEN, at 0 and 20 DAYS; KINDS, WANTS (bits 0 to 20) by which all is as SEEN");
        for (String text : NUTS) {
            WalnutHouses x = Rows.told(text);
            int[] whens = {0, 20, 3, 19, 7, 1};
            for (int seen = 0; seen <= 6; seen++) {
                for (int i = 0; i < x.rule(0); i++) {
                    Rows.due("kinds(" + i + "), SEEN " + seen + " of " + text, x.kinds(i), asSeen(text, i, KIND, whens, seen));
                    Rows.due("wants(" + i + "), SEEN " + seen + " of " + text, x.wants(i), asSeen(text, i, WANT, whens, seen));
                }
                int n = whens[seen % 6];
                Rows.due("see(" + n + ", ..)", x.see(n, x.runs(n, 0)), seen < 6 ? seen + 1 : FULL);
            }
            for (int left = 6; left > 0; left--) {
                Rows.due("forget(" + (left - 1) + ")", x.forget(left - 1), left);
                for (int i = 0; i < x.rule(0); i++) {
                    Rows.due("wants(" + i + "): the first alone", x.wants(i), asSeen(text, i, WANT, whens, left - 1));
                }
            }
            x.see(0, x.rule(2) == 0 ? 1 : 0);
            for (int i = 0; i < x.rule(0); i++) {
                Rows.due("kinds(" + i + "): by none", x.kinds(i), 0);
                Rows.due("wants(" + i + "): by none", x.wants(i), 0);
            }
        }
        Rows.due("kinds(0): nothing is SEEN", Rows.told("plain 0 0 0;").kinds(0), 15);
        Rows.due("wants(0): nothing is SEEN", Rows.told("plain 0 0 0;").wants(0), (1 << 21) - 1);
        // 20 DAYS bring a whip of HOUSE 0 ten further: those who want 10 and more can not be told apart
        WalnutHouses x = Rows.told("whip 0 10 0;motion 0;");
        x.see(20, 10);
        Rows.due("wants(0)", x.wants(0), (1 << 21) - (1 << 10));
        x.forget(0);
        x.see(20, 0);
        Rows.due("wants(0)", x.wants(0), 1);
        x = Rows.told("whip 0 10 0;motion 20;");
        x.see(20, 20);
        Rows.due("wants(0): bit 20", x.wants(0), 1 << 20);
    }

    /** What a MEMBER can be, done: by which behind each DAY of the first ones it is as it will be. */
    private static int asSeen(String text, int i, int part, int[] whens, int seen) {
        WalnutHouses as = Rows.told(text);
        int bits = 0;
        for (int v = 0; v <= TOP_OF[part]; v++) {
            WalnutHouses x = altered(text, i, part, v);
            boolean same = true;
            for (int s = 0; s < seen; s++) {
                same &= x.runs(whens[s], 0) == as.runs(whens[s], 0);
            }
            bits |= same ? 1 << v : 0;
        }
        return bits;
    }

    private static void ask() {
        Rows.sentence("31: Behind how many DAYS (0 to 20) to look, fewest are left at the worst, fewer than now, the first. NONE");
        for (String text : NUTS) {
            for (int seen = 0; seen <= 2; seen++) {
                WalnutHouses x = Rows.told(text);
                for (int s = 0; s < seen; s++) {
                    x.see(2 * s + 1, x.runs(2 * s + 1, 0));
                }
                for (int i = 0; i < x.rule(0); i++) {
                    int[] due = looked(text, i, x.wants(i));
                    Rows.due("ask(" + i + ", 0), SEEN " + seen + " of " + text, x.ask(i, 0), due[0]);
                    Rows.due("ask(" + i + ", 1), SEEN " + seen + " of " + text, x.ask(i, 1), due[1]);
                }
            }
        }
        askAtTheEnd();
        askOfFew();
    }

    private static int[] looked(String text, int i, int wants) {
        int fewest = Integer.bitCount(wants);
        int[] found = {NONE, NONE};
        for (int d = 0; d <= 20; d++) {
            int[] left = new int[21];
            int worst = 0;
            for (int want = 0; want <= 20; want++) {
                if ((wants >> want & 1) == 1) {
                    int motion = altered(text, i, WANT, want).runs(d, 0);
                    left[motion]++;
                    worst = Math.max(worst, left[motion]);
                }
            }
            if (worst < fewest) {
                fewest = worst;
                found[0] = d;
                found[1] = worst;
            }
        }
        return found;
    }

    /** A whip of HOUSE 1 comes one further behind 2, 4, .. 20 DAYS: it is 10 further at most that tells WANTS apart. */
    private static void askAtTheEnd() {
        WalnutHouses x = Rows.told("whip 1 10 0;motion 0;");
        Rows.due("ask(0, 0): the last DAY", x.ask(0, 0), 20);
        Rows.due("ask(0, 1): 10 to 20 are left", x.ask(0, 1), 11);
        x.see(18, 9);
        Rows.due("wants(0): 9 and more", x.wants(0), (1 << 21) - (1 << 9));
        Rows.due("ask(0, 0): the last DAY", x.ask(0, 0), 20);
        Rows.due("ask(0, 1)", x.ask(0, 1), 11);
        x.see(20, 10);
        Rows.due("wants(0): 10 and more", x.wants(0), (1 << 21) - (1 << 10));
        Rows.due("ask(0, 0): 22 DAYS would tell", x.ask(0, 0), NONE);
        Rows.due("ask(0, 1)", x.ask(0, 1), NONE);
        // 21 DAYS would tell: HOUSE 0 comes one further behind 1, 3, .. 19, 21
        x = Rows.told("whip 0 10 0;motion 0;");
        x.see(20, 10);
        Rows.due("ask(0, 0): 21 DAYS would tell", x.ask(0, 0), NONE);
    }

    private static void askOfFew() {
        WalnutHouses x = Rows.told("whip 0 10 0;motion 0;");
        x.see(1, 0);
        Rows.due("wants(0): one is left", x.wants(0), 1);
        Rows.due("ask(0, 0): no fewer than one", x.ask(0, 0), NONE);
        Rows.due("ask(0, 1)", x.ask(0, 1), NONE);
        x.see(0, 1);
        Rows.due("wants(0): none is left", x.wants(0), 0);
        Rows.due("ask(0, 0)", x.ask(0, 0), NONE);
        Rows.due("ask(0, 1)", x.ask(0, 1), NONE);
        x = Rows.told("whip 0 10 0;motion 19;");
        x.see(1, 20);
        Rows.due("wants(0): 20 alone", x.wants(0), 1 << 20);
        // below, at, above: behind one DAY 10, 1 and 10 are left
        x = Rows.told("whip 0 3 0;");
        Rows.due("ask(0, 0) asks further", x.ask(0, 0), 19);
        Rows.due("ask(0, 1): one each", x.ask(0, 1), 1);
    }

    private static void drift() {
        Rows.sentence("32: n DAYS (1 to 60) by a seed; MEMBER got modulo MEMBERS, got by 8 (down) modulo 21, from then on");
        int[] seeds = {0, 1, -1, 7, 12345, LOWEST, LOWEST + 1, HIGHEST, HIGHEST - 1, 1103515245, -1103515245, 1 << 16, 1 << 30};
        for (String text : NUTS) {
            WalnutHouses now = Rows.told(text);
            int members = now.rule(0);
            if (members == 0) {
                Rows.due("drift(1, 1, 0), no MEMBERS", now.drift(1, 1, 0), STATE);
                Rows.due("drift(1, 60, 1), no MEMBERS", now.drift(1, 60, 1), STATE);
            }
            for (int seed : seeds) {
                WalnutHouses x = Rows.told(text);
                long state = seed;
                for (int n = 1; n <= 60 && members > 0; n++) {
                    state = (state * 1103515245L + 12345L) & 0xffffffffL;
                    int got = (int) (state / 65536 % 32768);
                    x.alter(got % members, WANT, got / 8 % 21);
                    x.days(1);
                    if (n < 4 || n > 57) {
                        Rows.due("drift(" + seed + ", " + n + ", 0) of " + text, now.drift(seed, n, 0), x.rule(2));
                        Rows.due("drift(" + seed + ", " + n + ", 1) of " + text, now.drift(seed, n, 1), x.rule(6));
                    }
                }
            }
        }
        WalnutHouses x = Rows.quarrelAt(999);
        Rows.due("drift from DAY 999: HOUSE 1 sits, who wants 20", x.drift(0, 1, 0), 10);
        Rows.due("drift from DAY 999", x.drift(0, 1, 1), 1);
    }

    private static void images() {
        Rows.sentence("33, 34: IMAGE k (0, 1): whether there was one; all is as IMAGE k: DAY. STATE: there is none");
        for (int members = 0; members <= 6; members++) {
            for (int k = 0; k < 2; k++) {
                WalnutHouses x = Rows.rich(members);
                Rows.due("count(1)", x.count(1), 2);
                x.clear(0);
                x.word(20);
                x.forget(0);
                Rows.due("back(" + k + ")", x.back(k), k == 0 ? 3 : 5);
                Rows.due("rule(0): all of them", x.rule(0), members);
                Rows.due("count(0)", x.count(0), k == 0 ? 1 : 2);
            }
        }
        for (int k = 0; k < 2; k++) {
            WalnutHouses x = Rows.quarrelAt(999);
            Rows.due("back(" + k + ") at first", x.back(k), STATE);
            Rows.due("keep(" + k + ")", x.keep(k), 0);
            Rows.due("back(" + (1 - k) + "): the other", x.back(1 - k), STATE);
            Rows.due("count(1)", x.count(1), 1);
            Rows.due("keep(" + k + ")", x.keep(k), 1);
            Rows.due("back(" + k + ")", x.back(k), 999);
            Rows.due("rule(6)", x.rule(6), 999);
            Rows.due("back(" + k + "): it is kept", x.back(k), 999);
            x.text();
            Rows.due("back(" + k + "): a text was taken", x.back(k), STATE);
            Rows.due("keep(" + k + "): there was none", x.keep(k), 0);
            Rows.due("back(" + k + ")", x.back(k), 0);
        }
        imagesAreCopies();
        imagesHoldNoMore();
    }

    private static void imagesAreCopies() {
        Rows.sentence("33: IMAGE k is MEMBERS (all of them), THE MOTION, DAY, AMENDMENTS, what was SEEN");
        WalnutHouses x = Rows.rich(6);
        x.keep(0);
        for (int times = 0; times < 2; times++) {
            for (int i = 0; i < 6; i++) {
                for (int what = KIND; what <= SLACK; what++) {
                    x.alter(i, what, TOP_OF[what] - x.member(i, what));
                }
            }
            x.word(1);
            x.days(9);
            x.forget(0);
            x.see(9, 9);
            x.see(9, 9);
            Rows.due("back(0)", x.back(0), 5);
        }
        WalnutHouses y = Rows.rich(6);
        y.keep(0);
        Rows.same("back(0)", x, y);
        x = Rows.rich(6);
        for (int n = 0; n < 3; n++) {
            x.see(n, n);
        }
        x.keep(1);
        x.forget(0);
        x.back(1);
        Rows.due("count(0): six", x.count(0), 6);
        Rows.due("see: the 7th", x.see(0, 0), FULL);
        x.forget(0);
        x.clear(0);
        x.keep(1);
        x.see(0, 0);
        x.seat(0, 0);
        x.back(1);
        Rows.due("count(0): none", x.count(0), 0);
        Rows.due("rule(0): none", x.rule(0), 0);
    }

    private static void imagesHoldNoMore() {
        Rows.sentence("34: THE TAPE, the FAULTS, the SHEETS and the other IMAGE are no part of an IMAGE");
        WalnutHouses x = Rows.rich(6);
        int torn = x.torn(), fault = x.fault();
        x.keep(0);
        x.end(0);
        Rows.feed(x, "motion 19");
        x.sheet(0, 1, 7);
        x.read(0, 0, 0, 1);
        x.back(0);
        Rows.due("count(2)", x.count(2), 9);
        Rows.due("count(3)", x.count(3), 7);
        Rows.due("torn()", x.torn(), 3);
        Rows.due("torn() was", torn, 2);
        Rows.due("fault()", x.fault(), fault);
        Rows.due("count(1)", x.count(1), 2);
        Rows.due("back(1)", x.back(1), 5);
        x.feed(';');
        Rows.due("text()", x.text(), 1);
        Rows.due("rule(2)", x.rule(2), 19);
    }

    private static void newRows() {
        Rows.sentence("35: A SHEET is a new row of CELLS 0: 1");
        for (int k = 0; k < 4; k++) {
            for (int lane = 0; lane < 3; lane++) {
                WalnutHouses x = Rows.told("plain 0 7 0;");
                x.sheet(k, 2 - lane, 40);
                for (int c = 0; c < 40; c++) {
                    x.lay(k, c, 99);
                }
                for (int n = 0; n <= 40; n += 8) {
                    Rows.due("sheet(" + k + ", " + lane + ", " + n + ")", x.sheet(k, lane, n), 1);
                    x.alter(0, WANT, 7);
                    Rows.due("read", x.read(k, lane, 0, 20), n / 2);
                    Rows.due("torn()", x.torn(), n == 40 ? 0 : 2);
                    Rows.due("member(0, 2)", x.member(0, WANT), n == 0 ? 7 : 0);
                    Rows.due("count(3)", x.count(3), k == 0 ? n : NONE);
                    for (int other = 0; other < 4; other++) {
                        Rows.due("lay: another SHEET is nothing still", x.lay(other, 40, 0), other == k ? -12 : -11);
                    }
                }
            }
        }
    }

    private static void cells() {
        Rows.sentence("36: CELL i of a SHEET becomes v (its lowest bits): 1");
        for (int lane = 0; lane < 3; lane++) {
            for (int c = 0; c < 40; c++) {
                WalnutHouses x = Rows.told("plain 0 3 0;plain 0 3 0;");
                x.sheet(2, lane, 40);
                Rows.due("lay(2, " + c + ", 1)", x.lay(2, c, 1), 1);
                // this CELL alone is 1: the MEMBER, or his WANT, where all else is 0
                int pair = c - c % 2;
                Rows.due("read it", x.read(2, lane, pair, 1), 1);
                Rows.due("member(0, 2)", x.member(0, WANT), c % 2 == 1 ? 1 : 3);
                Rows.due("member(1, 2)", x.member(1, WANT), c % 2 == 0 ? 0 : 3);
                x.alter(0, WANT, 3);
                x.alter(1, WANT, 3);
                Rows.due("read those ahead", x.read(2, lane, 0, pair / 2), pair / 2);
                Rows.due("read those behind", x.read(2, lane, pair + 2, 19 - pair / 2), 19 - pair / 2);
                Rows.due("torn()", x.torn(), 0);
                Rows.due("member(0, 2)", x.member(0, WANT), 0);
                Rows.due("member(1, 2)", x.member(1, WANT), 3);
            }
        }
    }

    /** Twenty pairs in a SHEET of 40: MEMBER and WANT of each. */
    private static WalnutHouses twenty(int lane) {
        WalnutHouses x = Rows.told("plain 0 3 0;".repeat(6));
        x.sheet(1, lane, 40);
        for (int pair = 0; pair < 20; pair++) {
            x.lay(1, 2 * pair, pair % 6);
            x.lay(1, 2 * pair + 1, pair + 1);
        }
        return x;
    }

    private static void pairs() {
        Rows.sentence("37: n (0 to 20) times a MEMBER, his WANT are read, two CELLS each from CELL f on: how many came");
        for (int lane = 0; lane < 3; lane++) {
            for (int from = 0; from <= 20; from++) {
                for (int n = 0; n <= 20; n++) {
                    WalnutHouses x = twenty(lane);
                    int due = Math.min(n, 20 - from);
                    Rows.due("read(1, lane, " + 2 * from + ", " + n + ")", x.read(1, lane, 2 * from, n), due);
                    Rows.due("torn()", x.torn(), n > due ? 2 : 0);
                    int[] wants = {3, 3, 3, 3, 3, 3};
                    for (int pair = from; pair < from + due; pair++) {
                        wants[pair % 6] = pair + 1;
                    }
                    for (int i = 0; i < 6; i++) {
                        Rows.due("member(" + i + ", 2): one behind another", x.member(i, WANT), wants[i]);
                    }
                }
            }
        }
        Rows.sentence("37: What the machine refuses: those that were whole ahead came");
        WalnutHouses x = Rows.told("plain 0 3 0;plain 0 4 0;");
        for (int size = 0; size <= 7; size++) {
            x.sheet(3, 0, size);
            for (int f = 0; f <= 8; f++) {
                int whole = Math.max(0, size - f) / 2;
                Rows.due("read(3, 0, " + f + ", 20) of " + size, x.read(3, 0, f, 20), whole);
                Rows.due("torn()", x.torn(), 2);
            }
        }
        for (int f : new int[] {-1, -2, -40, LOWEST, LOWEST + 1, HIGHEST, HIGHEST - 1, HIGHEST - 2, HIGHEST - 39, 40}) {
            for (int n : new int[] {1, 2, 20}) {
                WalnutHouses y = twenty(2);
                Rows.due("read(1, 2, " + f + ", " + n + ")", y.read(1, 2, f, n), 0);
                Rows.due("torn()", y.torn(), 2);
                Rows.due("count(4): none came", y.count(4), 18);
            }
        }
        // half of one, of whom there is no MEMBER: the machine refuses it, not alter()
        x.sheet(3, 0, 3);
        x.lay(3, 2, 99);
        Rows.due("read(3, 0, 0, 2)", x.read(3, 0, 0, 2), 1);
        Rows.due("torn()", x.torn(), 2);
    }

    private static void refusedPairs() {
        Rows.sentence("37: -20 less i: the i-th, whole, is refused by alter(): then none came; the first met");
        int[][] refused = {{6, 1}, {-1, 1}, {0, 21}, {0, -1}, {6, 21}, {127, 127}, {-128, -128}};
        for (int i = 0; i < 20; i++) {
            for (int[] cells : refused) {
                WalnutHouses x = twenty(i % 3);
                x.lay(1, 2 * i, cells[0]);
                x.lay(1, 2 * i + 1, cells[1]);
                Rows.due("read, the " + i + "th is refused", x.read(1, i % 3, 0, 20), -20 - i);
                Rows.due("torn(): it came to no end", x.torn(), 0);
                Rows.due("count(4): none came", x.count(4), 18);
                Rows.due("read from it on", x.read(1, i % 3, 2 * i, 20 - i), -20);
                Rows.due("count(4): none came", x.count(4), 18);
                Rows.due("read those ahead", x.read(1, i % 3, 0, i), i);
                Rows.due("read those behind", x.read(1, i % 3, 2 * i + 2, 20), 19 - i);
            }
        }
        for (int i = 0; i < 19; i++) {
            WalnutHouses x = twenty(0);
            x.lay(1, 2 * i, 6);
            x.lay(1, 38, 6);
            Rows.due("read: the first met", x.read(1, 0, 0, 20), -20 - i);
            // the machine would refuse what is behind the last, but that is met later
            Rows.due("read: the first met", x.read(1, 0, 2 * i, 20), -20);
        }
        WalnutHouses x = twenty(0);
        Rows.due("clear(5)", x.clear(5), 6);
        Rows.due("read: there is no MEMBER 5", x.read(1, 0, 0, 20), -25);
        x.clear(0);
        Rows.due("read: there is no MEMBER", x.read(1, 0, 0, 20), -20);
        Rows.due("read: nothing is whole", x.read(1, 0, 39, 20), 0);
        for (int[] cells : refused) {
            Rows.leaves("read that is refused", () -> {
                WalnutHouses y = Rows.rich(6);
                y.lay(0, 2, cells[0]);
                y.lay(0, 3, cells[1]);
                return y;
            }, y -> y.read(0, 0, 0, 3), -21);
        }
    }

    private static void noPairs() {
        Rows.sentence("37: n 0: nothing is read, whatever the SHEET, its lane, and f");
        for (int k = 0; k < 4; k++) {
            for (int lane = 0; lane < 3; lane++) {
                for (int f : new int[] {0, -1, 40, HIGHEST, LOWEST}) {
                    WalnutHouses x = Rows.rich(6);
                    int wants = x.count(4);
                    Rows.due("read(" + k + ", " + lane + ", " + f + ", 0)", x.read(k, lane, f, 0), 0);
                    Rows.due("torn()", x.torn(), 0);
                    Rows.due("count(4)", x.count(4), wants);
                }
            }
        }
    }

    private static void torn() {
        Rows.sentence("38: The FAULT of the latest read() that came to an end; 0");
        WalnutHouses x = Rows.told("plain 0 3 0;");
        Rows.due("torn() at first", x.torn(), 0);
        x.sheet(0, 0, 4);
        x.sheet(1, 0, 2);
        x.lay(1, 0, 9);
        int[] faults = {1, 2, 3, 0, 3, 2, 1, 0};
        for (int fault : faults) {
            x.read(fault == 1 ? 2 : 0, fault == 3 ? 1 : 0, fault == 2 ? 3 : 0, 1);
            Rows.due("torn()", x.torn(), fault);
            Rows.due("read that is refused", x.read(1, 0, 0, 1), -20);
            Rows.due("read that is BAD", x.read(4, 0, 0, 1) + x.read(0, 3, 0, 1) + x.read(0, 0, 0, 21) + x.read(0, 0, 0, -1), -4);
            Rows.due("lay with a FAULT", x.lay(3, 0, 0), -11);
            Rows.due("lay with a FAULT", x.lay(0, 4, 0), -12);
            Rows.due("sheet with a FAULT", x.sheet(0, 0, -1), -14);
            Rows.due("torn(): these did not come to an end", x.torn(), fault);
        }
        for (int fault = 1; fault <= 3; fault++) {
            x.read(fault == 1 ? 2 : 0, fault == 3 ? 1 : 0, fault == 2 ? 3 : 0, 1);
            x.sheet(3, 0, 0);
            x.text();
            x.keep(0);
            x.back(0);
            Rows.due("torn(): no read() was between", x.torn(), fault);
            x.seat(0, 0);
            Rows.due("read that is whole", x.read(0, 0, 0, 1), 1);
            Rows.due("torn()", x.torn(), 0);
        }
    }

    private static void counts() {
        Rows.sentence("39: How many: SEEN, IMAGES, bytes, CELLS of SHEET 0 (NONE: nothing), WANTS of all, SLACK of all");
        WalnutHouses x = new WalnutHouses();
        for (int n = 0; n <= 6; n++) {
            Rows.due("count(0)", x.count(0), n);
            Rows.due("count(4)", x.count(4), 20 * n);
            Rows.due("count(5)", x.count(5), 20 * n);
            x.see(0, 0);
            x.seat(0, 20);
            x.alter(n, SLACK, 20);
        }
        x.clear(4);
        Rows.due("count(4)", x.count(4), 80);
        Rows.due("count(5)", x.count(5), 80);
        for (int images = 0; images < 4; images++) {
            WalnutHouses y = new WalnutHouses();
            for (int k = 0; k < 2; k++) {
                if ((images >> k & 1) == 1) {
                    y.keep(k);
                    y.keep(k);
                }
            }
            Rows.due("count(1)", y.count(1), Integer.bitCount(images));
        }
        for (int n = 0; n <= 160; n++) {
            Rows.due("count(2)", x.count(2), n);
            x.feed(0);
        }
        Rows.due("count(2)", x.count(2), 160);
        for (int k = 1; k < 4; k++) {
            x.sheet(k, 0, 5);
            Rows.due("count(3): SHEET 0 is nothing", x.count(3), NONE);
        }
        for (int n = 0; n <= 40; n++) {
            x.sheet(0, n % 3, n);
            Rows.due("count(3)", x.count(3), n);
        }
        x.sheet(0, 0, 41);
        x.sheet(0, 0, -1);
        Rows.due("count(3): refused ones leave it", x.count(3), 40);
    }
}
