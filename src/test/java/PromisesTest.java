/** Each promise by hand: ordinary inputs, the edges that the document names, wrong inputs. */
public final class PromisesTest {
    private static final int BAD = WalnutHouses.BAD, STATE = WalnutHouses.STATE, FULL = WalnutHouses.FULL, NONE = WalnutHouses.NONE;
    private static final int LOWEST = Integer.MIN_VALUE, HIGHEST = Integer.MAX_VALUE;
    private static int promise = 0;
    private static int wrong = 0;
    private static int rows = 0;

    private static void due(String call, long got, long want) {
        rows++;
        if (got != want) {
            wrong++;
            System.out.println("promise " + promise + ": " + call + " answered " + got + ", due is " + want);
        }
    }

    private static void feed(WalnutHouses x, String text) {
        for (char c : text.toCharArray()) {
            x.feed(c);
        }
    }

    private static WalnutHouses told(String text) {
        WalnutHouses x = new WalnutHouses();
        feed(x, text);
        if (x.text() < 0) {
            due("text of " + text, x.fault(), 0);
        }
        return x;
    }

    /** Two whips that never agree: THE MOTION goes up and down for ever. */
    private static WalnutHouses quarrel() {
        return told("whip 0 0 0;whip 1 20 0;");
    }

    public static void main(String[] args) {
        anew();
        feedAndEnd();
        texts();
        textTellsAll();
        rule();
        member();
        house();
        alter();
        word();
        seatAndClear();
        days();
        aDay();
        byDays();
        wording();
        middleAndSwing();
        loseAndCross();
        give();
        mindAndKind();
        odds();
        seen();
        ask();
        drift();
        images();
        sheets();
        read();
        count();
        System.out.println(wrong == 0 ? rows + " answers are as due" : wrong + " answers are not as due");
        if (wrong != 0) {
            System.exit(1);
        }
    }

    private static void anew() {
        promise = 1;
        WalnutHouses x = new WalnutHouses();
        int[] rules = {0, 0, 10, 1, 3, 0, 0};
        for (int what = 0; what < rules.length; what++) {
            due("rule(" + what + ")", x.rule(what), rules[what]);
        }
        due("count(0)", x.count(0), 0);
        due("count(1)", x.count(1), 0);
        due("count(2)", x.count(2), 0);
        for (int k = 0; k < 4; k++) {
            due("lay(k, 0, 0)", x.lay(k, 0, 0), -11);
        }
        due("fault()", x.fault(), 0);
        due("torn()", x.torn(), 0);
        due("member(0, 0)", x.member(0, 0), BAD);
        due("house(0, 0)", x.house(0, 0), 0);
        due("house(1, 3)", x.house(1, 3), 20);
        due("carries()", x.carries(), 0);
        due("middle(0)", x.middle(0), 0);
        due("middle(1)", x.middle(1), 0);
        due("wording(0)", x.wording(0), 0);
        due("lose(0)", x.lose(0), NONE);
        due("cross(0)", x.cross(0), NONE);
    }

    private static void feedAndEnd() {
        promise = 2;
        WalnutHouses x = new WalnutHouses();
        due("feed(-1)", x.feed(-1), BAD);
        due("feed(128)", x.feed(128), BAD);
        due("feed(lowest)", x.feed(LOWEST), BAD);
        due("feed(0)", x.feed(0), 1);
        due("feed(127)", x.feed(127), 2);
        for (int n = 3; n <= 160; n++) {
            due("feed(32)", x.feed(32), n);
        }
        due("feed(32)", x.feed(32), FULL);
        due("feed(128)", x.feed(128), BAD);
        due("count(2)", x.count(2), 160);
        promise = 3;
        due("end(161)", x.end(161), BAD);
        due("end(-1)", x.end(-1), BAD);
        due("end(160)", x.end(160), 160);
        due("end(2)", x.end(2), 160);
        due("count(2)", x.count(2), 2);
        due("end(3)", x.end(3), BAD);
        due("end(0)", x.end(0), 2);
        due("end(0)", x.end(0), 0);
        due("end(1)", x.end(1), BAD);
        feed(x, "motion 13;");
        x.end(8);
        feed(x, ";");
        due("text()", x.text(), 1);
        due("rule(2)", x.rule(2), 1);
        feed(x, "motions");
        x.end(6);
        due("text(): what came behind is gone", x.text(), -16);
        feed(x, "motion 1;");
        x.end(8);
        due("text(): what came behind is gone", x.text(), -18);
    }

    private static void text(String text, int answer, int fault) {
        WalnutHouses x = new WalnutHouses();
        feed(x, text);
        promise = 4;
        due("text of " + text, x.text(), answer);
        due("count(2) behind it", x.count(2), 0);
        promise = 5;
        due("fault of " + text, x.fault(), fault);
    }

    private static void texts() {
        String six = "plain 0 0 0;".repeat(6);
        text("", 0, 0);
        text("   ", 0, 0);
        text("plain 0 6 0;", 1, 0);
        text("plain 1 20 20;", 1, 0);
        text("plain0 6 0;", 1, 0);
        text("motion18;", 1, 0);
        text("motion 05;", 1, 0);
        text(" motion   00 ;whip 1 20 20 ;  ", 2, 0);
        text(six + "motion 3;", 7, 0);
        text("A", -10, 1);
        text("Plain 0 0 0;", -10, 1);
        text("  +", -12, 1);
        text("motion 1;\t", -19, 1);
        text("motion 1;\0", -19, 1);
        text("plain 0 0 0,", -21, 1);
        text("plain$", -15, 1);
        text("100", -10, 1);
        text("motion 100;", -17, 1);
        text("motion 000;", -17, 1);
        text("motion 123456789012;", -17, 1);
        text("motion 1`", -18, 1);
        text("motion 1{", -18, 1);
        text("motion 1/", -18, 1);
        text("motion 1:", -18, 1);
        text("motion", -16, 2);
        text("motion 1", -18, 2);
        text("motion 1  ", -20, 2);
        text("motions 1;", -10, 2);
        text("motio 1;", -10, 2);
        text("motiom 1;", -10, 2);
        text("notion 1;", -10, 2);
        text("blain 0 0 0;", -10, 2);
        text("want 1;", -10, 2);
        text(";", -10, 2);
        text("5;", -10, 2);
        text("motion 1;;", -19, 2);
        text("motion plain", -17, 2);
        text("motion ;", -17, 2);
        text("motion 1 2;", -19, 2);
        text("plain 0 0;", -19, 2);
        text("plain 0 0 0 plain", -22, 2);
        text("motion 21;", -17, 3);
        text("motion 99$", -17, 3);
        text("plain 2 0 0;", -16, 3);
        text("plain 0 21 0;", -18, 3);
        text("plain 0 0 21;", -20, 3);
        text("motion 1;motion", -19, 4);
        text("motion 1; motion 99;", -20, 4);
        text("motion 1;motions", -19, 2);
        text(six + "whip", -82, 5);
        text(six + " motion 1; maggot 5", -93, 5);
        text(six + "whi", -82, 2);
        text(" ".repeat(160), 0, 0);
        text("a".repeat(160), -10, 2);
        text("1".repeat(160), -10, 1);
        text(" ".repeat(151) + "motion 7;", 1, 0);
        text(" ".repeat(152) + "motion 7", -170, 2);
    }

    private static void textTellsAll() {
        promise = 4;
        WalnutHouses x = quarrel();
        x.days(3);
        x.see(2, 9);
        x.keep(0);
        x.keep(1);
        x.sheet(0, 0, 5);
        x.runs(1, 0);
        feed(x, "maggot 1 3 4;motion 21;");
        due("text()", x.text(), -30);
        due("rule(0)", x.rule(0), 2);
        due("rule(1)", x.rule(1), 3);
        due("rule(2)", x.rule(2), 9);
        due("rule(6)", x.rule(6), 3);
        due("count(0)", x.count(0), 1);
        due("count(1)", x.count(1), 2);
        due("member(0, 0)", x.member(0, 0), 1);
        x.runs(1, 0);
        feed(x, "maggot 1 3 4;doubter 0 20 19;");
        due("text()", x.text(), 2);
        int[] first = {3, 1, 3, 4};
        int[] second = {2, 0, 20, 19};
        for (int what = 0; what < 4; what++) {
            due("member(0, what)", x.member(0, what), first[what]);
            due("member(1, what)", x.member(1, what), second[what]);
        }
        due("rule(0)", x.rule(0), 2);
        due("rule(1)", x.rule(1), 0);
        due("rule(2)", x.rule(2), 10);
        due("rule(6)", x.rule(6), 0);
        due("count(0)", x.count(0), 0);
        due("count(1)", x.count(1), 0);
        due("back(0)", x.back(0), STATE);
        due("back(1)", x.back(1), STATE);
        due("count(3)", x.count(3), 5);
        x.word(2);
        x.runs(0, 0);
        due("text()", x.text(), 0);
        due("rule(2)", x.rule(2), 10);
        feed(x, "motion 4;");
        due("text(): motion was told in an earlier text alone", x.text(), 1);
        due("rule(2)", x.rule(2), 4);
        due("text()", x.text(), 0);
        due("rule(0)", x.rule(0), 0);
        promise = 5;
        feed(x, "?");
        x.text();
        due("fault()", x.fault(), 1);
        x.feed(';');
        due("fault()", x.fault(), 1);
        x.text();
        due("fault()", x.fault(), 2);
        x.text();
        due("fault()", x.fault(), 0);
    }

    private static void rule() {
        promise = 6;
        WalnutHouses x = told("plain 0 10 0;plain 0 5 4;doubter 1 14 4;");
        int[] rules = {3, 0, 10, 0, 2, 5, 0};
        for (int what = 0; what < rules.length; what++) {
            due("rule(" + what + ")", x.rule(what), rules[what]);
        }
        due("rule(-1)", x.rule(-1), BAD);
        due("rule(7)", x.rule(7), BAD);
        x.word(9);
        due("rule(4)", x.rule(4), 0);
        due("rule(5)", x.rule(5), 2);
        x.alter(0, 3, 1);
        due("rule(4)", x.rule(4), 1);
        due("rule(5)", x.rule(5), 3);
        x.alter(2, 3, 5);
        due("rule(3)", x.rule(3), 1);
        due("rule(5)", x.rule(5), 7);
    }

    private static void member() {
        promise = 7;
        WalnutHouses x = told("doubter 1 7 3;");
        int[] parts = {2, 1, 7, 3, 1, 1};
        for (int what = 0; what < parts.length; what++) {
            due("member(0, " + what + ")", x.member(0, what), parts[what]);
        }
        x.word(11);
        due("member(0, 4)", x.member(0, 4), 0);
        due("member(0, 6)", x.member(0, 6), BAD);
        due("member(0, -1)", x.member(0, -1), BAD);
        due("member(1, 0)", x.member(1, 0), BAD);
        due("member(-1, 0)", x.member(-1, 0), BAD);
        x.word(10);
        int[] wants = {0, 7, 8, 9, 10, 11, 12, 13, 20};
        int[][] pulls = {
            {1, 1, 1, 1, 2, 3, 3, 3, 3},
            {0, 0, 0, 0, 2, 4, 4, 4, 4},
            {1, 1, 2, 2, 2, 2, 2, 3, 3},
            {3, 3, 2, 2, 2, 2, 2, 1, 1},
        };
        for (int kind = 0; kind < 4; kind++) {
            for (int w = 0; w < wants.length; w++) {
                x.alter(0, 0, kind);
                x.alter(0, 2, wants[w]);
                due("member(0, 5), kind " + kind + ", want " + wants[w], x.member(0, 5), pulls[kind][w]);
            }
        }
    }

    private static void house() {
        promise = 8;
        WalnutHouses x = told("plain 0 6 0;whip 1 20 0;maggot 0 0 10;whip 0 9 1;whip 1 1 1;");
        int[] lower = {13, 2, 1, 18};
        int[] upper = {18, 0, 2, 20};
        for (int what = 0; what < 4; what++) {
            due("house(0, " + what + ")", x.house(0, what), lower[what]);
            due("house(1, " + what + ")", x.house(1, what), upper[what]);
        }
        due("house(2, 0)", x.house(2, 0), BAD);
        due("house(-1, 0)", x.house(-1, 0), BAD);
        due("house(0, 4)", x.house(0, 4), BAD);
        due("house(0, -1)", x.house(0, -1), BAD);
        x.alter(2, 0, 0);
        due("house(0, 3)", x.house(0, 3), 16);
    }

    private static void alter() {
        promise = 9;
        WalnutHouses x = told("plain 0 6 0;whip 1 20 3;");
        due("alter(1, 0, 3)", x.alter(1, 0, 3), 1);
        due("alter(1, 1, 0)", x.alter(1, 1, 0), 1);
        due("alter(1, 2, 0)", x.alter(1, 2, 0), 20);
        due("alter(1, 3, 20)", x.alter(1, 3, 20), 3);
        due("alter(1, 0, 4)", x.alter(1, 0, 4), BAD);
        due("alter(1, 1, 2)", x.alter(1, 1, 2), BAD);
        due("alter(1, 2, 21)", x.alter(1, 2, 21), BAD);
        due("alter(1, 3, 21)", x.alter(1, 3, 21), BAD);
        due("alter(1, 4, 0)", x.alter(1, 4, 0), BAD);
        due("alter(1, -1, 0)", x.alter(1, -1, 0), BAD);
        due("alter(2, 0, 0)", x.alter(2, 0, 0), BAD);
        due("alter(-1, 0, 0)", x.alter(-1, 0, 0), BAD);
        for (int what = 0; what < 4; what++) {
            due("alter(0, what, -1)", x.alter(0, what, -1), BAD);
        }
        int[] parts = {3, 0, 0, 20};
        int[] others = {0, 0, 6, 0};
        for (int what = 0; what < 4; what++) {
            due("member(1, what)", x.member(1, what), parts[what]);
            due("member(0, what)", x.member(0, what), others[what]);
        }
    }

    private static void word() {
        promise = 10;
        WalnutHouses x = new WalnutHouses();
        due("word(20)", x.word(20), 10);
        due("word(0)", x.word(0), 20);
        due("word(21)", x.word(21), BAD);
        due("word(-1)", x.word(-1), BAD);
        due("rule(2)", x.rule(2), 0);
        due("rule(6)", x.rule(6), 0);
    }

    private static void seatAndClear() {
        promise = 11;
        WalnutHouses x = new WalnutHouses();
        due("seat(2, 0)", x.seat(2, 0), BAD);
        due("seat(-1, 0)", x.seat(-1, 0), BAD);
        due("seat(0, 21)", x.seat(0, 21), BAD);
        due("seat(0, -1)", x.seat(0, -1), BAD);
        for (int i = 0; i < 6; i++) {
            due("seat", x.seat(i % 2, 3 * i), i + 1);
            due("member(i, 1)", x.member(i, 1), i % 2);
            due("member(i, 2)", x.member(i, 2), 3 * i);
        }
        due("seat(0, 0)", x.seat(0, 0), FULL);
        due("seat(0, 21)", x.seat(0, 21), BAD);
        promise = 12;
        due("clear(7)", x.clear(7), BAD);
        due("clear(-1)", x.clear(-1), BAD);
        due("clear(6)", x.clear(6), 6);
        x.alter(1, 0, 3);
        x.alter(1, 3, 9);
        x.days(2);
        due("clear(1)", x.clear(1), 6);
        due("clear(2)", x.clear(2), BAD);
        due("rule(0)", x.rule(0), 1);
        due("rule(1)", x.rule(1), 2);
        promise = 11;
        due("seat(1, 4)", x.seat(1, 4), 2);
        due("member(1, 0)", x.member(1, 0), 0);
        due("member(1, 3)", x.member(1, 3), 0);
        promise = 12;
        due("clear(0)", x.clear(0), 2);
        due("clear(0)", x.clear(0), 0);
        due("rule(3)", x.rule(3), 1);
    }

    private static void days() {
        promise = 13;
        WalnutHouses x = quarrel();
        due("days(31)", x.days(31), BAD);
        due("days(-1)", x.days(-1), BAD);
        due("days(0)", x.days(0), 0);
        for (int n = 0; n < 33; n++) {
            due("days(30)", x.days(30), 30);
        }
        due("days(10)", x.days(10), FULL);
        due("rule(1)", x.rule(1), 990);
        amendmentsInDays("from DAY 990", x);
        due("days(9)", x.days(9), 9);
        due("rule(1)", x.rule(1), 999);
        due("rule(6)", x.rule(6), 999);
        due("rule(2)", x.rule(2), 9);
        due("days(0)", x.days(0), 0);
        due("days(1)", x.days(1), FULL);
        due("days(31)", x.days(31), BAD);
        promise = 14;
        due("runs(1, 0)", x.runs(1, 0), 10);
        due("runs(2, 0)", x.runs(2, 0), 9);
        amendmentsInDays("from DAY 999", x);
        x.text();
        feed(x, "whip 0 0 0;whip 1 20 0;");
        x.text();
        x.days(7);
        due("runs(6, 1): those of before are none in them", x.runs(6, 1), 6);
        promise = 32;
        due("drift(1, 1, 1)", x.drift(1, 1, 1), 1);
    }

    /** THE MOTION of a quarrel changes on every DAY BY DAYS, also on those where rule(6) would tell 999 at most. */
    private static void amendmentsInDays(String when, WalnutHouses x) {
        int before = x.rule(6);
        promise = 14;
        int[] spans = {0, 1, 9, 10, 59, 60};
        for (int n : spans) {
            due("runs(" + n + ", 1) " + when, x.runs(n, 1), n);
        }
        promise = 32;
        int[] seeds = {7, -1};
        for (int seed : seeds) {
            due("drift(" + seed + ", 60, 1) " + when, x.drift(seed, 60, 1), driftChanges(x, seed, 60));
        }
        promise = 6;
        due("rule(6): BY DAYS leaves it", x.rule(6), before);
        promise = 13;
    }

    /** How often THE MOTION that drift() tells differs from that of the DAY before. */
    private static int driftChanges(WalnutHouses x, int seed, int n) {
        int changes = 0;
        int before = x.rule(2);
        for (int d = 1; d <= n; d++) {
            int motion = x.drift(seed, d, 0);
            changes += motion == before ? 0 : 1;
            before = motion;
        }
        return changes;
    }

    private static void aDay() {
        promise = 13;
        WalnutHouses x = told("plain 1 0 0;");
        due("days(1): nobody is in the house that sits", x.days(1), 0);
        due("rule(2)", x.rule(2), 10);
        due("member(0, 3)", x.member(0, 3), 0);
        due("days(1)", x.days(1), 1);
        due("rule(2)", x.rule(2), 9);
        due("member(0, 3)", x.member(0, 3), 1);
        due("days(20)", x.days(20), 4);
        due("rule(2)", x.rule(2), 5);
        due("member(0, 3)", x.member(0, 3), 5);
        due("rule(1): DAY is 1 more though it is carried", x.rule(1), 22);

        x = told("maggot 0 20 19;motion 0;");
        due("days(1): it is at the end", x.days(1), 0);
        due("rule(2)", x.rule(2), 0);
        due("rule(6)", x.rule(6), 0);
        due("member(0, 3): 20 at most", x.member(0, 3), 20);

        x = told("maggot 0 0 0;motion 20;");
        due("days(1): it is at the other end", x.days(1), 0);
        due("rule(2)", x.rule(2), 20);
        due("member(0, 3)", x.member(0, 3), 3);

        x = told("plain 0 0 0;whip 0 20 0;doubter 0 0 1;maggot 0 20 2;plain 0 10 0;plain 1 0 5;");
        due("house(0, 3)", x.house(0, 3), 19);
        due("days(1)", x.days(1), 1);
        due("rule(2)", x.rule(2), 9);
        int[] slacks = {1, 0, 3, 5, 0, 5};
        for (int i = 0; i < 6; i++) {
            due("member(i, 3)", x.member(i, 3), slacks[i]);
        }
        x = told("plain 0 0 0;plain 0 20 0;");
        due("days(1): the sum is 0", x.days(1), 0);
        due("rule(2)", x.rule(2), 10);
        due("member(1, 3)", x.member(1, 3), 1);
    }

    private static void byDays() {
        promise = 14;
        WalnutHouses x = told("plain 1 0 0;doubter 0 10 0;");
        // DAY 0 tires nobody; then 10 9 9 8 8 ..: the doubter of HOUSE 0 tires as soon as it is not 10
        int[] motions = {10, 10, 9, 9, 8, 8, 7};
        int[] amended = {0, 0, 1, 1, 2, 2, 3};
        int[] slacks = {0, 0, 1, 3, 4, 4, 5};
        int[] agree = {1, 1, 0, 1, 1, 1, 0};
        for (int n = 0; n < motions.length; n++) {
            due("runs(" + n + ", 0)", x.runs(n, 0), motions[n]);
            due("runs(" + n + ", 1)", x.runs(n, 1), amended[n]);
            due("runs(" + n + ", 2)", x.runs(n, 2), 0);
            due("runs(" + n + ", 3)", x.runs(n, 3), slacks[n]);
            due("runs(" + n + ", 4)", x.runs(n, 4), agree[n]);
        }
        due("runs(60, 2)", x.runs(60, 2), 1);
        due("runs(60, 4)", x.runs(60, 4), 3);
        due("runs(61, 0)", x.runs(61, 0), BAD);
        due("runs(-1, 0)", x.runs(-1, 0), BAD);
        due("runs(0, 5)", x.runs(0, 5), BAD);
        due("runs(0, -1)", x.runs(0, -1), BAD);
        due("rule(1): nothing was done", x.rule(1), 0);
        due("rule(2): nothing was done", x.rule(2), 10);
        promise = 15;
        int[] doubting = {0, 0, 0, 2, 2, 2, 2, 4};
        for (int n = 0; n < doubting.length; n++) {
            due("ahead(1, " + n + ")", x.ahead(1, n), doubting[n]);
        }
        due("ahead(0, 6)", x.ahead(0, 6), 3);
        due("ahead(2, 0)", x.ahead(2, 0), BAD);
        due("ahead(-1, 0)", x.ahead(-1, 0), BAD);
        due("ahead(0, 61)", x.ahead(0, 61), BAD);
        due("ahead(0, -1)", x.ahead(0, -1), BAD);
        promise = 16;
        // from DAY 6 on the doubter, 3 away, has it back to 8 each time, until the plain one has SLACK 7 on DAY 13
        due("carries()", x.carries(), 14);
        due("runs(13, 2)", x.runs(13, 2), 0);
        due("runs(14, 2)", x.runs(14, 2), 1);
        due("carries()", quarrel().carries(), NONE);
        due("carries()", told("whip 0 10 0;").carries(), 0);
        // a whip of HOUSE 1 brings it 1 nearer each second day: 20 away, behind 40 days
        due("carries()", told("whip 1 20 0;motion 0;").carries(), 40);
        promise = 14;
        due("runs(60, 2)", quarrel().runs(60, 2), 0);
        due("runs(60, 1)", quarrel().runs(60, 1), 60);
    }

    private static void wording() {
        promise = 17;
        WalnutHouses x = told("whip 0 4 1;plain 1 7 1;motion 20;");
        // no wording suits both at once; 3 becomes 4, then 5, which suits the plain one once he is tired; so does 5
        due("wording(0)", x.wording(0), 3);
        due("wording(1)", x.wording(1), 2);
        due("wording(2)", x.wording(2), BAD);
        due("wording(-1)", x.wording(-1), BAD);
        due("rule(2)", x.rule(2), 20);
        due("wording(0)", quarrel().wording(0), NONE);
        due("wording(1)", quarrel().wording(1), NONE);
        due("wording(2)", quarrel().wording(2), BAD);
        x = told("whip 0 4 3;plain 1 7 3;");
        due("wording(0)", x.wording(0), 4);
        due("wording(1)", x.wording(1), 0);
        due("wording(0)", told("whip 0 20 0;whip 1 20 0;").wording(0), 20);
        due("wording(0)", told("whip 0 0 0;whip 1 0 0;").wording(0), 0);
    }

    private static void middleAndSwing() {
        promise = 18;
        WalnutHouses x = told("plain 0 4 2;whip 1 7 2;maggot 0 9 3;plain 1 20 0;");
        due("middle(0)", x.middle(0), 6);
        due("middle(1)", x.middle(1), 3);
        due("middle(2)", x.middle(2), BAD);
        due("middle(-1)", x.middle(-1), BAD);
        x.clear(1);
        due("middle(0)", x.middle(0), 2);
        due("middle(1)", x.middle(1), 1);
        due("middle(0)", told("plain 0 20 0;").middle(0), 20);
        due("middle(1)", told("plain 0 20 0;").middle(1), 1);
        due("middle(0)", told("plain 0 0 0;").middle(0), 0);
        promise = 19;
        x = told("plain 0 4 2;plain 0 10 1;plain 0 13 2;plain 1 0 0;");
        // MEMBER 0 decides where just one of the others is for it: 9, 10 and 12 to 15
        due("swing(0)", x.swing(0), 6);
        // where 0 or 2 alone: 2 to 6 and 11 to 15
        due("swing(1)", x.swing(1), 10);
        // where 0 or 1 alone: 2 to 6 and 9 to 11
        due("swing(2)", x.swing(2), 8);
        due("swing(3)", x.swing(3), 21);
        due("swing(4)", x.swing(4), BAD);
        due("swing(-1)", x.swing(-1), BAD);
        x = told("plain 0 0 0;plain 0 10 1;");
        // of two he decides where the other is for it
        due("swing(0)", x.swing(0), 3);
        due("swing(1)", x.swing(1), 1);
        x = told("plain 0 0 0;plain 0 10 0;plain 0 10 1;plain 0 10 2;");
        // three others: 2 for and 1 against is a lead of 1
        due("swing(0)", x.swing(0), 2);
    }

    private static void loseAndCross() {
        promise = 20;
        WalnutHouses x = quarrel();
        due("lose(0)", x.lose(0), 1);
        due("lose(1)", x.lose(1), 19);
        x.word(9);
        due("lose(0)", x.lose(0), 1);
        due("lose(1)", x.lose(1), 17);
        x = told("whip 0 0 0;whip 0 20 0;");
        due("lose(0)", x.lose(0), 0);
        due("lose(1)", x.lose(1), 19);
        due("lose(2)", x.lose(2), BAD);
        due("lose(-1)", x.lose(-1), BAD);
        due("rule(0)", x.rule(0), 2);
        due("lose(0)", told("whip 0 10 0;").lose(0), NONE);
        due("lose(1)", told("plain 0 10 0;plain 1 5 9;").lose(1), NONE);
        x = told("whip 0 0 0;whip 0 20 0;plain 1 10 20;");
        due("lose(0): the plain one has it back each time", x.lose(0), NONE);
        x = told("plain 1 10 0;whip 0 0 0;whip 0 20 0;whip 0 10 0;doubter 1 1 2;");
        // without 1 or 2 HOUSE 0 is 1 to 1: only the doubter's going does not help it
        due("lose(0)", x.lose(0), NONE);
        promise = 21;
        x = told("plain 1 20 0;");
        due("cross(0)", x.cross(0), 0);
        due("cross(1)", x.cross(1), 9);
        due("carries()", x.carries(), 10);
        due("member(0, 1)", x.member(0, 1), 1);
        due("cross(2)", x.cross(2), BAD);
        due("cross(-1)", x.cross(-1), BAD);
        x = told("plain 0 20 0;");
        due("cross(0)", x.cross(0), NONE);
        due("cross(1)", x.cross(1), NONE);
        x = told("whip 0 10 0;whip 0 10 0;whip 1 10 0;whip 1 0 0;");
        due("cross(0)", x.cross(0), 0);
        due("cross(1)", x.cross(1), 0);
    }

    private static void give() {
        promise = 22;
        WalnutHouses x = told("plain 0 10 0;whip 1 4 0;");
        due("give(1, 0)", x.give(1, 0), 6);
        due("give(1, 1)", x.give(1, 1), 6);
        // DAY 1: HOUSE 1 makes it 9, DAY 2: the plain one tires to 1 and pulls it to 10
        due("give(1, 3)", x.give(1, 3), 6);
        due("give(0, 0)", x.give(0, 0), NONE);
        due("give(0, 60)", x.give(0, 60), NONE);
        x.alter(0, 3, 20);
        due("give(1, 0)", x.give(1, 0), 6);
        // the plain one wants it as it is told, each second day the whip has it back
        due("give(1, 2)", x.give(1, 2), 5);
        x.alter(1, 2, 10);
        due("give(1, 0)", x.give(1, 0), 0);
        due("give(2, 0)", x.give(2, 0), BAD);
        due("give(-1, 0)", x.give(-1, 0), BAD);
        due("give(0, 61)", x.give(0, 61), BAD);
        due("give(0, -1)", x.give(0, -1), BAD);
        x = told("plain 0 0 3;motion 20;");
        due("give(0, 0)", x.give(0, 0), 20);
        due("give(0, 2)", x.give(0, 2), 18);
        due("give(0, 3)", x.give(0, 3), 16);
        due("member(0, 3)", x.member(0, 3), 3);
    }

    private static void mindAndKind() {
        promise = 23;
        WalnutHouses x = told("whip 0 4 2;plain 1 7 3;motion 8;");
        due("mind(0, 0)", x.mind(0, 0), 6);
        due("mind(0, 1)", x.mind(0, 1), 0);
        // HOUSE 0 makes it 7, HOUSE 1 makes it 6, if its WANT is below; 2 is 5 away then, so that it tires, and 4 in the end
        due("mind(1, 0)", x.mind(1, 0), 2);
        due("mind(1, 1)", x.mind(1, 1), 2);
        due("mind(0, 0)", told("plain 0 5 0;motion 20;").mind(0, 0), 20);
        due("mind(0, 0)", told("plain 0 5 0;motion 0;").mind(0, 0), 0);
        due("mind(0, 2)", x.mind(0, 2), BAD);
        due("mind(0, -1)", x.mind(0, -1), BAD);
        due("mind(2, 0)", x.mind(2, 0), BAD);
        due("mind(-1, 0)", x.mind(-1, 0), BAD);
        due("member(0, 2)", x.member(0, 2), 4);
        x = told("whip 0 0 0;plain 0 10 0;whip 1 1 0;whip 1 20 0;");
        due("mind(0, 0)", x.mind(0, 0), NONE);
        due("mind(0, 1)", x.mind(0, 1), NONE);
        promise = 24;
        x = told("whip 0 0 0;motion 20;");
        // plain or whip come 1 nearer on each even day; a doubter tires by 2 besides, a maggot by 3, at the end
        due("kind(0, 0)", x.kind(0, 0), 2);
        due("kind(0, 1)", x.kind(0, 1), 13);
        due("kind(0, 2)", x.kind(0, 2), BAD);
        due("kind(0, -1)", x.kind(0, -1), BAD);
        due("kind(1, 0)", x.kind(1, 0), BAD);
        due("kind(-1, 0)", x.kind(-1, 0), BAD);
        due("member(0, 0)", x.member(0, 0), 1);
        x = told("whip 0 10 0;");
        due("kind(0, 0)", x.kind(0, 0), 0);
        due("kind(0, 1)", x.kind(0, 1), 0);
        x = told("plain 0 0 0;whip 1 0 0;whip 1 20 0;");
        due("kind(0, 0)", x.kind(0, 0), NONE);
        due("kind(0, 1)", x.kind(0, 1), NONE);
    }

    private static void odds() {
        promise = 25;
        WalnutHouses x = told("plain 0 11 0;motion 10;");
        // it is CARRIED behind one sitting of HOUSE 0: on DAY 0 or on DAY 2
        due("luck(3, 0, 0)", x.luck(3, 0, 0), 0);
        due("luck(3, 0, 1)", x.luck(3, 0, 1), 1);
        due("luck(3, 1, 0)", x.luck(3, 1, 0), 7);
        due("luck(3, 1, 1)", x.luck(3, 1, 1), 10);
        due("luck(3, 2, 0)", x.luck(3, 2, 0), 7);
        due("luck(3, 3, 0)", x.luck(3, 3, 0), 91);
        due("luck(3, 3, 1)", x.luck(3, 3, 1), 100);
        due("luck(4, 1, 0)", x.luck(4, 1, 0), 3);
        due("luck(4, 1, 1)", x.luck(4, 1, 1), 5);
        due("luck(0, 8, 0)", x.luck(0, 8, 0), 1);
        due("luck(0, 8, 1)", x.luck(0, 8, 1), 1);
        due("luck(10, 8, 0)", x.luck(10, 8, 0), 0);
        due("luck(10, 8, 1)", x.luck(10, 8, 1), 1);
        due("luck(1, 8, 0)", x.luck(1, 8, 0), 9999);
        due("luck(1, 8, 1)", x.luck(1, 8, 1), 10000);
        long[][] bads = {{-1, 0, 0}, {11, 0, 0}, {0, -1, 0}, {0, 9, 0}, {0, 0, -1}, {0, 0, 2}};
        for (long[] b : bads) {
            promise = 25;
            due("luck, a number is not as told", x.luck((int) b[0], (int) b[1], (int) b[2]), BAD);
            promise = 26;
            due("mean, a number is not as told", x.mean((int) b[0], (int) b[1], (int) b[2]), BAD);
        }
        due("mean(3, 0, 0)", x.mean(3, 0, 0), 10);
        due("mean(3, 0, 1)", x.mean(3, 0, 1), 1);
        due("mean(3, 1, 0)", x.mean(3, 1, 0), 107);
        due("mean(3, 1, 1)", x.mean(3, 1, 1), 10);
        due("mean(3, 3, 0)", x.mean(3, 3, 0), 1091);
        due("mean(3, 3, 1)", x.mean(3, 3, 1), 100);
        due("mean(10, 8, 0)", x.mean(10, 8, 0), 10);
        x = told("maggot 0 20 0;motion 0;");
        due("mean(7, 8, 0)", x.mean(7, 8, 0), 0);
        due("mean(7, 8, 1)", x.mean(7, 8, 1), 1);
        due("rule(1)", x.rule(1), 0);
    }

    private static void seen() {
        promise = 27;
        WalnutHouses x = quarrel();
        due("see(-1, 0)", x.see(-1, 0), BAD);
        due("see(21, 0)", x.see(21, 0), BAD);
        due("see(0, -1)", x.see(0, -1), BAD);
        due("see(0, 21)", x.see(0, 21), BAD);
        for (int n = 1; n <= 6; n++) {
            due("see(20, 20)", x.see(n % 2 * 20, 20), n);
        }
        due("see(0, 0)", x.see(0, 0), FULL);
        due("see(0, 21)", x.see(0, 21), BAD);
        promise = 28;
        due("forget(7)", x.forget(7), BAD);
        due("forget(-1)", x.forget(-1), BAD);
        due("forget(6)", x.forget(6), 6);
        due("forget(2)", x.forget(2), 6);
        due("count(0)", x.count(0), 2);
        due("forget(3)", x.forget(3), BAD);
        due("forget(0)", x.forget(0), 2);
        promise = 29;
        x = told("plain 0 8 0;plain 0 20 0;motion 10;");
        due("kinds(0): nothing is SEEN", x.kinds(0), 15);
        x.see(1, 10);
        due("kinds(0)", x.kinds(0), 1);
        due("kinds(1): a whip makes it 11, a maggot 9", x.kinds(1), 5);
        x.forget(0);
        x.see(1, 9);
        due("kinds(0)", x.kinds(0), 2);
        due("kinds(2)", x.kinds(2), BAD);
        due("kinds(-1)", x.kinds(-1), BAD);
        x.see(0, 9);
        due("kinds(0)", x.kinds(0), 0);
        promise = 30;
        x.forget(0);
        due("wants(0)", x.wants(0), 0x1fffff);
        x.see(1, 11);
        due("wants(0): 10 or more", x.wants(0), 0x1ffc00);
        x.see(3, 12);
        // 10 takes nothing away and 11 neither from DAY 2 on, when it stands there
        due("wants(0)", x.wants(0), 0x1ff800);
        x.word(11);
        due("wants(0): from now on", x.wants(0), 0);
        due("wants(2)", x.wants(2), BAD);
        due("wants(-1)", x.wants(-1), BAD);
        due("member(0, 2)", x.member(0, 2), 8);
    }

    private static void ask() {
        promise = 31;
        WalnutHouses x = told("plain 0 8 0;plain 0 20 0;motion 10;");
        x.clear(1);
        // one plain one: at d DAYS THE MOTION is as near as he could bring it; CARRIED half way, as he tires
        due("ask(0, 0)", x.ask(0, 0), 9);
        due("ask(0, 1)", x.ask(0, 1), 2);
        due("ask(0, 2)", x.ask(0, 2), BAD);
        due("ask(0, -1)", x.ask(0, -1), BAD);
        due("ask(1, 0)", x.ask(1, 0), BAD);
        due("ask(-1, 0)", x.ask(-1, 0), BAD);
        x.see(1, 11);
        x.see(5, 12);
        // 13 and 14 come to 12 and stand there
        due("wants(0)", x.wants(0), 1 << 13 | 1 << 14);
        due("ask(0, 0)", x.ask(0, 0), NONE);
        due("ask(0, 1)", x.ask(0, 1), NONE);
        x.see(5, 13);
        due("ask(0, 0): none is left", x.ask(0, 0), NONE);
        // HOUSE 1 sits for the 10th time on DAY 19: only then does a WANT of 20 part from 18 and 19
        x = told("plain 1 13 0;motion 1;");
        due("ask(0, 0)", x.ask(0, 0), 20);
        due("ask(0, 1)", x.ask(0, 1), 2);
        // a maggot at the end is heard no more
        x = told("maggot 0 5 0;motion 0;");
        due("ask(0, 0)", x.ask(0, 0), NONE);
        // the whip outdoes him for 20 DAYS, whatever he wants
        x = told("plain 0 8 0;whip 0 20 0;");
        due("ask(0, 0)", x.ask(0, 0), NONE);
        due("ask(0, 1)", x.ask(0, 1), NONE);
    }

    private static void drift() {
        promise = 32;
        WalnutHouses x = new WalnutHouses();
        due("drift(1, 1, 0)", x.drift(1, 1, 0), STATE);
        due("drift(1, 0, 0)", x.drift(1, 0, 0), BAD);
        due("drift(1, 61, 0)", x.drift(1, 61, 0), BAD);
        due("drift(1, 1, 2)", x.drift(1, 1, 2), BAD);
        due("drift(1, 1, -1)", x.drift(1, 1, -1), BAD);
        x = told("plain 0 10 0;");
        // 0: 12345 gives 0: WANT 0, 9 then; 1 is 1103527590, which gives 16838: WANT 2104 mod 21 = 4, 9 too
        due("drift(0, 1, 0)", x.drift(0, 1, 0), 9);
        due("drift(0, 1, 1)", x.drift(0, 1, 1), 1);
        due("drift(1, 1, 0)", x.drift(1, 1, 0), 9);
        due("member(0, 2)", x.member(0, 2), 10);
        due("rule(1)", x.rule(1), 0);
        // 7: got 19564, 9806, 10868, 22674, 32531 are WANTS 9, 7, 14, 20, 13; HOUSE 1 is empty: 9, 9, 10, 10, 11
        int[] motions = {9, 9, 10, 10, 11};
        int[] amended = {1, 1, 2, 2, 3};
        for (int n = 1; n <= motions.length; n++) {
            due("drift(7, " + n + ", 0)", x.drift(7, n, 0), motions[n - 1]);
            due("drift(7, " + n + ", 1)", x.drift(7, n, 1), amended[n - 1]);
        }
        due("drift(7, 60, 1)", x.drift(7, 60, 1), 9);
        due("drift(7, 61, 1)", x.drift(7, 61, 1), BAD);
        int[] seeds = {LOWEST, -1, 7, HIGHEST};
        for (int seed : seeds) {
            int got = (seed * 1103515245 + 12345) >> 16 & 0x7fff;
            int want = got / 8 % 21;
            due("drift(" + seed + ", 1, 0)", x.drift(seed, 1, 0), 10 + Integer.compare(want, 10));
        }
    }

    private static void images() {
        promise = 33;
        WalnutHouses x = quarrel();
        due("keep(2)", x.keep(2), BAD);
        due("keep(-1)", x.keep(-1), BAD);
        promise = 34;
        due("back(2)", x.back(2), BAD);
        due("back(-1)", x.back(-1), BAD);
        due("back(0)", x.back(0), STATE);
        promise = 33;
        x.days(5);
        x.see(3, 4);
        x.alter(0, 3, 2);
        due("keep(0)", x.keep(0), 0);
        due("keep(0)", x.keep(0), 1);
        x.days(2);
        due("keep(1)", x.keep(1), 0);
        x.see(5, 5);
        x.clear(0);
        x.seat(1, 3);
        x.word(20);
        promise = 34;
        due("back(0)", x.back(0), 5);
        due("back(1)", x.back(1), 7);
        due("back(0)", x.back(0), 5);
        due("rule(0)", x.rule(0), 2);
        due("rule(1)", x.rule(1), 5);
        due("rule(2)", x.rule(2), 9);
        due("rule(6)", x.rule(6), 5);
        due("count(0)", x.count(0), 1);
        due("member(0, 0)", x.member(0, 0), 1);
        due("member(0, 3)", x.member(0, 3), 2);
        due("member(1, 2)", x.member(1, 2), 20);
        x.word(3);
        due("back(0)", x.back(0), 5);
        due("rule(2)", x.rule(2), 9);
        due("kinds(0): as was SEEN", x.kinds(0), 0);
        x.forget(0);
        x.see(0, 9);
        x.keep(0);
        x.forget(0);
        x.see(1, 3);
        due("back(0)", x.back(0), 5);
        due("kinds(0): as was SEEN", x.kinds(0), 15);
    }

    private static void sheets() {
        promise = 35;
        WalnutHouses x = new WalnutHouses();
        due("sheet(4, 0, 1)", x.sheet(4, 0, 1), BAD);
        due("sheet(-1, 0, 1)", x.sheet(-1, 0, 1), BAD);
        due("sheet(0, 3, 1)", x.sheet(0, 3, 1), BAD);
        due("sheet(0, -1, 1)", x.sheet(0, -1, 1), BAD);
        due("sheet(0, 0, 41)", x.sheet(0, 0, 41), BAD);
        due("sheet(0, 0, -1)", x.sheet(0, 0, -1), -14);
        due("sheet(0, 2, lowest)", x.sheet(0, 2, LOWEST), -14);
        due("sheet(0, 3, -1)", x.sheet(0, 3, -1), BAD);
        due("sheet(4, 0, -1)", x.sheet(4, 0, -1), BAD);
        due("count(3)", x.count(3), NONE);
        due("sheet(3, 2, 40)", x.sheet(3, 2, 40), 1);
        due("sheet(0, 0, 0)", x.sheet(0, 0, 0), 1);
        due("count(3)", x.count(3), 0);
        promise = 36;
        due("lay(0, 0, 1)", x.lay(0, 0, 1), -12);
        due("lay(1, 0, 1)", x.lay(1, 0, 1), -11);
        due("lay(1, -1, 1)", x.lay(1, -1, 1), -11);
        due("lay(4, 0, 1)", x.lay(4, 0, 1), BAD);
        due("lay(-1, 0, 1)", x.lay(-1, 0, 1), BAD);
        due("lay(3, 39, 1)", x.lay(3, 39, 1), 1);
        due("lay(3, 40, 1)", x.lay(3, 40, 1), -12);
        due("lay(3, -1, 1)", x.lay(3, -1, 1), -12);
        due("lay(3, highest, 1)", x.lay(3, HIGHEST, 1), -12);
        promise = 35;
        x.seat(0, 7);
        x.lay(3, 1, 5);
        x.sheet(3, 2, -5);
        due("sheet: what is refused changes nothing", x.read(3, 2, 0, 1), 1);
        due("member(0, 2)", x.member(0, 2), 5);
        x.sheet(3, 2, 40);
        due("sheet: a new row is of CELLS 0", x.read(3, 2, 0, 1), 1);
        due("member(0, 2)", x.member(0, 2), 0);
    }

    /** Lays v as a MEMBER's number in a SHEET of a lane: what read() answers. */
    private static int laid(int lane, int v) {
        WalnutHouses x = told("plain 0 3 0;plain 0 3 0;");
        x.sheet(0, lane, 2);
        x.lay(0, 0, v);
        x.lay(0, 1, 9);
        return x.read(0, lane, 0, 1);
    }

    private static void read() {
        promise = 36;
        due("256 in BYTES", laid(0, 256), 1);
        due("257 in BYTES", laid(0, 257), 1);
        due("255 in BYTES", laid(0, 255), -20);
        due("256 in SHORTS", laid(1, 256), -20);
        due("65537 in SHORTS", laid(1, 65537), 1);
        due("65537 in INTS", laid(2, 65537), -20);
        promise = 37;
        WalnutHouses x = told("plain 0 3 0;plain 0 4 0;");
        due("read(4, 0, 0, 0)", x.read(4, 0, 0, 0), BAD);
        due("read(-1, 0, 0, 0)", x.read(-1, 0, 0, 0), BAD);
        due("read(0, 3, 0, 0)", x.read(0, 3, 0, 0), BAD);
        due("read(0, -1, 0, 0)", x.read(0, -1, 0, 0), BAD);
        due("read(0, 0, 0, 21)", x.read(0, 0, 0, 21), BAD);
        due("read(0, 0, 0, -1)", x.read(0, 0, 0, -1), BAD);
        due("torn()", x.torn(), 0);
        x.sheet(1, 1, 7);
        int[] cells = {9, 1, 11, 0, 12, 1, 13};
        for (int c = 0; c < 7; c++) {
            x.lay(1, c, cells[c]);
        }
        due("read(1, 1, 1, 2)", x.read(1, 1, 1, 2), 2);
        due("member(1, 2)", x.member(1, 2), 11);
        due("member(0, 2)", x.member(0, 2), 12);
        due("read(1, 1, 1, 20)", x.read(1, 1, 1, 20), 3);
        promise = 38;
        due("torn(): INDEX", x.torn(), 2);
        promise = 37;
        due("member(1, 2): one behind another", x.member(1, 2), 13);
        due("read(1, 1, 0, 1): no such MEMBER", x.read(1, 1, 0, 1), -20);
        due("read(1, 1, 0, 21)", x.read(1, 1, 0, 21), BAD);
        promise = 38;
        due("torn(): the refused ones did not come to an end", x.torn(), 2);
        promise = 37;
        x.alter(1, 2, 0);
        x.lay(1, 6, 21);
        due("read(1, 1, 1, 20): the third is refused", x.read(1, 1, 1, 20), -22);
        due("member(1, 2): none came", x.member(1, 2), 0);
        x.lay(1, 6, -1);
        due("read(1, 1, 1, 3)", x.read(1, 1, 1, 3), -22);
        due("read(1, 1, 5, 2)", x.read(1, 1, 5, 2), -20);
        due("read(1, 1, 3, 1)", x.read(1, 1, 3, 1), 1);
        promise = 38;
        due("torn()", x.torn(), 0);
        promise = 37;
        due("read(1, 1, 6, 1): half of one", x.read(1, 1, 6, 1), 0);
        due("torn()", x.torn(), 2);
        due("read(1, 1, 0, 0)", x.read(1, 1, 0, 0), 0);
        due("torn()", x.torn(), 0);
        int[] places = {-1, 7, -2, LOWEST, HIGHEST, HIGHEST - 1};
        for (int f : places) {
            x.read(1, 1, 3, 1);
            due("read(1, 1, " + f + ", 2)", x.read(1, 1, f, 2), 0);
            due("torn()", x.torn(), 2);
        }
        promise = 38;
        due("read(1, 0, -1, 1)", x.read(1, 0, -1, 1), 0);
        due("torn(): CAST", x.torn(), 3);
        due("read(2, 0, -1, 1)", x.read(2, 0, -1, 1), 0);
        due("torn(): NULL", x.torn(), 1);
        x.text();
        due("torn()", x.torn(), 1);
    }

    private static void count() {
        promise = 39;
        WalnutHouses x = told("plain 0 3 20;whip 1 20 0;maggot 1 4 5;");
        x.see(0, 0);
        x.see(0, 0);
        x.keep(1);
        x.feed(1);
        x.feed(1);
        x.feed(1);
        x.sheet(1, 0, 4);
        due("count(3)", x.count(3), NONE);
        x.sheet(0, 0, 40);
        int[] due = {2, 1, 3, 40, 27, 25};
        for (int what = 0; what < due.length; what++) {
            due("count(" + what + ")", x.count(what), due[what]);
        }
        x.keep(0);
        due("count(1)", x.count(1), 2);
        due("count(6)", x.count(6), BAD);
        due("count(-1)", x.count(-1), BAD);
        x.clear(1);
        due("count(4)", x.count(4), 3);
        due("count(5)", x.count(5), 20);
    }
}
