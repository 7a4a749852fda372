import java.util.Arrays;
import java.util.function.ToLongFunction;

/** The sentences of the document's 'What it is' and 'Terms' that name a boundary case, each with rows of its own. */
public final class TermsTest {
    private static final int BAD = WalnutHouses.BAD, STATE = WalnutHouses.STATE, FULL = WalnutHouses.FULL, NONE = WalnutHouses.NONE;
    private static final int PLAIN = 0, WHIP = 1, DOUBTER = 2, MAGGOT = 3;
    private static final int KIND = 0, HOUSE = 1, WANT = 2, SLACK = 3;
    private static final int LOWEST = Rows.LOWEST, HIGHEST = Rows.HIGHEST;
    private static final String[] NAMES = {"plain", "whip", "doubter", "maggot"};
    private static final int[] TIRES = {1, 0, 2, 3};
    /** The calls of Rows.rich(6), at most. */
    private static final int RICH_CALLS = 80;

    public static void main(String[] args) {
        calls512();
        firstThatFits();
        askingChangesNothing();
        fractions();
        atFirst();
        votes();
        agrees();
        carried();
        pulls();
        tires();
        tape();
        signs();
        tokens();
        numbersOfTexts();
        faultsInOrder();
        cutTexts();
        otherNames();
        secondMotion();
        seventhMember();
        textsTellAll();
        carriedDay();
        whoSits();
        whoTires();
        whatIsSummed();
        atTheEnds();
        dayIsMore();
        amendments();
        fromNowOn();
        seen();
        sheets();
        machineFaults();
        Rows.close();
    }

    private static WalnutHouses one(int kind, int want, int slack, int motion) {
        WalnutHouses x = new WalnutHouses();
        x.seat(0, want);
        x.alter(0, KIND, kind);
        x.alter(0, SLACK, slack);
        x.word(motion);
        return x;
    }

    private static void calls512() {
        Rows.sentence("An object is used for at most 512 calls");
        WalnutHouses x = new WalnutHouses();
        for (int call = 1; call <= 511; call++) {
            x.feed(call % 128);
        }
        Rows.due("the 512th call", x.count(2), 160);
        x = Rows.quarrel();
        for (int call = 26; call <= 511; call++) {
            x.keep(call % 2);
        }
        Rows.due("the 512th call", x.runs(60, 1), 60);
        for (int call = 513; call <= 3000; call++) {
            x.days(call % 40);
            x.see(call % 30, call % 30);
            x.seat(call % 2, call % 21);
            x.feed(call % 128);
            x.ask(call % 7, call % 2);
            x.text();
        }
        Rows.due("behind them a call still ends", x.rule(99), BAD);
    }

    /** As many MEMBERS and as many SEEN as there can be. */
    private static WalnutHouses full() {
        WalnutHouses x = Rows.rich(6);
        for (int n = 0; n < 3; n++) {
            x.see(0, x.rule(2));
        }
        return x;
    }

    private static WalnutHouses fullTape() {
        WalnutHouses x = Rows.rich(2);
        Rows.feed(x, " ".repeat(152));
        return x;
    }

    private static WalnutHouses late() {
        WalnutHouses x = Rows.quarrelAt(999);
        x.keep(1);
        return x;
    }

    private static void firstThatFits() {
        Rows.sentence("BAD, STATE, FULL, NONE, the first that fits; what is refused changes nothing");
        Rows.leaves("feed(32), 160 bytes", TermsTest::fullTape, x -> x.feed(32), FULL);
        Rows.leaves("feed(128), 160 bytes", TermsTest::fullTape, x -> x.feed(128), BAD);
        Rows.leaves("feed(-1), 160 bytes", TermsTest::fullTape, x -> x.feed(-1), BAD);
        Rows.leaves("seat(0, 0), 6 MEMBERS", TermsTest::full, x -> x.seat(0, 0), FULL);
        Rows.leaves("seat(2, 0), 6 MEMBERS", TermsTest::full, x -> x.seat(2, 0), BAD);
        Rows.leaves("seat(0, 21), 6 MEMBERS", TermsTest::full, x -> x.seat(0, 21), BAD);
        Rows.leaves("see(0, 0), 6 SEEN", TermsTest::full, x -> x.see(0, 0), FULL);
        Rows.leaves("see(21, 0), 6 SEEN", TermsTest::full, x -> x.see(21, 0), BAD);
        Rows.leaves("see(0, 21), 6 SEEN", TermsTest::full, x -> x.see(0, 21), BAD);
        Rows.leaves("days(1), DAY 999", TermsTest::late, x -> x.days(1), FULL);
        Rows.leaves("days(30), DAY 999", TermsTest::late, x -> x.days(30), FULL);
        Rows.leaves("days(31), DAY 999", TermsTest::late, x -> x.days(31), BAD);
        Rows.leaves("days(-1), DAY 999", TermsTest::late, x -> x.days(-1), BAD);
        Rows.leaves("days(highest), DAY 999", TermsTest::late, x -> x.days(HIGHEST), BAD);
        Rows.leaves("back(0), no IMAGE 0", TermsTest::late, x -> x.back(0), STATE);
        Rows.leaves("back(2), no IMAGE 0", TermsTest::late, x -> x.back(2), BAD);
        Rows.leaves("drift(1, 1, 0), no MEMBERS", () -> Rows.rich(0), x -> x.drift(1, 1, 0), STATE);
        Rows.leaves("drift(1, 0, 0), no MEMBERS", () -> Rows.rich(0), x -> x.drift(1, 0, 0), BAD);
        Rows.leaves("drift(1, 61, 0), no MEMBERS", () -> Rows.rich(0), x -> x.drift(1, 61, 0), BAD);
        Rows.leaves("drift(1, 1, 2), no MEMBERS", () -> Rows.rich(0), x -> x.drift(1, 1, 2), BAD);
        noneOrBad();
    }

    /** Two whips in each house, who never agree: nothing that can be asked for one of them helps. */
    private static WalnutHouses stuck() {
        return Rows.told("whip 0 0 0;whip 0 20 0;whip 1 0 0;whip 1 20 0;");
    }

    private static void noneOrBad() {
        Rows.leaves("carries()", TermsTest::stuck, x -> x.carries(), NONE);
        for (int what = -1; what <= 2; what++) {
            int asked = what;
            int due = what == 0 || what == 1 ? NONE : BAD;
            Rows.leaves("wording(" + what + ")", TermsTest::stuck, x -> x.wording(asked), due);
            Rows.leaves("lose(" + what + ")", TermsTest::stuck, x -> x.lose(asked), due);
            Rows.leaves("cross(" + what + ")", TermsTest::stuck, x -> x.cross(asked), due);
            Rows.leaves("mind(0, " + what + ")", TermsTest::stuck, x -> x.mind(0, asked), due);
            Rows.leaves("kind(0, " + what + ")", TermsTest::stuck, x -> x.kind(0, asked), due);
            Rows.leaves("ask(0, " + what + ")", () -> Rows.told("whip 0 0 0;maggot 1 5 0;motion 0;"), x -> x.ask(1, asked), due);
            Rows.leaves("mind(4, " + what + ")", TermsTest::stuck, x -> x.mind(4, asked), BAD);
            Rows.leaves("kind(4, " + what + ")", TermsTest::stuck, x -> x.kind(4, asked), BAD);
            Rows.leaves("ask(4, " + what + ")", TermsTest::stuck, x -> x.ask(4, asked), BAD);
        }
        Rows.leaves("give(0, 60)", TermsTest::stuck, x -> x.give(0, 60), NONE);
        Rows.leaves("give(0, 61)", TermsTest::stuck, x -> x.give(0, 61), BAD);
        Rows.leaves("give(4, 60)", TermsTest::stuck, x -> x.give(4, 60), BAD);
        Rows.leaves("count(3), SHEET 0 is nothing", TermsTest::stuck, x -> x.count(3), NONE);
    }

    private static void asked(String call, ToLongFunction<WalnutHouses> op) {
        long first = op.applyAsLong(Rows.rich(6));
        Rows.leaves(call, () -> Rows.rich(6), op, first);
        again(call, Rows.rich(6), op, first, 512 - RICH_CALLS);
        again(call, new WalnutHouses(), op, op.applyAsLong(new WalnutHouses()), 512);
    }

    /** Asked again and again, up to the 512th call of an object, it answers the same. */
    private static void again(String call, WalnutHouses x, ToLongFunction<WalnutHouses> op, long first, int times) {
        int others = 0;
        for (int n = 0; n < times; n++) {
            others += op.applyAsLong(x) == first ? 0 : 1;
        }
        Rows.due(call + ", " + times + " times: answers that differ", others, 0);
    }

    private static void askingChangesNothing() {
        Rows.sentence("BY DAYS: as it would be; of itself nothing is changed by what is asked");
        for (int w = 0; w <= 6; w++) {
            int what = w;
            asked("rule", x -> x.rule(what));
            asked("member", x -> x.member(what, 5));
            asked("house", x -> x.house(1, what));
            asked("runs", x -> x.runs(60, what));
            asked("count", x -> x.count(what));
            asked("swing", x -> x.swing(what));
            asked("give", x -> x.give(what, 60));
            asked("ahead", x -> x.ahead(what, 60));
            asked("kinds", x -> x.kinds(what));
            asked("wants", x -> x.wants(what));
        }
        for (int w = 0; w <= 1; w++) {
            int what = w;
            asked("wording", x -> x.wording(what));
            asked("middle", x -> x.middle(what));
            asked("lose", x -> x.lose(what));
            asked("cross", x -> x.cross(what));
            asked("mind", x -> x.mind(5, what));
            asked("kind", x -> x.kind(0, what));
            asked("luck", x -> x.luck(5, 8, what));
            asked("mean", x -> x.mean(5, 8, what));
            asked("ask", x -> x.ask(3, what));
            asked("drift", x -> x.drift(5, 60, what));
        }
        asked("carries", x -> x.carries());
        asked("fault", x -> x.fault());
        asked("torn", x -> x.torn());
    }

    private static long commonDivisor(long a, long b) {
        return b == 0 ? a : commonDivisor(b, a % b);
    }

    private static void fractions() {
        Rows.sentence("Fractions are in lowest terms, the denominator above 0 (0 is 0 by 1)");
        // eight sittings, one a DAY, bring it from 2 to 10, where both want it: all of them or it is not CARRIED
        String text = "whip 0 10 0;whip 1 10 0;motion 2;";
        long[][] due = {{1, 1}, {43046721, 100000000}, {65536, 390625}, {5764801, 100000000}, {6561, 390625}, {1, 256},
            {256, 390625}, {6561, 100000000}, {1, 390625}, {1, 100000000}, {0, 1}};
        long[][] means = {{10, 1}, {46, 5}, {42, 5}, {38, 5}, {34, 5}, {6, 1}, {26, 5}, {22, 5}, {18, 5}, {14, 5}, {2, 1}};
        for (int v = 0; v <= 10; v++) {
            WalnutHouses x = Rows.told(text);
            Rows.due("luck(" + v + ", 8, 0)", x.luck(v, 8, 0), due[v][0]);
            Rows.due("luck(" + v + ", 8, 1)", x.luck(v, 8, 1), due[v][1]);
            Rows.due("mean(" + v + ", 8, 0)", x.mean(v, 8, 0), means[v][0]);
            Rows.due("mean(" + v + ", 8, 1)", x.mean(v, 8, 1), means[v][1]);
            for (int n = 0; n < 8; n++) {
                Rows.due("luck(" + v + ", " + n + ", 0): 0 is 0 by 1", x.luck(v, n, 0), 0);
                Rows.due("luck(" + v + ", " + n + ", 1): 0 is 0 by 1", x.luck(v, n, 1), 1);
            }
        }
        for (int v = 0; v <= 10; v++) {
            for (int n = 0; n <= 8; n++) {
                WalnutHouses x = Rows.told("plain 0 3 0;doubter 0 6 1;plain 1 17 2;maggot 1 16 1;motion 1;");
                Rows.due("luck: lowest terms", commonDivisor(x.luck(v, n, 1), x.luck(v, n, 0)), 1);
                Rows.due("mean: lowest terms", commonDivisor(x.mean(v, n, 1), x.mean(v, n, 0)), 1);
                Rows.due("above 0", x.luck(v, n, 1) > 0 && x.mean(v, n, 1) > 0 ? 1 : 0, 1);
            }
        }
        WalnutHouses x = Rows.told("maggot 0 20 0;motion 0;");
        Rows.due("mean(3, 8, 0)", x.mean(3, 8, 0), 0);
        Rows.due("mean(3, 8, 1)", x.mean(3, 8, 1), 1);
    }

    private static void atFirst() {
        Rows.sentence("THE MOTION (0 to 20; 10 at first). DAY, AMENDMENTS (0 at first)");
        WalnutHouses x = new WalnutHouses();
        Rows.due("rule(2)", x.rule(2), 10);
        Rows.due("rule(1)", x.rule(1), 0);
        Rows.due("rule(6)", x.rule(6), 0);
        x = Rows.quarrelAt(7);
        x.word(0);
        Rows.due("text() of nothing", x.text(), 0);
        Rows.due("rule(2)", x.rule(2), 10);
        Rows.due("rule(1)", x.rule(1), 0);
        Rows.due("rule(6)", x.rule(6), 0);
    }

    private static void votes() {
        Rows.sentence("A MEMBER VOTES for THE MOTION, if it differs from WANT by SLACK or less, else against it");
        for (int want = 0; want <= 20; want++) {
            for (int slack = 0; slack <= 20; slack++) {
                WalnutHouses x = one((want + slack) % 4, want, slack, 0);
                for (int motion = 0; motion <= 20; motion++) {
                    x.word(motion);
                    int due = motion >= want - slack && motion <= want + slack ? 1 : 0;
                    Rows.due("member(0, 4), WANT " + want + ", SLACK " + slack + ", " + motion, x.member(0, 4), due);
                    Rows.due("rule(5)", x.rule(5), due);
                    Rows.due("house(0, 1)", x.house(0, 1), due);
                    Rows.due("house(0, 2)", x.house(0, 2), 1 - due);
                }
            }
        }
    }

    /** So many in a house who are for 10, so many who are against it. */
    private static void seat(WalnutHouses x, int house, int isFor, int against) {
        for (int n = 0; n < isFor; n++) {
            x.seat(house, 10);
        }
        for (int n = 0; n < against; n++) {
            x.seat(house, 9);
        }
    }

    private static void agrees() {
        Rows.sentence("A HOUSE AGREES, if more of its MEMBERS VOTE for it than against it, or it has none");
        for (int isFor = 0; isFor <= 6; isFor++) {
            for (int against = 0; isFor + against <= 6; against++) {
                int due = isFor > against || isFor + against == 0 ? 1 : 0;
                for (int house = 0; house < 2; house++) {
                    WalnutHouses x = new WalnutHouses();
                    seat(x, house, isFor, against);
                    String call = isFor + " for, " + against + " against in HOUSE " + house;
                    // the other house has none
                    Rows.due(call + ": rule(4)", x.rule(4), house == 0 ? due | 2 : due << 1 | 1);
                    Rows.due(call + ": rule(3)", x.rule(3), due);
                    Rows.due(call + ": runs(0, 4)", x.runs(0, 4), house == 0 ? due | 2 : due << 1 | 1);
                    Rows.due(call + ": house(.., 1)", x.house(house, 1), isFor);
                    Rows.due(call + ": house(.., 2)", x.house(house, 2), against);
                    Rows.due(call + ": house(.., 0)", x.house(house, 0), (1 << isFor + against) - 1);
                }
            }
        }
    }

    private static void carried() {
        Rows.sentence("THE MOTION is CARRIED, if both HOUSES AGREE");
        for (int agree = 0; agree < 4; agree++) {
            WalnutHouses x = new WalnutHouses();
            seat(x, 0, 1, 1 - (agree & 1));
            seat(x, 1, 1, 1 - (agree >> 1));
            Rows.due("rule(4)", x.rule(4), agree);
            Rows.due("rule(3)", x.rule(3), agree == 3 ? 1 : 0);
            Rows.due("runs(0, 2)", x.runs(0, 2), agree == 3 ? 1 : 0);
            Rows.due("carries() is 0", x.carries() == 0 ? 1 : 0, agree == 3 ? 1 : 0);
        }
    }

    private static int pullBy(int kind, int far) {
        int towards = Integer.compare(far, 0);
        boolean near = far >= -2 && far <= 2;
        return kind == PLAIN ? towards : kind == WHIP ? 2 * towards : near ? 0 : kind == DOUBTER ? towards : -towards;
    }

    private static void pulls() {
        Rows.sentence("PULL by KIND: 1 towards WANT (0 if it is there); twice that; if it is more than 2 away; away from WANT");
        for (int kind = PLAIN; kind <= MAGGOT; kind++) {
            for (int want = 0; want <= 20; want++) {
                WalnutHouses x = one(kind, want, 0, 0);
                for (int motion = 0; motion <= 20; motion++) {
                    x.word(motion);
                    int due = pullBy(kind, want - motion);
                    Rows.due("member(0, 5) of " + NAMES[kind] + ", " + want + " from " + motion, x.member(0, 5), 2 + due);
                    Rows.due("house(0, 3)", x.house(0, 3), 20 + due);
                    Rows.due("house(1, 3)", x.house(1, 3), 20);
                }
            }
        }
        Rows.due("house(0, 3): six whips", Rows.told("whip 0 20 0;".repeat(6)).house(0, 3), 32);
        Rows.due("house(1, 3): six whips", Rows.told("whip 1 0 0;".repeat(6)).house(1, 3), 8);
    }

    private static void tires() {
        Rows.sentence("TIRES by KIND: plain 1; whip none; doubter 1 more than a plain one; maggot 1 more than a doubter (20 at most)");
        for (int kind = PLAIN; kind <= MAGGOT; kind++) {
            for (int slack = 0; slack <= 19; slack++) {
                WalnutHouses x = one(kind, 0, slack, 20);
                int due = Math.min(20, slack + TIRES[kind]);
                String call = NAMES[kind] + " of SLACK " + slack;
                Rows.due(call + ": ahead(0, 1)", x.ahead(0, 1), due);
                Rows.due(call + ": runs(1, 3)", x.runs(1, 3), due);
                x.days(1);
                Rows.due(call + ": member(0, 3)", x.member(0, 3), due);
            }
        }
    }

    private static void text(String text, int answer, int fault) {
        WalnutHouses x = new WalnutHouses();
        Rows.feed(x, text);
        Rows.due("text of " + text, x.text(), answer);
        Rows.due("fault of " + text, x.fault(), fault);
        Rows.due("count(2) behind " + text, x.count(2), 0);
    }

    private static void tape() {
        Rows.sentence("THE TAPE has 160 bytes, places from 0");
        text("$", -10, 1);
        text(" ".repeat(159) + "$", -169, 1);
        text(" ".repeat(159) + ";", -169, 2);
        text(" ".repeat(154) + "motion", -170, 2);
        text(" ".repeat(151) + "motion 0;", 1, 0);
        text("motion 0;" + " ".repeat(151), 1, 0);
        text(" ".repeat(160), 0, 0);
        text("", 0, 0);
    }

    private static boolean isLetter(int c) {
        return c >= 'a' && c <= 'z';
    }

    private static boolean isFigure(int c) {
        return c >= '0' && c <= '9';
    }

    private static void signs() {
        Rows.sentence("TOKENS, blanks (32) between: NAMES (a .. z), NUMBERS (1 or 2 figures), one ;");
        for (int c = 0; c <= 127; c++) {
            String sign = String.valueOf((char) c);
            boolean token = isLetter(c) || isFigure(c) || c == ';';
            text(sign, c == ' ' ? 0 : -10, c == ' ' ? 0 : token ? 2 : 1);
            signBehindName(c, sign);
            signBehindNumber(c, sign);
            signBehindLine(c, sign, token);
        }
    }

    private static void signBehindName(int c, String sign) {
        String text = "motion" + sign + "7;";
        if (c == ' ' || c == '0' || c == '1') {
            text(text, 1, 0);
        } else if (isLetter(c)) {
            text(text, -10, 2);
        } else if (isFigure(c)) {
            text(text, -16, 3);
        } else {
            text(text, -16, c == ';' ? 2 : 1);
        }
    }

    private static void signBehindNumber(int c, String sign) {
        String text = "motion 1" + sign + ";";
        if (c == ' ' || isFigure(c)) {
            text(text, 1, 0);
        } else if (c == ';') {
            text(text, -19, 2);
        } else {
            text(text, -18, isLetter(c) ? 2 : 1);
        }
    }

    private static void signBehindLine(int c, String sign, boolean token) {
        text("motion 1;" + sign, c == ' ' ? 1 : -19, c == ' ' ? 0 : token ? 2 : 1);
    }

    private static void tokens() {
        Rows.sentence("TOKENS, each as long as may be");
        text("motionmotion 1;", -10, 2);
        text("motion1;", 1, 0);
        text("plain1 1 1;plain0 20 20;", 2, 0);
        text("motion 1 1;", -19, 2);
        text("plain 11 1;", -16, 3);
        text("plain 1 111;", -18, 1);
        text("motion 1;;", -19, 2);
        text("plain0 0 0;whip1 1 1 ;  doubter   0 2 2;maggot 1 20 20;motion 20 ;", 5, 0);
        Rows.sentence("NUMBERS (1 or 2 figures); FAULT 1: a NUMBER that is too long (its first byte)");
        text("motion 0;", 1, 0);
        text("motion 00;", 1, 0);
        text("motion 000;", -17, 1);
        text("motion 020;", -17, 1);
        text("motion  0000000;", -18, 1);
        text("plain 000 0 0;", -16, 1);
        text("plain 00 000 0;", -19, 1);
        text("plain 00 20 000;", -22, 1);
        text("plain 0 0 0 000;", -22, 1);
        text("000;", -10, 1);
        text("1".repeat(160), -10, 1);
        text(" ".repeat(157) + "111", -167, 1);
    }

    private static void numbersOfTexts() {
        Rows.sentence("FAULT 3: a NUMBER out of its bounds");
        for (int n = 0; n <= 99; n++) {
            String number = String.valueOf(n);
            String two = (n < 10 ? "0" : "") + n;
            for (String name : NAMES) {
                int at = -10 - name.length() - 1;
                text(name + " " + number + " 5 5;", n <= 1 ? 1 : at, n <= 1 ? 0 : 3);
                text(name + " 1 " + number + " 5;", n <= 20 ? 1 : at - 2, n <= 20 ? 0 : 3);
                text(name + " 1 5 " + two + ";", n <= 20 ? 1 : at - 4, n <= 20 ? 0 : 3);
            }
            text("motion " + two + ";", n <= 20 ? 1 : -17, n <= 20 ? 0 : 3);
            if (n <= 20) {
                Rows.due("rule(2), " + two, Rows.told("motion " + two + ";").rule(2), n);
                WalnutHouses x = Rows.told("maggot 1 " + number + " " + (20 - n) + ";");
                Rows.due("member(0, 2)", x.member(0, WANT), n);
                Rows.due("member(0, 3)", x.member(0, SLACK), 20 - n);
                Rows.due("member(0, 1)", x.member(0, HOUSE), 1);
                Rows.due("member(0, 0)", x.member(0, KIND), MAGGOT);
            }
        }
    }

    private static void faultsInOrder() {
        Rows.sentence("FAULTS, the first met as it is read (a TOKEN is read when the one before has been taken)");
        String six = "whip 0 0 0;".repeat(6);
        text("motion 21$", -17, 3);
        text("motion 20$", -19, 1);
        text("motion 21 100", -17, 3);
        text("motion 20 100", -20, 1);
        text("motion 1;motion$", -19, 4);
        text("motion 1;motions$", -19, 2);
        text("motion 1;motion 21;", -19, 4);
        text("motion 1;motion", -19, 4);
        text(six + "plain$", -76, 5);
        text(six + "plains", -76, 2);
        text(six + "motion 21;plain 0 0 0;", -83, 3);
        text(six + "motion 1;plain 2 0 0;", -85, 5);
        text("motion 1;" + six + "motion 1;", -85, 4);
        text("want$", -10, 2);
        text("plain 2 $", -16, 3);
        text("plain 1 $", -18, 1);
        text("plain 0 0 0 21;", -22, 2);
        text("plain 0 0 0 0$", -22, 2);
        text("21;", -10, 2);
        text("plain;$", -15, 2);
        text("motion 1;$motion 1;", -19, 1);
        for (char no = 0; no < 128; no++) {
            if ((no < 'a' || no > 'z') && (no < '0' || no > '9') && no != ' ' && no != ';') {
                // what is no TOKEN is not met where another FAULT stands ahead of it
                text("motion 21" + no, -17, 3);
                text("motion 21;plain" + no, -17, 3);
                text("motion 2;plain 0" + no + " motion 2;", -26, 1);
                text("motion 2;motion" + no, -19, 4);
                text("plain 0 21 0;" + no, -18, 3);
                text(";" + no, -10, 2);
                text("plains" + no, -10, 2);
                text(six + "plain" + no, -76, 5);
            }
        }
    }

    /** A text that is cut is taken only behind a line; else it lacks a TOKEN at its end, or a NAME is cut. */
    private static void cutTexts() {
        Rows.sentence("FAULT 2: a TOKEN that can not stand there (a NAME that begins no line; or the end: the length)");
        String whole = "plain 0 1 2;whip 1 20 20;doubter 0 9 0;maggot 1 0 7;motion 18;";
        for (int length = 0; length <= whole.length(); length++) {
            String cut = whole.substring(0, length);
            int line = cut.lastIndexOf(';') + 1;
            int lines = (int) cut.chars().filter(c -> c == ';').count();
            String rest = cut.substring(line);
            boolean partOfName = !rest.contains(" ") && !rest.matches("plain|whip|doubter|maggot|motion");
            int due = rest.isEmpty() ? lines : -10 - (partOfName ? line : length);
            text(cut, due, rest.isEmpty() ? 0 : 2);
            // blanks at the end do not end a line, and the end is behind them
            text(cut + "  ", rest.isEmpty() || partOfName ? due : due - 2, rest.isEmpty() ? 0 : 2);
        }
        String[] line = {"plain", "0", "1", "2", ";"};
        for (int at = 0; at < line.length; at++) {
            for (String other : new String[] {"plain", "7", ";", "motion"}) {
                boolean same = at == 0 ? other.equals("plain") || other.equals("motion") : at == 4 ? other.equals(";") : other.equals("7");
                if (!same) {
                    String ahead = String.join(" ", Arrays.copyOf(line, at));
                    text(ahead + " " + other, -10 - ahead.length() - 1, 2);
                }
            }
        }
        for (String name : new String[] {"a", "z", "pla", "plains", "lain", "whips", "doubt", "maggots", "motions", "text", "line"}) {
            text(name + " 0 0 0;", -10, 2);
            text("motion 1;  " + name, -21, 2);
        }
    }

    private static void otherNames() {
        Rows.sentence("FAULT 2: a NAME that begins no line: each letter counts");
        for (String name : new String[] {"plain", "whip", "doubter", "maggot", "motion"}) {
            String numbers = name.equals("motion") ? " 1;" : " 1 1 1;";
            text(name + numbers, 1, 0);
            for (int at = 0; at < name.length(); at++) {
                for (char other : new char[] {'a', 'q', 'z', (char) (name.charAt(at) ^ 1)}) {
                    if (other != name.charAt(at) && other >= 'a' && other <= 'z') {
                        text(name.substring(0, at) + other + name.substring(at + 1) + numbers, -10, 2);
                    }
                }
                text(name.substring(0, at) + name.substring(at + 1) + numbers, -10, 2);
                text(name.substring(0, at) + name.charAt(at) + name.substring(at) + numbers, -10, 2);
            }
        }
    }

    private static void secondMotion() {
        Rows.sentence("FAULT 4: motion for the second time (its NAME)");
        text("motion 3;", 1, 0);
        text("motion 3;motion 3;", -19, 4);
        text("motion 3; plain 0 0 0;  motion 3;", -34, 4);
        WalnutHouses x = new WalnutHouses();
        for (int n = 0; n < 3; n++) {
            Rows.feed(x, "motion 5;");
            Rows.due("text(): once in each", x.text(), 1);
        }
        Rows.feed(x, "motion 5;$");
        x.text();
        Rows.feed(x, "motion 6;");
        Rows.due("text() behind a FAULT", x.text(), 1);
        Rows.due("rule(2)", x.rule(2), 6);
    }

    private static void seventhMember() {
        Rows.sentence("FAULT 5: the 7th MEMBER (its NAME)");
        String six = "plain 0 1 0;whip 1 2 0;doubter 0 3 0;maggot 1 4 0;plain 0 5 0;whip 1 6 0;";
        text(six, 6, 0);
        text(six + "motion 1;", 7, 0);
        for (String name : NAMES) {
            text(six + name + " 0 0 0;", -10 - six.length(), 5);
            text(six + "  " + name, -12 - six.length(), 5);
            text(six + "motion 1;" + name + " 0 0 0;", -19 - six.length(), 5);
        }
        WalnutHouses x = Rows.told(six);
        Rows.due("rule(0)", x.rule(0), 6);
        Rows.feed(x, six);
        Rows.due("text(): in place of those that were", x.text(), 6);
        Rows.due("rule(0)", x.rule(0), 6);
    }

    private static void textsTellAll() {
        Rows.sentence("A text that is taken tells all, in place of what there was; nothing is SEEN; IMAGES are gone");
        for (String text : new String[] {"", "   ", "motion 3;", "plain 1 4 2;", "whip 0 1 2;".repeat(6) + "motion 20;"}) {
            WalnutHouses x = Rows.rich(6);
            x.end(0);
            Rows.feed(x, text);
            Rows.due("text of " + text, x.text() >= 0 ? 1 : 0, 1);
            WalnutHouses y = Rows.told(text);
            for (int what = 0; what <= 6; what++) {
                Rows.due("rule(" + what + ")", x.rule(what), y.rule(what));
            }
            Rows.due("count(0)", x.count(0), 0);
            Rows.due("count(1)", x.count(1), 0);
            Rows.due("back(0)", x.back(0), STATE);
            Rows.due("back(1)", x.back(1), STATE);
            Rows.due("count(3): SHEETS stay", x.count(3), 5);
            Rows.due("torn() stays", x.torn(), 2);
            Rows.due("see(): six more are SEEN", x.see(0, 0) + x.see(0, 0) + x.see(0, 0) + x.see(0, 0) + x.see(0, 0) + x.see(0, 0), 21);
        }
        Rows.sentence("-10 less the place of its FAULT: that which was told stays");
        for (String text : new String[] {"$", ";", "motion 21;", "motion 1;motion 1;", "plain 1 1 1;".repeat(7)}) {
            WalnutHouses x = Rows.rich(6);
            x.end(0);
            Rows.feed(x, text);
            Rows.due("text of " + text, x.text() <= -10 ? 1 : 0, 1);
            // the twin has met the same FAULT another way, so that fault() is the same
            String[] others = {"?", "q", "plain 9", "motion 0;motion", "whip 0 0 0;".repeat(6) + "whip"};
            WalnutHouses y = stays(others[x.fault() - 1]);
            Rows.due("fault() of the twin", y.fault(), x.fault());
            Rows.same("what stays behind " + text, x, y);
            Rows.due("rule(0) stays", stays(text).rule(0), 6);
            Rows.due("rule(1) stays", stays(text).rule(1), 5);
            Rows.due("rule(2) stays", stays(text).rule(2), 13);
            Rows.due("count(0) stays", stays(text).count(0), 3);
            Rows.due("count(1) stays", stays(text).count(1), 2);
            Rows.due("back(0) stays", stays(text).back(0), 3);
        }
    }

    private static WalnutHouses stays(String text) {
        WalnutHouses x = Rows.rich(6);
        x.end(0);
        Rows.feed(x, text);
        x.text();
        return x;
    }

    private static void carriedDay() {
        Rows.sentence("A DAY: is THE MOTION CARRIED, nothing is done. In any case DAY is 1 more");
        // two of three carry it in HOUSE 0; the third is against it and would tire, all would pull
        WalnutHouses x = Rows.told("plain 0 12 2;whip 0 13 3;maggot 0 0 0;");
        for (int day = 1; day <= 4; day++) {
            Rows.due("days(1)", x.days(1), 0);
            Rows.due("rule(1)", x.rule(1), day);
            Rows.due("rule(2)", x.rule(2), 10);
            Rows.due("count(5)", x.count(5), 5);
            Rows.due("rule(6)", x.rule(6), 0);
        }
        x.alter(0, SLACK, 1);
        Rows.due("days(1), not CARRIED", x.days(1), 1);
        Rows.due("rule(2)", x.rule(2), 11);
        Rows.due("count(5)", x.count(5), 2 + 3 + 3);
    }

    private static void whoSits() {
        Rows.sentence("Else HOUSE 0 sits (DAY is even), or HOUSE 1 (odd)");
        WalnutHouses x = Rows.quarrel();
        for (int day = 0; day < 30; day++) {
            Rows.due("rule(2) on DAY " + day, x.rule(2), day % 2 == 0 ? 10 : 9);
            x.days(1);
        }
        x = Rows.told("plain 0 0 0;plain 1 20 0;");
        int[][] slacks = {{0, 0}, {1, 0}, {1, 1}, {2, 1}, {2, 2}};
        for (int day = 0; day < slacks.length; day++) {
            Rows.due("member(0, 3) on DAY " + day, x.member(0, SLACK), slacks[day][0]);
            Rows.due("member(1, 3) on DAY " + day, x.member(1, SLACK), slacks[day][1]);
            x.days(1);
        }
        x = Rows.quarrelAt(999);
        Rows.due("runs(1, 0) from DAY 999: HOUSE 1 sits", x.runs(1, 0), 10);
        Rows.due("runs(2, 0) from DAY 999", x.runs(2, 0), 9);
    }

    private static void whoTires() {
        Rows.sentence("SLACK of each of its MEMBERS who VOTES against THE MOTION is more by what he TIRES (20 at most)");
        // HOUSE 1 is against it, so that HOUSE 0 sits; of HOUSE 0 only those tire who are against it
        WalnutHouses x = Rows.told("plain 0 15 5;plain 0 15 4;doubter 0 5 5;maggot 0 5 4;doubter 0 0 9;maggot 1 20 9;");
        int[] due = {5, 5, 5, 7, 11, 9};
        x.days(1);
        for (int i = 0; i < 6; i++) {
            Rows.due("member(" + i + ", 3)", x.member(i, SLACK), due[i]);
        }
        // votes are as SLACK and THE MOTION were: he who comes to be for it pulls and has tired all the same
        x = Rows.told("plain 0 11 0;whip 1 0 0;");
        Rows.due("days(1)", x.days(1), 1);
        Rows.due("member(0, 3)", x.member(0, SLACK), 1);
        Rows.due("rule(2)", x.rule(2), 11);
        for (int kind = PLAIN; kind <= MAGGOT; kind++) {
            x = one(kind, 0, 20, 20);
            x.seat(1, 0);
            x.days(1);
            Rows.due("SLACK 20 is for all", x.member(0, SLACK), 20);
        }
    }

    private static void whatIsSummed() {
        Rows.sentence("PULLS of all its MEMBERS (as THE MOTION is) are summed: THE MOTION is 1 more, or 1 less; if the sum is 0 it stays");
        // those who are for it pull too; HOUSE 1 is against it and does not sit
        String against = "whip 1 10 0;motion 7;";
        summed("plain 0 8 5;" + against, 8);
        summed("plain 0 6 5;" + against, 6);
        summed("plain 0 7 0;" + against, 7);
        summed("whip 0 20 0;".repeat(5) + against, 8);
        summed("whip 0 0 0;".repeat(5) + against, 6);
        summed("plain 0 20 0;plain 0 0 0;" + against, 7);
        summed("whip 0 20 0;plain 0 0 0;plain 0 1 0;" + against, 7);
        summed("whip 0 20 0;plain 0 0 0;doubter 0 1 0;plain 0 8 0;" + against, 8);
        summed("whip 0 20 0;plain 0 0 0;plain 0 1 0;maggot 0 17 0;" + against, 6);
        summed("doubter 0 9 0;" + against, 7);
        summed("doubter 0 10 0;" + against, 8);
        summed("doubter 0 5 0;" + against, 7);
        summed("doubter 0 4 0;" + against, 6);
        summed("maggot 0 9 0;" + against, 7);
        summed("maggot 0 10 0;" + against, 6);
        summed("maggot 0 5 0;" + against, 7);
        summed("maggot 0 4 0;" + against, 8);
        summed("whip 0 10 0;maggot 0 20 0;plain 0 0 0;" + against, 7);
    }

    private static void summed(String text, int motion) {
        WalnutHouses x = Rows.told(text);
        int changes = motion == 7 ? 0 : 1;
        Rows.due("runs(1, 0) of " + text, x.runs(1, 0), motion);
        Rows.due("runs(1, 1) of " + text, x.runs(1, 1), changes);
        Rows.due("days(1) of " + text, x.days(1), changes);
        Rows.due("rule(2) of " + text, x.rule(2), motion);
        Rows.due("rule(6) of " + text, x.rule(6), changes);
        Rows.due("rule(1) of " + text, x.rule(1), 1);
    }

    private static void atTheEnds() {
        Rows.sentence("THE MOTION is 1 more, or 1 less (0 to 20 at the ends): each such change is an AMENDMENT");
        // maggots flee from it: 18 away they come to the end, and stay there
        String[] texts = {"maggot 0 20 0;motion 2;", "maggot 0 0 0;motion 18;"};
        int[] steps = {-1, 1};
        for (int t = 0; t < 2; t++) {
            int from = t == 0 ? 2 : 18;
            WalnutHouses x = Rows.told(texts[t]);
            int[] moved = {1, 1, 2, 2, 2, 2, 2};
            for (int day = 1; day <= moved.length; day++) {
                Rows.due("days(1)", x.days(1), day == 1 || day == 3 ? 1 : 0);
                Rows.due("rule(2) on DAY " + day, x.rule(2), from + steps[t] * moved[day - 1]);
                Rows.due("rule(6) on DAY " + day, x.rule(6), moved[day - 1]);
            }
        }
        int[] last = {0, 20};
        for (int end : last) {
            WalnutHouses x = one(MAGGOT, 20 - end, 0, end);
            Rows.due("runs(1, 0) at " + end, x.runs(1, 0), end);
            Rows.due("runs(1, 1) at " + end, x.runs(1, 1), 0);
            Rows.due("runs(60, 1) at " + end, x.runs(60, 1), 0);
            x.word(Math.abs(end - 1));
            Rows.due("runs(1, 0) next to " + end, x.runs(1, 0), end);
            Rows.due("runs(1, 1) next to " + end, x.runs(1, 1), 1);
        }
    }

    private static void dayIsMore() {
        Rows.sentence("In any case DAY is 1 more");
        String[] texts = {"", "plain 0 10 0;", "plain 1 0 0;", "plain 0 0 0;plain 0 20 0;", "maggot 0 20 0;motion 0;", "whip 0 0 0;"};
        for (String text : texts) {
            WalnutHouses x = Rows.told(text);
            for (int n = 0; n <= 5; n++) {
                int before = x.rule(1);
                x.days(n);
                Rows.due("rule(1) behind days(" + n + ") of " + text, x.rule(1), before + n);
            }
        }
        // nobody sits on DAY 0 by itself: then HOUSE 1 sits on DAY 1 all the same
        WalnutHouses x = Rows.told("whip 1 11 0;");
        Rows.due("luck(5, 1, 0)", x.luck(5, 1, 0), 0);
        Rows.due("luck(5, 2, 0)", x.luck(5, 2, 0), 1);
        Rows.due("luck(5, 2, 1)", x.luck(5, 2, 1), 2);
    }

    private static void amendments() {
        Rows.sentence("each such change is an AMENDMENT (999 at most)");
        WalnutHouses x = Rows.quarrelAt(998);
        Rows.due("rule(6)", x.rule(6), 998);
        Rows.due("days(1)", x.days(1), 1);
        Rows.due("rule(6)", x.rule(6), 999);
        Rows.due("days(1)", x.days(1), FULL);
        Rows.due("rule(6)", x.rule(6), 999);
        Rows.due("runs(60, 1): each change counts", x.runs(60, 1), 60);
        x.word(3);
        Rows.due("rule(6): word() is none", x.rule(6), 999);
        x = Rows.quarrelAt(4);
        x.word(0);
        x.alter(0, WANT, 20);
        Rows.due("rule(6): word() and alter() are none", x.rule(6), 4);
    }

    private static void fromNowOn() {
        Rows.sentence("BY DAYS: as it would be from now on");
        for (int day : new int[] {0, 1, 2, 29, 30, 500, 939, 940, 998, 999}) {
            WalnutHouses x = Rows.quarrelAt(day);
            int now = day % 2 == 0 ? 10 : 9;
            for (int n : new int[] {0, 1, 2, 59, 60}) {
                Rows.due("runs(" + n + ", 0) from DAY " + day, x.runs(n, 0), n % 2 == 0 ? now : 19 - now);
                Rows.due("runs(" + n + ", 1) from DAY " + day, x.runs(n, 1), n);
            }
            Rows.due("rule(1)", x.rule(1), day);
        }
    }

    private static void seen() {
        Rows.sentence("SEEN (6): behind n DAYS (0 to 20) from now on THE MOTION is v");
        WalnutHouses x = Rows.told("whip 1 20 0;motion 0;");
        for (int n = 0; n <= 20; n++) {
            x.forget(0);
            x.see(n, n / 2);
            Rows.due("kinds(0), as it will be behind " + n, x.kinds(0) & 1 << WHIP, 1 << WHIP);
            x.forget(0);
            x.see(n, n / 2 + 1);
            Rows.due("kinds(0), not as it will be behind " + n, x.kinds(0) & 1 << WHIP, 0);
        }
        x.forget(0);
        for (int n = 1; n <= 6; n++) {
            Rows.due("see", x.see(20, 10), n);
        }
        Rows.due("see: the 7th", x.see(20, 10), FULL);
        Rows.due("count(0)", x.count(0), 6);
        x.forget(5);
        Rows.due("see: the 6th again", x.see(0, 1), 6);
        Rows.due("wants(0): the 6th counts too", x.wants(0), 0);
        seenFromNowOn();
    }

    /** What was SEEN is neither moved nor forgotten as DAYS pass: it is told from the DAY on which it is asked. */
    private static void seenFromNowOn() {
        for (int passed = 0; passed <= 34; passed += 2) {
            WalnutHouses x = Rows.told("whip 1 20 0;motion 0;");
            x.see(4, passed / 2 + 2);
            Rows.due("kinds(0) ahead of " + passed + " DAYS", x.kinds(0) & 1 << WHIP, passed == 0 ? 1 << WHIP : 0);
            x.days(Math.min(30, passed));
            x.days(Math.max(0, passed - 30));
            Rows.due("count(0) behind " + passed + " DAYS", x.count(0), 1);
            Rows.due("kinds(0) behind " + passed + " DAYS", x.kinds(0) & 1 << WHIP, 1 << WHIP);
            Rows.due("wants(0) behind " + passed + " DAYS", x.wants(0) & 1 << 20, 1 << 20);
            x.days(2);
            Rows.due("kinds(0) behind two more", x.kinds(0) & 1 << WHIP, 0);
            Rows.due("wants(0) behind two more", x.wants(0) & 1 << 20, 0);
        }
    }

    private static void sheets() {
        Rows.sentence("SHEETS 0 to 3 are rows of BYTES (lane 0), SHORTS (1), INTS (2) with 0 to 40 CELLS, or nothing (at first)");
        int[][] fits = {{20, 276, -236, 65556, LOWEST + 20}, {20, 65556, -65516, 131092, LOWEST + 20}, {20}};
        int[][] fitsNot = {
            {21, 277, -1, 255, 128, 127, -128},
            {21, 276, -236, 65557, -1, 65535, 32768, 32767},
            {21, 276, 65556, -236, -65516, LOWEST, HIGHEST, LOWEST + 20, -1},
        };
        for (int k = 0; k < 4; k++) {
            WalnutHouses x = Rows.told("plain 0 3 0;");
            Rows.due("lay(" + k + ", 0, 0) at first", x.lay(k, 0, 0), -11);
            for (int lane = 0; lane < 3; lane++) {
                Rows.due("sheet(" + k + ", " + lane + ", 40)", x.sheet(k, lane, 40), 1);
                for (int v : fits[lane]) {
                    x.alter(0, WANT, 0);
                    Rows.due("lay(" + k + ", 39, " + v + ")", x.lay(k, 39, v), 1);
                    Rows.due("read in lane " + lane, x.read(k, lane, 38, 1), 1);
                    Rows.due("member(0, 2)", x.member(0, WANT), 20);
                }
                for (int v : fitsNot[lane]) {
                    Rows.due("lay(" + k + ", 39, " + v + ")", x.lay(k, 39, v), 1);
                    Rows.due("read in lane " + lane, x.read(k, lane, 38, 1), -20);
                }
                Rows.due("sheet(" + k + ", " + lane + ", 0)", x.sheet(k, lane, 0), 1);
                Rows.due("lay(" + k + ", 0, 0)", x.lay(k, 0, 0), -12);
            }
        }
    }

    private static void machineFaults() {
        Rows.sentence("A FAULT is what the machine finds: 1 NULL (nothing), 2 INDEX, 3 CAST (another lane), 4 SIZE (below 0)");
        for (int lane = 0; lane < 3; lane++) {
            WalnutHouses x = Rows.told("plain 0 3 0;");
            for (int as = 0; as < 3; as++) {
                Rows.due("read a SHEET of nothing", x.read(1, as, 0, 1), 0);
                Rows.due("torn(): NULL", x.torn(), 1);
            }
            for (int size = 0; size <= 3; size++) {
                x.sheet(0, lane, size);
                for (int as = 0; as < 3; as++) {
                    Rows.due("read " + size + " CELLS of " + lane + " as " + as, x.read(0, as, 0, 1), as == lane && size >= 2 ? 1 : 0);
                    Rows.due("torn()", x.torn(), as != lane ? 3 : size < 2 ? 2 : 0);
                }
            }
            for (int n : new int[] {-1, -2, -40, -41, -128, LOWEST, LOWEST + 1}) {
                Rows.due("sheet(0, " + lane + ", " + n + ")", x.sheet(0, lane, n), -14);
            }
            Rows.due("sheet(0, lane, 0)", x.sheet(0, lane, 0), 1);
        }
    }
}
