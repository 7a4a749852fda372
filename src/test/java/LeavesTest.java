import java.util.ArrayList;
import java.util.LinkedHashMap;
import java.util.List;
import java.util.Map;
import java.util.function.Consumer;
import java.util.function.Supplier;
import java.util.function.ToLongFunction;

/**
 * What each call changes, and that it leaves all else: on each way that it can end, refused ones too. An object that was
 * called is told, part by part, from one that was not; what the call is to change is put into what is due.
 */
public final class LeavesTest {
    private static final int BAD = WalnutHouses.BAD, STATE = WalnutHouses.STATE, FULL = WalnutHouses.FULL, NONE = WalnutHouses.NONE;
    private static final int WHIP = 1;
    private static final int[][] STUCK = {{1, 0, 0, 0}, {1, 0, 20, 0}, {1, 1, 0, 0}, {1, 1, 20, 0}};
    private static final int[][] NOBODY = {};

    public static void main(String[] args) {
        looking();
        texts();
        asked();
        askedOfTheStuck();
        refused();
        changed();
        days();
        seen();
        images();
        sheets();
        reads();
        Rows.close();
    }

    /** All parts differ from a new object's; what is SEEN is n behind n DAYS, so that look() can tell it. */
    private static WalnutHouses made(int[][] members, boolean kept) {
        WalnutHouses x = Rows.seated(members);
        x.word(8);
        Rows.feed(x, "?");
        x.text();
        x.days(3);
        x.see(2, 2);
        x.keep(kept ? 0 : BAD);
        x.days(2);
        x.see(7, 7);
        x.see(4, 4);
        x.keep(kept ? 1 : BAD);
        x.word(13);
        x.forget(1);
        x.see(20, 20);
        x.see(3, 3);
        x.sheet(0, 0, 6);
        x.sheet(1, 1, 40);
        x.sheet(2, 2, 2);
        for (int c = 0; c < 40; c++) {
            x.lay(1, c, c % 2 == 0 ? c / 2 % 6 : c / 2);
        }
        for (int c = 0; c < 6; c++) {
            x.lay(0, c, c % 2 == 0 ? c / 2 : 15 - c);
        }
        x.lay(2, 0, 1);
        x.lay(2, 1, 11);
        x.read(3, 0, 0, 1);
        Rows.feed(x, "motion 1");
        return x;
    }

    private static WalnutHouses rich() {
        return made(Rows.SIX, true);
    }

    private static WalnutHouses unkept() {
        return made(Rows.SIX, false);
    }

    private static WalnutHouses stuck() {
        return made(STUCK, true);
    }

    private static WalnutHouses unseen() {
        WalnutHouses x = rich();
        x.forget(0);
        return x;
    }

    /** As full as it goes. */
    private static WalnutHouses full() {
        WalnutHouses x = rich();
        Rows.feed(x, " ".repeat(152));
        x.see(5, 5);
        x.see(9, 9);
        x.see(1, 1);
        return x;
    }

    private static WalnutHouses late() {
        WalnutHouses x = rich();
        for (int n = 0; n < 33; n++) {
            x.days(30);
        }
        x.days(4);
        return x;
    }

    /** All parts of an object, by name, in some 220 calls; the object is of no use behind it. */
    private static Map<String, List<Long>> look(WalnutHouses x) {
        Map<String, List<Long>> all = new LinkedHashMap<>();
        all.put("fault", List.of((long) x.fault()));
        all.put("torn", List.of((long) x.torn()));
        all.put("images", List.of((long) x.count(1)));
        all.put("cells of sheet 0", List.of((long) x.count(3)));
        int bytes = x.count(2);
        lookAtNut("", x, all);
        for (int k = 0; k < 4; k++) {
            all.put("sheet " + k, Rows.sheet(x, k));
        }
        for (int k = 0; k < 2; k++) {
            all.put("image " + k, List.of((long) x.back(k)));
            lookAtNut("image " + k + " ", x, all);
        }
        if (bytes < 160) {
            Rows.feed(x, bytes > 158 ? "7" : "7;");
        }
        all.put("tape", List.of((long) bytes, (long) x.text(), (long) x.fault(), (long) x.rule(0), (long) x.rule(2)));
        return all;
    }

    private static void lookAtNut(String whose, WalnutHouses x, Map<String, List<Long>> all) {
        all.put(whose + "members", List.of((long) x.rule(0)));
        all.put(whose + "day", List.of((long) x.rule(1)));
        all.put(whose + "motion", List.of((long) x.rule(2)));
        all.put(whose + "amendments", List.of((long) x.rule(6)));
        for (int i = 0; i < 6; i++) {
            List<Long> parts = new ArrayList<>();
            for (int what = 0; what <= 3; what++) {
                parts.add((long) x.member(i, what));
            }
            all.put(whose + "member " + i, parts);
        }
        all.put(whose + "seen", seen(x));
    }

    /** How many are SEEN, and whether each of them is n behind n DAYS: two whips move THE MOTION 1 up on every DAY. */
    private static List<Long> seen(WalnutHouses x) {
        x.clear(0);
        for (int h = 0; h < 2; h++) {
            x.seat(h, 20);
            x.alter(h, 0, WHIP);
        }
        x.word(0);
        return List.of((long) x.count(0), (long) x.kinds(0) & 1 << WHIP);
    }

    /** The call's answer is due, and behind it all is as without it, but for what `change` puts. */
    private static void changes(String call, Supplier<WalnutHouses> made, ToLongFunction<WalnutHouses> op, long want,
            Consumer<Map<String, List<Long>>> change) {
        WalnutHouses called = made.get();
        Rows.due(call, op.applyAsLong(called), want);
        Map<String, List<Long>> due = look(made.get());
        change.accept(due);
        for (Map.Entry<String, List<Long>> part : look(called).entrySet()) {
            List<Long> is = due.get(part.getKey());
            boolean same = is == null || is.equals(part.getValue());
            Rows.due(call + " leaves " + part.getKey() + ": " + part.getValue() + ", due " + is, same ? 1 : 0, 1);
        }
    }

    private static void leaves(String call, Supplier<WalnutHouses> made, ToLongFunction<WalnutHouses> op, long want) {
        changes(call, made, op, want, due -> { });
    }

    /** Asked of one, the answer is that of another: what is looked at is that nothing else is different. */
    private static void asks(String call, Supplier<WalnutHouses> made, ToLongFunction<WalnutHouses> op) {
        long want = op.applyAsLong(made.get());
        Rows.due(call + " is answered", want != BAD ? 1 : 0, 1);
        leaves(call, made, op, want);
    }

    private static void put(Map<String, List<Long>> due, String part, long v) {
        due.put(part, List.of(v));
    }

    private static void putNut(Map<String, List<Long>> due, String from, String to) {
        for (String part : new String[] {"members", "day", "motion", "amendments", "seen", "member 0", "member 1",
            "member 2", "member 3", "member 4", "member 5"}) {
            due.put(to + part, due.get(from + part));
        }
    }

    /** Parts of MEMBERS as they are once there are only n. */
    private static void keepMembers(Map<String, List<Long>> due, int n) {
        put(due, "members", n);
        for (int i = n; i < 6; i++) {
            due.put("member " + i, List.of(-1L, -1L, -1L, -1L));
        }
    }

    /** Looking itself changes nothing that it has not told yet: it tells what was put there. */
    private static void looking() {
        Rows.sentence("what is looked at is as it was made");
        Map<String, List<Long>> due = new LinkedHashMap<>();
        due.put("fault", List.of(1L));
        due.put("torn", List.of(1L));
        due.put("images", List.of(2L));
        due.put("cells of sheet 0", List.of(6L));
        due.put("members", List.of(6L));
        due.put("day", List.of(5L));
        due.put("motion", List.of(13L));
        due.put("seen", List.of(3L, 2L));
        due.put("sheet 0", List.of(3L, 2L, 14L, 12L, 10L, 3L, 4L, 5L, 0L, 2L, 0L, 3L, 0L, 3L));
        due.put("sheet 1", List.of(0L, 3L, 6L, 0L, 0L, 1L, 2L, 3L, 4L, 5L, 6L, 0L, 6L, 7L, 8L, 9L, 10L, 11L,
            6L, 0L, 12L, 13L, 14L, 15L, 16L, 17L, 2L, 2L, 18L, 19L, 14L, 15L, 16L, 17L, 0L, 3L));
        due.put("sheet 2", List.of(0L, 3L, 0L, 3L, 1L, 2L, 0L, 11L, 2L, 3L, 4L, 5L, 0L, 2L));
        due.put("sheet 3", List.of(0L, 1L, 0L, 1L, 0L, 1L));
        due.put("image 0", List.of(3L));
        due.put("image 0 members", List.of(6L));
        due.put("image 0 seen", List.of(1L, 2L));
        due.put("image 1", List.of(5L));
        due.put("image 1 members", List.of(6L));
        due.put("image 1 seen", List.of(3L, 2L));
        due.put("tape", List.of(8L, 1L, 0L, 0L, 17L));
        Map<String, List<Long>> is = look(rich());
        due.forEach((part, v) -> Rows.due(part + " is " + is.get(part) + ", due " + v, v.equals(is.get(part)) ? 1 : 0, 1));
    }

    private static void texts() {
        Rows.sentence("2, 3: THE TAPE alone is changed by feed and end");
        changes("feed('2')", LeavesTest::rich, x -> x.feed('2'), 9, due -> due.put("tape", List.of(9L, -17L, 1L, 2L, 0L)));
        changes("feed(' ')", LeavesTest::rich, x -> x.feed(' '), 9, due -> due.put("tape", List.of(9L, -19L, 2L, 2L, 0L)));
        changes("end(7)", LeavesTest::rich, x -> x.end(7), 8, due -> due.put("tape", List.of(7L, 1L, 0L, 0L, 7L)));
        changes("end(0)", LeavesTest::rich, x -> x.end(0), 8, due -> due.put("tape", List.of(0L, -10L, 2L, 2L, 0L)));
        leaves("end(8)", LeavesTest::rich, x -> x.end(8), 8);
        leaves("feed, then end", LeavesTest::rich, x -> x.feed('9') + x.end(8), 18);
        leaves("feed(32), 160 bytes", LeavesTest::full, x -> x.feed(32), FULL);
        leaves("feed(128), 160 bytes", LeavesTest::full, x -> x.feed(128), BAD);
        Rows.sentence("4: a text that is taken leaves the SHEETS and torn(); one with a FAULT leaves all but THE TAPE and fault()");
        changes("text() of 'motion 1'", LeavesTest::rich, WalnutHouses::text, -18, due -> {
            put(due, "fault", 2);
            due.put("tape", List.of(0L, -10L, 2L, 2L, 0L));
        });
        changes("text() of 'motion 1;'", LeavesTest::rich, x -> x.feed(';') + x.text(), 10, due -> {
            Map<String, List<Long>> fresh = look(Rows.told("motion 1;"));
            for (String part : due.keySet()) {
                if (!part.equals("torn") && !part.startsWith("sheet ") && !part.equals("cells of sheet 0")) {
                    due.put(part, fresh.get(part));
                }
            }
        });
    }

    private static void asked() {
        Rows.sentence("5 to 8, 14 to 26, 29 to 32, 38, 39: what is asked changes nothing");
        asks("fault()", LeavesTest::rich, WalnutHouses::fault);
        asks("torn()", LeavesTest::rich, WalnutHouses::torn);
        asks("carries()", LeavesTest::rich, WalnutHouses::carries);
        for (int what = 0; what <= 6; what++) {
            int w = what;
            asks("rule(" + w + ")", LeavesTest::rich, x -> x.rule(w));
            if (w <= 5) {
                asks("count(" + w + ")", LeavesTest::rich, x -> x.count(w));
                asks("member(3, " + w + ")", LeavesTest::rich, x -> x.member(3, w));
            }
            if (w <= 4) {
                asks("runs(60, " + w + ")", LeavesTest::rich, x -> x.runs(60, w));
            }
            if (w <= 3) {
                asks("house(0, " + w + ")", LeavesTest::rich, x -> x.house(0, w));
                asks("house(1, " + w + ")", LeavesTest::rich, x -> x.house(1, w));
            }
            if (w <= 1) {
                askedBy(w);
            }
        }
        for (int i = 0; i < 6; i++) {
            int m = i;
            asks("ahead(" + m + ", 60)", LeavesTest::rich, x -> x.ahead(m, 60));
            asks("swing(" + m + ")", LeavesTest::rich, x -> x.swing(m));
            asks("give(" + m + ", 60)", LeavesTest::rich, x -> x.give(m, 60));
            asks("kinds(" + m + ")", LeavesTest::rich, x -> x.kinds(m));
            asks("wants(" + m + ")", LeavesTest::unseen, x -> x.wants(m));
        }
    }

    private static void askedBy(int what) {
        asks("wording(" + what + ")", LeavesTest::rich, x -> x.wording(what));
        asks("middle(" + what + ")", LeavesTest::rich, x -> x.middle(what));
        asks("lose(" + what + ")", LeavesTest::rich, x -> x.lose(what));
        asks("cross(" + what + ")", LeavesTest::rich, x -> x.cross(what));
        asks("luck(3, 8, " + what + ")", LeavesTest::rich, x -> x.luck(3, 8, what));
        asks("mean(3, 8, " + what + ")", LeavesTest::rich, x -> x.mean(3, 8, what));
        asks("drift(7, 60, " + what + ")", LeavesTest::rich, x -> x.drift(7, 60, what));
        for (int i = 0; i < 6; i++) {
            int m = i;
            asks("mind(" + m + ", " + what + ")", LeavesTest::rich, x -> x.mind(m, what));
            asks("kind(" + m + ", " + what + ")", LeavesTest::rich, x -> x.kind(m, what));
            asks("ask(" + m + ", " + what + ")", LeavesTest::rich, x -> x.ask(m, what));
            asks("ask(" + m + ", " + what + "), nothing SEEN", LeavesTest::unseen, x -> x.ask(m, what));
        }
    }

    private static void askedOfTheStuck() {
        Rows.sentence("16, 17, 20 to 24, 31, 32: nor does what is answered by NONE or STATE");
        leaves("carries()", LeavesTest::stuck, WalnutHouses::carries, NONE);
        leaves("give(0, 60)", LeavesTest::stuck, x -> x.give(0, 60), NONE);
        for (int what = 0; what <= 1; what++) {
            int w = what;
            leaves("wording(" + w + ")", LeavesTest::stuck, x -> x.wording(w), NONE);
            leaves("lose(" + w + ")", LeavesTest::stuck, x -> x.lose(w), NONE);
            leaves("cross(" + w + ")", LeavesTest::stuck, x -> x.cross(w), NONE);
            leaves("mind(0, " + w + ")", LeavesTest::stuck, x -> x.mind(0, w), NONE);
            leaves("kind(0, " + w + ")", LeavesTest::stuck, x -> x.kind(0, w), NONE);
            leaves("ask(0, " + w + ")", LeavesTest::stuck, x -> x.ask(0, w), NONE);
            leaves("drift(1, 1, " + w + ")", () -> made(NOBODY, true), x -> x.drift(1, 1, w), STATE);
        }
        leaves("count(3), SHEET 0 is nothing", WalnutHouses::new, x -> x.count(3), NONE);
        leaves("back(0), no IMAGE", LeavesTest::unkept, x -> x.back(0), STATE);
        leaves("back(1), no IMAGE", LeavesTest::unkept, x -> x.back(1), STATE);
    }

    private static void refused() {
        Rows.sentence("BAD: what is refused changes nothing");
        for (int v : new int[] {-1, 128}) {
            leaves("feed(" + v + ")", LeavesTest::rich, x -> x.feed(v), BAD);
        }
        for (int v : new int[] {-1, 99}) {
            refusedBy(v);
            refusedMember(v);
            refusedSheet(v);
        }
        Rows.sentence("FULL: what is refused changes nothing");
        leaves("seat(0, 0), 6 MEMBERS", LeavesTest::rich, x -> x.seat(0, 0), FULL);
        leaves("see(0, 0), 6 SEEN", LeavesTest::full, x -> x.see(0, 0), FULL);
        leaves("days(4), DAY 999", LeavesTest::late, x -> x.days(4), FULL);
    }

    private static void refusedBy(int v) {
        leaves("end(" + v + ")", LeavesTest::rich, x -> x.end(v), BAD);
        leaves("rule(" + v + ")", LeavesTest::rich, x -> x.rule(v), BAD);
        leaves("house(" + v + ", 0)", LeavesTest::rich, x -> x.house(v, 0), BAD);
        leaves("house(0, " + v + ")", LeavesTest::rich, x -> x.house(0, v), BAD);
        leaves("word(" + v + ")", LeavesTest::rich, x -> x.word(v), BAD);
        leaves("seat(" + v + ", 0)", LeavesTest::stuck, x -> x.seat(v, 0), BAD);
        leaves("seat(0, " + v + ")", LeavesTest::stuck, x -> x.seat(0, v), BAD);
        leaves("clear(" + v + ")", LeavesTest::rich, x -> x.clear(v), BAD);
        leaves("days(" + v + ")", LeavesTest::rich, x -> x.days(v), BAD);
        leaves("runs(" + v + ", 0)", LeavesTest::rich, x -> x.runs(v, 0), BAD);
        leaves("runs(0, " + v + ")", LeavesTest::rich, x -> x.runs(0, v), BAD);
        leaves("wording(" + v + ")", LeavesTest::rich, x -> x.wording(v), BAD);
        leaves("middle(" + v + ")", LeavesTest::rich, x -> x.middle(v), BAD);
        leaves("lose(" + v + ")", LeavesTest::rich, x -> x.lose(v), BAD);
        leaves("cross(" + v + ")", LeavesTest::rich, x -> x.cross(v), BAD);
        leaves("luck(1, " + v + ", 0)", LeavesTest::rich, x -> x.luck(1, v, 0), BAD);
        leaves("mean(1, " + v + ", 0)", LeavesTest::rich, x -> x.mean(1, v, 0), BAD);
        leaves("see(" + v + ", 0)", LeavesTest::rich, x -> x.see(v, 0), BAD);
        leaves("see(0, " + v + ")", LeavesTest::rich, x -> x.see(0, v), BAD);
        leaves("forget(" + v + ")", LeavesTest::rich, x -> x.forget(v), BAD);
        leaves("drift(1, " + v + ", 0)", LeavesTest::rich, x -> x.drift(1, v, 0), BAD);
        leaves("keep(" + v + ")", LeavesTest::rich, x -> x.keep(v), BAD);
        leaves("back(" + v + ")", LeavesTest::rich, x -> x.back(v), BAD);
        leaves("count(" + v + ")", LeavesTest::rich, x -> x.count(v), BAD);
    }

    private static void refusedMember(int v) {
        leaves("member(" + v + ", 0)", LeavesTest::rich, x -> x.member(v, 0), BAD);
        leaves("member(0, " + v + ")", LeavesTest::rich, x -> x.member(0, v), BAD);
        leaves("alter(" + v + ", 0, 0)", LeavesTest::rich, x -> x.alter(v, 0, 0), BAD);
        leaves("alter(0, " + v + ", 0)", LeavesTest::rich, x -> x.alter(0, v, 0), BAD);
        leaves("alter(0, 2, " + v + ")", LeavesTest::rich, x -> x.alter(0, 2, v), BAD);
        leaves("ahead(" + v + ", 0)", LeavesTest::rich, x -> x.ahead(v, 0), BAD);
        leaves("swing(" + v + ")", LeavesTest::rich, x -> x.swing(v), BAD);
        leaves("give(" + v + ", 0)", LeavesTest::rich, x -> x.give(v, 0), BAD);
        leaves("mind(" + v + ", 0)", LeavesTest::rich, x -> x.mind(v, 0), BAD);
        leaves("kind(" + v + ", 0)", LeavesTest::rich, x -> x.kind(v, 0), BAD);
        leaves("kinds(" + v + ")", LeavesTest::rich, x -> x.kinds(v), BAD);
        leaves("wants(" + v + ")", LeavesTest::rich, x -> x.wants(v), BAD);
        leaves("ask(" + v + ", 0)", LeavesTest::rich, x -> x.ask(v, 0), BAD);
    }

    private static void refusedSheet(int v) {
        leaves("sheet(" + v + ", 0, 0)", LeavesTest::rich, x -> x.sheet(v, 0, 0), BAD);
        leaves("sheet(0, " + v + ", 0)", LeavesTest::rich, x -> x.sheet(0, v, 0), BAD);
        leaves("sheet(0, 0, " + v + ")", LeavesTest::rich, x -> x.sheet(0, 0, v), v < 0 ? -14 : BAD);
        leaves("lay(" + v + ", 0, 0)", LeavesTest::rich, x -> x.lay(v, 0, 0), BAD);
        leaves("lay(0, " + v + ", 0)", LeavesTest::rich, x -> x.lay(0, v, 0), -12);
        leaves("lay(3, " + v + ", 0)", LeavesTest::rich, x -> x.lay(3, v, 0), -11);
        leaves("read(" + v + ", 0, 0, 0)", LeavesTest::rich, x -> x.read(v, 0, 0, 0), BAD);
        leaves("read(0, " + v + ", 0, 0)", LeavesTest::rich, x -> x.read(0, v, 0, 0), BAD);
        leaves("read(0, 0, 0, " + v + ")", LeavesTest::rich, x -> x.read(0, 0, 0, v), BAD);
    }

    private static void changed() {
        Rows.sentence("9: KIND, HOUSE, WANT, SLACK of a MEMBER becomes v, and nothing else");
        int[] to = {2, 1, 19, 18};
        for (int i = 0; i < 6; i++) {
            for (int what = 0; what <= 3; what++) {
                int m = i;
                int w = what;
                int v = rich().member(m, w) == to[w] ? to[w] - 1 : to[w];
                changes("alter(" + m + ", " + w + ", " + v + ")", LeavesTest::rich, x -> x.alter(m, w, v), rich().member(m, w), due -> {
                    List<Long> parts = new ArrayList<>(due.get("member " + m));
                    parts.set(w, (long) v);
                    due.put("member " + m, parts);
                });
            }
        }
        Rows.sentence("10: THE MOTION becomes v, and nothing else");
        for (int v = 0; v <= 20; v += 4) {
            long motion = v;
            changes("word(" + v + ")", LeavesTest::rich, x -> x.word((int) motion), 13, due -> put(due, "motion", motion));
        }
        Rows.sentence("11: a MEMBER more, plain, SLACK 0, and nothing else");
        changes("seat(1, 5)", LeavesTest::stuck, x -> x.seat(1, 5), 5, due -> {
            put(due, "members", 5);
            due.put("member 4", List.of(0L, 1L, 5L, 0L));
        });
        Rows.sentence("12: MEMBERS are the first n alone, and nothing else");
        for (int n = 0; n <= 6; n++) {
            int first = n;
            changes("clear(" + n + ")", LeavesTest::rich, x -> x.clear(first), 6, due -> keepMembers(due, first));
        }
    }

    private static void days() {
        Rows.sentence("13: n DAYS: SLACK, THE MOTION, DAY, AMENDMENTS, and nothing else");
        for (int n = 0; n <= 30; n += 5) {
            int passed = n;
            WalnutHouses asked = rich();
            changes("days(" + n + ")", LeavesTest::rich, x -> x.days(passed), asked.runs(n, 1), due -> {
                put(due, "motion", asked.runs(passed, 0));
                put(due, "day", asked.rule(1) + passed);
                put(due, "amendments", asked.rule(6) + asked.runs(passed, 1));
                for (int i = 0; i < 6; i++) {
                    List<Long> parts = new ArrayList<>(due.get("member " + i));
                    parts.set(3, (long) asked.ahead(i, passed));
                    due.put("member " + i, parts);
                }
            });
        }
    }

    private static void seen() {
        Rows.sentence("27, 28: what is SEEN, and nothing else");
        changes("see(11, 11)", LeavesTest::rich, x -> x.see(11, 11), 4, due -> due.put("seen", List.of(4L, 2L)));
        changes("see(11, 10)", LeavesTest::rich, x -> x.see(11, 10), 4, due -> due.put("seen", List.of(4L, 0L)));
        leaves("see(11, 10), forget(3)", LeavesTest::rich, x -> x.see(11, 10) + x.forget(3), 8);
        for (int n = 0; n <= 3; n++) {
            int first = n;
            changes("forget(" + n + ")", LeavesTest::rich, x -> x.forget(first), 3, due -> due.put("seen", List.of((long) first, 2L)));
        }
    }

    private static void images() {
        Rows.sentence("33, 34: an IMAGE alone; MEMBERS, THE MOTION, DAY, AMENDMENTS, what was SEEN, and nothing else");
        for (int k = 0; k < 2; k++) {
            int image = k;
            changes("keep(" + k + ")", LeavesTest::rich, x -> x.keep(image), 1, due -> {
                due.put("image " + image, due.get("day"));
                putNut(due, "", "image " + image + " ");
            });
            changes("back(" + k + ")", LeavesTest::rich, x -> x.back(image), 3 + 2 * k, due -> putNut(due, "image " + image + " ", ""));
            changes("keep(" + k + ") of a new one", WalnutHouses::new, x -> x.keep(image), 0, due -> {
                put(due, "images", 1);
                put(due, "image " + image, 0);
                putNut(due, "", "image " + image + " ");
                // what is gone back to shows in place of that which was looked at last
                if (image == 0) {
                    for (String part : new String[] {"day", "motion", "amendments", "members", "seen", "member 0", "member 1"}) {
                        due.put("image 1 " + part, null);
                    }
                }
            });
        }
    }

    private static void sheets() {
        Rows.sentence("35, 36: one SHEET, and nothing else");
        for (int k = 0; k < 4; k++) {
            int on = k;
            changes("sheet(" + k + ", 1, 7)", LeavesTest::rich, x -> x.sheet(on, 1, 7), 1, due -> {
                due.put("sheet " + on, null);
                if (on == 0) {
                    put(due, "cells of sheet 0", 7);
                }
            });
            if (k < 3) {
                changes("lay(" + k + ", 1, 20)", LeavesTest::rich, x -> x.lay(on, 1, 20), 1, due -> due.put("sheet " + on, null));
            }
        }
        // a CELL is laid as it was: nothing at all is changed then
        for (int c = 0; c < 40; c++) {
            int cell = c;
            leaves("lay(1, " + c + ", ..)", LeavesTest::rich, x -> x.lay(1, cell, cell % 2 == 0 ? cell / 2 % 6 : cell / 2), 1);
        }
    }

    private static void reads() {
        Rows.sentence("37, 38: WANTS that came, torn(), and nothing else");
        changes("read(0, 0, 0, 3)", LeavesTest::rich, x -> x.read(0, 0, 0, 3), 3, due -> came(due, 0, 14, 12, 10));
        changes("read(0, 0, 0, 4)", LeavesTest::rich, x -> x.read(0, 0, 0, 4), 3, due -> came(due, 2, 14, 12, 10));
        changes("read(0, 0, -1, 4)", LeavesTest::rich, x -> x.read(0, 0, -1, 4), 0, due -> came(due, 2));
        changes("read(0, 1, 0, 4)", LeavesTest::rich, x -> x.read(0, 1, 0, 4), 0, due -> came(due, 3));
        changes("read(3, 0, 0, 4)", LeavesTest::rich, x -> x.read(3, 0, 0, 4), 0, due -> came(due, 1));
        changes("read(0, 0, 0, 0)", LeavesTest::rich, x -> x.read(0, 0, 0, 0), 0, due -> came(due, 0));
        leaves("read(1, 1, 27, 1)", LeavesTest::rich, x -> x.read(1, 1, 27, 1), -20);
        leaves("read(1, 1, 9, 3)", LeavesTest::rich, x -> x.read(1, 1, 9, 3), -22);
        leaves("read(1, 1, 0, 6), 4 MEMBERS", LeavesTest::stuck, x -> x.read(1, 1, 0, 6), -24);
    }

    /** The first MEMBERS want what came. */
    private static void came(Map<String, List<Long>> due, int torn, long... wants) {
        put(due, "torn", torn);
        for (int i = 0; i < wants.length; i++) {
            List<Long> parts = new ArrayList<>(due.get("member " + i));
            parts.set(2, wants[i]);
            due.put("member " + i, parts);
        }
    }
}
