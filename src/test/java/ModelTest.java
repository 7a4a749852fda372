import java.math.BigInteger;
import java.util.ArrayList;
import java.util.List;
import java.util.Random;
import java.util.function.Predicate;
import java.util.regex.Matcher;
import java.util.regex.Pattern;

/** Long runs of calls by fixed seeds, against a second reading of the document that is written another way. */
public final class ModelTest {
    private static final int RUNS = 3000;
    /** An object is used for 512 calls at most; a text at the end takes some 200 of them. */
    private static final int CALLS = 300;
    /** One run of so many begins late, near DAY 999. */
    private static final int LATE_EACH = 10;
    private static final int BAD = -1, STATE = -2, FULL = -3, NONE = -4;

    record Member(int kind, int house, int want, int slack) {
        Member with(int what, int v) {
            return new Member(what == 0 ? v : kind, what == 1 ? v : house, what == 2 ? v : want, what == 3 ? v : slack);
        }

        int part(int what) {
            return new int[] {kind, house, want, slack}[what];
        }

        boolean isFor(int motion) {
            return Math.abs(motion - want) <= slack;
        }

        int pull(int motion) {
            int far = Math.abs(want - motion);
            int towards = want > motion ? 1 : want < motion ? -1 : 0;
            return switch (kind) {
                case 0 -> towards;
                case 1 -> towards + towards;
                case 2 -> far > 2 ? towards : 0;
                default -> far > 2 ? -towards : 0;
            };
        }

        Member tired() {
            int by = kind == 1 ? 0 : kind == 0 ? 1 : kind;
            return with(3, Math.min(20, slack + by));
        }
    }

    record Seen(int n, int v) { }

    /** A walnut that is never changed: each DAY makes a new one. */
    record Walnut(List<Member> members, int motion, int day, int amendments, List<Seen> seen) {
        Walnut members(List<Member> m) {
            return new Walnut(m, motion, day, amendments, seen);
        }

        Walnut motion(int m) {
            return new Walnut(members, m, day, amendments, seen);
        }

        Walnut seen(List<Seen> s) {
            return new Walnut(members, motion, day, amendments, s);
        }

        Walnut with(int i, int what, int v) {
            List<Member> changed = new ArrayList<>(members);
            changed.set(i, members.get(i).with(what, v));
            return members(changed);
        }

        Walnut without(int i) {
            List<Member> fewer = new ArrayList<>(members);
            fewer.remove(i);
            return members(fewer);
        }

        int votes(int house, boolean isFor) {
            return (int) members.stream().filter(m -> m.house == house && m.isFor(motion) == isFor).count();
        }

        boolean agrees(int house) {
            return members.stream().noneMatch(m -> m.house == house) || votes(house, true) > votes(house, false);
        }

        boolean carried() {
            return agrees(0) && agrees(1);
        }

        int pulls(int house) {
            return members.stream().filter(m -> m.house == house).mapToInt(m -> m.pull(motion)).sum();
        }

        int bits(Predicate<Member> which) {
            int bits = 0;
            for (int i = 0; i < members.size(); i++) {
                bits += which.test(members.get(i)) ? 1 << i : 0;
            }
            return bits;
        }

        int sum(int what) {
            return members.stream().mapToInt(m -> m.part(what)).sum();
        }

        Walnut idle() {
            return new Walnut(members, motion, day + 1, amendments, seen);
        }

        Walnut next() {
            if (carried()) {
                return idle();
            }
            int sitting = day & 1;
            List<Member> tired = new ArrayList<>();
            for (Member m : members) {
                tired.add(m.house == sitting && !m.isFor(motion) ? m.tired() : m);
            }
            int pulls = pulls(sitting);
            int to = pulls > 0 && motion < 20 ? motion + 1 : pulls < 0 && motion > 0 ? motion - 1 : motion;
            return new Walnut(tired, to, day + 1, Math.min(999, amendments + (to == motion ? 0 : 1)), seen);
        }

        Walnut after(int n) {
            return n == 0 ? this : next().after(n - 1);
        }

        /** How often THE MOTION is another than the DAY before. */
        int changes(int n) {
            int changes = 0;
            Walnut w = this;
            for (int d = 0; d < n; d++) {
                Walnut then = w.next();
                changes += then.motion == w.motion ? 0 : 1;
                w = then;
            }
            return changes;
        }

        int carries() {
            for (int n = 0; n <= 60; n++) {
                if (after(n).carried()) {
                    return n;
                }
            }
            return 1000;
        }

        boolean asSeen() {
            return seen.stream().allMatch(s -> after(s.n).motion == s.v);
        }
    }

    static final class Misread extends Exception {
        private static final long serialVersionUID = 1;
        final int place, fault;

        Misread(int place, int fault) {
            this.place = place;
            this.fault = fault;
        }
    }

    /** The text by expressions: what is left is matched from the place on. */
    static final class Text {
        private static final Pattern TOKEN = Pattern.compile(" *(?:([a-z]+)|([0-9]+)|(;)|\\z)");
        private static final List<String> WORDS = List.of("plain", "whip", "doubter", "maggot", "motion");
        final String tape;
        int place = 0, from = 0, lines = 0, motion = -1;
        final List<Member> members = new ArrayList<>();

        Text(String tape) {
            this.tape = tape;
        }

        String token() throws Misread {
            Matcher m = TOKEN.matcher(tape).region(place, tape.length());
            from = place;
            while (from < tape.length() && tape.charAt(from) == ' ') {
                from++;
            }
            if (!m.lookingAt() || m.group(2) != null && m.group(2).length() > 2) {
                throw new Misread(from, 1);
            }
            place = m.end();
            return tape.substring(from, place);
        }

        int number(int top) throws Misread {
            String t = token();
            if (!t.matches("[0-9]+")) {
                throw new Misread(from, 2);
            }
            if (Integer.parseInt(t) > top) {
                throw new Misread(from, 3);
            }
            return Integer.parseInt(t);
        }

        Walnut read() throws Misread {
            for (String t = token(); !t.isEmpty(); t = token()) {
                int word = WORDS.indexOf(t);
                if (word < 0) {
                    throw new Misread(from, 2);
                }
                if (word == 4 && motion >= 0) {
                    throw new Misread(from, 4);
                }
                if (word < 4 && members.size() == 6) {
                    throw new Misread(from, 5);
                }
                if (word == 4) {
                    motion = number(20);
                } else {
                    members.add(new Member(word, number(1), number(20), number(20)));
                }
                if (!token().equals(";")) {
                    throw new Misread(from, 2);
                }
                lines++;
            }
            return new Walnut(members, motion < 0 ? 10 : motion, 0, 0, List.of());
        }
    }

    /** The calls, answered the plain way; here the machine itself finds what is wrong with a SHEET. */
    static final class Model {
        String tape = "";
        int fault = 0, torn = 0;
        Walnut nut = new Walnut(List.of(), 10, 0, 0, List.of());
        final Walnut[] images = new Walnut[2];
        final Object[] sheets = new Object[4];

        static boolean in(int v, int low, int high) {
            return low <= v && v <= high;
        }

        boolean is(int i) {
            return in(i, 0, nut.members.size() - 1);
        }

        int text() {
            Text t = new Text(tape);
            tape = "";
            try {
                nut = t.read();
                fault = 0;
                images[0] = images[1] = null;
                return t.lines;
            } catch (Misread m) {
                fault = m.fault;
                return -10 - m.place;
            }
        }

        int alter(int i, int what, int v) {
            if (!is(i) || !in(what, 0, 3) || !in(v, 0, new int[] {3, 1, 20, 20}[what])) {
                return BAD;
            }
            int was = nut.members.get(i).part(what);
            nut = nut.with(i, what, v);
            return was;
        }

        int best(List<Walnut> tried, int from, int what) {
            int at = NONE;
            int days = from;
            for (int v = 0; v < tried.size(); v++) {
                int d = tried.get(v).carries();
                if (d < days) {
                    days = d;
                    at = v;
                }
            }
            return at == NONE ? NONE : what == 0 ? at : days;
        }

        int swing(int i) {
            int n = 0;
            int house = nut.members.get(i).house;
            for (int v = 0; v <= 20; v++) {
                boolean[] agrees = new boolean[2];
                for (int own = 0; own < 2; own++) {
                    int lead = own == 1 ? 1 : -1;
                    for (int j = 0; j < nut.members.size(); j++) {
                        if (j != i && nut.members.get(j).house == house) {
                            lead += nut.members.get(j).isFor(v) ? 1 : -1;
                        }
                    }
                    agrees[own] = lead > 0;
                }
                n += agrees[1] && !agrees[0] ? 1 : 0;
            }
            return n;
        }

        BigInteger[] odds(Walnut w, int v, int n, boolean mean) {
            if (n == 0) {
                int is = mean ? w.motion : w.carried() ? 1 : 0;
                return new BigInteger[] {BigInteger.valueOf(is), BigInteger.ONE};
            }
            BigInteger[] idle = odds(w.idle(), v, n - 1, mean);
            BigInteger[] sits = odds(w.next(), v, n - 1, mean);
            BigInteger above = idle[0].multiply(sits[1]).multiply(BigInteger.valueOf(v))
                .add(sits[0].multiply(idle[1]).multiply(BigInteger.valueOf(10 - v)));
            BigInteger below = idle[1].multiply(sits[1]).multiply(BigInteger.TEN);
            BigInteger by = above.gcd(below);
            return new BigInteger[] {above.divide(by), below.divide(by)};
        }

        long fraction(int v, int n, int what, boolean mean) {
            if (!in(v, 0, 10) || !in(n, 0, 8) || !in(what, 0, 1)) {
                return BAD;
            }
            return odds(nut, v, n, mean)[what].longValueExact();
        }

        int asSeen(int i, int what, int top) {
            if (!is(i)) {
                return BAD;
            }
            int bits = 0;
            for (int v = 0; v <= top; v++) {
                bits += nut.with(i, what, v).asSeen() ? 1 << v : 0;
            }
            return bits;
        }

        int ask(int i, int what) {
            if (!is(i) || !in(what, 0, 1)) {
                return BAD;
            }
            List<Walnut> left = new ArrayList<>();
            for (int v = 0; v <= 20; v++) {
                if (nut.with(i, 2, v).asSeen()) {
                    left.add(nut.with(i, 2, v));
                }
            }
            int fewest = left.size();
            int at = NONE;
            for (int d = 0; d <= 20; d++) {
                int[] there = new int[21];
                for (int w = 0; w < left.size(); w++) {
                    there[left.get(w).motion]++;
                    left.set(w, left.get(w).next());
                }
                int worst = 0;
                for (int t : there) {
                    worst = Math.max(worst, t);
                }
                if (worst < fewest) {
                    fewest = worst;
                    at = d;
                }
            }
            return at == NONE ? NONE : what == 0 ? at : fewest;
        }

        int drift(int seed, int n, int what) {
            if (!in(n, 1, 60) || !in(what, 0, 1)) {
                return BAD;
            }
            if (nut.members.isEmpty()) {
                return STATE;
            }
            Walnut w = nut;
            int changes = 0;
            BigInteger s = BigInteger.valueOf(seed);
            for (int d = 0; d < n; d++) {
                s = s.multiply(BigInteger.valueOf(1103515245)).add(BigInteger.valueOf(12345));
                int got = s.shiftRight(16).mod(BigInteger.valueOf(32768)).intValue();
                w = w.with(got % nut.members.size(), 2, got / 8 % 21);
                changes += w.changes(1);
                w = w.next();
            }
            return what == 0 ? w.motion : changes;
        }

        int sheet(int k, int lane, int n) {
            if (!in(k, 0, 3) || !in(lane, 0, 2) || n > 40) {
                return BAD;
            }
            try {
                sheets[k] = lane == 0 ? (Object) new byte[n] : lane == 1 ? new short[n] : new int[n];
                return 1;
            } catch (NegativeArraySizeException e) {
                return -14;
            }
        }

        int lay(int k, int i, int v) {
            if (!in(k, 0, 3)) {
                return BAD;
            }
            try {
                if (sheets[k] instanceof byte[] b) {
                    b[i] = (byte) v;
                } else if (sheets[k] instanceof short[] s) {
                    s[i] = (short) v;
                } else {
                    ((int[]) sheets[k])[i] = v;
                }
                return 1;
            } catch (NullPointerException e) {
                return -11;
            } catch (ArrayIndexOutOfBoundsException e) {
                return -12;
            }
        }

        int cell(int k, int lane, int i) {
            return lane == 0 ? ((byte[]) sheets[k])[i] : lane == 1 ? ((short[]) sheets[k])[i] : ((int[]) sheets[k])[i];
        }

        int read(int k, int lane, int f, int n) {
            if (!in(k, 0, 3) || !in(lane, 0, 2) || !in(n, 0, 20)) {
                return BAD;
            }
            Walnut before = nut;
            int came = 0;
            int found = 0;
            try {
                for (; came < n; came++) {
                    int i = cell(k, lane, f + 2 * came);
                    int want = cell(k, lane, f + 2 * came + 1);
                    if (alter(i, 2, want) == BAD) {
                        nut = before;
                        return -20 - came;
                    }
                }
            } catch (NullPointerException e) {
                found = 1;
            } catch (ArrayIndexOutOfBoundsException e) {
                found = 2;
            } catch (ClassCastException e) {
                found = 3;
            }
            torn = found;
            return came;
        }

        int cells() {
            Object o = sheets[0];
            return o == null ? NONE : java.lang.reflect.Array.getLength(o);
        }
    }

    private final Random random;
    private final WalnutHouses x = new WalnutHouses();
    private final Model m = new Model();
    private final StringBuilder told = new StringBuilder();
    private int made = 0;
    private int wrong = 0;

    ModelTest(long seed) {
        random = new Random(seed);
    }

    /** Mostly a number of 0 to top, at times one outside. */
    private int pick(int top) {
        int[] odd = {-1, top + 1, Integer.MIN_VALUE, Integer.MAX_VALUE};
        return random.nextInt(24) == 0 ? odd[random.nextInt(4)] : random.nextInt(top + 1);
    }

    private void same(String call, long got, long due) {
        made++;
        told.append(call).append(" = ").append(got).append('\n');
        if (got != due) {
            wrong++;
            System.out.println(told + "due is " + due);
        }
    }

    private void call() {
        switch (random.nextInt(16)) {
            case 0, 1, 2 -> change();
            case 3, 4 -> look();
            case 5 -> whole();
            case 6, 7 -> ahead();
            case 8, 9 -> best();
            case 10 -> odds();
            case 11, 12 -> seen();
            case 13 -> image();
            default -> sheets();
        }
    }

    /** A quarrel of two whips that has gone on until late, so that the run goes on where DAY and AMENDMENTS end. */
    private void late() {
        m.nut = new Walnut(List.of(new Member(1, 0, 0, 0), new Member(1, 1, 20, 0)), 10, 0, 0, List.of());
        x.seat(0, 0);
        x.alter(0, 0, 1);
        x.seat(1, 20);
        x.alter(1, 0, 1);
        for (int n = 0; n < 32; n++) {
            pass(30);
        }
        pass(random.nextInt(40));
    }

    private void pass(int n) {
        int due = !Model.in(n, 0, 30) ? BAD : m.nut.day + n >= 1000 ? FULL : m.nut.changes(n);
        m.nut = due < 0 ? m.nut : m.nut.after(n);
        same("days(" + n + ")", x.days(n), due);
    }

    private String oneOf(String... parts) {
        return parts[random.nextInt(parts.length)];
    }

    private String line() {
        int top = random.nextInt(12) == 0 ? 101 : 21;
        String name = oneOf("plain", "whip", "doubter", "maggot", "plain", "whip", "doubter", "maggot", "motion");
        String gap = oneOf(" ", " ", "  ", "");
        StringBuilder line = new StringBuilder(name).append(gap);
        if (name.equals("motion")) {
            line.append(random.nextInt(top));
        } else {
            line.append(random.nextInt(random.nextInt(20) == 0 ? 3 : 2)).append(' ').append(random.nextInt(top)).append(' ')
                .append(random.nextInt(random.nextBoolean() ? 5 : top));
        }
        return line.append(oneOf("", " ")).append(";").append(oneOf("", "", " ")).toString();
    }

    /** A text, at times with a letter that is lost, put in, or put in place of another. */
    private void whole() {
        StringBuilder text = new StringBuilder();
        for (int lines = random.nextInt(9); lines > 0; lines--) {
            text.append(line());
        }
        if (random.nextInt(3) == 0 && text.length() > 0) {
            int at = random.nextInt(text.length());
            char c = oneOf("a", "z", "0", "9", ";", " ", "/", ":", "`", "{", "A", "\t", "\0", "\177").charAt(0);
            switch (random.nextInt(4)) {
                case 0 -> text.deleteCharAt(at);
                case 1 -> text.insert(at, c);
                case 2 -> text.setCharAt(at, c);
                default -> text.setLength(at);
            }
        }
        for (char c : text.toString().toCharArray()) {
            feed(c);
        }
        if (random.nextInt(5) == 0) {
            feed(pick(127));
            int n = pick(m.tape.length());
            int due = Model.in(n, 0, m.tape.length()) ? m.tape.length() : BAD;
            m.tape = due == BAD ? m.tape : m.tape.substring(0, n);
            same("end(" + n + ")", x.end(n), due);
        }
        if (random.nextInt(20) != 0) {
            same("text()", x.text(), m.text());
            same("fault()", x.fault(), m.fault);
        }
    }

    private void feed(int c) {
        int due = !Model.in(c, 0, 127) ? BAD : m.tape.length() >= 160 ? FULL : m.tape.length() + 1;
        m.tape += due < 0 ? "" : String.valueOf((char) c);
        same("feed(" + c + ")", x.feed(c), due);
    }

    private void change() {
        int i = pick(5), a = pick(3), v = pick(20);
        List<Member> members = m.nut.members;
        switch (random.nextInt(6)) {
            case 0, 1 -> {
                int value = random.nextBoolean() ? v : pick(3);
                same("alter(" + i + ", " + a + ", " + value + ")", x.alter(i, a, value), m.alter(i, a, value));
            }
            case 2 -> {
                int due = Model.in(v, 0, 20) ? m.nut.motion : BAD;
                m.nut = due == BAD ? m.nut : m.nut.motion(v);
                same("word(" + v + ")", x.word(v), due);
            }
            case 3 -> {
                int h = pick(1);
                int due = !Model.in(h, 0, 1) || !Model.in(v, 0, 20) ? BAD : members.size() == 6 ? FULL : members.size() + 1;
                if (due > 0) {
                    List<Member> more = new ArrayList<>(members);
                    more.add(new Member(0, h, v, 0));
                    m.nut = m.nut.members(more);
                }
                same("seat(" + h + ", " + v + ")", x.seat(h, v), due);
            }
            case 4 -> {
                int n = random.nextInt(3) == 0 ? pick(6) : members.size() - 1;
                int due = Model.in(n, 0, members.size()) ? members.size() : BAD;
                m.nut = due == BAD ? m.nut : m.nut.members(members.subList(0, n));
                same("clear(" + n + ")", x.clear(n), due);
            }
            default -> {
                pass(random.nextBoolean() ? pick(30) : pick(3));
            }
        }
    }

    private void look() {
        Walnut w = m.nut;
        int what = pick(6), i = pick(5), h = pick(1);
        boolean is = m.is(i);
        Member who = is ? w.members.get(i) : null;
        same("rule(" + what + ")", x.rule(what), switch (what) {
            case 0 -> w.members.size();
            case 1 -> w.day;
            case 2 -> w.motion;
            case 3 -> w.carried() ? 1 : 0;
            case 4 -> (w.agrees(0) ? 1 : 0) | (w.agrees(1) ? 2 : 0);
            case 5 -> w.bits(v -> v.isFor(w.motion));
            case 6 -> w.amendments;
            default -> BAD;
        });
        same("member(" + i + ", " + what + ")", x.member(i, what), !is ? BAD : switch (what) {
            case 0, 1, 2, 3 -> who.part(what);
            case 4 -> who.isFor(w.motion) ? 1 : 0;
            case 5 -> 2 + who.pull(w.motion);
            default -> BAD;
        });
        same("house(" + h + ", " + what + ")", x.house(h, what), !Model.in(h, 0, 1) ? BAD : switch (what) {
            case 0 -> w.bits(v -> v.house == h);
            case 1 -> w.votes(h, true);
            case 2 -> w.votes(h, false);
            case 3 -> 20 + w.pulls(h);
            default -> BAD;
        });
        same("count(" + what + ")", x.count(what), switch (what) {
            case 0 -> w.seen.size();
            case 1 -> (m.images[0] == null ? 0 : 1) + (m.images[1] == null ? 0 : 1);
            case 2 -> m.tape.length();
            case 3 -> m.cells();
            case 4 -> w.sum(2);
            case 5 -> w.sum(3);
            default -> BAD;
        });
    }

    private void ahead() {
        int n = random.nextBoolean() ? pick(60) : pick(8), what = pick(4), i = pick(5);
        boolean days = Model.in(n, 0, 60);
        Walnut w = days ? m.nut.after(n) : m.nut;
        same("runs(" + n + ", " + what + ")", x.runs(n, what), !days ? BAD : switch (what) {
            case 0 -> w.motion;
            case 1 -> m.nut.changes(n);
            case 2 -> w.carried() ? 1 : 0;
            case 3 -> w.sum(3);
            case 4 -> (w.agrees(0) ? 1 : 0) | (w.agrees(1) ? 2 : 0);
            default -> BAD;
        });
        same("ahead(" + i + ", " + n + ")", x.ahead(i, n), !days || !m.is(i) ? BAD : w.members.get(i).slack);
        int carries = m.nut.carries();
        same("carries()", x.carries(), carries > 60 ? NONE : carries);
        int seed = random.nextInt();
        same("drift(" + seed + ", " + n + ", " + what + ")", x.drift(seed, n, what), m.drift(seed, n, what));
    }

    private List<Walnut> tried(int i, int what, int top) {
        List<Walnut> all = new ArrayList<>();
        for (int v = 0; v <= top; v++) {
            all.add(what < 0 ? m.nut.motion(v) : m.nut.with(i, what, v));
        }
        return all;
    }

    private void best() {
        int what = pick(1), i = pick(Math.max(0, m.nut.members.size() - 1)), n = random.nextBoolean() ? pick(60) : pick(8);
        boolean is = m.is(i), asked = Model.in(what, 0, 1);
        switch (random.nextInt(8)) {
            case 0 -> same("wording(" + what + ")", x.wording(what), asked ? m.best(tried(0, -1, 20), 61, what) : BAD);
            case 1 -> {
                int most = -1, at = 0;
                for (int v = 20; v >= 0; v--) {
                    int wording = v;
                    int votes = Integer.bitCount(m.nut.bits(w -> w.isFor(wording)));
                    at = votes >= most ? v : at;
                    most = Math.max(most, votes);
                }
                same("middle(" + what + ")", x.middle(what), what == 0 ? at : what == 1 ? most : BAD);
            }
            case 2 -> same("swing(" + i + ")", x.swing(i), is ? m.swing(i) : BAD);
            case 3, 4 -> {
                List<Walnut> fewer = new ArrayList<>();
                List<Walnut> crossed = new ArrayList<>();
                for (int j = 0; j < m.nut.members.size(); j++) {
                    fewer.add(m.nut.without(j));
                    crossed.add(m.nut.with(j, 1, 1 - m.nut.members.get(j).house));
                }
                int now = m.nut.carries();
                same("lose(" + what + ")", x.lose(what), asked ? m.best(fewer, Math.min(61, now), what) : BAD);
                same("cross(" + what + ")", x.cross(what), asked ? m.best(crossed, Math.min(61, now), what) : BAD);
            }
            case 5 -> {
                int due = BAD;
                if (is && Model.in(n, 0, 60)) {
                    due = NONE;
                    for (int s = 20; s >= 0; s--) {
                        due = m.nut.with(i, 3, s).after(n).carried() ? s : due;
                    }
                }
                same("give(" + i + ", " + n + ")", x.give(i, n), due);
            }
            case 6 -> same("mind(" + i + ", " + what + ")", x.mind(i, what), is && asked ? m.best(tried(i, 2, 20), 61, what) : BAD);
            default -> same("kind(" + i + ", " + what + ")", x.kind(i, what), is && asked ? m.best(tried(i, 0, 3), 61, what) : BAD);
        }
    }

    private void odds() {
        int v = pick(10), n = random.nextInt(6) == 0 ? pick(8) : pick(5), what = pick(1);
        same("luck(" + v + ", " + n + ", " + what + ")", x.luck(v, n, what), m.fraction(v, n, what, false));
        same("mean(" + v + ", " + n + ", " + what + ")", x.mean(v, n, what), m.fraction(v, n, what, true));
    }

    private void seen() {
        int n = pick(20), v = pick(20), i = pick(Math.max(0, m.nut.members.size() - 1)), what = pick(1);
        List<Seen> seen = m.nut.seen;
        switch (random.nextInt(5)) {
            case 0, 1 -> {
                // mostly what will be, or nothing would be left
                int motion = Model.in(n, 0, 20) && random.nextInt(8) != 0 ? m.nut.after(n).motion : v;
                int due = !Model.in(n, 0, 20) || !Model.in(motion, 0, 20) ? BAD : seen.size() == 6 ? FULL : seen.size() + 1;
                if (due > 0) {
                    List<Seen> more = new ArrayList<>(seen);
                    more.add(new Seen(n, motion));
                    m.nut = m.nut.seen(more);
                }
                same("see(" + n + ", " + motion + ")", x.see(n, motion), due);
            }
            case 2 -> {
                int left = random.nextBoolean() ? 0 : pick(6);
                int due = Model.in(left, 0, seen.size()) ? seen.size() : BAD;
                m.nut = due == BAD ? m.nut : m.nut.seen(seen.subList(0, left));
                same("forget(" + left + ")", x.forget(left), due);
            }
            default -> {
                same("kinds(" + i + ")", x.kinds(i), m.asSeen(i, 0, 3));
                same("wants(" + i + ")", x.wants(i), m.asSeen(i, 2, 20));
                same("ask(" + i + ", " + what + ")", x.ask(i, what), m.ask(i, what));
            }
        }
    }

    private void image() {
        int k = pick(1);
        boolean is = Model.in(k, 0, 1);
        if (random.nextBoolean()) {
            int due = !is ? BAD : m.images[k] == null ? 0 : 1;
            if (is) {
                m.images[k] = m.nut;
            }
            same("keep(" + k + ")", x.keep(k), due);
        } else {
            int due = !is ? BAD : m.images[k] == null ? STATE : m.images[k].day;
            m.nut = due < 0 ? m.nut : m.images[k];
            same("back(" + k + ")", x.back(k), due);
        }
    }

    private void sheets() {
        int k = pick(3), lane = pick(2), n = pick(random.nextBoolean() ? 40 : 8);
        switch (random.nextInt(8)) {
            case 0 -> {
                int size = random.nextInt(12) == 0 ? -1 - random.nextInt(3) : n;
                same("sheet(" + k + ", " + lane + ", " + size + ")", x.sheet(k, lane, size), m.sheet(k, lane, size));
            }
            case 1, 2, 3, 4 -> {
                int[] values = {random.nextInt(6), random.nextInt(21), random.nextInt(24) - 1, 256 + random.nextInt(6),
                    65536 + random.nextInt(6), random.nextInt()};
                int i = random.nextInt(6) == 0 ? n : random.nextInt(8);
                int v = values[random.nextInt(random.nextInt(4) == 0 ? 6 : 2)];
                same("lay(" + k + ", " + i + ", " + v + ")", x.lay(k, i, v), m.lay(k, i, v));
            }
            default -> {
                int f = random.nextInt(5) == 0 ? pick(40) : random.nextInt(4);
                int times = random.nextInt(5) == 0 ? pick(20) : random.nextInt(4);
                String call = "read(" + k + ", " + lane + ", " + f + ", " + times + ")";
                same(call, x.read(k, lane, f, times), m.read(k, lane, f, times));
                same("torn()", x.torn(), m.torn);
            }
        }
    }

    public static void main(String[] args) {
        int runs = 0;
        int wrong = 0;
        for (int seed = 0; seed < RUNS && wrong == 0; seed++) {
            ModelTest t = new ModelTest(seed);
            if (seed % LATE_EACH == 0) {
                t.late();
            }
            while (t.made < CALLS && t.wrong == 0) {
                t.call();
            }
            wrong += t.wrong;
            runs++;
        }
        System.out.println(wrong == 0 ? runs + " runs are as due" : "run " + (runs - 1) + " is not as due");
        if (wrong != 0) {
            System.exit(1);
        }
    }
}
