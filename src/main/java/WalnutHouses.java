import java.util.Arrays;

/** Walnuts as small parliaments of two houses; ../shared/DOC.md has the numbered promises. */
public final class WalnutHouses {
    public static final int BAD = -1, STATE = -2, FULL = -3, NONE = -4;

    private static final int MOST_MEMBERS = 6;
    private static final int MOST_SEEN = 6;
    private static final int MOST_DAYS = 30;
    private static final int MOST_AHEAD = 60;
    private static final int MOST_LOOK = 20;
    private static final int MOST_LUCK = 8;
    private static final int ODDS = 10;
    private static final int LAST_DAY = 999;
    private static final int MOST_AMENDMENTS = 999;
    private static final int TOP = 20;
    private static final int WORDINGS = TOP + 1;
    private static final int FIRST_MOTION = 10;
    private static final int IMAGES = 2;
    private static final int SHEETS = 4;
    private static final int LANES = 3;
    private static final int MOST_CELLS = 40;
    private static final int MOST_READ = 20;
    private static final int TAPE_BYTES = 160;

    /** What a MEMBER has, as alter() numbers it; THE MOTION stands behind, so that it can be tried likewise. */
    private static final int KIND = 0, HOUSE = 1, WANT = 2, SLACK = 3, MOTION = 4;
    private static final int PARTS = 4;
    private static final int[] TOP_OF = {3, 1, 20, 20, 20};

    private static final int PLAIN = 0, WHIP = 1, DOUBTER = 2, MAGGOT = 3;
    private static final int[] TIRES = {1, 0, 2, 3};

    /** FAULTS of the machine, and where the answers that tell of a FAULT or of a refusal begin. */
    private static final int NULL = 1, INDEX = 2, CAST = 3, SIZE = 4;
    private static final int FAULT_FROM = -10;
    private static final int REFUSED_FROM = -20;

    private final Tape tape = new Tape();
    private final Teller teller = new Teller();
    private final Nut now = new Nut();
    /** What is tried BY DAYS is tried on this one, so that no call makes an object. */
    private final Nut trial = new Nut();
    private final Nut[] images = new Nut[IMAGES];
    private final boolean[] kept = new boolean[IMAGES];
    private final Sheet[] sheets = new Sheet[SHEETS];
    /** THE MOTION behind 0 to 20 DAYS of the latest trial that was traced. */
    private final int[] trace = new int[MOST_LOOK + 1];
    /** By DAYS and by THE MOTION: how many WANTS lead there. */
    private final int[] tally = new int[(MOST_LOOK + 1) * WORDINGS];
    private int textFault = 0;
    private int readFault = 0;

    public WalnutHouses() {
        for (int k = 0; k < IMAGES; k++) {
            images[k] = new Nut();
        }
        for (int k = 0; k < SHEETS; k++) {
            sheets[k] = new Sheet();
        }
    }

    // ---- the text

    public int feed(int c) {
        if (!within(c, 127)) {
            return BAD;
        }
        if (tape.length >= TAPE_BYTES) {
            return FULL;
        }
        tape.bytes[tape.length] = (byte) c;
        tape.length++;
        return tape.length;
    }

    public int end(int n) {
        if (!within(n, tape.length)) {
            return BAD;
        }
        int had = tape.length;
        tape.length = n;
        return had;
    }

    public int text() {
        int answer = teller.tell(tape, trial);
        tape.length = 0;
        textFault = teller.found;
        if (textFault == 0) {
            now.become(trial);
            for (int k = 0; k < IMAGES; k++) {
                kept[k] = false;
            }
        }
        return answer;
    }

    public int fault() {
        return textFault;
    }

    public int rule(int what) {
        switch (what) {
            case 0: return now.members;
            case 1: return now.day;
            case 2: return now.motion;
            case 3: return bit(now.isCarried());
            case 4: return now.agreeingHouses();
            case 5: return now.votersFor(now.motion);
            case 6: return now.amendments;
            default: return BAD;
        }
    }

    public int member(int i, int what) {
        if (!isMember(i)) {
            return BAD;
        }
        switch (what) {
            case KIND:
            case HOUSE:
            case WANT:
            case SLACK: return now.part(i, what);
            case 4: return bit(now.votesFor(i, now.motion));
            case 5: return 2 + now.pull(i);
            default: return BAD;
        }
    }

    public int house(int h, int what) {
        if (!within(h, 1)) {
            return BAD;
        }
        int own = now.membersOf(h);
        int voters = now.votersFor(now.motion);
        switch (what) {
            case 0: return own;
            case 1: return Integer.bitCount(own & voters);
            case 2: return Integer.bitCount(own & ~voters);
            case 3: return 20 + now.pullOf(h);
            default: return BAD;
        }
    }

    // ---- what is changed

    public int alter(int i, int what, int v) {
        if (!canAlter(i, what, v)) {
            return BAD;
        }
        int was = now.part(i, what);
        now.put(i, what, v);
        return was;
    }

    public int word(int v) {
        if (!within(v, TOP)) {
            return BAD;
        }
        int was = now.motion;
        now.motion = v;
        return was;
    }

    public int seat(int house, int want) {
        if (!within(house, 1) || !within(want, TOP)) {
            return BAD;
        }
        if (now.members >= MOST_MEMBERS) {
            return FULL;
        }
        int i = now.addMember(PLAIN);
        now.put(i, HOUSE, house);
        now.put(i, WANT, want);
        return now.members;
    }

    public int clear(int n) {
        if (!within(n, now.members)) {
            return BAD;
        }
        int were = now.members;
        now.members = n;
        return were;
    }

    // ---- days

    public int days(int n) {
        if (!within(n, MOST_DAYS)) {
            return BAD;
        }
        if (now.day + n > LAST_DAY) {
            return FULL;
        }
        return now.passDays(n);
    }

    public int runs(int n, int what) {
        if (!within(n, MOST_AHEAD) || !within(what, 4)) {
            return BAD;
        }
        trial.become(now);
        int amended = trial.passDays(n);
        switch (what) {
            case 0: return trial.motion;
            case 1: return amended;
            case 2: return bit(trial.isCarried());
            case 3: return trial.sumOf(SLACK);
            default: return trial.agreeingHouses();
        }
    }

    public int ahead(int i, int n) {
        if (!isMember(i) || !within(n, MOST_AHEAD)) {
            return BAD;
        }
        trial.become(now);
        trial.passDays(n);
        return trial.part(i, SLACK);
    }

    public int carries() {
        trial.become(now);
        int behind = trial.daysToCarry();
        return behind > MOST_AHEAD ? NONE : behind;
    }

    // ---- what is best

    public int wording(int what) {
        if (!within(what, 1)) {
            return BAD;
        }
        return soonest(0, MOTION, what);
    }

    public int middle(int what) {
        if (!within(what, 1)) {
            return BAD;
        }
        int most = -1;
        int least = 0;
        for (int v = 0; v <= TOP; v++) {
            int voters = Integer.bitCount(now.votersFor(v));
            if (voters > most) {
                most = voters;
                least = v;
            }
        }
        return what == 0 ? least : most;
    }

    public int swing(int i) {
        if (!isMember(i)) {
            return BAD;
        }
        int others = now.membersOf(now.part(i, HOUSE)) & ~(1 << i);
        int decided = 0;
        for (int v = 0; v <= TOP; v++) {
            int voters = now.votersFor(v);
            int votesFor = Integer.bitCount(others & voters);
            int against = Integer.bitCount(others & ~voters);
            if (votesFor + 1 > against && votesFor <= against + 1) {
                decided++;
            }
        }
        return decided;
    }

    public int lose(int what) {
        if (!within(what, 1)) {
            return BAD;
        }
        return soonerWith(true, what);
    }

    public int cross(int what) {
        if (!within(what, 1)) {
            return BAD;
        }
        return soonerWith(false, what);
    }

    public int give(int i, int n) {
        if (!isMember(i) || !within(n, MOST_AHEAD)) {
            return BAD;
        }
        for (int slack = 0; slack <= TOP; slack++) {
            trial.become(now);
            trial.put(i, SLACK, slack);
            trial.passDays(n);
            if (trial.isCarried()) {
                return slack;
            }
        }
        return NONE;
    }

    public int mind(int i, int what) {
        if (!isMember(i) || !within(what, 1)) {
            return BAD;
        }
        return soonest(i, WANT, what);
    }

    public int kind(int i, int what) {
        if (!isMember(i) || !within(what, 1)) {
            return BAD;
        }
        return soonest(i, KIND, what);
    }

    // ---- days without a sitting

    public long luck(int v, int n, int what) {
        if (!within(v, ODDS) || !within(n, MOST_LUCK) || !within(what, 1)) {
            return BAD;
        }
        return byOdds(v, n, what, true);
    }

    public long mean(int v, int n, int what) {
        if (!within(v, ODDS) || !within(n, MOST_LUCK) || !within(what, 1)) {
            return BAD;
        }
        return byOdds(v, n, what, false);
    }

    // ---- from what stood when

    public int see(int n, int v) {
        if (!within(n, MOST_LOOK) || !within(v, TOP)) {
            return BAD;
        }
        if (now.seen >= MOST_SEEN) {
            return FULL;
        }
        now.seenDay[now.seen] = n;
        now.seenMotion[now.seen] = v;
        now.seen++;
        return now.seen;
    }

    public int forget(int n) {
        if (!within(n, now.seen)) {
            return BAD;
        }
        int were = now.seen;
        now.seen = n;
        return were;
    }

    public int kinds(int i) {
        return isMember(i) ? asSeen(i, KIND) : BAD;
    }

    public int wants(int i) {
        return isMember(i) ? asSeen(i, WANT) : BAD;
    }

    public int ask(int i, int what) {
        if (!isMember(i) || !within(what, 1)) {
            return BAD;
        }
        int fewest = tallyWants(i);
        int first = NONE;
        for (int d = 0; d <= MOST_LOOK; d++) {
            int worst = worstLeft(d);
            if (worst < fewest) {
                fewest = worst;
                first = d;
            }
        }
        if (first == NONE) {
            return NONE;
        }
        return what == 0 ? first : fewest;
    }

    // ---- by a seed

    public int drift(int seed, int n, int what) {
        if (n < 1 || n > MOST_AHEAD || !within(what, 1)) {
            return BAD;
        }
        if (now.members < 1) {
            return STATE;
        }
        trial.become(now);
        int state = seed;
        int amended = 0;
        for (int d = 0; d < n; d++) {
            state = state * 1103515245 + 12345;
            int got = (state >>> 16) & 0x7fff;
            trial.put(got % now.members, WANT, got / 8 % WORDINGS);
            amended += trial.passDay(true);
        }
        return what == 0 ? trial.motion : amended;
    }

    // ---- images, sheets

    public int keep(int k) {
        if (!within(k, IMAGES - 1)) {
            return BAD;
        }
        int was = bit(kept[k]);
        images[k].become(now);
        kept[k] = true;
        return was;
    }

    public int back(int k) {
        if (!within(k, IMAGES - 1)) {
            return BAD;
        }
        if (!kept[k]) {
            return STATE;
        }
        now.become(images[k]);
        return now.day;
    }

    public int sheet(int k, int lane, int n) {
        if (!within(k, SHEETS - 1) || !within(lane, LANES - 1) || n > MOST_CELLS) {
            return BAD;
        }
        if (n < 0) {
            return FAULT_FROM - SIZE;
        }
        sheets[k].renew(lane, n);
        return 1;
    }

    public int lay(int k, int i, int v) {
        if (!within(k, SHEETS - 1)) {
            return BAD;
        }
        int found = sheets[k].faultOfCell(i);
        if (found != 0) {
            return FAULT_FROM - found;
        }
        sheets[k].putCell(i, v);
        return 1;
    }

    public int read(int k, int lane, int f, int n) {
        if (!within(k, SHEETS - 1) || !within(lane, LANES - 1) || !within(n, MOST_READ)) {
            return BAD;
        }
        Sheet from = sheets[k];
        trial.become(now);
        int found = 0;
        int came = 0;
        for (int pair = 0; pair < n && found == 0; pair++) {
            int at = f + 2 * pair;
            found = from.faultOfPair(lane, at);
            if (found == 0) {
                int i = from.cells[at];
                int want = from.cells[at + 1];
                if (!canAlter(i, WANT, want)) {
                    return REFUSED_FROM - pair;
                }
                trial.put(i, WANT, want);
                came++;
            }
        }
        now.become(trial);
        readFault = found;
        return came;
    }

    public int torn() {
        return readFault;
    }

    public int count(int what) {
        switch (what) {
            case 0: return now.seen;
            case 1: return bit(kept[0]) + bit(kept[1]);
            case 2: return tape.length;
            case 3: return sheets[0].size == Sheet.NOTHING ? NONE : sheets[0].size;
            case 4: return now.sumOf(WANT);
            case 5: return now.sumOf(SLACK);
            default: return BAD;
        }
    }

    // ---- what several calls share

    private static boolean within(int v, int top) {
        return v >= 0 && v <= top;
    }

    private static int bit(boolean is) {
        return is ? 1 : 0;
    }

    private static int sign(int v) {
        return v > 0 ? 1 : v < 0 ? -1 : 0;
    }

    private boolean isMember(int i) {
        return within(i, now.members - 1);
    }

    private boolean canAlter(int i, int what, int v) {
        return isMember(i) && within(what, SLACK) && within(v, TOP_OF[what]);
    }

    /** Tries all that a part can be: the first by which it is CARRIED soonest (what 0), behind how many DAYS (1). */
    private int soonest(int i, int part, int what) {
        int best = MOST_AHEAD + 1;
        int first = NONE;
        for (int v = 0; v <= TOP_OF[part]; v++) {
            trial.become(now);
            trial.put(i, part, v);
            int behind = trial.daysToCarry();
            if (behind < best) {
                best = behind;
                first = v;
            }
        }
        if (first == NONE) {
            return NONE;
        }
        return what == 0 ? first : best;
    }

    /** Leaves out each MEMBER in turn, or puts him into the other HOUSE, and asks whether that is sooner. */
    private int soonerWith(boolean leftOut, int what) {
        trial.become(now);
        int best = trial.daysToCarry();
        int first = NONE;
        for (int i = 0; i < now.members; i++) {
            trial.become(now);
            if (leftOut) {
                trial.leaveOut(i);
            } else {
                trial.put(i, HOUSE, 1 - now.part(i, HOUSE));
            }
            int behind = trial.daysToCarry();
            if (behind < best) {
                best = behind;
                first = i;
            }
        }
        if (first == NONE) {
            return NONE;
        }
        return what == 0 ? first : best;
    }

    /** Goes through all ways in which DAYS may be without a sitting; a way weighs v or 10 - v for each DAY. */
    private long byOdds(int v, int n, int what, boolean carried) {
        long sum = 0;
        long whole = 0;
        for (int way = 0; way < 1 << n; way++) {
            long weight = weightOf(way, v, n);
            whole += weight;
            if (weight > 0) {
                trial.become(now);
                for (int d = 0; d < n; d++) {
                    trial.passDay((way >> d & 1) == 0);
                }
                sum += weight * (carried ? bit(trial.isCarried()) : trial.motion);
            }
        }
        long common = commonDivisor(whole, sum);
        if (common < 1) {
            return what;
        }
        return what == 0 ? sum / common : whole / common;
    }

    private static long weightOf(int way, int v, int n) {
        long weight = 1;
        for (int d = 0; d < n; d++) {
            weight *= (way >> d & 1) == 1 ? v : ODDS - v;
        }
        return weight;
    }

    private static long commonDivisor(long one, long other) {
        long a = one;
        long b = other;
        for (int step = 0; step < 200 && b != 0; step++) {
            long rest = a % b;
            a = b;
            b = rest;
        }
        return a;
    }

    /** All that a part of a MEMBER can be so that all is as SEEN, as bits. */
    private int asSeen(int i, int part) {
        int bits = 0;
        for (int v = 0; v <= TOP_OF[part]; v++) {
            traceWith(i, part, v);
            if (traceIsAsSeen()) {
                bits |= 1 << v;
            }
        }
        return bits;
    }

    private void traceWith(int i, int part, int v) {
        trial.become(now);
        trial.put(i, part, v);
        for (int d = 0; d <= MOST_LOOK; d++) {
            trace[d] = trial.motion;
            trial.passDay(true);
        }
    }

    private boolean traceIsAsSeen() {
        for (int s = 0; s < now.seen; s++) {
            if (trace[now.seenDay[s]] != now.seenMotion[s]) {
                return false;
            }
        }
        return true;
    }

    /** Tallies where each of the WANTS that are as SEEN leads: how many of these there are. */
    private int tallyWants(int i) {
        Arrays.fill(tally, 0);
        int left = 0;
        for (int want = 0; want <= TOP; want++) {
            traceWith(i, WANT, want);
            if (traceIsAsSeen()) {
                left++;
                for (int d = 0; d <= MOST_LOOK; d++) {
                    tally[d * WORDINGS + trace[d]]++;
                }
            }
        }
        return left;
    }

    private int worstLeft(int d) {
        int worst = 0;
        for (int v = 0; v <= TOP; v++) {
            worst = Math.max(worst, tally[d * WORDINGS + v]);
        }
        return worst;
    }

    /** A walnut: its MEMBERS, THE MOTION, DAY, AMENDMENTS, and what was SEEN. */
    private static final class Nut {
        /** Four to a MEMBER: KIND, HOUSE, WANT, SLACK. */
        private final int[] parts = new int[MOST_MEMBERS * PARTS];
        private final int[] seenDay = new int[MOST_SEEN];
        private final int[] seenMotion = new int[MOST_SEEN];
        private int members = 0;
        private int motion = FIRST_MOTION;
        private int day = 0;
        private int amendments = 0;
        private int seen = 0;

        private void become(Nut other) {
            System.arraycopy(other.parts, 0, parts, 0, parts.length);
            System.arraycopy(other.seenDay, 0, seenDay, 0, seenDay.length);
            System.arraycopy(other.seenMotion, 0, seenMotion, 0, seenMotion.length);
            members = other.members;
            motion = other.motion;
            day = other.day;
            amendments = other.amendments;
            seen = other.seen;
        }

        private void beginAnew() {
            members = 0;
            motion = FIRST_MOTION;
            day = 0;
            amendments = 0;
            seen = 0;
        }

        private int part(int i, int part) {
            return parts[i * PARTS + part];
        }

        private void put(int i, int part, int v) {
            if (part == MOTION) {
                motion = v;
            } else {
                parts[i * PARTS + part] = v;
            }
        }

        /** A MEMBER more, all 0 but his KIND: his number. There must be room for him. */
        private int addMember(int kind) {
            int i = members;
            members++;
            put(i, KIND, kind);
            put(i, HOUSE, 0);
            put(i, WANT, 0);
            put(i, SLACK, 0);
            return i;
        }

        private void leaveOut(int i) {
            int from = (i + 1) * PARTS;
            System.arraycopy(parts, from, parts, i * PARTS, parts.length - from);
            members--;
        }

        private int sumOf(int part) {
            int sum = 0;
            for (int i = 0; i < members; i++) {
                sum += part(i, part);
            }
            return sum;
        }

        private boolean votesFor(int i, int wording) {
            int away = wording - parts[i * PARTS + WANT];
            int slack = parts[i * PARTS + SLACK];
            return away <= slack && -away <= slack;
        }

        private int votersFor(int wording) {
            int bits = 0;
            for (int i = 0; i < members; i++) {
                if (votesFor(i, wording)) {
                    bits |= 1 << i;
                }
            }
            return bits;
        }

        private int membersOf(int house) {
            int bits = 0;
            for (int i = 0; i < members; i++) {
                if (part(i, HOUSE) == house) {
                    bits |= 1 << i;
                }
            }
            return bits;
        }

        private boolean agrees(int house) {
            int own = 0;
            int lead = 0;
            for (int i = 0; i < members; i++) {
                if (part(i, HOUSE) == house) {
                    own++;
                    lead += votesFor(i, motion) ? 1 : -1;
                }
            }
            return own == 0 || lead > 0;
        }

        private int agreeingHouses() {
            return bit(agrees(0)) + 2 * bit(agrees(1));
        }

        private boolean isCarried() {
            return agrees(0) && agrees(1);
        }

        private int pull(int i) {
            int away = part(i, WANT) - motion;
            int plain = sign(away);
            int doubting = Math.abs(away) > 2 ? plain : 0;
            switch (part(i, KIND)) {
                case WHIP: return 2 * plain;
                case DOUBTER: return doubting;
                case MAGGOT: return -doubting;
                default: return plain;
            }
        }

        private int pullOf(int house) {
            int sum = 0;
            for (int i = 0; i < members; i++) {
                if (part(i, HOUSE) == house) {
                    sum += pull(i);
                }
            }
            return sum;
        }

        /** AMENDMENTS in these DAYS; each change counts, also where the number that is kept of all stops at 999. */
        private int passDays(int n) {
            int amended = 0;
            for (int d = 0; d < n; d++) {
                amended += passDay(true);
            }
            return amended;
        }

        private int passDay(boolean sitting) {
            int amended = sitting && !isCarried() ? sit(day % 2) : 0;
            day++;
            return amended;
        }

        private int sit(int house) {
            int sum = 0;
            for (int i = 0; i < members; i++) {
                if (part(i, HOUSE) == house) {
                    sum += pull(i);
                    tire(i);
                }
            }
            // votes and pulls are as THE MOTION was, so it is changed last
            return amend(sign(sum));
        }

        private void tire(int i) {
            if (!votesFor(i, motion)) {
                put(i, SLACK, Math.min(TOP, part(i, SLACK) + TIRES[part(i, KIND)]));
            }
        }

        /** 1, if that changes THE MOTION, else 0. */
        private int amend(int step) {
            int to = Math.max(0, Math.min(TOP, motion + step));
            if (to == motion) {
                return 0;
            }
            motion = to;
            amendments = Math.min(MOST_AMENDMENTS, amendments + 1);
            return 1;
        }

        /** Passes DAYS until it is CARRIED: how many; one more than 60, if it is not. */
        private int daysToCarry() {
            for (int d = 0; d <= MOST_AHEAD; d++) {
                if (isCarried()) {
                    return d;
                }
                passDay(true);
            }
            return MOST_AHEAD + 1;
        }
    }

    /** THE TAPE, and the TOKEN that was read of it last. */
    private static final class Tape {
        private static final int END = 0, NAME = 1, NUMBER = 2, SEMICOLON = 3, WRONG = 4;
        private static final int MOST_FIGURES = 2;

        private final byte[] bytes = new byte[TAPE_BYTES];
        private int length = 0;
        private int token = END;
        private int start = 0;
        private int next = 0;
        private int number = 0;

        private void rewind() {
            next = 0;
        }

        private void readToken() {
            start = next;
            while (start < length && bytes[start] == ' ') {
                start++;
            }
            next = start;
            if (start >= length) {
                token = END;
            } else if (startsWithin('a', 'z')) {
                token = NAME;
                next = endOfRun('a', 'z');
            } else if (startsWithin('0', '9')) {
                next = endOfRun('0', '9');
                readFigures();
            } else {
                token = bytes[start] == ';' ? SEMICOLON : WRONG;
                next = start + 1;
            }
        }

        private boolean startsWithin(char low, char high) {
            return bytes[start] >= low && bytes[start] <= high;
        }

        private int endOfRun(char low, char high) {
            int end = start;
            while (end < length && bytes[end] >= low && bytes[end] <= high) {
                end++;
            }
            return end;
        }

        private void readFigures() {
            token = next - start > MOST_FIGURES ? WRONG : NUMBER;
            number = 0;
            for (int at = start; at < next && token == NUMBER; at++) {
                number = number * 10 + bytes[at] - '0';
            }
        }

        private boolean isNamed(String name) {
            if (token != NAME || next - start != name.length()) {
                return false;
            }
            for (int j = 0; j < name.length(); j++) {
                if (bytes[start + j] != name.charAt(j)) {
                    return false;
                }
            }
            return true;
        }
    }

    /** Reads a text into a walnut; a FAULT stands at the TOKEN that was read last. */
    private static final class Teller {
        private static final int NO_TOKEN = 1, MISPLACED = 2, OUT_OF_BOUNDS = 3, MOTION_AGAIN = 4, TOO_MANY = 5;
        private static final int NO_WORD = -1;

        private int found = 0;
        private boolean motionTold = false;

        /** How many lines, or -10 less the place of the FAULT that was found. */
        private int tell(Tape tape, Nut into) {
            into.beginAnew();
            tape.rewind();
            found = 0;
            motionTold = false;
            int lines = 0;
            tape.readToken();
            while (lines < TAPE_BYTES && tape.token != Tape.END) {
                found = faultOfLine(tape, into);
                if (found != 0) {
                    return FAULT_FROM - tape.start;
                }
                lines++;
                tape.readToken();
            }
            return lines;
        }

        private int faultOfLine(Tape tape, Nut into) {
            if (tape.token == Tape.WRONG) {
                return NO_TOKEN;
            }
            int word = wordOf(tape);
            if (word == NO_WORD) {
                return MISPLACED;
            }
            if (word == MOTION) {
                if (motionTold) {
                    return MOTION_AGAIN;
                }
                motionTold = true;
                return faultOfNumbers(tape, into, 0, MOTION, MOTION);
            }
            if (into.members >= MOST_MEMBERS) {
                return TOO_MANY;
            }
            return faultOfNumbers(tape, into, into.addMember(word), HOUSE, SLACK);
        }

        /** Which line the TOKEN begins: a KIND's number, or MOTION. */
        private static int wordOf(Tape tape) {
            if (tape.isNamed("plain")) {
                return PLAIN;
            }
            if (tape.isNamed("whip")) {
                return WHIP;
            }
            if (tape.isNamed("doubter")) {
                return DOUBTER;
            }
            if (tape.isNamed("maggot")) {
                return MAGGOT;
            }
            return tape.isNamed("motion") ? MOTION : NO_WORD;
        }

        /** A NUMBER for each part from the first to the last, and what ends the line. */
        private static int faultOfNumbers(Tape tape, Nut into, int i, int first, int last) {
            for (int part = first; part <= last; part++) {
                int fault = faultOfToken(tape, Tape.NUMBER);
                if (fault != 0) {
                    return fault;
                }
                if (tape.number > TOP_OF[part]) {
                    return OUT_OF_BOUNDS;
                }
                into.put(i, part, tape.number);
            }
            return faultOfToken(tape, Tape.SEMICOLON);
        }

        private static int faultOfToken(Tape tape, int wanted) {
            tape.readToken();
            if (tape.token == Tape.WRONG) {
                return NO_TOKEN;
            }
            return tape.token == wanted ? 0 : MISPLACED;
        }
    }

    /** A row of CELLS; each lane's values are held as ints, cut when they are laid. */
    private static final class Sheet {
        private static final int NOTHING = -1;
        private static final int BYTES = 0, SHORTS = 1;

        private final int[] cells = new int[MOST_CELLS];
        private int lane = BYTES;
        private int size = NOTHING;

        private void renew(int newLane, int newSize) {
            Arrays.fill(cells, 0);
            lane = newLane;
            size = newSize;
        }

        private int faultOfCell(int i) {
            if (size == NOTHING) {
                return NULL;
            }
            return within(i, size - 1) ? 0 : INDEX;
        }

        private int faultOfPair(int asLane, int i) {
            if (size != NOTHING && asLane != lane) {
                return CAST;
            }
            int fault = faultOfCell(i);
            return fault != 0 ? fault : faultOfCell(i + 1);
        }

        private void putCell(int i, int v) {
            if (lane == BYTES) {
                cells[i] = (byte) v;
            } else if (lane == SHORTS) {
                cells[i] = (short) v;
            } else {
                cells[i] = v;
            }
        }
    }
}
