import java.util.Arrays;

/** The Institute where two parishes hold their in-laws in common. */
public final class PooledInlaws {
    private static final int BEYOND = -1000000001;
    private static final int FULL = -1000000002;
    private static final int KIND = -1000000003;
    private static final int NONE = -1000000004;
    private static final int STATE = -1000000005;
    private static final int MISSING = -1000000006;
    private static final int SIZE = -1000000007;
    private static final int FINDINGS = 7;

    private static final int ROOM = 8;
    private static final int MOST_FIRE = 20;
    private static final int MOST_WARM = 99;
    private static final int MOST_TIMES = 9999;
    private static final int MOST_LOUD = 9;
    private static final int LEAST_WELL = -999;
    private static final int MOST_WELL = 999;
    private static final int LAST_SUNDAY = 9999;
    private static final int NOBODY = -1;

    /** How many SUNDAYS may go at once, or be tried for what is best. */
    private static final int MOST_GO = 60;
    /** How many SUNDAYS AHEAD may be looked. */
    private static final int MOST_AHEAD = 100;

    private static final int SHEETS = 4;
    private static final int SHEET_ROOM = 40;
    private static final int TAPE_ROOM = 120;

    private final Hall hall;
    /** Made over from the hall before each use, so that no call makes rows of its own. */
    private final Hall ahead;
    private final Hall kept;
    private boolean isKept;
    private final Tape tape;
    private final Sheet[] sheets;
    private final int[] findings;

    public PooledInlaws() {
        hall = new Hall();
        ahead = new Hall();
        kept = new Hall();
        isKept = false;
        tape = new Tape();
        sheets = new Sheet[SHEETS];
        for (int s = 0; s < SHEETS; s++) {
            sheets[s] = new Sheet();
        }
        findings = new int[FINDINGS];
    }

    // ---- the institute

    public int fire(int v) {
        if (isOutside(v, 0, MOST_FIRE)) {
            return tell(BEYOND);
        }
        int was = hall.fire;
        hall.fire = v;
        return was;
    }

    public int now(int what) {
        switch (what) {
            case 0:
                return hall.sunday;
            case 1:
                return hall.fire;
            case 2:
                return hall.firstCouple();
            case 3:
                return hall.satOnes();
            case 4:
                return 10000 + hall.wellOfAll();
            case 5:
                return hall.warmOfAll();
            default:
                return tell(BEYOND);
        }
    }

    // ---- in-laws

    public int inlaw(int kind) {
        if (isNoKind(kind)) {
            return tell(BEYOND);
        }
        if (hall.inlaws >= ROOM) {
            return tell(FULL);
        }
        return hall.addInlaw(kind);
    }

    public int of(int inlaw, int what) {
        if (isNoInlaw(inlaw)) {
            return tell(BEYOND);
        }
        switch (what) {
            case 0:
                return hall.kindOf[inlaw];
            case 1:
                return hall.warmOf[inlaw];
            case 2:
                return hall.satOf[inlaw];
            case 3:
                return hall.aloneOf[inlaw];
            case 4:
                return hall.hadOf[inlaw];
            case 5:
                return hall.chillsOf(inlaw);
            default:
                return tell(BEYOND);
        }
    }

    public int with(int inlaw, int couple, int what) {
        if (isNoInlaw(inlaw) || isNoCouple(couple)) {
            return tell(BEYOND);
        }
        switch (what) {
            case 0:
                return hall.charmsOf(inlaw, couple);
            case 1:
                return 100 + hall.doesOf(inlaw, couple);
            case 2:
                return 100 + hall.thawsOf(inlaw, couple);
            default:
                return tell(BEYOND);
        }
    }

    public int set(int inlaw, int what, int v) {
        if (isNoInlaw(inlaw)) {
            return tell(BEYOND);
        }
        switch (what) {
            case 1:
                return put(hall.warmOf, inlaw, v, 0, MOST_WARM);
            case 2:
                return put(hall.satOf, inlaw, v, 0, 1);
            case 3:
                return put(hall.aloneOf, inlaw, v, 0, MOST_TIMES);
            case 4:
                return put(hall.hadOf, inlaw, v, 0, MOST_TIMES);
            default:
                return tell(BEYOND);
        }
    }

    public int turn(int inlaw, int kind) {
        if (isNoInlaw(inlaw)) {
            return tell(BEYOND);
        }
        return put(hall.kindOf, inlaw, kind, 0, Kinds.HOW_MANY - 1);
    }

    public int as(int inlaw, int kind) {
        if (isNoInlaw(inlaw) || isNoKind(kind)) {
            return tell(BEYOND);
        }
        if (!Kinds.isUnder(hall.kindOf[inlaw], kind)) {
            return tell(KIND);
        }
        return hall.warmOf[inlaw];
    }

    // ---- couples

    public int couple(int loud) {
        if (isOutside(loud, 0, MOST_LOUD)) {
            return tell(BEYOND);
        }
        if (hall.couples >= ROOM) {
            return tell(FULL);
        }
        return hall.addCouple(loud);
    }

    public int coupleOf(int couple, int what) {
        if (isNoCouple(couple)) {
            return tell(BEYOND);
        }
        switch (what) {
            case 0:
                return hall.loudOf[couple];
            case 1:
                return 10000 + hall.wellOf[couple];
            case 2:
                return hall.lastOf[couple];
            case 3:
                ahead.become(hall);
                ahead.goOneSunday();
                return ahead.hasOf[couple];
            default:
                return tell(BEYOND);
        }
    }

    public int give(int couple, int what, int v) {
        if (isNoCouple(couple)) {
            return tell(BEYOND);
        }
        switch (what) {
            case 0:
                return put(hall.loudOf, couple, v, 0, MOST_LOUD);
            case 1:
                return put(hall.wellOf, couple, v, LEAST_WELL, MOST_WELL);
            case 2:
                return put(hall.lastOf, couple, v, NOBODY, hall.inlaws - 1);
            default:
                return tell(BEYOND);
        }
    }

    // ---- sundays

    public int sundays(int n) {
        if (isOutside(n, 1, MOST_GO)) {
            return tell(BEYOND);
        }
        if (hall.sunday + n > LAST_SUNDAY) {
            return tell(STATE);
        }
        hall.goSundays(n);
        return hall.warmOfAll();
    }

    public int on(int couple, int n, int what) {
        if (isNoCouple(couple) || isOutside(n, 0, MOST_AHEAD) || isOutside(what, 0, 1)) {
            return tell(BEYOND);
        }
        ahead.become(hall);
        ahead.goSundays(n);
        return what == 0 ? ahead.wellOf[couple] : ahead.lastOf[couple];
    }

    public int then(int inlaw, int n, int what) {
        if (isNoInlaw(inlaw) || isOutside(n, 0, MOST_AHEAD) || isOutside(what, 0, 2)) {
            return tell(BEYOND);
        }
        ahead.become(hall);
        ahead.goSundays(n);
        if (what == 0) {
            return ahead.warmOf[inlaw];
        }
        return what == 1 ? ahead.aloneOf[inlaw] : ahead.hadOf[inlaw];
    }

    public int meets(int couple, int inlaw) {
        if (isNoCouple(couple) || isNoInlaw(inlaw)) {
            return tell(BEYOND);
        }
        ahead.become(hall);
        for (int n = 1; n <= MOST_AHEAD; n++) {
            ahead.goOneSunday();
            if (ahead.hasOf[couple] == inlaw) {
                return n;
            }
        }
        return tell(NONE);
    }

    public int well(int couple, int v) {
        if (isNoCouple(couple) || isOutside(v, LEAST_WELL, MOST_WELL)) {
            return tell(BEYOND);
        }
        ahead.become(hall);
        for (int n = 0; n <= MOST_AHEAD; n++) {
            if (ahead.wellOf[couple] >= v) {
                return n;
            }
            ahead.goOneSunday();
        }
        return tell(NONE);
    }

    public int cold(int inlaw) {
        if (isNoInlaw(inlaw)) {
            return tell(BEYOND);
        }
        ahead.become(hall);
        for (int n = 0; n <= MOST_AHEAD; n++) {
            if (ahead.warmOf[inlaw] == 0) {
                return n;
            }
            ahead.goOneSunday();
        }
        return tell(NONE);
    }

    // ---- what is best

    public int kind(int inlaw, int n) {
        if (isNoInlaw(inlaw) || isOutside(n, 1, MOST_GO)) {
            return tell(BEYOND);
        }
        int best = 0;
        int most = -1;
        for (int k = 0; k < Kinds.HOW_MANY; k++) {
            ahead.become(hall);
            ahead.kindOf[inlaw] = k;
            ahead.goSundays(n);
            if (ahead.hadOf[inlaw] > most) {
                best = k;
                most = ahead.hadOf[inlaw];
            }
        }
        return best;
    }

    public int warm(int inlaw, int n, int v) {
        if (isNoInlaw(inlaw) || isOutside(n, 1, MOST_GO) || isOutside(v, 0, MOST_TIMES)) {
            return tell(BEYOND);
        }
        for (int w = 0; w <= MOST_WARM; w++) {
            ahead.become(hall);
            ahead.warmOf[inlaw] = w;
            ahead.goSundays(n);
            if (ahead.hadOf[inlaw] >= v) {
                return w;
            }
        }
        return tell(NONE);
    }

    public int sit(int n) {
        if (isOutside(n, 1, MOST_GO)) {
            return tell(BEYOND);
        }
        int best = NOBODY;
        int most = 0;
        for (int i = 0; i < hall.inlaws; i++) {
            if (hall.satOf[i] == 0) {
                ahead.become(hall);
                ahead.satOf[i] = 1;
                ahead.goSundays(n);
                int all = ahead.wellOfAll();
                if (best == NOBODY || all > most) {
                    best = i;
                    most = all;
                }
            }
        }
        return best == NOBODY ? tell(NONE) : best;
    }

    public int loud(int couple, int n) {
        if (isNoCouple(couple) || isOutside(n, 1, MOST_GO)) {
            return tell(BEYOND);
        }
        int best = 0;
        int most = LEAST_WELL - 1;
        for (int l = 0; l <= MOST_LOUD; l++) {
            ahead.become(hall);
            ahead.loudOf[couple] = l;
            ahead.goSundays(n);
            if (ahead.wellOf[couple] > most) {
                best = l;
                most = ahead.wellOf[couple];
            }
        }
        return best;
    }

    public int stoke(int n) {
        if (isOutside(n, 1, MOST_GO)) {
            return tell(BEYOND);
        }
        int best = 0;
        int most = -1;
        for (int f = 0; f <= MOST_FIRE; f++) {
            ahead.become(hall);
            ahead.fire = f;
            ahead.goSundays(n);
            int all = ahead.warmOfAll();
            if (all > most) {
                best = f;
                most = all;
            }
        }
        return best;
    }

    public int lonely(int n) {
        if (isOutside(n, 0, MOST_AHEAD)) {
            return tell(BEYOND);
        }
        if (hall.inlaws == 0) {
            return tell(NONE);
        }
        ahead.become(hall);
        ahead.goSundays(n);
        int best = 0;
        for (int i = 1; i < ahead.inlaws; i++) {
            if (ahead.aloneOf[i] > ahead.aloneOf[best]) {
                best = i;
            }
        }
        return best;
    }

    // ---- the text

    public int feed(int bytes, int n) {
        if (isOutside(n, 1, 4)) {
            return tell(BEYOND);
        }
        if (tape.length + n > TAPE_ROOM) {
            return tell(FULL);
        }
        for (int k = n - 1; k >= 0; k--) {
            tape.bytes[tape.length] = (bytes >> (8 * k)) & 255;
            tape.length++;
        }
        return tape.length;
    }

    public int wipe() {
        int had = tape.length;
        tape.length = 0;
        return had;
    }

    public int institute() {
        // The ITEMS come to the hall only once the whole TEXT is seen to have no FAULT.
        ahead.become(hall);
        int answer = tape.tellTo(ahead);
        if (answer >= 0) {
            hall.become(ahead);
        }
        tape.length = 0;
        return answer;
    }

    // ---- sheets

    public int sheet(int s, int bits, int n) {
        if (isNoSheet(s) || (bits != 0 && bits != 8 && bits != 16 && bits != 64)) {
            return tell(BEYOND);
        }
        if (n < 0) {
            return tell(SIZE);
        }
        if (n > SHEET_ROOM) {
            return tell(BEYOND);
        }
        sheets[s].lay(bits, n);
        return sheets[s].size;
    }

    public long write(int s, int i, long v) {
        if (isNoSheet(s)) {
            return tell(BEYOND);
        }
        Sheet sheet = sheets[s];
        if (sheet.isMissing()) {
            return tell(MISSING);
        }
        if (isOutside(i, 0, sheet.size - 1)) {
            return tell(BEYOND);
        }
        long was = sheet.numbers[i];
        sheet.put(i, v);
        return was;
    }

    public int copy(int s, int from, int t, int to, int n) {
        if (isNoSheet(s) || isNoSheet(t)) {
            return tell(BEYOND);
        }
        Sheet source = sheets[s];
        Sheet target = sheets[t];
        if (source.isMissing() || target.isMissing()) {
            return tell(MISSING);
        }
        if (source.bits != target.bits) {
            return tell(KIND);
        }
        if (!source.hasRun(from, n) || !target.hasRun(to, n)) {
            return tell(BEYOND);
        }
        System.arraycopy(source.numbers, from, target.numbers, to, n);
        return n;
    }

    public int lays(int s) {
        if (isNoSheet(s)) {
            return tell(BEYOND);
        }
        Sheet sheet = sheets[s];
        if (sheet.isMissing()) {
            return tell(MISSING);
        }
        int came = 0;
        for (int i = 0; i < sheet.size && i < hall.inlaws; i++) {
            long v = sheet.numbers[i];
            if (v >= 0 && v <= MOST_WARM) {
                hall.warmOf[i] = (int) v;
                came++;
            }
        }
        return came;
    }

    public int book(int s, int couple) {
        if (isNoSheet(s)) {
            return tell(BEYOND);
        }
        Sheet sheet = sheets[s];
        if (sheet.isMissing()) {
            return tell(MISSING);
        }
        if (isNoCouple(couple)) {
            return tell(BEYOND);
        }
        ahead.become(hall);
        for (int i = 0; i < sheet.size; i++) {
            sheet.put(i, ahead.wellOf[couple]);
            ahead.goOneSunday();
        }
        return sheet.size;
    }

    public int read(int s, int couple, int inlaw) {
        if (isNoSheet(s)) {
            return tell(BEYOND);
        }
        Sheet sheet = sheets[s];
        if (sheet.isMissing()) {
            return tell(MISSING);
        }
        if (isNoCouple(couple) || isNoInlaw(inlaw)) {
            return tell(BEYOND);
        }
        int pairs = 0;
        for (int k = 0; k < Kinds.HOW_MANY; k++) {
            for (int l = 0; l <= MOST_LOUD; l++) {
                ahead.become(hall);
                ahead.kindOf[inlaw] = k;
                ahead.loudOf[couple] = l;
                if (goesAsBooked(sheet, couple)) {
                    pairs++;
                }
            }
        }
        return pairs;
    }

    // ---- images

    public int image() {
        kept.become(hall);
        isKept = true;
        return 1;
    }

    public int undo() {
        if (!isKept) {
            return tell(NONE);
        }
        hall.become(kept);
        return hall.inlaws;
    }

    public int tear() {
        int was = isKept ? 1 : 0;
        isKept = false;
        return was;
    }

    public int count(int what) {
        switch (what) {
            case 0:
                return hall.inlaws;
            case 1:
                return hall.couples;
            case 2:
                return tape.length;
            case 3:
                return hall.hadOfAll();
            default:
                return tell(BEYOND);
        }
    }

    public int status(int which) {
        if (isOutside(which, -1, FINDINGS - 1)) {
            return tell(BEYOND);
        }
        if (which >= 0) {
            return findings[which];
        }
        int all = 0;
        for (int f = 0; f < FINDINGS; f++) {
            all += findings[f];
        }
        return all;
    }

    // ---- what the calls share

    /** Every finding goes through here, so that status() misses none. */
    private int tell(int finding) {
        int which = BEYOND - finding;
        if (!isOutside(which, 0, FINDINGS - 1)) {
            findings[which]++;
        }
        return finding;
    }

    private int put(int[] row, int i, int v, int least, int most) {
        if (isOutside(v, least, most)) {
            return tell(BEYOND);
        }
        int was = row[i];
        row[i] = v;
        return was;
    }

    private boolean goesAsBooked(Sheet sheet, int couple) {
        for (int i = 0; i < sheet.size; i++) {
            if (ahead.wellOf[couple] != sheet.numbers[i]) {
                return false;
            }
            ahead.goOneSunday();
        }
        return true;
    }

    private boolean isNoInlaw(int inlaw) {
        return isOutside(inlaw, 0, hall.inlaws - 1);
    }

    private boolean isNoCouple(int couple) {
        return isOutside(couple, 0, hall.couples - 1);
    }

    private static boolean isNoKind(int kind) {
        return isOutside(kind, 0, Kinds.HOW_MANY - 1);
    }

    private static boolean isNoSheet(int s) {
        return isOutside(s, 0, SHEETS - 1);
    }

    private static boolean isOutside(int v, int least, int most) {
        return v < least || v > most;
    }

    /** What each KIND is, beside the others. */
    private static final class Kinds {
        static final int INLAW = 0;
        static final int MOTHER = 1;
        static final int FATHER = 2;
        static final int UNCLE = 3;
        static final int TARTAR = 4;
        static final int BLESSER = 5;
        static final int HOW_MANY = 6;

        /** By KIND: the one above it; -1 above the topmost. */
        private static final int[] ABOVE = {-1, INLAW, INLAW, INLAW, MOTHER, FATHER};

        static boolean isUnder(int kind, int above) {
            int k = kind;
            for (int step = 0; step < HOW_MANY && k >= 0 && k < HOW_MANY; step++) {
                if (k == above) {
                    return true;
                }
                k = ABOVE[k];
            }
            return false;
        }

        static String nameOf(int kind) {
            switch (kind) {
                case MOTHER:
                    return "mother";
                case FATHER:
                    return "father";
                case UNCLE:
                    return "uncle";
                case TARTAR:
                    return "tartar";
                case BLESSER:
                    return "blesser";
                default:
                    return "inlaw";
            }
        }

        static int charms(int kind, int warm, int loud, boolean isLast, int fire) {
            int asInlaw = warm / 10;
            int asMother = asInlaw + (loud < 4 ? 3 : 0);
            int asFather = asInlaw + loud / 2;
            switch (kind) {
                case MOTHER:
                    return asMother;
                case FATHER:
                    return asFather;
                case UNCLE:
                    return 4;
                case TARTAR:
                    return asMother - 2 + (isLast ? 9 : 0);
                case BLESSER:
                    return asFather + fire / 5;
                default:
                    return asInlaw;
            }
        }

        static int does(int kind, int warm, int loud, int fire) {
            int asInlaw = 2;
            int asFather = asInlaw + (fire >= 10 ? 1 : 0);
            switch (kind) {
                case MOTHER:
                    return asInlaw - (loud >= 7 ? 1 : 0);
                case FATHER:
                    return asFather;
                case UNCLE:
                    return 0;
                case TARTAR:
                    return warm >= 60 ? 12 : -4;
                case BLESSER:
                    return asFather + 2;
                default:
                    return asInlaw;
            }
        }

        static int thaws(int kind, int loud) {
            int asInlaw = 3;
            int asMother = asInlaw - loud / 3;
            switch (kind) {
                case MOTHER:
                    return asMother;
                case UNCLE:
                    return 1;
                case TARTAR:
                    return asMother - 2;
                case BLESSER:
                    return 2 * asInlaw;
                default:
                    return asInlaw;
            }
        }

        static int chills(int kind, int fire) {
            int asInlaw = 2;
            int asFather = asInlaw - fire / 10;
            switch (kind) {
                case MOTHER:
                case TARTAR:
                    return asInlaw + 2;
                case FATHER:
                    return asFather;
                case UNCLE:
                    return 0;
                case BLESSER:
                    return Math.max(asFather - 1, 0);
                default:
                    return asInlaw;
            }
        }
    }

    /** All that an image keeps: SUNDAY, FIRE, the IN-LAWS and the COUPLES. */
    private static final class Hall {
        int sunday;
        int fire;

        int inlaws;
        final int[] kindOf;
        final int[] warmOf;
        final int[] satOf;
        final int[] aloneOf;
        final int[] hadOf;

        int couples;
        final int[] loudOf;
        final int[] wellOf;
        final int[] lastOf;

        /** By couple: whom it had on the SUNDAY that went latest in this very hall. */
        final int[] hasOf;
        /** The in-laws that are no longer free this SUNDAY, as a set. */
        private int taken;

        Hall() {
            sunday = 0;
            fire = 10;
            inlaws = 0;
            kindOf = new int[ROOM];
            warmOf = new int[ROOM];
            satOf = new int[ROOM];
            aloneOf = new int[ROOM];
            hadOf = new int[ROOM];
            couples = 0;
            loudOf = new int[ROOM];
            wellOf = new int[ROOM];
            lastOf = new int[ROOM];
            hasOf = new int[ROOM];
            taken = 0;
        }

        void become(Hall other) {
            sunday = other.sunday;
            fire = other.fire;
            inlaws = other.inlaws;
            System.arraycopy(other.kindOf, 0, kindOf, 0, ROOM);
            System.arraycopy(other.warmOf, 0, warmOf, 0, ROOM);
            System.arraycopy(other.satOf, 0, satOf, 0, ROOM);
            System.arraycopy(other.aloneOf, 0, aloneOf, 0, ROOM);
            System.arraycopy(other.hadOf, 0, hadOf, 0, ROOM);
            couples = other.couples;
            System.arraycopy(other.loudOf, 0, loudOf, 0, ROOM);
            System.arraycopy(other.wellOf, 0, wellOf, 0, ROOM);
            System.arraycopy(other.lastOf, 0, lastOf, 0, ROOM);
        }

        /** The new one's number; -1 if there is no room. */
        int addInlaw(int kind) {
            if (inlaws >= ROOM) {
                return NOBODY;
            }
            int one = inlaws;
            kindOf[one] = kind;
            warmOf[one] = 40;
            satOf[one] = 0;
            aloneOf[one] = 0;
            hadOf[one] = 0;
            inlaws++;
            return one;
        }

        /** The new one's number; -1 if there is no room. */
        int addCouple(int loud) {
            if (couples >= ROOM) {
                return NOBODY;
            }
            int one = couples;
            loudOf[one] = loud;
            wellOf[one] = 0;
            lastOf[one] = NOBODY;
            couples++;
            return one;
        }

        int firstCouple() {
            return couples > 0 ? sunday % couples : NOBODY;
        }

        int satOnes() {
            int set = 0;
            for (int i = 0; i < inlaws; i++) {
                if (satOf[i] != 0) {
                    set |= 1 << i;
                }
            }
            return set;
        }

        int wellOfAll() {
            return sum(wellOf, couples);
        }

        int warmOfAll() {
            return sum(warmOf, inlaws);
        }

        int hadOfAll() {
            return sum(hadOf, inlaws);
        }

        int charmsOf(int inlaw, int couple) {
            boolean isLast = lastOf[couple] == inlaw;
            return Kinds.charms(kindOf[inlaw], warmOf[inlaw], loudOf[couple], isLast, fire);
        }

        int doesOf(int inlaw, int couple) {
            return Kinds.does(kindOf[inlaw], warmOf[inlaw], loudOf[couple], fire);
        }

        int thawsOf(int inlaw, int couple) {
            return Kinds.thaws(kindOf[inlaw], loudOf[couple]);
        }

        int chillsOf(int inlaw) {
            return Kinds.chills(kindOf[inlaw], fire);
        }

        void goSundays(int n) {
            for (int k = 0; k < n; k++) {
                goOneSunday();
            }
        }

        void goOneSunday() {
            taken = 0;
            int next = firstCouple();
            for (int k = 0; k < couples; k++) {
                receive(next);
                next = next + 1 < couples ? next + 1 : 0;
            }
            for (int i = 0; i < inlaws; i++) {
                if (isFree(i)) {
                    aloneOf[i] = Math.min(aloneOf[i] + 1, MOST_TIMES);
                    warmOf[i] = hold(warmOf[i] - chillsOf(i), 0, MOST_WARM);
                }
            }
            sunday++;
        }

        private void receive(int couple) {
            int one = chosenBy(couple);
            hasOf[couple] = one;
            if (one == NOBODY) {
                wellOf[couple] = hold(wellOf[couple] - 1, LEAST_WELL, MOST_WELL);
                return;
            }
            taken |= 1 << one;
            // What it DOES goes by its WARM as the couple comes, so before it THAWS.
            wellOf[couple] = hold(wellOf[couple] + doesOf(one, couple), LEAST_WELL, MOST_WELL);
            lastOf[couple] = one;
            hadOf[one] = Math.min(hadOf[one] + 1, MOST_TIMES);
            warmOf[one] = hold(warmOf[one] + thawsOf(one, couple), 0, MOST_WARM);
        }

        private int chosenBy(int couple) {
            int best = NOBODY;
            int most = 0;
            for (int i = 0; i < inlaws; i++) {
                if (isFree(i) && satOf[i] == 0) {
                    int charms = charmsOf(i, couple);
                    // CHARMS may be below 0, and still somebody is had.
                    if (best == NOBODY || charms > most) {
                        best = i;
                        most = charms;
                    }
                }
            }
            return best;
        }

        private boolean isFree(int inlaw) {
            return (taken & (1 << inlaw)) == 0;
        }

        private static int sum(int[] row, int n) {
            int all = 0;
            for (int i = 0; i < n && i < row.length; i++) {
                all += row[i];
            }
            return all;
        }

        private static int hold(int v, int least, int most) {
            return Math.max(least, Math.min(v, most));
        }
    }

    /**
     * THE TAPE, and how it is read as THE TEXT of an INSTITUTE into a hall. A part that can't be
     * read answers false with the TOKEN that can't stand there in hand: the FAULT is its start.
     */
    private static final class Tape {
        private static final int END = 0;
        private static final int WORD = 1;
        private static final int NUMBER = 2;
        private static final int SIGN = 3;
        private static final int NO_TOKEN = 4;

        private static final int MOST_NUMBER = 999;

        final int[] bytes;
        int length;

        /** Of the TOKEN in hand: what it is, where it begins and ends, what a NUMBER tells. */
        private int sort;
        private int start;
        private int behind;
        private int number;

        Tape() {
            bytes = new int[TAPE_ROOM];
            length = 0;
            sort = END;
            start = 0;
            behind = 0;
            number = 0;
        }

        /** How many ITEMS, or -1 less the FAULT's place. */
        int tellTo(Hall hall) {
            behind = 0;
            // An ITEM takes some bytes, so there can't be as many as THE TAPE has room for.
            for (int items = 1; items <= TAPE_ROOM; items++) {
                advance();
                if (!tellItem(hall)) {
                    return -1 - start;
                }
                if (sort == END) {
                    return items;
                }
                if (sort != SIGN) {
                    return -1 - start;
                }
            }
            return -1 - start;
        }

        private boolean tellItem(Hall hall) {
            for (int k = 0; k < Kinds.HOW_MANY; k++) {
                if (isWord(Kinds.nameOf(k))) {
                    return tellInlaw(hall, k);
                }
            }
            if (isWord("couple")) {
                return tellCouple(hall);
            }
            if (isWord("fire")) {
                return tellFire(hall);
            }
            return isWord("sit") && tellSit(hall);
        }

        private boolean tellInlaw(Hall hall, int kind) {
            int one = hall.addInlaw(kind);
            if (one == NOBODY) {
                return false;
            }
            advance();
            if (isWord("warm")) {
                advance();
                if (!isNumberTo(MOST_WARM)) {
                    return false;
                }
                hall.warmOf[one] = number;
                advance();
            }
            if (isWord("sat")) {
                hall.satOf[one] = 1;
                advance();
            }
            return true;
        }

        private boolean tellCouple(Hall hall) {
            // Room is asked for at the word, ahead of the NUMBER: a 9th faults there.
            int one = hall.addCouple(0);
            if (one == NOBODY) {
                return false;
            }
            advance();
            if (!isNumberTo(MOST_LOUD)) {
                return false;
            }
            hall.loudOf[one] = number;
            advance();
            if (isWord("had")) {
                advance();
                if (!isNumberTo(hall.inlaws - 1)) {
                    return false;
                }
                hall.lastOf[one] = number;
                advance();
            }
            return true;
        }

        private boolean tellFire(Hall hall) {
            advance();
            if (!isNumberTo(MOST_FIRE)) {
                return false;
            }
            hall.fire = number;
            advance();
            return true;
        }

        private boolean tellSit(Hall hall) {
            advance();
            if (!isNumberTo(hall.inlaws - 1)) {
                return false;
            }
            hall.satOf[number] = 1;
            advance();
            return true;
        }

        /** Takes the next TOKEN in hand; at the end one that begins behind the last byte. */
        private void advance() {
            while (behind < length && bytes[behind] == ' ') {
                behind++;
            }
            start = behind;
            if (start >= length) {
                sort = END;
            } else if (isLetter(bytes[start])) {
                sort = WORD;
                takeWord();
            } else if (isDigit(bytes[start])) {
                sort = NUMBER;
                takeNumber();
            } else {
                sort = bytes[start] == ';' ? SIGN : NO_TOKEN;
                behind++;
            }
        }

        private void takeWord() {
            while (behind < length && isLetter(bytes[behind])) {
                behind++;
            }
        }

        private void takeNumber() {
            number = 0;
            while (behind < length && isDigit(bytes[behind])) {
                // Held just above what may be: a long row of digits would wrap around.
                number = Math.min(10 * number + bytes[behind] - '0', MOST_NUMBER + 1);
                behind++;
            }
        }

        private boolean isWord(String word) {
            if (sort != WORD || behind - start != word.length()) {
                return false;
            }
            for (int i = 0; i < word.length(); i++) {
                if (bytes[start + i] != word.charAt(i)) {
                    return false;
                }
            }
            return true;
        }

        private boolean isNumberTo(int most) {
            return sort == NUMBER && number <= most;
        }

        private static boolean isLetter(int b) {
            return b >= 'a' && b <= 'z';
        }

        private static boolean isDigit(int b) {
            return b >= '0' && b <= '9';
        }
    }

    /** A row of numbers of as many bits, signed as Java's own of that size. */
    private static final class Sheet {
        /** 0: it is MISSING. */
        int bits;
        int size;
        final long[] numbers;

        Sheet() {
            bits = 0;
            size = 0;
            numbers = new long[SHEET_ROOM];
        }

        boolean isMissing() {
            return bits == 0;
        }

        void lay(int newBits, int n) {
            bits = newBits;
            size = newBits == 0 ? 0 : n;
            Arrays.fill(numbers, 0L);
        }

        void put(int i, long v) {
            if (bits == 8) {
                numbers[i] = (byte) v;
            } else if (bits == 16) {
                numbers[i] = (short) v;
            } else {
                numbers[i] = v;
            }
        }

        boolean hasRun(int from, int n) {
            return from >= 0 && n >= 0 && n <= size && from <= size - n;
        }
    }
}
