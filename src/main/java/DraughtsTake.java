/** A house of cells through which airs go on the diagonal and leap over sitters; ../shared/DOC.md says what each call does. */
public final class DraughtsTake {
    private static final int SIDE = 6;
    private static final int CELLS = 36;
    private static final int WAYS = 4;
    private static final int MOST_AIRS = 5;
    private static final int MOST_SITTERS = 6;
    private static final int MOST_STEPS = 6;
    private static final int MOST_FIGURE = 9;
    private static final int MOST_SHAWLS = 9;
    private static final int MOST_N = 99;
    private static final int MOST_TURN = 999;
    private static final int MOST_TAKEN = 9999;
    private static final int MOST_TURNS = 60;
    private static final int MOST_TURNS_OF_CHOICE = 30;
    private static final int MOST_LETTERS = 96;
    private static final int MOST_IN_ROW = 12;
    private static final int MOST_PLACES = 12;
    private static final int PEGS = 3;
    private static final int MOST_KEPT = 8;
    private static final int TURNS_OF_A_NIGHT = 10;
    private static final int PRIZE_FOR_GIVING = 2;
    private static final int FIRST_WARM = 16;
    private static final int MOST_WARM = 100;

    private static final int DRAUGHT = 0;
    private static final int GUST = 1;
    private static final int SIGH = 2;
    private static final int GALE = 3;
    private static final int CELLAR = 4;
    private static final int FLUE = 5;
    private static final int STORM = 6;
    private static final int CAT = 7;
    private static final int KINDS = 8;

    private static final int STEP_T = 0;
    private static final int STEP_M = 1;
    private static final int STEP_A = 2;
    private static final int STEP_S = 3;
    private static final int STEP_G = 4;
    private static final int STEP_L = 5;
    private static final int STEP_C = 6;

    private static final int ANY = 0;
    private static final int CAPE = 1;
    private static final int FUR = 2;

    private static final int NOBODY = -1;
    private static final int OTHER = -2;
    private static final int STATE = -3;
    private static final int BELOW = -4;
    private static final int ROOM = -6;
    private static final int NONE = -9;
    private static final int NOTHING = -11;
    private static final int CAST = -12;
    private static final int BEYOND = -13;
    private static final int SIZE_BELOW = -14;
    private static final int EMPTY = -15;
    private static final long REFUSED_LONG = 4000000000000000000L;

    private final House now = new House();
    /** All that is only thought of happens here, so that no call has to make a house. */
    private final House mind = new House();
    private final House imaged = new House();
    private boolean hasImage;
    private final Past past = new Past();
    private final Text text = new Text();
    private final Pegs coats = new Pegs();
    private final int[] told = new int[MOST_IN_ROW];
    private int toldCount;
    /** Place k counts the refusals with -k. */
    private final int[] refused = new int[7];
    /** What the one and the other have, by 2 times the one's choice and the other's. */
    private final int[] oneHas = new int[4];
    private final int[] otherHas = new int[4];

    public DraughtsTake() {
    }

    // ---- letters and looks

    public int feed(int letter) {
        if (letter < 0) {
            return refuse(BELOW);
        }
        if (letter > 255 || text.length >= MOST_LETTERS) {
            return refuse(ROOM);
        }
        text.letters[text.length] = letter;
        text.length++;
        return text.length;
    }

    public int house() {
        int statements = text.statements();
        int answer = statements < 0 ? -1000 - Text.placeOf(statements) : statements;
        int at = 0;
        // All of it comes to the house in mind first, so that with a fault nothing comes.
        mind.take(now);
        for (int k = 0; k < statements && answer >= 0; k++) {
            if (text.tell(at, mind)) {
                at = text.statementEnd(at);
            } else {
                answer = -2000 - at;
            }
        }
        if (answer >= 0) {
            now.take(mind);
            past.forget();
        }
        text.length = 0;
        return answer;
    }

    public int air(int air, int what) {
        if (!isAir(air)) {
            return refuse(NOBODY);
        }
        switch (what) {
            case 0: return now.kind[air];
            case 1: return now.figure[air];
            case 2: return now.airCell[air];
            case 3: return now.way[air];
            case 4: return now.isCrowned(air) ? 1 : 0;
            case 5: return Breath.leaps(now.kind[air], now.figure[air]);
            default: return refuse(OTHER);
        }
    }

    public int sitter(int sitter, int what) {
        if (!isSitter(sitter)) {
            return refuse(NOBODY);
        }
        switch (what) {
            case 0: return now.seat[sitter];
            case 1: return now.shawls[sitter];
            case 2: return now.isOn(sitter) ? 1 : 0;
            default: return refuse(OTHER);
        }
    }

    public int cell(int cell, int what) {
        if (!isCell(cell)) {
            return refuse(NOBODY);
        }
        switch (what) {
            case 0: return now.isShut(cell) ? 1 : 0;
            case 1: return now.isFree(cell) ? 1 : 0;
            case 2: return now.airOn(cell);
            case 3: return now.sitterOn(cell);
            case 4: return (int) now.warmth[cell];
            default: return refuse(OTHER);
        }
    }

    public int warm(int cell) {
        return isCell(cell) ? bitsOf(now.warmth[cell]) : 0;
    }

    // ---- what changes the house

    public int comes(int kind, int figure, int cell) {
        if (kind < 0 || kind >= KINDS) {
            return refuse(OTHER);
        }
        if (figure < 0) {
            return refuse(BELOW);
        }
        if (figure > MOST_FIGURE || now.airs >= MOST_AIRS) {
            return refuse(ROOM);
        }
        if (!isCell(cell)) {
            return refuse(NOBODY);
        }
        if (!now.addAir(kind, figure, cell, 0)) {
            return refuse(STATE);
        }
        past.forget();
        return now.airs - 1;
    }

    public int sitsDown(int cell) {
        if (!isCell(cell)) {
            return refuse(NOBODY);
        }
        if (now.sitters >= MOST_SITTERS) {
            return refuse(ROOM);
        }
        if (!now.addSitter(cell, 0)) {
            return refuse(STATE);
        }
        past.forget();
        return now.sitters - 1;
    }

    public int shuts(int cell) {
        if (!isCell(cell)) {
            return refuse(NOBODY);
        }
        if (now.isTaken(cell)) {
            return refuse(STATE);
        }
        past.keep(now);
        now.toggleShut(cell);
        return now.isShut(cell) ? 1 : 0;
    }

    public int warms(int cell, int n) {
        if (!isCell(cell)) {
            return refuse(NOBODY);
        }
        int refusal = refusalOf(n, -MOST_WARM, MOST_WARM);
        if (refusal != 0) {
            return refuse(refusal);
        }
        past.keep(now);
        int old = (int) now.warmth[cell];
        now.warmth[cell] = (float) n;
        return old;
    }

    public int sits(int sitter, int cell) {
        if (!isSitter(sitter) || !isCell(cell)) {
            return refuse(NOBODY);
        }
        if (!now.isFree(cell)) {
            return refuse(STATE);
        }
        past.keep(now);
        int old = now.seat[sitter];
        now.seat[sitter] = cell;
        now.onBits |= 1 << sitter;
        return old;
    }

    public int blows(int air, int way) {
        if (!isAir(air)) {
            return refuse(NOBODY);
        }
        if (way < 0 || way >= WAYS) {
            return refuse(OTHER);
        }
        past.keep(now);
        int old = now.way[air];
        now.way[air] = way;
        return old;
    }

    public int wraps(int sitter, int shawls) {
        if (!isSitter(sitter)) {
            return refuse(NOBODY);
        }
        if (shawls < 0) {
            return refuse(BELOW);
        }
        if (shawls > MOST_SHAWLS) {
            return refuse(ROOM);
        }
        past.keep(now);
        int old = now.shawls[sitter];
        now.shawls[sitter] = shawls;
        return old;
    }

    public int step(int step, int n) {
        if (step < STEP_T || step > STEP_C) {
            return refuse(OTHER);
        }
        if (n < 0) {
            return refuse(BELOW);
        }
        if (n > MOST_N || now.hearth.count >= MOST_STEPS) {
            return refuse(ROOM);
        }
        past.keep(now);
        now.hearth.add(step, n);
        return now.hearth.count;
    }

    public int clearHearth() {
        past.keep(now);
        int had = now.hearth.count;
        now.hearth.count = 0;
        return had;
    }

    public int turns(int n) {
        if (n < 1) {
            return refuse(BELOW);
        }
        if (n > MOST_TURNS || now.turn + n > MOST_TURN) {
            return refuse(ROOM);
        }
        past.keep(now);
        now.goOn(n);
        return now.taken;
    }

    public int back() {
        if (past.count == 0) {
            return refuse(STATE);
        }
        past.giveBack(now);
        return past.count;
    }

    // ---- in mind

    public int airThen(int air, int n) {
        if (!isAir(air)) {
            return refuse(NOBODY);
        }
        int refusal = refusalOf(n, 0, MOST_TURNS);
        if (refusal != 0) {
            return refuse(refusal);
        }
        thinkOf(n);
        return mind.airCell[air];
    }

    public int then(int n, int what) {
        int refusal = refusalOf(n, 0, MOST_TURNS);
        if (refusal != 0) {
            return refuse(refusal);
        }
        if (what < 0 || what > 2) {
            return refuse(OTHER);
        }
        thinkOf(n);
        switch (what) {
            case 0: return mind.onBits;
            case 1: return mind.taken;
            default: return Integer.bitCount(mind.crownedBits);
        }
    }

    public int warmThen(int cell, int n) {
        if (!isCell(cell) || n < 0 || n > MOST_TURNS) {
            return 0;
        }
        thinkOf(n);
        return bitsOf(mind.warmth[cell]);
    }

    public int when(int sitter) {
        if (sitter == -1) {
            return firstOff();
        }
        if (!isSitter(sitter)) {
            return refuse(NOBODY);
        }
        mind.take(now);
        int off = mind.goOnTillOff(sitter);
        return off > MOST_TURNS ? NONE : off;
    }

    public int sit(int sitter, int what) {
        if (!isSitter(sitter)) {
            return refuse(NOBODY);
        }
        if (what < 0 || what > 1) {
            return refuse(OTHER);
        }
        if (!now.isOn(sitter)) {
            return refuse(STATE);
        }
        int best = -1;
        int longest = -1;
        for (int cell = 0; cell < CELLS && longest <= MOST_TURNS; cell++) {
            if (now.isFree(cell) || cell == now.seat[sitter]) {
                mind.take(now);
                mind.seat[sitter] = cell;
                int off = mind.goOnTillOff(sitter);
                if (off > longest) {
                    best = cell;
                    longest = off;
                }
            }
        }
        return what == 0 ? best : longest;
    }

    public int shut(int sitter, int n) {
        if (!isSitter(sitter)) {
            return refuse(NOBODY);
        }
        int refusal = refusalOf(n, 0, MOST_TURNS_OF_CHOICE);
        if (refusal != 0) {
            return refuse(refusal);
        }
        if (!now.isOn(sitter)) {
            return refuse(STATE);
        }
        for (int cell = 0; cell < CELLS; cell++) {
            if (now.isFree(cell)) {
                thinkOfShut(cell, n);
                if (mind.isOn(sitter)) {
                    return cell;
                }
            }
        }
        return NONE;
    }

    public int most(int n) {
        int refusal = refusalOf(n, 0, MOST_TURNS_OF_CHOICE);
        if (refusal != 0) {
            return refuse(refusal);
        }
        thinkOf(n);
        int best = NONE;
        int most = Integer.bitCount(mind.onBits);
        for (int cell = 0; cell < CELLS; cell++) {
            if (now.isFree(cell)) {
                thinkOfShut(cell, n);
                int kept = Integer.bitCount(mind.onBits);
                if (kept > most) {
                    best = cell;
                    most = kept;
                }
            }
        }
        return best;
    }

    public int leapt(int n, int what) {
        int refusal = refusalOf(n, 1, MOST_TURNS);
        if (refusal != 0) {
            return refuse(refusal);
        }
        if (what < 0 || what > 1) {
            return refuse(OTHER);
        }
        mind.take(now);
        int greatest = 0;
        int first = 0;
        for (int turn = 1; turn <= n; turn++) {
            int before = mind.taken;
            mind.goOn(1);
            int more = mind.taken - before;
            if (more > greatest) {
                greatest = more;
                first = turn;
            }
        }
        return what == 0 ? greatest : first;
    }

    public int whatKind(int air, int what) {
        if (!isAir(air)) {
            return refuse(NOBODY);
        }
        if (what < 0 || what > 1) {
            return refuse(OTHER);
        }
        int tried = what == 0 ? KINDS : MOST_FIGURE + 1;
        int bits = 0;
        for (int k = 0; k < tried; k++) {
            mind.take(now);
            if (what == 0) {
                mind.kind[air] = k;
            } else {
                mind.figure[air] = k;
            }
            if (goesAsTold(air)) {
                bits |= 1 << k;
            }
        }
        return bits;
    }

    public int howCold(int air, int n, int v) {
        if (!isAir(air)) {
            return refuse(NOBODY);
        }
        if (n < 0 || v < -MOST_WARM) {
            return refuse(BELOW);
        }
        if (n > MOST_N || v > MOST_WARM) {
            return refuse(ROOM);
        }
        int bits = 0;
        for (int kind = 0; kind < KINDS; kind++) {
            float cold = Breath.chills(kind, now.figure[air], now.turn, (float) n);
            if ((int) cold == v) {
                bits |= 1 << kind;
            }
        }
        return bits;
    }

    public int two(int one, int other, int n) {
        if (!isSitter(one) || !isSitter(other) || one == other) {
            return refuse(NOBODY);
        }
        int refusal = refusalOf(n, 1, MOST_TURNS_OF_CHOICE);
        if (refusal != 0) {
            return refuse(refusal);
        }
        if (!now.isOn(one) || !now.isOn(other)) {
            return refuse(STATE);
        }
        for (int pair = 0; pair < 4; pair++) {
            play(one, other, n, pair);
        }
        for (int pair = 0; pair < 4; pair++) {
            if (oneHas[pair] >= oneHas[pair ^ 2] && otherHas[pair] >= otherHas[pair ^ 1]) {
                return 10 * (pair >> 1) + (pair & 1);
            }
        }
        return NONE;
    }

    public long still(int sitter, int n, int t, int part) {
        if (!isSitter(sitter)) {
            return refuseLong(NOBODY);
        }
        if (n < 0 || t < 2) {
            return refuseLong(BELOW);
        }
        if (n > 7 || t > 20) {
            return refuseLong(ROOM);
        }
        if (part < 0 || part > 1) {
            return refuseLong(OTHER);
        }
        long above = 0;
        for (int stillTurns = 0; stillTurns < 1 << n; stillTurns++) {
            if (isOnBehind(sitter, n, stillTurns)) {
                above += power(t - 1, n - Integer.bitCount(stillTurns));
            }
        }
        long below = power(t, n);
        long common = commonDivisor(above, below);
        if (common < 1) {
            return 0;
        }
        return part == 0 ? above / common : below / common;
    }

    // ---- the coldest, sums, the nearest, kinds

    public int coldest(int cell) {
        if (cell == -1) {
            return coldestCell();
        }
        if (!isCell(cell)) {
            return refuse(NOBODY);
        }
        int notAbove = 0;
        for (int k = 0; k < CELLS; k++) {
            if (now.warmth[k] <= now.warmth[cell]) {
                notAbove++;
            }
        }
        return notAbove;
    }

    public int sum(int what) {
        if (what < 0 || what > 1) {
            return refuse(OTHER);
        }
        float all = 0.0f;
        for (int k = 0; k < CELLS; k++) {
            all = all + now.warmth[k];
        }
        return what == 0 ? bitsOf(all) : (int) (all / 36.0f * 100.0f);
    }

    public int nearest(int sitter, int what) {
        if (!isSitter(sitter)) {
            return refuse(NOBODY);
        }
        if (what < 0 || what > 1) {
            return refuse(OTHER);
        }
        int best = NONE;
        int least = NONE;
        for (int air = 0; air < now.airs; air++) {
            int far = distance(now.seat[sitter], now.airCell[air]);
            if (best == NONE || far < least) {
                best = air;
                least = far;
            }
        }
        return what == 0 ? best : least;
    }

    public int kinds(int kind) {
        if (kind < 0 || kind >= KINDS) {
            return refuse(OTHER);
        }
        int many = 0;
        for (int air = 0; air < now.airs; air++) {
            if (now.kind[air] == kind) {
                many++;
            }
        }
        return many;
    }

    // ---- pegs

    public int pegs(int peg, int sort, int n) {
        if (!isPeg(peg)) {
            return refuse(NOBODY);
        }
        if (sort < ANY || sort > FUR) {
            return refuse(OTHER);
        }
        if (n > MOST_PLACES) {
            return refuse(ROOM);
        }
        if (n < 0) {
            return SIZE_BELOW;
        }
        coats.holdRow(peg, sort, n);
        return 1;
    }

    public int hangs(int peg, int i, int sort, int thickness) {
        if (!isPeg(peg)) {
            return refuse(NOBODY);
        }
        if (sort != CAPE && sort != FUR) {
            return refuse(OTHER);
        }
        if (thickness < 0) {
            return refuse(BELOW);
        }
        if (thickness > 9) {
            return refuse(ROOM);
        }
        int fault = coats.placeFault(peg, i);
        if (fault != 0) {
            return fault;
        }
        return coats.put(peg, i, 10 * sort + thickness) ? 1 : CAST;
    }

    public int coat(int peg, int i) {
        if (!isPeg(peg)) {
            return refuse(NOBODY);
        }
        int fault = coats.coatFault(peg, i);
        return fault != 0 ? fault : coats.places[peg][i];
    }

    public int wears(int sitter, int peg, int i) {
        if (!isSitter(sitter) || !isPeg(peg)) {
            return refuse(NOBODY);
        }
        int fault = coats.coatFault(peg, i);
        if (fault != 0) {
            return fault;
        }
        past.keep(now);
        int coat = coats.places[peg][i];
        coats.places[peg][i] = 0;
        int more = coat / 10 == FUR ? 2 * (coat % 10) : coat % 10;
        now.shawls[sitter] = Math.min(now.shawls[sitter] + more, MOST_SHAWLS);
        return now.shawls[sitter];
    }

    public int moves(int peg, int i, int other, int j, int n) {
        if (!isPeg(peg) || !isPeg(other)) {
            return refuse(NOBODY);
        }
        if (!coats.holdsRow(peg) || !coats.holdsRow(other)) {
            return NOTHING;
        }
        if (!coats.hasPlaces(peg, i, n) || !coats.hasPlaces(other, j, n)) {
            return BEYOND;
        }
        return coats.carry(peg, i, other, j, n) ? n : CAST;
    }

    // ---- the row, lots, the image, counts

    public int row(int v) {
        if (v < 0) {
            return refuse(BELOW);
        }
        if (v > MOST_N || toldCount >= MOST_IN_ROW) {
            return refuse(ROOM);
        }
        told[toldCount] = v;
        toldCount++;
        return toldCount;
    }

    public int judge() {
        int wrong = NONE;
        for (int k = 0; k < toldCount && wrong == NONE; k++) {
            if (k >= now.sitters || told[k] != (now.isOn(k) ? now.seat[k] : CELLS)) {
                wrong = k;
            }
        }
        toldCount = 0;
        return wrong;
    }

    public int clear() {
        int had = toldCount;
        toldCount = 0;
        return had;
    }

    public int lots(int n, int z, int what) {
        int refusal = refusalOf(n, 1, 20);
        if (refusal != 0) {
            return refuse(refusal);
        }
        if (what < 0 || what > 1) {
            return refuse(OTHER);
        }
        int seed = z;
        int taken = 0;
        int on = 0;
        for (int night = 0; night < n; night++) {
            mind.take(now);
            for (int air = 0; air < mind.airs; air++) {
                seed = seed * 1103515245 + 12345;
                mind.way[air] = (seed & 0x7fffffff) / 65536 % WAYS;
            }
            mind.goOn(TURNS_OF_A_NIGHT);
            taken += mind.taken - now.taken;
            on += Integer.bitCount(mind.onBits);
        }
        return what == 0 ? taken : on;
    }

    public int image() {
        imaged.take(now);
        hasImage = true;
        return now.turn;
    }

    public int restore() {
        if (!hasImage) {
            return refuse(STATE);
        }
        now.take(imaged);
        past.forget();
        return now.turn;
    }

    public int count(int what) {
        if (what >= 11 && what <= 16) {
            return refused[what - 10];
        }
        switch (what) {
            case 0: return now.airs;
            case 1: return now.sitters;
            case 2: return now.turn;
            case 3: return now.taken;
            case 4: return now.onBits;
            case 5: return now.hearth.count;
            case 6: return Long.bitCount(now.shutBits);
            case 7: return text.length;
            case 8: return toldCount;
            case 9: return past.count;
            default: return NONE;
        }
    }

    // ---- refusals

    private int refuse(int number) {
        if (number <= NOBODY && number >= ROOM) {
            refused[-number]++;
        }
        return number;
    }

    private long refuseLong(int number) {
        return REFUSED_LONG - refuse(number);
    }

    private static int refusalOf(int n, int least, int greatest) {
        if (n < least) {
            return BELOW;
        }
        return n > greatest ? ROOM : 0;
    }

    private boolean isAir(int air) {
        return air >= 0 && air < now.airs;
    }

    private boolean isSitter(int sitter) {
        return sitter >= 0 && sitter < now.sitters;
    }

    private static boolean isCell(int cell) {
        return cell >= 0 && cell < CELLS;
    }

    private static boolean isPeg(int peg) {
        return peg >= 0 && peg < PEGS;
    }

    // ---- what the calls above think of

    private void thinkOf(int n) {
        mind.take(now);
        mind.goOn(n);
    }

    private void thinkOfShut(int cell, int n) {
        mind.take(now);
        mind.toggleShut(cell);
        mind.goOn(n);
    }

    private int firstOff() {
        mind.take(now);
        for (int turn = 1; turn <= MOST_TURNS && mind.onBits != 0; turn++) {
            mind.goOn(1);
            for (int sitter = 0; sitter < now.sitters; sitter++) {
                if (now.isOn(sitter) && !mind.isOn(sitter)) {
                    return sitter;
                }
            }
        }
        return NONE;
    }

    private boolean goesAsTold(int air) {
        for (int k = 0; k < toldCount; k++) {
            if (mind.airCell[air] != told[k]) {
                return false;
            }
            if (k + 1 < toldCount) {
                mind.goOn(1);
            }
        }
        return true;
    }

    /** Plays one pair of choices, told as 2 times the one's and the other's. */
    private void play(int one, int other, int n, int pair) {
        boolean oneGives = pair >> 1 == 1;
        boolean otherGives = (pair & 1) == 1;
        int ones = now.shawls[one];
        int others = now.shawls[other];
        mind.take(now);
        mind.shawls[one] = Math.min((oneGives ? 0 : ones) + (otherGives ? others : 0), MOST_SHAWLS);
        mind.shawls[other] = Math.min((otherGives ? 0 : others) + (oneGives ? ones : 0), MOST_SHAWLS);
        oneHas[pair] = oneGives ? PRIZE_FOR_GIVING : 0;
        otherHas[pair] = otherGives ? PRIZE_FOR_GIVING : 0;
        for (int turn = 0; turn < n; turn++) {
            mind.goOn(1);
            oneHas[pair] += mind.isOn(one) ? 1 : 0;
            otherHas[pair] += mind.isOn(other) ? 1 : 0;
        }
    }

    private boolean isOnBehind(int sitter, int n, int stillTurns) {
        mind.take(now);
        for (int turn = 0; turn < n && mind.isOn(sitter); turn++) {
            if ((stillTurns >> turn & 1) == 1) {
                mind.goOnStill();
            } else {
                mind.goOn(1);
            }
        }
        return mind.isOn(sitter);
    }

    private int coldestCell() {
        int best = 0;
        for (int cell = 1; cell < CELLS; cell++) {
            if (now.warmth[cell] < now.warmth[best]) {
                best = cell;
            }
        }
        return best;
    }

    private static int distance(int from, int to) {
        return Math.abs(from / SIDE - to / SIDE) + Math.abs(from % SIDE - to % SIDE);
    }

    private static long power(int base, int exponent) {
        long product = 1;
        for (int k = 0; k < exponent; k++) {
            product *= base;
        }
        return product;
    }

    private static long commonDivisor(long one, long other) {
        long big = one;
        long small = other;
        // Numbers below 2 to the 31st take fewer than 50 of Euclid's steps.
        for (int k = 0; k < 100 && small != 0; k++) {
            long rest = big % small;
            big = small;
            small = rest;
        }
        return big;
    }

    /** The bits of a float by arithmetic alone, since the library's own way to them is not to be had. */
    private static int bitsOf(float w) {
        if (w == 0.0f) {
            // Only a quotient tells the two zeros apart: it is minus infinity for the one below.
            return 1.0f / w < 0.0f ? 0x80000000 : 0;
        }
        int sign = w < 0.0f ? 0x80000000 : 0;
        float size = w < 0.0f ? -w : w;
        int exponent = 127;
        for (int k = 0; k < 127 && size >= 2.0f; k++) {
            size = size * 0.5f;
            exponent++;
        }
        for (int k = 0; k < 126 && size < 1.0f; k++) {
            size = size * 2.0f;
            exponent--;
        }
        if (size < 1.0f) {
            return sign | (int) (size * 8388608.0f);
        }
        return sign | exponent << 23 | (int) ((size - 1.0f) * 8388608.0f);
    }

    /** What the kinds of airs do. */
    private static final class Breath {
        static int leaps(int kind, int figure) {
            switch (kind) {
                case DRAUGHT: return 1;
                case GUST: return gustLeaps(figure);
                case SIGH: return 1;
                case GALE: return 2 * gustLeaps(figure);
                case FLUE: return figure / 2;
                case STORM: return 2 * gustLeaps(figure) + 1;
                case CAT: return Math.max(figure / 2 - 1, 0);
                default: return 0;
            }
        }

        static float chills(int kind, int figure, int turn, float w) {
            switch (kind) {
                case GUST: return gust(w);
                case SIGH: return sigh(figure, w);
                case GALE: return gust(gust(w));
                case CELLAR: return (float) (int) sigh(figure, w);
                case FLUE: return flue(figure, w);
                case STORM: return turn % 2 == 0 ? gust(gust(w)) : gust(gust(w)) - 1.0f;
                case CAT: return w * 0.5f + flue(figure, w) * 0.5f;
                default: return w * 0.75f;
            }
        }

        private static int gustLeaps(int figure) {
            return 1 + figure / 3;
        }

        private static float gust(float w) {
            return w * 0.75f - 0.5f;
        }

        private static float sigh(int figure, float w) {
            return w - (float) figure * 0.125f;
        }

        private static float flue(int figure, float w) {
            return w / (float) (figure + 1);
        }
    }

    /** The steps that make a cell's warm anew in each turn. */
    private static final class Hearth {
        final int[] steps = new int[MOST_STEPS];
        final int[] numbers = new int[MOST_STEPS];
        int count;

        void add(int step, int n) {
            if (count < MOST_STEPS) {
                steps[count] = step;
                numbers[count] = n;
                count++;
            }
        }

        void take(Hearth from) {
            System.arraycopy(from.steps, 0, steps, 0, MOST_STEPS);
            System.arraycopy(from.numbers, 0, numbers, 0, MOST_STEPS);
            count = from.count;
        }

        /** Held only behind the last step: between two of them it may be beyond. */
        float warmed(float w) {
            float made = w;
            for (int k = 0; k < count; k++) {
                made = stepped(steps[k], (float) numbers[k], made);
            }
            return held(made);
        }

        static float held(float w) {
            if (w > (float) MOST_WARM) {
                return (float) MOST_WARM;
            }
            return w < (float) -MOST_WARM ? (float) -MOST_WARM : w;
        }

        private static float stepped(int step, float n, float w) {
            switch (step) {
                case STEP_T: return w + (n - w) * 0.125f;
                case STEP_M: return w * (n / 16.0f);
                case STEP_A: return w + n / 8.0f;
                case STEP_S: return w - n / 8.0f;
                case STEP_G: return w < n ? n : w;
                case STEP_L: return w > n ? n : w;
                default: return (float) (int) w;
            }
        }
    }

    /** All that an image keeps: cells, airs, sitters, the turn, who is taken, the hearth. */
    private static final class House {
        final float[] warmth = new float[CELLS];
        long shutBits;
        int airs;
        final int[] kind = new int[MOST_AIRS];
        final int[] figure = new int[MOST_AIRS];
        final int[] airCell = new int[MOST_AIRS];
        final int[] way = new int[MOST_AIRS];
        int crownedBits;
        int sitters;
        final int[] seat = new int[MOST_SITTERS];
        final int[] shawls = new int[MOST_SITTERS];
        int onBits;
        int turn;
        int taken;
        final Hearth hearth = new Hearth();

        House() {
            for (int cell = 0; cell < CELLS; cell++) {
                warmth[cell] = (float) FIRST_WARM;
            }
        }

        void take(House from) {
            System.arraycopy(from.warmth, 0, warmth, 0, CELLS);
            shutBits = from.shutBits;
            airs = from.airs;
            System.arraycopy(from.kind, 0, kind, 0, MOST_AIRS);
            System.arraycopy(from.figure, 0, figure, 0, MOST_AIRS);
            System.arraycopy(from.airCell, 0, airCell, 0, MOST_AIRS);
            System.arraycopy(from.way, 0, way, 0, MOST_AIRS);
            crownedBits = from.crownedBits;
            sitters = from.sitters;
            System.arraycopy(from.seat, 0, seat, 0, MOST_SITTERS);
            System.arraycopy(from.shawls, 0, shawls, 0, MOST_SITTERS);
            onBits = from.onBits;
            turn = from.turn;
            taken = from.taken;
            hearth.take(from.hearth);
        }

        boolean isShut(int cell) {
            return (shutBits >> cell & 1L) == 1L;
        }

        void toggleShut(int cell) {
            shutBits ^= 1L << cell;
        }

        boolean isOn(int sitter) {
            return (onBits >> sitter & 1) == 1;
        }

        boolean isCrowned(int air) {
            return (crownedBits >> air & 1) == 1;
        }

        int airOn(int cell) {
            for (int air = 0; air < airs; air++) {
                if (airCell[air] == cell) {
                    return air;
                }
            }
            return NONE;
        }

        int sitterOn(int cell) {
            for (int sitter = 0; sitter < sitters; sitter++) {
                if (seat[sitter] == cell && (onBits >> sitter & 1) == 1) {
                    return sitter;
                }
            }
            return NONE;
        }

        boolean isTaken(int cell) {
            return airOn(cell) != NONE || sitterOn(cell) != NONE;
        }

        boolean isFree(int cell) {
            return !isShut(cell) && airOn(cell) == NONE && sitterOn(cell) == NONE;
        }

        boolean addAir(int newKind, int newFigure, int cell, int newWay) {
            if (airs >= MOST_AIRS || !isFree(cell)) {
                return false;
            }
            kind[airs] = newKind;
            figure[airs] = newFigure;
            airCell[airs] = cell;
            way[airs] = newWay;
            airs++;
            return true;
        }

        boolean addSitter(int cell, int newShawls) {
            if (sitters >= MOST_SITTERS || !isFree(cell)) {
                return false;
            }
            seat[sitters] = cell;
            shawls[sitters] = newShawls;
            onBits |= 1 << sitters;
            sitters++;
            return true;
        }

        void goOn(int n) {
            for (int k = 0; k < n; k++) {
                begin();
                for (int air = 0; air < airs; air++) {
                    blow(air);
                }
                freeze();
            }
        }

        /** A turn in which no air does anything. */
        void goOnStill() {
            begin();
            freeze();
        }

        /** Behind how many turns he is off first; one more than all that are looked at, if in none. */
        int goOnTillOff(int sitter) {
            for (int turns = 0; turns < MOST_TURNS; turns++) {
                if (!isOn(sitter)) {
                    return turns;
                }
                goOn(1);
            }
            return isOn(sitter) ? MOST_TURNS + 1 : MOST_TURNS;
        }

        private void begin() {
            turn++;
            if (hearth.count > 0) {
                for (int cell = 0; cell < CELLS; cell++) {
                    warmth[cell] = hearth.warmed(warmth[cell]);
                }
            }
        }

        private void freeze() {
            for (int sitter = 0; sitter < sitters; sitter++) {
                if (isOn(sitter) && warmth[seat[sitter]] < (float) (8 - shawls[sitter])) {
                    onBits &= ~(1 << sitter);
                }
            }
        }

        private void blow(int air) {
            int most = Breath.leaps(kind[air], figure[air]);
            int leaps = 0;
            for (int k = 0; k < most; k++) {
                int byWay = wayToLeap(air);
                if (byWay < 0) {
                    break;
                }
                int over = nextCell(airCell[air], byWay);
                leapOver(sitterOn(over));
                arrive(air, nextCell(over, byWay), byWay);
                leaps++;
            }
            if (leaps == 0) {
                int byWay = wayToWalk(air);
                if (byWay < 0) {
                    way[air] = (way[air] + 2) % WAYS;
                } else {
                    arrive(air, nextCell(airCell[air], byWay), byWay);
                }
            }
            int line = airCell[air] / SIDE;
            if (line == 0 || line == SIDE - 1) {
                crownedBits |= 1 << air;
            }
        }

        /** -1 if there is none. */
        private int wayToLeap(int air) {
            int tries = isCrowned(air) ? WAYS : 2;
            for (int k = 0; k < tries; k++) {
                int tried = (way[air] + k) % WAYS;
                int over = nextCell(airCell[air], tried);
                int behind = over < 0 ? -1 : nextCell(over, tried);
                if (behind >= 0 && sitterOn(over) != NONE && isFree(behind)) {
                    return tried;
                }
            }
            return -1;
        }

        /** -1 if there is none. */
        private int wayToWalk(int air) {
            int tries = isCrowned(air) ? WAYS : 2;
            for (int k = 0; k < tries; k++) {
                int tried = (way[air] + k) % WAYS;
                int next = nextCell(airCell[air], tried);
                if (next >= 0 && isFree(next)) {
                    return tried;
                }
            }
            return -1;
        }

        private void leapOver(int sitter) {
            if (sitter < 0 || sitter >= sitters) {
                return;
            }
            taken = Math.min(taken + 1, MOST_TAKEN);
            if (shawls[sitter] > 0) {
                shawls[sitter]--;
            } else {
                onBits &= ~(1 << sitter);
            }
        }

        private void arrive(int air, int cell, int byWay) {
            if (cell < 0 || cell >= CELLS) {
                return;
            }
            airCell[air] = cell;
            way[air] = byWay;
            warmth[cell] = Hearth.held(Breath.chills(kind[air], figure[air], turn, warmth[cell]));
        }

        /** The next cell by a way; -1 outside. */
        private static int nextCell(int cell, int byWay) {
            int line = cell / SIDE + (byWay == 1 || byWay == 2 ? 1 : -1);
            int column = cell % SIDE + (byWay < 2 ? 1 : -1);
            if (line < 0 || line >= SIDE || column < 0 || column >= SIDE) {
                return -1;
            }
            return SIDE * line + column;
        }
    }

    /** The houses as they were ahead of the latest changes, in a ring that is written over. */
    private static final class Past {
        final House[] kept = new House[MOST_KEPT];
        int next;
        int count;

        Past() {
            for (int k = 0; k < MOST_KEPT; k++) {
                kept[k] = new House();
            }
        }

        void keep(House house) {
            kept[next].take(house);
            next = (next + 1) % MOST_KEPT;
            count = Math.min(count + 1, MOST_KEPT);
        }

        void giveBack(House house) {
            next = (next + MOST_KEPT - 1) % MOST_KEPT;
            count--;
            house.take(kept[next]);
        }

        void forget() {
            count = 0;
        }
    }

    /** The letters in which a house is told. A fault at a place is kept as -1 less the place, so that it is below 0. */
    private static final class Text {
        final int[] letters = new int[MOST_LETTERS];
        int length;

        static int faultAt(int place) {
            return -1 - place;
        }

        static int placeOf(int fault) {
            return -1 - fault;
        }

        /** How many statements there are, or the fault. */
        int statements() {
            if (length == 0) {
                return faultAt(0);
            }
            int at = 0;
            for (int many = 0; many < MOST_LETTERS; many++) {
                if (at >= length) {
                    return many;
                }
                int end = statementEnd(at);
                if (end < 0) {
                    return end;
                }
                at = end;
            }
            return faultAt(at);
        }

        /** The place behind the statement's ";", or the fault. */
        int statementEnd(int at) {
            int end;
            switch (letterAt(at)) {
                case 'a': end = digitsEnd(at + 1, 5); break;
                case 'p': end = digitsEnd(at + 1, 3); break;
                case 'd': end = digitsEnd(at + 1, 2); break;
                case 'w': end = digitsEnd(at + 1, 4); break;
                case 't': end = digitsEnd(at + 1, 2); break;
                case 'l': end = stepsEnd(at + 1); break;
                default: end = faultAt(at);
            }
            if (end >= 0) {
                end = letterAt(end) == ';' ? end + 1 : faultAt(end);
            }
            return end;
        }

        /** The statement at a place comes to a house: whether it is as it must be. */
        boolean tell(int at, House house) {
            switch (letterAt(at)) {
                case 'a': return tellAir(at + 1, house);
                case 'p': return number(at + 1, 2) < CELLS && house.addSitter(number(at + 1, 2), number(at + 3, 1));
                case 'd': return tellShut(number(at + 1, 2), house);
                case 'w': return tellWarm(number(at + 1, 2), number(at + 3, 2), house);
                case 'l': return tellHearth(at + 1, house.hearth);
                default: break;
            }
            int turns = number(at + 1, 2);
            if (turns < 1 || turns > MOST_TURNS || house.turn + turns > MOST_TURN) {
                return false;
            }
            house.goOn(turns);
            return true;
        }

        private int letterAt(int place) {
            return place >= 0 && place < length ? letters[place] : -1;
        }

        private int number(int at, int digits) {
            int number = 0;
            for (int k = 0; k < digits; k++) {
                number = 10 * number + letterAt(at + k) - '0';
            }
            return number;
        }

        private int digitsEnd(int at, int digits) {
            for (int k = 0; k < digits; k++) {
                int letter = letterAt(at + k);
                if (letter < '0' || letter > '9') {
                    return faultAt(at + k);
                }
            }
            return at + digits;
        }

        private int stepsEnd(int from) {
            int at = from;
            for (int k = 0; k < MOST_LETTERS && stepAt(at) >= 0; k++) {
                at = stepEnd(at);
                if (at < 0) {
                    return at;
                }
            }
            return at;
        }

        private int stepEnd(int at) {
            return stepAt(at) == STEP_C ? at + 1 : digitsEnd(at + 1, 2);
        }

        private int stepAt(int place) {
            switch (letterAt(place)) {
                case 't': return STEP_T;
                case 'm': return STEP_M;
                case 'a': return STEP_A;
                case 's': return STEP_S;
                case 'g': return STEP_G;
                case 'l': return STEP_L;
                case 'c': return STEP_C;
                default: return -1;
            }
        }

        private boolean tellAir(int at, House house) {
            int kind = number(at, 1);
            int cell = number(at + 2, 2);
            int way = number(at + 4, 1);
            return kind < KINDS && cell < CELLS && way < WAYS && house.addAir(kind, number(at + 1, 1), cell, way);
        }

        private static boolean tellShut(int cell, House house) {
            if (cell >= CELLS || house.isTaken(cell)) {
                return false;
            }
            house.toggleShut(cell);
            return true;
        }

        private static boolean tellWarm(int cell, int n, House house) {
            if (cell >= CELLS) {
                return false;
            }
            house.warmth[cell] = (float) n;
            return true;
        }

        private boolean tellHearth(int from, Hearth hearth) {
            hearth.count = 0;
            int at = from;
            for (int k = 0; k < MOST_STEPS && stepAt(at) >= 0; k++) {
                int step = stepAt(at);
                hearth.add(step, step == STEP_C ? 0 : number(at + 1, 2));
                at = stepEnd(at);
            }
            return letterAt(at) == ';';
        }
    }

    /** The pegs' rows of coats. A coat is told as 10 times its sort and its thickness, an empty place as 0. */
    private static final class Pegs {
        final int[] sorts = new int[PEGS];
        /** How many places a peg's row has; -1 where none is held. */
        final int[] sizes = new int[PEGS];
        final int[][] places = new int[PEGS][MOST_PLACES];
        final int[] carried = new int[MOST_PLACES];

        Pegs() {
            for (int peg = 0; peg < PEGS; peg++) {
                sizes[peg] = -1;
            }
        }

        void holdRow(int peg, int sort, int n) {
            sorts[peg] = sort;
            sizes[peg] = n;
            for (int i = 0; i < MOST_PLACES; i++) {
                places[peg][i] = 0;
            }
        }

        boolean holdsRow(int peg) {
            return sizes[peg] >= 0;
        }

        boolean hasPlaces(int peg, int from, int n) {
            return from >= 0 && n >= 0 && n <= sizes[peg] && from <= sizes[peg] - n;
        }

        int placeFault(int peg, int i) {
            if (!holdsRow(peg)) {
                return NOTHING;
            }
            return hasPlaces(peg, i, 1) ? 0 : BEYOND;
        }

        int coatFault(int peg, int i) {
            int fault = placeFault(peg, i);
            if (fault != 0) {
                return fault;
            }
            return places[peg][i] == 0 ? EMPTY : 0;
        }

        boolean put(int peg, int i, int coat) {
            if (coat != 0 && sorts[peg] != ANY && sorts[peg] != coat / 10) {
                return false;
            }
            places[peg][i] = coat;
            return true;
        }

        /** All places are read ahead of the first that is written: the two pegs may be one. */
        boolean carry(int peg, int i, int other, int j, int n) {
            for (int k = 0; k < n; k++) {
                carried[k] = places[peg][i + k];
            }
            for (int k = 0; k < n; k++) {
                if (!put(other, j + k, carried[k])) {
                    return false;
                }
            }
            return true;
        }
    }
}
