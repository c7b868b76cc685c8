import java.util.NoSuchElementException;

/** A gorge whose bays keep cries; ../shared/DOC.md says what every call answers. */
public final class CryGorge {
    public static final int NONE = -1;

    private static final int TAPE_BYTES = 600;
    private static final int LAW_BYTES = 150;
    private static final int WORK_BYTES = 150;
    private static final int HEARD_BYTES = 60;
    private static final int FED_BYTES = 20;

    private static final int MAX_CLAUSES = 60;
    private static final int MAX_BAYS = 6;
    private static final int MAX_CRIES = 8;
    private static final int MAX_HOLDS = 4;
    private static final int MAX_LINES = 6;
    private static final int MAX_OPEN = 6;
    private static final int MAX_STEPS = 200;
    private static final int MAX_WORKS = 16;
    private static final int MAX_IMAGES = 3;
    private static final int MAX_PLANNED = 5;
    private static final int MAX_STRENGTH = 99;
    private static final int MAX_AGE_HEARD = 40;
    private static final int LAST_YEAR = 300;
    private static final int LASTS_YEARS = 60;
    private static final int MAX_SUM = MAX_CRIES * MAX_STRENGTH;

    private static final int LOOSE = NONE;
    private static final int OUT = -2;

    private static final int WRONG = 1;
    private static final int BAD_NUMBER = 2;
    private static final int TOO_MANY = 3;

    private static final int FAULT_SHIFT = 10;
    private static final int TOO_MANY_WORKS = -20;

    private final byte[] tape;
    private final Reader reader;
    private final Land land;
    private final Land readLand;
    private final Law rule;
    private final Law readRule;
    private final Heard lines;
    private final Heard readLines;
    private final Work keeping;
    private final Seasons seasons;
    private final State now;
    private final State trial;
    private final History history;
    private final Planner planner;
    private final Guesses guesses;
    private final Century fate;

    private int tapeSize;
    private int faultPlace;
    private int noSuchCalls;
    private int illegalCalls;

    public CryGorge() {
        tape = new byte[TAPE_BYTES];
        reader = new Reader(tape);
        land = new Land();
        readLand = new Land();
        rule = new Law();
        readRule = new Law();
        lines = new Heard();
        readLines = new Heard();
        keeping = new Work();
        seasons = new Seasons(land, rule);
        now = new State(land);
        trial = new State(land);
        history = new History();
        planner = new Planner(land, seasons);
        guesses = new Guesses(land, seasons);
        fate = new Century(land, seasons);
        faultPlace = NONE;
    }

    public int feed(int a, int b, int c, int d, int e) {
        if (tapeSize > TAPE_BYTES - FED_BYTES) {
            return NONE;
        }
        putOnTape(a);
        putOnTape(b);
        putOnTape(c);
        putOnTape(d);
        putOnTape(e);
        return tapeSize;
    }

    private void putOnTape(int number) {
        for (int shift = 24; shift >= 0 && tapeSize < tape.length; shift -= 8) {
            tape[tapeSize] = (byte) (number >>> shift);
            tapeSize++;
        }
    }

    public int gorge(int n) throws IllegalArgumentException {
        openText(n, TAPE_BYTES);
        readLand.read(reader);
        if (closeText()) {
            return reader.kind() - FAULT_SHIFT;
        }
        land.copyFrom(readLand);
        beginAnew();
        return land.cries;
    }

    private void beginAnew() {
        rule.setUsual();
        lines.clear();
        history.clear();
        now.begin();
    }

    public int law(int n) throws IllegalArgumentException {
        openText(n, LAW_BYTES);
        readRule.read(reader);
        if (closeText()) {
            return reader.kind() - FAULT_SHIFT;
        }
        rule.copyFrom(readRule);
        return 1;
    }

    public int work(int n) throws IllegalArgumentException {
        openText(n, WORK_BYTES);
        if (history.isFull()) {
            faultPlace = NONE;
            return TOO_MANY_WORKS;
        }
        keeping.read(reader, land);
        if (closeText()) {
            return reader.kind() - FAULT_SHIFT;
        }
        history.push(now);
        keeping.run(now, seasons);
        history.refused = keeping.refused;
        return keeping.done;
    }

    public int heard(int n) throws IllegalArgumentException {
        openText(n, HEARD_BYTES);
        readLines.read(reader);
        if (closeText()) {
            return reader.kind() - FAULT_SHIFT;
        }
        lines.copyFrom(readLines);
        return lines.size;
    }

    /** The tape is empty as soon as a text is taken from it, whether the text is good or not. */
    private void openText(int n, int most) {
        checkArgument(n >= 0 && n <= most && n <= tapeSize);
        tapeSize = 0;
        reader.start(n);
    }

    /** Answers whether the text had a fault. */
    private boolean closeText() {
        faultPlace = reader.failed() ? reader.place() : NONE;
        return reader.failed();
    }

    public int fault() {
        return faultPlace;
    }

    public int undo() {
        return history.pop(now) ? history.works : NONE;
    }

    public int told(int what) throws IllegalArgumentException {
        checkArgument(what >= 0 && what <= 10);
        switch (what) {
            case 0:
                return land.bays;
            case 1:
                return land.cries;
            case 2:
                return now.year;
            case 3:
                return land.term;
            case 4:
                return now.feltLeft;
            case 5:
                return now.keptOnes();
            case 6:
                return now.outOnes();
            case 7:
                return now.goneOnes();
            case 8:
                return lines.size;
            case 9:
                return history.refused;
            default:
                return now.strengthOfAll();
        }
    }

    public int bay(int bay, int what) throws NoSuchElementException, IllegalArgumentException {
        checkBay(bay);
        checkArgument(what >= 0 && what <= 4);
        switch (what) {
            case 0:
                return land.fade[bay];
            case 1:
                return land.holds[bay];
            case 2:
                return now.keptIn(bay);
            case 3:
                return now.feltAt(bay);
            default:
                return land.neighbours(bay);
        }
    }

    public int cry(int cry, int what) throws NoSuchElementException, IllegalArgumentException {
        checkCry(cry);
        checkArgument(what >= 0 && what <= 5);
        switch (what) {
            case 0:
                return land.pitch[cry];
            case 1:
                return now.strength[cry];
            case 2:
                return now.age[cry];
            case 3:
                return now.place[cry];
            case 4:
                return seasons.loss(now, cry);
            default:
                return land.strength[cry];
        }
    }

    public int would(int fade, int mates, int felt, int strength, int pitch, int age, int bay, int year)
            throws IllegalArgumentException {
        checkRange(fade, 0, 20);
        checkRange(mates, 0, MAX_HOLDS - 1);
        checkRange(felt, 0, 1);
        checkRange(strength, 0, MAX_STRENGTH);
        checkRange(pitch, 0, 60);
        checkRange(age, 0, 400);
        checkRange(bay, 0, MAX_BAYS - 1);
        checkRange(year, 0, LAST_YEAR);
        rule.given[Law.FADE] = fade;
        rule.given[Law.MATES] = mates;
        rule.given[Law.FELT] = felt;
        rule.given[Law.STRENGTH] = strength;
        rule.given[Law.PITCH] = pitch;
        rule.given[Law.AGE] = age;
        rule.given[Law.BAY] = bay;
        rule.given[Law.YEAR] = year;
        return rule.fades();
    }

    public int ahead(int n, int what) throws IllegalArgumentException {
        checkRange(n, 0, 99);
        checkRange(what, 0, 1);
        trial.copyFrom(now);
        for (int year = 0; year < n; year++) {
            seasons.pass(trial);
        }
        return what == 0 ? trial.strengthOfAll() : trial.goneOnes();
    }

    public int lasts(int cry) throws NoSuchElementException {
        checkCry(cry);
        trial.copyFrom(now);
        for (int years = 0; years <= LASTS_YEARS; years++) {
            if (trial.strength[cry] == 0) {
                return years;
            }
            seasons.pass(trial);
        }
        return NONE;
    }

    public int ripe(int cry) throws NoSuchElementException {
        checkCry(cry);
        trial.copyFrom(now);
        for (int age = now.age[cry]; age < land.term; age++) {
            seasons.pass(trial);
        }
        return trial.strength[cry];
    }

    public int plan(int cries) throws IllegalArgumentException {
        checkPlanned(cries);
        return planner.leastLoss(cries, now);
    }

    public int planned(int cries, int cry) throws NoSuchElementException, IllegalArgumentException {
        checkCry(cry);
        checkPlanned(cries);
        if ((cries >> cry & 1) == 0 || planner.leastLoss(cries, now) == NONE) {
            return NONE;
        }
        // The planner numbers the told cries alone.
        return planner.bayOf(Integer.bitCount(cries & (1 << cry) - 1));
    }

    private void checkPlanned(int cries) {
        checkBits(cries, land.cries);
        checkArgument(Integer.bitCount(cries) <= MAX_PLANNED);
    }

    public int whose(int what) throws IllegalArgumentException {
        checkRange(what, 0, 1);
        guesses.match(lines, now);
        return what == 0 ? guesses.many : guesses.firstPair();
    }

    public int listen(int what) throws IllegalArgumentException {
        checkRange(what, 0, 1);
        guesses.match(lines, now);
        guesses.weighAges(lines);
        return what == 0 ? guesses.bestAge : guesses.fewestLeft;
    }

    public int interval(int cry, int other) throws NoSuchElementException {
        checkCry(cry);
        checkCry(other);
        return land.intervalOf(cry, other);
    }

    public int pairs(int interval, int what) throws IllegalArgumentException {
        checkRange(interval, 0, 11);
        checkRange(what, 0, 1);
        int many = 0;
        int first = NONE;
        for (int cry = 0; cry < land.cries; cry++) {
            for (int other = cry + 1; other < land.cries; other++) {
                if (land.intervalOf(cry, other) == interval) {
                    many++;
                    first = first == NONE ? 10 * cry + other : first;
                }
            }
        }
        return what == 0 ? many : first;
    }

    public int chord(int sum, int what) throws IllegalArgumentException {
        checkRange(sum, 0, MAX_SUM);
        checkRange(what, 0, 2);
        int many = 0;
        int first = NONE;
        int sure = (1 << land.cries) - 1;
        int out = now.outOnes();
        for (int set = 0; set < 1 << land.cries; set++) {
            if ((set & out) == 0 && now.strengthOf(set) == sum) {
                many++;
                first = first == NONE ? set : first;
                sure &= set;
            }
        }
        if (what == 2) {
            return many == 0 ? 0 : sure;
        }
        return what == 0 ? many : first;
    }

    public int way(int bay, int other, int what) throws NoSuchElementException, IllegalArgumentException {
        checkBay(bay);
        checkBay(other);
        checkRange(what, 0, 1);
        return what == 0 ? land.distance[bay][other] : land.nextOnWay(bay, other);
    }

    public int round(int bay, int bays) throws NoSuchElementException, IllegalArgumentException {
        checkBay(bay);
        checkBits(bays, land.bays);
        return land.leastWalk(bay, bays & ~(1 << bay));
    }

    public int ears() {
        return land.fewestKeepers();
    }

    public int prices(int k, int v, int what) throws IllegalArgumentException {
        checkRange(k, 0, 9);
        checkRange(v, 0, 9);
        checkRange(what, 0, 2);
        int many = 0;
        int first = NONE;
        int together = 0;
        for (int one = 0; one <= k; one++) {
            for (int other = 0; other <= k; other++) {
                if (isBest(one, other, k, v) && isBest(other, one, k, v)) {
                    many++;
                    if (first == NONE) {
                        first = 10 * one + other;
                        together = gain(one, other, v) + gain(other, one, v);
                    }
                }
            }
        }
        if (what == 2) {
            return together;
        }
        return what == 0 ? many : first;
    }

    private static boolean isBest(int own, int other, int k, int v) {
        int has = gain(own, other, v);
        for (int price = 0; price <= k; price++) {
            if (gain(price, other, v) > has) {
                return false;
            }
        }
        return true;
    }

    private static int gain(int own, int other, int v) {
        if (own == other) {
            return own / 2 + v;
        }
        return own < other ? own : 0;
    }

    public int share(int cry, int cries, int n) throws NoSuchElementException, IllegalArgumentException {
        checkCry(cry);
        checkBits(cries, land.cries);
        checkRange(n, 0, 999);
        if ((cries >> cry & 1) == 0) {
            return 0;
        }
        int bound = 0;
        while (bound < MAX_STRENGTH && now.levelled(cries, bound + 1) <= n) {
            bound++;
        }
        return Math.min(now.strength[cry], bound);
    }

    public int loudest(int what) throws IllegalArgumentException {
        checkRange(what, 0, 1);
        int best = NONE;
        int most = NONE;
        for (int cry = 0; cry < land.cries; cry++) {
            if (now.place[cry] != OUT && now.strength[cry] > most) {
                best = cry;
                most = now.strength[cry];
            }
        }
        return what == 0 ? best : most;
    }

    public int kindest(int cry, int what) throws NoSuchElementException, IllegalArgumentException {
        checkCry(cry);
        checkRange(what, 0, 1);
        int best = NONE;
        int least = NONE;
        for (int bay = 0; bay < land.bays; bay++) {
            int loss = seasons.lossIn(now, cry, bay, 0);
            if (best == NONE || loss < least) {
                best = bay;
                least = loss;
            }
        }
        return what == 0 ? best : least;
    }

    public int grown() {
        int bits = 0;
        for (int cry = 0; cry < land.cries; cry++) {
            if (now.isRipe(cry)) {
                bits |= 1 << cry;
            }
        }
        return bits;
    }

    public int room() {
        int left = 0;
        for (int bay = 0; bay < land.bays; bay++) {
            left += land.holds[bay] - Integer.bitCount(now.keptIn(bay));
        }
        return left;
    }

    public int century(int seed, int years, int q, int m, int what) throws IllegalArgumentException {
        checkFate(years, q, m);
        checkRange(what, 0, 3);
        trial.copyFrom(now);
        fate.run(trial, seed, years, q, m);
        switch (what) {
            case 0:
                return trial.strengthOfAll();
            case 1:
                return trial.goneOnes();
            case 2:
                return fate.loosed;
            default:
                return fate.bared;
        }
    }

    public int span(int seed, int many, int years, int q, int m, int what, int cry) throws IllegalArgumentException {
        checkRange(many, 1, 20);
        checkFate(years, q, m);
        checkRange(what, 0, 2);
        checkArgument(land.hasCry(cry));
        int least = MAX_SUM;
        int most = 0;
        int alive = 0;
        for (int i = 0; i < many; i++) {
            trial.copyFrom(now);
            fate.run(trial, seed + i, years, q, m);
            least = Math.min(least, trial.strengthOfAll());
            most = Math.max(most, trial.strengthOfAll());
            alive += trial.strength[cry] > 0 ? 1 : 0;
        }
        if (what == 2) {
            return alive;
        }
        return what == 0 ? least : most;
    }

    private void checkFate(int years, int q, int m) {
        checkRange(years, 1, 96);
        checkRange(q, 0, 16);
        checkRange(m, 0, 16);
    }

    public int image() {
        return history.saveImage(now) ? history.images : NONE;
    }

    public int restore() {
        return history.loadImage(now) ? history.images : NONE;
    }

    public int status(int what) {
        if (what == 0) {
            return noSuchCalls;
        }
        return what == 1 ? illegalCalls : NONE;
    }

    public int count(int what) {
        switch (what) {
            case 0:
                return history.images;
            case 1:
                return tapeSize;
            case 2:
                return history.works;
            default:
                return NONE;
        }
    }

    private void checkArgument(boolean good) {
        if (!good) {
            illegalCalls++;
            throw new IllegalArgumentException("an argument is none such");
        }
    }

    private void checkRange(int value, int least, int most) {
        checkArgument(value >= least && value <= most);
    }

    private void checkBits(int bits, int many) {
        checkArgument(bits >= 0 && bits >> many == 0);
    }

    private void checkBay(int bay) {
        checkElement(land.hasBay(bay));
    }

    private void checkCry(int cry) {
        checkElement(land.hasCry(cry));
    }

    private void checkElement(boolean there) {
        if (!there) {
            noSuchCalls++;
            throw new NoSuchElementException("no such bay or cry");
        }
    }

    /**
     * Reads the first bytes of the tape piece by piece. Only the first fault counts: whoever reads
     * on behind one does no harm, so that not every piece needs to be asked for.
     */
    private static final class Reader {
        private static final int END = -1;
        private static final int HUGE = 1000000;

        private final byte[] text;
        private int length;
        private int at;
        private int piece;
        private int open;
        private int kind;
        private int place;

        Reader(byte[] text) {
            this.text = text;
        }

        void start(int n) {
            length = Math.max(0, Math.min(n, text.length));
            at = 0;
            piece = 0;
            open = 0;
            kind = 0;
            place = NONE;
        }

        boolean failed() {
            return kind != 0;
        }

        int kind() {
            return kind;
        }

        int place() {
            return place;
        }

        /** A fault at the first byte of the piece that was read or looked at last. */
        void fail(int fault) {
            if (kind == 0) {
                kind = fault;
                place = piece;
            }
        }

        /** The sign of the next piece, or END. */
        int next() {
            while (at < length && text[at] == ' ') {
                at++;
            }
            piece = at;
            return at < length ? text[at] & 255 : END;
        }

        boolean more() {
            return !failed() && next() != END;
        }

        boolean take(char sign) {
            if (next() != sign) {
                return false;
            }
            at++;
            return true;
        }

        void need(char sign) {
            if (next() == sign) {
                at++;
            } else {
                fail(WRONG);
            }
        }

        int number(int least, int most) {
            next();
            int value = 0;
            while (at < length && isDigit(text[at])) {
                value = Math.min(value * 10 + (text[at] - '0'), HUGE);
                at++;
            }
            if (at == piece) {
                fail(WRONG);
            } else if (value < least || value > most) {
                fail(BAD_NUMBER);
            }
            return value;
        }

        void word() {
            next();
            while (at < length && text[at] >= 'a' && text[at] <= 'z') {
                at++;
            }
        }

        /** Whether the word that was read last is this one. */
        boolean wordIs(String name) {
            if (at - piece != name.length()) {
                return false;
            }
            for (int i = 0; i < name.length(); i++) {
                if (text[piece + i] != name.charAt(i)) {
                    return false;
                }
            }
            return true;
        }

        void enter() {
            if (open >= MAX_OPEN) {
                fail(TOO_MANY);
            }
            open++;
        }

        void leave() {
            open--;
        }

        static boolean isDigit(int sign) {
            return sign >= '0' && sign <= '9';
        }
    }

    /** The gorge as told: nothing in it changes until the next gorge is told. */
    private static final class Land {
        private static final int USUAL_TERM = 21;
        private static final int USUAL_FELT = 3;

        private final int[] fade = new int[MAX_BAYS];
        private final int[] holds = new int[MAX_BAYS];
        private final int[] pitch = new int[MAX_CRIES];
        private final int[] strength = new int[MAX_CRIES];
        private final int[][] path = new int[MAX_BAYS][MAX_BAYS];
        private final int[][] distance = new int[MAX_BAYS][MAX_BAYS];
        private int bays;
        private int cries;
        private int term = USUAL_TERM;
        private int felt = USUAL_FELT;

        void read(Reader reader) {
            bays = 0;
            cries = 0;
            term = USUAL_TERM;
            felt = USUAL_FELT;
            for (int bay = 0; bay < MAX_BAYS; bay++) {
                for (int other = 0; other < MAX_BAYS; other++) {
                    path[bay][other] = 0;
                }
            }
            for (int clause = 0; clause <= MAX_CLAUSES && reader.more(); clause++) {
                readClause(reader, clause == MAX_CLAUSES);
                reader.need(';');
            }
            measure();
        }

        private void readClause(Reader reader, boolean tooMany) {
            reader.word();
            if (reader.wordIs("bay")) {
                readBay(reader, tooMany);
            } else if (reader.wordIs("cry")) {
                readCry(reader, tooMany);
            } else if (reader.wordIs("path")) {
                readPath(reader, tooMany);
            } else if (reader.wordIs("term")) {
                allow(reader, !tooMany);
                term = reader.number(1, 40);
            } else if (reader.wordIs("felt")) {
                allow(reader, !tooMany);
                felt = reader.number(0, 9);
            } else {
                reader.fail(WRONG);
            }
        }

        private static void allow(Reader reader, boolean fits) {
            if (!fits) {
                reader.fail(TOO_MANY);
            }
        }

        private void readBay(Reader reader, boolean tooMany) {
            allow(reader, !tooMany && bays < MAX_BAYS);
            int fades = reader.number(0, 20);
            int held = reader.number(1, MAX_HOLDS);
            if (!reader.failed() && bays < MAX_BAYS) {
                fade[bays] = fades;
                holds[bays] = held;
                bays++;
            }
        }

        private void readCry(Reader reader, boolean tooMany) {
            allow(reader, !tooMany && cries < MAX_CRIES);
            int high = reader.number(0, 60);
            int strong = reader.number(1, MAX_STRENGTH);
            if (!reader.failed() && cries < MAX_CRIES) {
                pitch[cries] = high;
                strength[cries] = strong;
                cries++;
            }
        }

        private void readPath(Reader reader, boolean tooMany) {
            allow(reader, !tooMany);
            int bay = reader.number(0, bays - 1);
            int other = reader.number(0, bays - 1);
            if (bay == other) {
                reader.fail(BAD_NUMBER);
            }
            int length = reader.number(1, 40);
            if (!reader.failed() && hasBay(bay) && hasBay(other)) {
                path[bay][other] = length;
                path[other][bay] = length;
            }
        }

        boolean hasBay(int bay) {
            return bay >= 0 && bay < bays;
        }

        boolean hasCry(int cry) {
            return cry >= 0 && cry < cries;
        }

        void copyFrom(Land other) {
            bays = other.bays;
            cries = other.cries;
            term = other.term;
            felt = other.felt;
            System.arraycopy(other.fade, 0, fade, 0, MAX_BAYS);
            System.arraycopy(other.holds, 0, holds, 0, MAX_BAYS);
            System.arraycopy(other.pitch, 0, pitch, 0, MAX_CRIES);
            System.arraycopy(other.strength, 0, strength, 0, MAX_CRIES);
            for (int bay = 0; bay < MAX_BAYS; bay++) {
                System.arraycopy(other.path[bay], 0, path[bay], 0, MAX_BAYS);
                System.arraycopy(other.distance[bay], 0, distance[bay], 0, MAX_BAYS);
            }
        }

        /** Measures once, when the gorge is told, since way and round ask for it over and over. */
        private void measure() {
            for (int bay = 0; bay < MAX_BAYS; bay++) {
                for (int other = 0; other < MAX_BAYS; other++) {
                    int direct = path[bay][other] > 0 ? path[bay][other] : NONE;
                    distance[bay][other] = bay == other ? 0 : direct;
                }
            }
            for (int by = 0; by < MAX_BAYS; by++) {
                for (int bay = 0; bay < MAX_BAYS; bay++) {
                    for (int other = 0; other < MAX_BAYS; other++) {
                        int along = added(distance[bay][by], distance[by][other]);
                        distance[bay][other] = lesser(distance[bay][other], along);
                    }
                }
            }
        }

        /** The sum of two lengths, of which each may be NONE. */
        private static int added(int one, int other) {
            return one == NONE || other == NONE ? NONE : one + other;
        }

        /** The lesser of two lengths, of which each may be NONE. */
        private static int lesser(int one, int other) {
            if (one == NONE || other == NONE) {
                return Math.max(one, other);
            }
            return Math.min(one, other);
        }

        int neighbours(int bay) {
            int bits = 0;
            for (int other = 0; other < bays; other++) {
                if (path[bay][other] > 0) {
                    bits |= 1 << other;
                }
            }
            return bits;
        }

        int nextOnWay(int bay, int other) {
            if (distance[bay][other] <= 0) {
                return NONE;
            }
            for (int next = 0; next < bays; next++) {
                if (path[bay][next] > 0 && distance[next][other] != NONE
                        && path[bay][next] + distance[next][other] == distance[bay][other]) {
                    return next;
                }
            }
            return NONE;
        }

        /** Calls itself with one bay less to pass, so at most six deep. */
        private int leastWalk(int bay, int left) {
            if (left == 0) {
                return 0;
            }
            int best = NONE;
            for (int next = 0; next < bays; next++) {
                if ((left >> next & 1) == 1 && distance[bay][next] != NONE) {
                    int rest = leastWalk(next, left & ~(1 << next));
                    best = lesser(best, added(distance[bay][next], rest));
                }
            }
            return best;
        }

        int fewestKeepers() {
            int all = (1 << bays) - 1;
            int best = all;
            for (int set = 0; set <= all; set++) {
                if (Integer.bitCount(set) < Integer.bitCount(best) && heardBy(set) == all) {
                    best = set;
                }
            }
            return best;
        }

        private int heardBy(int keepers) {
            int bits = keepers;
            for (int bay = 0; bay < bays; bay++) {
                if ((keepers >> bay & 1) == 1) {
                    bits |= neighbours(bay);
                }
            }
            return bits;
        }

        int intervalOf(int cry, int other) {
            return Math.abs(pitch[cry] - pitch[other]) % 12;
        }
    }

    /** A law, turned into steps on a pile of values: an operation stands behind what it joins. */
    private static final class Law {
        static final int FADE = 0;
        static final int MATES = 1;
        static final int FELT = 2;
        static final int STRENGTH = 3;
        static final int PITCH = 4;
        static final int AGE = 5;
        static final int BAY = 6;
        static final int YEAR = 7;
        private static final int NAMES = 8;

        private static final int NUMBER = 0;
        private static final int GIVEN = 1;
        private static final int PLUS = 2;
        private static final int MINUS = 3;
        private static final int TIMES = 4;
        private static final int OVER = 5;
        private static final int REST = 6;
        private static final int LEAST = 7;
        private static final int MOST = 8;

        private final int[] given = new int[NAMES];
        private final int[] kinds = new int[LAW_BYTES];
        private final int[] values = new int[LAW_BYTES];
        private final int[] pile = new int[LAW_BYTES];
        private int size;

        Law() {
            setUsual();
        }

        void setUsual() {
            size = 0;
            emit(GIVEN, FADE);
            emit(GIVEN, MATES);
            emit(PLUS, 0);
            emit(GIVEN, FELT);
            emit(NUMBER, 2);
            emit(TIMES, 0);
            emit(MINUS, 0);
        }

        void copyFrom(Law other) {
            size = other.size;
            System.arraycopy(other.kinds, 0, kinds, 0, LAW_BYTES);
            System.arraycopy(other.values, 0, values, 0, LAW_BYTES);
        }

        private void emit(int kind, int value) {
            if (size < kinds.length) {
                kinds[size] = kind;
                values[size] = value;
                size++;
            }
        }

        void read(Reader reader) {
            size = 0;
            readSum(reader);
            if (reader.more()) {
                reader.fail(WRONG);
            }
        }

        /** Comes back here through a bracket alone, of which the reader refuses the 7th. */
        private void readSum(Reader reader) {
            readProduct(reader);
            for (int i = 0; i < LAW_BYTES && !reader.failed(); i++) {
                int kind = reader.take('+') ? PLUS : reader.take('-') ? MINUS : NONE;
                if (kind == NONE) {
                    return;
                }
                readProduct(reader);
                emit(kind, 0);
            }
        }

        private void readProduct(Reader reader) {
            readUnit(reader);
            for (int i = 0; i < LAW_BYTES && !reader.failed(); i++) {
                int kind = reader.take('*') ? TIMES : reader.take('/') ? OVER : reader.take('%') ? REST : NONE;
                if (kind == NONE) {
                    return;
                }
                readUnit(reader);
                emit(kind, 0);
            }
        }

        private void readUnit(Reader reader) {
            if (reader.failed()) {
                return;
            }
            if (Reader.isDigit(reader.next())) {
                emit(NUMBER, reader.number(0, 999));
            } else if (reader.take('(')) {
                reader.enter();
                readSum(reader);
                reader.need(')');
                reader.leave();
            } else {
                reader.word();
                if (reader.wordIs("least")) {
                    readTwo(reader, LEAST);
                } else if (reader.wordIs("most")) {
                    readTwo(reader, MOST);
                } else {
                    emit(GIVEN, nameOf(reader));
                }
            }
        }

        private void readTwo(Reader reader, int kind) {
            reader.enter();
            reader.need('[');
            readSum(reader);
            reader.need(',');
            readSum(reader);
            reader.need(']');
            reader.leave();
            emit(kind, 0);
        }

        private static int nameOf(Reader reader) {
            if (reader.wordIs("fade")) {
                return FADE;
            }
            if (reader.wordIs("mates")) {
                return MATES;
            }
            if (reader.wordIs("felt")) {
                return FELT;
            }
            if (reader.wordIs("strength")) {
                return STRENGTH;
            }
            if (reader.wordIs("pitch")) {
                return PITCH;
            }
            if (reader.wordIs("age")) {
                return AGE;
            }
            if (reader.wordIs("bay")) {
                return BAY;
            }
            if (!reader.wordIs("year")) {
                reader.fail(WRONG);
            }
            return YEAR;
        }

        /** What a cry fades by what is given now. */
        int fades() {
            int top = 0;
            for (int i = 0; i < size; i++) {
                if (kinds[i] == NUMBER || kinds[i] == GIVEN) {
                    if (top < pile.length) {
                        pile[top] = valueOf(i);
                        top++;
                    }
                } else if (top >= 2) {
                    top--;
                    pile[top - 1] = join(kinds[i], pile[top - 1], pile[top]);
                }
            }
            return Math.max(0, Math.min(pile[0], MAX_STRENGTH));
        }

        private int valueOf(int i) {
            int value = values[i];
            if (kinds[i] == GIVEN && value >= 0 && value < given.length) {
                return given[value];
            }
            return value;
        }

        private static int join(int kind, int one, int other) {
            switch (kind) {
                case PLUS:
                    return one + other;
                case MINUS:
                    return one - other;
                case TIMES:
                    return one * other;
                case OVER:
                    return other == 0 ? 0 : one / other;
                case REST:
                    return other == 0 ? 0 : one % other;
                case LEAST:
                    return one < other ? one : other;
                default:
                    return one > other ? one : other;
            }
        }
    }

    /** Where each cry is, how strong and how old, and the doors: all that WORK changes. */
    private static final class State {
        static final int CELLS = 3 * MAX_CRIES + 3;

        private final Land land;
        private final int[] strength = new int[MAX_CRIES];
        private final int[] age = new int[MAX_CRIES];
        private final int[] place = new int[MAX_CRIES];
        private int felted;
        private int feltLeft;
        private int year;

        State(Land land) {
            this.land = land;
            begin();
        }

        void begin() {
            for (int cry = 0; cry < MAX_CRIES; cry++) {
                strength[cry] = cry < land.cries ? land.strength[cry] : 0;
                age[cry] = 0;
                place[cry] = LOOSE;
            }
            felted = 0;
            feltLeft = land.felt;
            year = 0;
        }

        void copyFrom(State other) {
            System.arraycopy(other.strength, 0, strength, 0, MAX_CRIES);
            System.arraycopy(other.age, 0, age, 0, MAX_CRIES);
            System.arraycopy(other.place, 0, place, 0, MAX_CRIES);
            felted = other.felted;
            feltLeft = other.feltLeft;
            year = other.year;
        }

        void store(int[] cells, int from) {
            if (from < 0 || from > cells.length - CELLS) {
                return;
            }
            System.arraycopy(strength, 0, cells, from, MAX_CRIES);
            System.arraycopy(age, 0, cells, from + MAX_CRIES, MAX_CRIES);
            System.arraycopy(place, 0, cells, from + 2 * MAX_CRIES, MAX_CRIES);
            cells[from + 3 * MAX_CRIES] = felted;
            cells[from + 3 * MAX_CRIES + 1] = feltLeft;
            cells[from + 3 * MAX_CRIES + 2] = year;
        }

        void load(int[] cells, int from) {
            if (from < 0 || from > cells.length - CELLS) {
                return;
            }
            System.arraycopy(cells, from, strength, 0, MAX_CRIES);
            System.arraycopy(cells, from + MAX_CRIES, age, 0, MAX_CRIES);
            System.arraycopy(cells, from + 2 * MAX_CRIES, place, 0, MAX_CRIES);
            felted = cells[from + 3 * MAX_CRIES];
            feltLeft = cells[from + 3 * MAX_CRIES + 1];
            year = cells[from + 3 * MAX_CRIES + 2];
        }

        int keptIn(int bay) {
            int bits = 0;
            for (int cry = 0; cry < land.cries; cry++) {
                if (place[cry] == bay) {
                    bits |= 1 << cry;
                }
            }
            return bits;
        }

        int keptOnes() {
            return (1 << land.cries) - 1 & ~keptIn(LOOSE) & ~keptIn(OUT);
        }

        int outOnes() {
            return keptIn(OUT);
        }

        int goneOnes() {
            int bits = 0;
            for (int cry = 0; cry < land.cries; cry++) {
                if (strength[cry] == 0) {
                    bits |= 1 << cry;
                }
            }
            return bits;
        }

        int strengthOf(int cries) {
            return levelled(cries, MAX_STRENGTH);
        }

        int strengthOfAll() {
            return strengthOf((1 << land.cries) - 1);
        }

        /** What told cries have together, if none counts for more than a bound. */
        int levelled(int cries, int bound) {
            int sum = 0;
            for (int cry = 0; cry < land.cries; cry++) {
                if ((cries >> cry & 1) == 1) {
                    sum += Math.min(strength[cry], bound);
                }
            }
            return sum;
        }

        int feltAt(int bay) {
            return felted >> bay & 1;
        }

        boolean isRipe(int cry) {
            return land.hasCry(cry) && place[cry] != OUT && age[cry] >= land.term;
        }

        boolean makeKept(int cry, int bay) {
            if (!land.hasCry(cry) || !land.hasBay(bay) || place[cry] == OUT || place[cry] == bay) {
                return false;
            }
            if (Integer.bitCount(keptIn(bay)) >= land.holds[bay]) {
                return false;
            }
            place[cry] = bay;
            return true;
        }

        boolean makeFelted(int bay) {
            if (!land.hasBay(bay) || feltAt(bay) == 1 || feltLeft == 0) {
                return false;
            }
            felted |= 1 << bay;
            feltLeft--;
            return true;
        }

        boolean makeBare(int bay) {
            if (!land.hasBay(bay) || feltAt(bay) == 0) {
                return false;
            }
            felted &= ~(1 << bay);
            feltLeft++;
            return true;
        }

        boolean makeLoose(int cry) {
            if (!land.hasCry(cry) || place[cry] < 0) {
                return false;
            }
            place[cry] = LOOSE;
            return true;
        }

        boolean makeStronger(int cry, int by) {
            if (!land.hasCry(cry) || place[cry] == OUT || strength[cry] >= MAX_STRENGTH) {
                return false;
            }
            strength[cry] = Math.min(strength[cry] + by, MAX_STRENGTH);
            return true;
        }

        boolean makeOut(int cry) {
            if (!isRipe(cry)) {
                return false;
            }
            place[cry] = OUT;
            return true;
        }
    }

    /** How cries fade by the law, and how years pass. */
    private static final class Seasons {
        private final Land land;
        private final Law rule;
        private final int[] losses = new int[MAX_CRIES];

        Seasons(Land land, Law rule) {
            this.land = land;
            this.rule = rule;
        }

        /** What a cry would lose in a bay, with so many mates; no more than it has. */
        int lossIn(State state, int cry, int bay, int mates) {
            int strength = state.strength[cry];
            if (strength == 0) {
                return 0;
            }
            rule.given[Law.FADE] = land.fade[bay];
            rule.given[Law.MATES] = mates;
            rule.given[Law.FELT] = state.feltAt(bay);
            rule.given[Law.STRENGTH] = strength;
            rule.given[Law.PITCH] = land.pitch[cry];
            rule.given[Law.AGE] = state.age[cry];
            rule.given[Law.BAY] = bay;
            rule.given[Law.YEAR] = state.year;
            return Math.min(rule.fades(), strength);
        }

        /** What a cry loses in the year that begins, where it is. */
        int loss(State state, int cry) {
            int bay = state.place[cry];
            int strength = state.strength[cry];
            if (bay == OUT) {
                return 0;
            }
            if (!land.hasBay(bay)) {
                return strength - strength / 2;
            }
            return lossIn(state, cry, bay, Integer.bitCount(state.keptIn(bay)) - 1);
        }

        void pass(State state) {
            for (int cry = 0; cry < land.cries; cry++) {
                losses[cry] = loss(state, cry);
            }
            for (int cry = 0; cry < land.cries; cry++) {
                state.strength[cry] -= losses[cry];
                if (state.place[cry] != OUT) {
                    state.age[cry]++;
                }
            }
            state.year++;
        }
    }

    /** A keeping text as rows of a kind and two numbers; an again knows its end, the end its again. */
    private static final class Work {
        private static final int KEEP = 0;
        private static final int FELT = 1;
        private static final int BARE = 2;
        private static final int LOOSEN = 3;
        private static final int FILL = 4;
        private static final int LET_OUT = 5;
        private static final int YEAR = 6;
        private static final int AGAIN = 7;
        private static final int END = 8;

        /** Far above 200 steps begun and the 40 ends of each. */
        private static final int MAX_TICKS = 100000;

        private final int[] kinds = new int[WORK_BYTES];
        private final int[] firsts = new int[WORK_BYTES];
        private final int[] seconds = new int[WORK_BYTES];
        private final int[] left = new int[WORK_BYTES];
        private int size;
        private int done;
        private int refused;

        private void emit(int kind, int first, int second) {
            if (size < kinds.length) {
                kinds[size] = kind;
                firsts[size] = first;
                seconds[size] = second;
                size++;
            }
        }

        void read(Reader reader, Land land) {
            size = 0;
            readSteps(reader, land);
            if (reader.more()) {
                reader.fail(WRONG);
            }
        }

        /** Comes back here through an again alone, of which the reader refuses the 7th. */
        private void readSteps(Reader reader, Land land) {
            for (int i = 0; i < WORK_BYTES && reader.more() && reader.next() != ']'; i++) {
                readStep(reader, land);
                reader.need(';');
            }
        }

        private void readStep(Reader reader, Land land) {
            int lastCry = land.cries - 1;
            int lastBay = land.bays - 1;
            reader.word();
            if (reader.wordIs("keep")) {
                int cry = reader.number(0, lastCry);
                emit(KEEP, cry, reader.number(0, lastBay));
            } else if (reader.wordIs("felt")) {
                emit(FELT, reader.number(0, lastBay), 0);
            } else if (reader.wordIs("bare")) {
                emit(BARE, reader.number(0, lastBay), 0);
            } else if (reader.wordIs("loose")) {
                emit(LOOSEN, reader.number(0, lastCry), 0);
            } else if (reader.wordIs("fill")) {
                int cry = reader.number(0, lastCry);
                emit(FILL, cry, reader.number(1, 30));
            } else if (reader.wordIs("out")) {
                emit(LET_OUT, reader.number(0, lastCry), 0);
            } else if (reader.wordIs("year")) {
                emit(YEAR, 0, 0);
            } else if (reader.wordIs("again")) {
                readAgain(reader, land);
            } else {
                reader.fail(WRONG);
            }
        }

        private void readAgain(Reader reader, Land land) {
            reader.enter();
            int times = reader.number(0, 40);
            reader.need('[');
            int start = size;
            emit(AGAIN, times, 0);
            readSteps(reader, land);
            reader.need(']');
            reader.leave();
            if (start < seconds.length) {
                seconds[start] = size;
            }
            emit(END, start, 0);
        }

        void run(State state, Seasons seasons) {
            done = 0;
            refused = 0;
            int begun = 0;
            int at = 0;
            for (int tick = 0; tick < MAX_TICKS && at >= 0 && at < size; tick++) {
                if (kinds[at] == END) {
                    at = afterEnd(at);
                } else if (begun >= MAX_STEPS) {
                    return;
                } else {
                    begun++;
                    at = kinds[at] == AGAIN ? afterAgain(at) : afterStep(at, state, seasons);
                }
            }
        }

        private int afterAgain(int at) {
            left[at] = firsts[at];
            return left[at] > 0 ? at + 1 : seconds[at] + 1;
        }

        private int afterEnd(int at) {
            int start = firsts[at];
            if (start < 0 || start >= left.length) {
                return at + 1;
            }
            left[start]--;
            return left[start] > 0 ? start + 1 : at + 1;
        }

        private int afterStep(int at, State state, Seasons seasons) {
            boolean can = kinds[at] == YEAR ? state.year < LAST_YEAR : isMade(at, state);
            if (can && kinds[at] == YEAR) {
                seasons.pass(state);
            }
            done += can ? 1 : 0;
            refused += can ? 0 : 1;
            return at + 1;
        }

        private boolean isMade(int at, State state) {
            int first = firsts[at];
            switch (kinds[at]) {
                case KEEP:
                    return state.makeKept(first, seconds[at]);
                case FELT:
                    return state.makeFelted(first);
                case BARE:
                    return state.makeBare(first);
                case LOOSEN:
                    return state.makeLoose(first);
                case FILL:
                    return state.makeStronger(first, seconds[at]);
                default:
                    return state.makeOut(first);
            }
        }
    }

    /** Lines of an age and how strong a cry was heard at it. */
    private static final class Heard {
        private final int[] ages = new int[MAX_LINES];
        private final int[] strengths = new int[MAX_LINES];
        private int size;

        void clear() {
            size = 0;
        }

        void copyFrom(Heard other) {
            size = other.size;
            System.arraycopy(other.ages, 0, ages, 0, MAX_LINES);
            System.arraycopy(other.strengths, 0, strengths, 0, MAX_LINES);
        }

        /** NONE: no line tells of that age. */
        int strengthAt(int age) {
            for (int line = 0; line < size; line++) {
                if (ages[line] == age) {
                    return strengths[line];
                }
            }
            return NONE;
        }

        void read(Reader reader) {
            size = 0;
            for (int line = 0; line <= MAX_LINES && reader.more(); line++) {
                int age = reader.number(0, MAX_AGE_HEARD);
                if (strengthAt(age) != NONE) {
                    reader.fail(BAD_NUMBER);
                }
                if (line == MAX_LINES) {
                    reader.fail(TOO_MANY);
                }
                int strength = reader.number(0, MAX_STRENGTH);
                reader.need(';');
                if (!reader.failed() && size < MAX_LINES) {
                    ages[size] = age;
                    strengths[size] = strength;
                    size++;
                }
            }
        }
    }

    /** States ahead of each work, and images, each with the states ahead of its works. */
    private static final class History {
        private static final int WORK_CELLS = MAX_WORKS * State.CELLS;
        private static final int IMAGE_CELLS = State.CELLS + WORK_CELLS;

        private final int[] before = new int[WORK_CELLS];
        private final int[] saved = new int[MAX_IMAGES * IMAGE_CELLS];
        private final int[] savedWorks = new int[MAX_IMAGES];
        private int works;
        private int images;
        private int refused;

        void clear() {
            works = 0;
            images = 0;
            refused = 0;
        }

        boolean isFull() {
            return works >= MAX_WORKS;
        }

        void push(State state) {
            if (!isFull()) {
                state.store(before, works * State.CELLS);
                works++;
            }
        }

        boolean pop(State state) {
            if (works <= 0) {
                return false;
            }
            works--;
            refused = 0;
            state.load(before, works * State.CELLS);
            return true;
        }

        boolean saveImage(State state) {
            if (images >= MAX_IMAGES) {
                return false;
            }
            int from = images * IMAGE_CELLS;
            state.store(saved, from);
            System.arraycopy(before, 0, saved, from + State.CELLS, WORK_CELLS);
            savedWorks[images] = works;
            images++;
            return true;
        }

        boolean loadImage(State state) {
            if (images <= 0) {
                return false;
            }
            images--;
            int from = images * IMAGE_CELLS;
            state.load(saved, from);
            System.arraycopy(saved, from + State.CELLS, before, 0, WORK_CELLS);
            works = savedWorks[images];
            refused = 0;
            return true;
        }
    }

    /** Tries all ways to keep some cries in the bays. */
    private static final class Planner {
        private final Land land;
        private final Seasons seasons;
        private final int[] loss = new int[MAX_PLANNED * MAX_BAYS * MAX_HOLDS];
        private final int[] tried = new int[MAX_PLANNED];
        private final int[] best = new int[MAX_PLANNED];
        private final int[] kept = new int[MAX_BAYS];
        private int many;
        private int least;

        Planner(Land land, Seasons seasons) {
            this.land = land;
            this.seasons = seasons;
        }

        /** The bay, by the latest plan, of the told cry that is the i-th of them. */
        int bayOf(int i) {
            return i >= 0 && i < many ? best[i] : NONE;
        }

        int leastLoss(int cries, State state) {
            foresee(cries, state);
            for (int bay = 0; bay < MAX_BAYS; bay++) {
                kept[bay] = 0;
            }
            least = NONE;
            tryFrom(0);
            return least;
        }

        /** All that any way could ask the law is asked once, ahead of the ways. */
        private void foresee(int cries, State state) {
            many = 0;
            for (int cry = 0; cry < land.cries && many < MAX_PLANNED; cry++) {
                if ((cries >> cry & 1) == 1) {
                    for (int bay = 0; bay < land.bays; bay++) {
                        for (int mates = 0; mates < MAX_HOLDS; mates++) {
                            loss[cell(many, bay, mates)] = seasons.lossIn(state, cry, bay, mates);
                        }
                    }
                    many++;
                }
            }
        }

        private static int cell(int i, int bay, int mates) {
            return (i * MAX_BAYS + bay) * MAX_HOLDS + mates;
        }

        /** Calls itself for the next cry, so at most five deep; ways come cry by cry, the least bay first. */
        private void tryFrom(int i) {
            if (i >= many) {
                judge();
                return;
            }
            for (int bay = 0; bay < land.bays; bay++) {
                if (kept[bay] < land.holds[bay]) {
                    tried[i] = bay;
                    kept[bay]++;
                    tryFrom(i + 1);
                    kept[bay]--;
                }
            }
        }

        private void judge() {
            int sum = 0;
            for (int i = 0; i < many; i++) {
                sum += loss[cell(i, tried[i], kept[tried[i]] - 1)];
            }
            if (least == NONE || sum < least) {
                least = sum;
                System.arraycopy(tried, 0, best, 0, MAX_PLANNED);
            }
        }
    }

    /** Whose a cry may be: pairs of a cry and a bay that agree with all that was heard. */
    private static final class Guesses {
        private static final int PAIRS = MAX_CRIES * MAX_BAYS;

        private final Land land;
        private final Seasons seasons;
        private final State alone;
        private final int[] cryOf = new int[PAIRS];
        private final int[] bayOf = new int[PAIRS];
        private final int[] strengthOf = new int[PAIRS];
        private final int[] heardAlike = new int[MAX_STRENGTH + 1];
        private int many;
        private int bestAge;
        private int fewestLeft;

        Guesses(Land land, Seasons seasons) {
            this.land = land;
            this.seasons = seasons;
            alone = new State(land);
        }

        int firstPair() {
            return many == 0 ? NONE : 10 * cryOf[0] + bayOf[0];
        }

        void match(Heard lines, State now) {
            alone.felted = now.felted;
            many = 0;
            for (int cry = 0; cry < land.cries; cry++) {
                for (int bay = 0; bay < land.bays; bay++) {
                    if (fits(cry, bay, lines) && many < PAIRS) {
                        cryOf[many] = cry;
                        bayOf[many] = bay;
                        many++;
                    }
                }
            }
        }

        private boolean fits(int cry, int bay, Heard lines) {
            int strength = land.strength[cry];
            int right = 0;
            for (int age = 0; age <= MAX_AGE_HEARD && right < lines.size; age++) {
                int heard = lines.strengthAt(age);
                if (heard != NONE && heard != strength) {
                    return false;
                }
                right += heard == NONE ? 0 : 1;
                strength = yearLater(cry, bay, strength, age);
            }
            return true;
        }

        /** Kept alone from the year 0 on, a cry is as old as the year. */
        private int yearLater(int cry, int bay, int strength, int age) {
            alone.strength[cry] = strength;
            alone.age[cry] = age;
            alone.year = age;
            return strength - seasons.lossIn(alone, cry, bay, 0);
        }

        void weighAges(Heard lines) {
            bestAge = NONE;
            fewestLeft = 0;
            for (int pair = 0; pair < many; pair++) {
                strengthOf[pair] = land.strength[cryOf[pair]];
            }
            for (int age = 0; age <= MAX_AGE_HEARD; age++) {
                if (lines.strengthAt(age) == NONE) {
                    weigh(age);
                }
                for (int pair = 0; pair < many; pair++) {
                    strengthOf[pair] = yearLater(cryOf[pair], bayOf[pair], strengthOf[pair], age);
                }
            }
        }

        private void weigh(int age) {
            int left = leftAtWorst();
            if (bestAge == NONE || left < fewestLeft) {
                bestAge = age;
                fewestLeft = left;
            }
        }

        private int leftAtWorst() {
            for (int strength = 0; strength <= MAX_STRENGTH; strength++) {
                heardAlike[strength] = 0;
            }
            int worst = 0;
            for (int pair = 0; pair < many; pair++) {
                int strength = strengthOf[pair];
                if (strength >= 0 && strength <= MAX_STRENGTH) {
                    heardAlike[strength]++;
                    worst = Math.max(worst, heardAlike[strength]);
                }
            }
            return worst;
        }
    }

    /** Years by chance, drawn from a seed. */
    private static final class Century {
        private static final int SIDES = 16;

        private final Land land;
        private final Seasons seasons;
        private int seed;
        private int loosed;
        private int bared;

        Century(Land land, Seasons seasons) {
            this.land = land;
            this.seasons = seasons;
        }

        void run(State state, int from, int years, int q, int m) {
            seed = from;
            loosed = 0;
            bared = 0;
            for (int year = 0; year < years; year++) {
                if (draw(SIDES) < q && land.cries > 0 && state.makeLoose(draw(land.cries))) {
                    loosed++;
                }
                if (draw(SIDES) < m && land.bays > 0 && state.makeBare(draw(land.bays))) {
                    bared++;
                }
                seasons.pass(state);
            }
        }

        private int draw(int sides) {
            seed = seed * 1103515245 + 12345;
            int bits = seed >>> 16 & 32767;
            return sides > 0 ? bits % sides : 0;
        }
    }
}
