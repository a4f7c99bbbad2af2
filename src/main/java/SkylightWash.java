/** Skylight washers of an arcade. */
public final class SkylightWash {
    private static final int MOST_BYTES = 2000;
    private static final int BYTES_OF_FEED = 20;
    private static final int MOST_TOKENS = 400;
    private static final int DEEPEST = 8;

    private static final int MOST_BAYS = 5;
    private static final int MOST_PANES_OF_BAY = 8;
    private static final int MOST_PANES = MOST_BAYS * MOST_PANES_OF_BAY;
    private static final int MOST_CHIMNEYS = 4;
    private static final int MOST_CRADLES = 3;
    private static final int MOST_FLOCKS = 3;
    private static final int MOST_ORDERS = 16;

    private static final int FULL_WATER = 20;
    private static final int FULL_LIGHT = 100;
    private static final int DARK_BELOW = 40;
    private static final int CRACKS_OF_THICK = 20;
    private static final int STRONGEST_WIND = 3;
    private static final int NONE = -1;

    private static final int COUNTS = 14;
    private static final int PANE_COUNTS = 7;
    private static final int BAY_COUNTS = 5;
    private static final int CRADLE_COUNTS = 6;
    private static final int FLOCK_COUNTS = 4;
    private static final int FORESEEN_COUNTS = 4;

    private static final int LONGEST_PASS = 120;
    private static final int LONGEST_UNTIL = 200;
    private static final int LONGEST_CHOICE = 90;
    private static final int LONGEST_ADVICE = 24;

    private static final int SAME_NAME = 2;
    private static final int UNKNOWN_NAME = 3;
    private static final int TOO_MANY = 4;
    private static final int OUT_OF_RANGE = 5;

    // The kind of a keyword is its place in this text, from 1; the constants
    // below it keep to its order.
    private static final String KEYWORDS =
            "bay panes thick chimney at soot every reach cradle speed wash flock birds go to scare when hour wind light dirt crack water perch dark not and or min max";
    private static final int KEYWORD_COUNT = 30;
    private static final int BAY = 1;
    private static final int PANES = 2;
    private static final int THICK = 3;
    private static final int CHIMNEY = 4;
    private static final int AT = 5;
    private static final int SOOT = 6;
    private static final int EVERY = 7;
    private static final int REACH = 8;
    private static final int CRADLE = 9;
    private static final int SPEED = 10;
    private static final int WASH = 11;
    private static final int FLOCK = 12;
    private static final int BIRDS = 13;
    private static final int GO = 14;
    private static final int TO = 15;
    private static final int SCARE = 16;
    private static final int WHEN = 17;
    private static final int HOUR = 18;
    private static final int WIND = 19;
    private static final int LIGHT = 20;
    private static final int DIRT = 21;
    private static final int CRACK = 22;
    private static final int WATER = 23;
    private static final int PERCH = 24;
    private static final int DARK = 25;
    private static final int NOT = 26;
    private static final int AND = 27;
    private static final int OR = 28;
    private static final int MIN = 29;
    private static final int MAX = 30;

    // The kind of a symbol of one byte is that byte; these stand clear of them.
    private static final int END = 0;
    private static final int BAD = -1;
    private static final int NAME = 'a';
    private static final int NUMBER = '0';
    private static final int AT_MOST = 256 + '<';
    private static final int AT_LEAST = 256 + '>';
    private static final int TURNED = 256 + '-';

    private final Tape tape = new Tape();
    private final Reader reader = new Reader();
    private final Arcade now;
    private final Arcade trial;
    private int latestErrorAt = NONE;

    public SkylightWash() {
        Plan empty = new Plan();
        now = new Arcade(empty);
        trial = new Arcade(empty);
    }

    // ---- the language

    public int feed(int a, int b, int c, int d, int e) throws IllegalStateException {
        if (tape.length > MOST_BYTES - BYTES_OF_FEED) {
            throw new IllegalStateException("the tape would be too long");
        }
        tape.append(a);
        tape.append(b);
        tape.append(c);
        tape.append(d);
        tape.append(e);
        return tape.length;
    }

    public int trim(int n) throws IllegalArgumentException {
        if (n < 0 || n > tape.length) {
            throw new IllegalArgumentException("the tape has no such length");
        }
        tape.length = n;
        return n;
    }

    public int teach() {
        int error = reader.read(tape);
        latestErrorAt = reader.errorPosition();
        tape.length = 0;
        if (error == 0) {
            now.begin(reader.exchange(now.plan));
        }
        return error;
    }

    public int errorAt() {
        return latestErrorAt;
    }

    public int count(int what) throws IndexOutOfBoundsException {
        Plan plan = now.plan;
        switch (what) {
            case 0: return now.hour;
            case 1: return now.wind;
            case 2: return plan.bays;
            case 3: return plan.panes;
            case 4: return plan.chimneys;
            case 5: return plan.cradles;
            case 6: return plan.flocks;
            case 7: return plan.orders.told;
            case 8: return now.lightOf(0, plan.panes);
            case 9: return now.allDirt();
            case 10: return plan.panes - now.panesLeft();
            case 11: return now.lost;
            case 12: return now.darkBays();
            case 13: return tape.length;
            default: throw new IndexOutOfBoundsException("no such count");
        }
    }

    // ---- what there is

    public int pane(int pane, int what) throws IndexOutOfBoundsException {
        if (isNot(pane, now.plan.panes) || isNot(what, PANE_COUNTS)) {
            throw new IndexOutOfBoundsException("no such pane or count");
        }
        switch (what) {
            case 0: return cell(now.plan.paneBay, pane);
            case 1: return cell(now.dirt, pane);
            case 2: return cell(now.cracks, pane);
            case 3: return now.isWhole(pane) ? 0 : 1;
            case 4: return now.lightOf(pane, pane + 1);
            case 5: return now.cradlesAt(pane);
            default: return now.isFree(pane) ? 1 : 0;
        }
    }

    public int bay(int bay, int what) throws IndexOutOfBoundsException {
        if (isNot(bay, now.plan.bays) || isNot(what, BAY_COUNTS)) {
            throw new IndexOutOfBoundsException("no such bay or count");
        }
        switch (what) {
            case 0: return cell(now.plan.bayPanes, bay);
            case 1: return cell(now.plan.bayThick, bay);
            case 2: return cell(now.plan.bayFirst, bay);
            case 3: return now.lightOfBay(bay);
            default: return now.isDark(bay) ? 1 : 0;
        }
    }

    public int cradle(int cradle, int what) throws IndexOutOfBoundsException {
        if (isNot(cradle, now.plan.cradles) || isNot(what, CRADLE_COUNTS)) {
            throw new IndexOutOfBoundsException("no such cradle or count");
        }
        switch (what) {
            case 0: return cell(now.cradlePane, cradle);
            case 1: return cell(now.plan.cradleSpeed, cradle);
            case 2: return cell(now.plan.cradleWash, cradle);
            case 3: return cell(now.water, cradle);
            case 4: return now.sentTo(cradle);
            default: return cell(now.washed, cradle);
        }
    }

    public int flock(int flock, int what) throws IndexOutOfBoundsException {
        if (isNot(flock, now.plan.flocks) || isNot(what, FLOCK_COUNTS)) {
            throw new IndexOutOfBoundsException("no such flock or count");
        }
        switch (what) {
            case 0: return cell(now.flockPane, flock);
            case 1: return cell(now.plan.flockBirds, flock);
            case 2: return cell(now.plan.flockEvery, flock);
            default: return cell(now.moves, flock);
        }
    }

    public int worst(int place) throws IndexOutOfBoundsException {
        if (isNot(place, now.panesLeft())) {
            throw new IndexOutOfBoundsException("no such place");
        }
        return now.paneInPlace(place);
    }

    // ---- by hand

    public int setWind(int wind) throws IllegalArgumentException {
        if (isNoWind(wind)) {
            throw new IllegalArgumentException("no such wind");
        }
        int before = now.wind;
        now.wind = wind;
        return before;
    }

    public int glaze(int pane) throws IndexOutOfBoundsException, IllegalStateException {
        if (isNot(pane, now.plan.panes)) {
            throw new IndexOutOfBoundsException("no such pane");
        }
        if (now.isWhole(pane)) {
            throw new IllegalStateException("the pane was not let go");
        }
        now.setNewPane(pane);
        return now.plan.panes - now.panesLeft();
    }

    public int carry(int cradle, int pane) throws IndexOutOfBoundsException {
        if (isNot(cradle, now.plan.cradles) || isNot(pane, now.plan.panes)) {
            throw new IndexOutOfBoundsException("no such cradle or pane");
        }
        int before = cell(now.cradlePane, cradle);
        put(now.cradlePane, cradle, pane);
        return before;
    }

    public int scare(int flock) throws IndexOutOfBoundsException {
        if (isNot(flock, now.plan.flocks)) {
            throw new IndexOutOfBoundsException("no such flock");
        }
        int before = cell(now.flockPane, flock);
        put(now.flockPane, flock, NONE);
        return before;
    }

    // ---- hours

    public int pass(int hours) throws IllegalArgumentException {
        if (isNoTime(hours, LONGEST_PASS)) {
            throw new IllegalArgumentException("hours out of their range");
        }
        return now.goOn(hours);
    }

    // ---- what would be

    public int until(int pane) throws IndexOutOfBoundsException {
        if (isNot(pane, now.plan.panes)) {
            throw new IndexOutOfBoundsException("no such pane");
        }
        trial.copyFrom(now);
        for (int hours = 0; hours <= LONGEST_UNTIL; hours++) {
            if (!trial.isWhole(pane)) {
                return hours;
            }
            trial.goOn(1);
        }
        return NONE;
    }

    public int foresee(int hours, int what) throws IllegalArgumentException, IndexOutOfBoundsException {
        if (isNoTime(hours, LONGEST_PASS)) {
            throw new IllegalArgumentException("hours out of their range");
        }
        if (isNot(what, FORESEEN_COUNTS)) {
            throw new IndexOutOfBoundsException("no such count");
        }
        trial.copyFrom(now);
        int letGo = trial.goOn(hours);
        switch (what) {
            case 0: return letGo;
            case 1: return trial.lightOf(0, trial.plan.panes);
            case 2: return trial.allDirt();
            default: return trial.darkBays();
        }
    }

    public int costs(int hours, int wind) throws IllegalArgumentException {
        if (isNoTime(hours, LONGEST_CHOICE) || isNoWind(wind)) {
            throw new IllegalArgumentException("hours or wind out of their range");
        }
        trial.copyFrom(now);
        trial.goOn(hours);
        int dirtAsItIs = trial.allDirt();
        trial.copyFrom(now);
        trial.wind = wind;
        trial.goOn(hours);
        return trial.allDirt() - dirtAsItIs;
    }

    public int advise(int cradle, int hours) throws IndexOutOfBoundsException, IllegalArgumentException {
        if (isNot(cradle, now.plan.cradles)) {
            throw new IndexOutOfBoundsException("no such cradle");
        }
        if (isNoTime(hours, LONGEST_ADVICE)) {
            throw new IllegalArgumentException("hours out of their range");
        }
        int best = NONE;
        int bestLight = NONE;
        for (int pane = 0; pane < now.plan.panes; pane++) {
            trial.copyFrom(now);
            put(trial.cradlePane, cradle, pane);
            trial.goOn(hours);
            int light = trial.lightOf(0, trial.plan.panes);
            if (light > bestLight) {
                best = pane;
                bestLight = light;
            }
        }
        return best;
    }

    public int spare(int hours) throws IllegalArgumentException {
        if (isNoTime(hours, LONGEST_CHOICE)) {
            throw new IllegalArgumentException("hours out of their range");
        }
        int best = NONE;
        int bestLight = NONE;
        for (int cradle = 0; cradle < now.plan.cradles; cradle++) {
            trial.copyFrom(now);
            trial.spared = cradle;
            trial.goOn(hours);
            int light = trial.lightOf(0, trial.plan.panes);
            if (light > bestLight) {
                best = cradle;
                bestLight = light;
            }
        }
        return best;
    }

    public double mean() {
        int left = now.panesLeft();
        return left > 0 ? (double) now.allDirt() / (double) left : 0.0;
    }

    public long digest() {
        long d = 839;
        for (int what = 0; what < COUNTS; what++) {
            d = d * 31 + count(what);
        }
        for (int i = 0; i < now.plan.panes; i++) {
            for (int what = 0; what < PANE_COUNTS; what++) {
                d = d * 31 + pane(i, what);
            }
        }
        for (int i = 0; i < now.plan.bays; i++) {
            for (int what = 0; what < BAY_COUNTS; what++) {
                d = d * 31 + bay(i, what);
            }
        }
        for (int i = 0; i < now.plan.cradles; i++) {
            for (int what = 0; what < CRADLE_COUNTS; what++) {
                d = d * 31 + cradle(i, what);
            }
        }
        for (int i = 0; i < now.plan.flocks; i++) {
            for (int what = 0; what < FLOCK_COUNTS; what++) {
                d = d * 31 + flock(i, what);
            }
        }
        return d;
    }

    private static boolean isNot(int index, int size) {
        return index < 0 || index >= size;
    }

    private static boolean isNoTime(int hours, int longest) {
        return hours < 1 || hours > longest;
    }

    private static boolean isNoWind(int wind) {
        return wind < -STRONGEST_WIND || wind > STRONGEST_WIND;
    }

    // All rows are read and written through these, so that no index is used
    // that was not looked at: outside of a row there is 0, and nothing to write.

    private static int cell(int[] row, int index) {
        return index >= 0 && index < row.length ? row[index] : 0;
    }

    private static long wide(long[] row, int index) {
        return index >= 0 && index < row.length ? row[index] : 0;
    }

    private static void put(int[] row, int index, int number) {
        if (index >= 0 && index < row.length) {
            row[index] = number;
        }
    }

    private static void putWide(long[] row, int index, long number) {
        if (index >= 0 && index < row.length) {
            row[index] = number;
        }
    }

    private static void fill(int[] row, int number) {
        for (int i = 0; i < row.length; i++) {
            row[i] = number;
        }
    }

    private static void copy(int[] from, int[] to) {
        System.arraycopy(from, 0, to, 0, Math.min(from.length, to.length));
    }

    /** The bytes that are fed. */
    private static final class Tape {
        private final int[] bytes = new int[MOST_BYTES];
        private int length;

        void append(int number) {
            for (int shift = 24; shift >= 0; shift -= 8) {
                put(bytes, length, number >>> shift & 255);
                length++;
            }
        }

        int byteAt(int position) {
            return position < length ? cell(bytes, position) : NONE;
        }
    }

    /** The tape as a row of tokens; the last of them is END, or the first that is BAD. */
    private static final class Tokens {
        private static final int LONGEST_WORD = 10;
        private static final int LONGEST_NUMBER = 6;
        private static final int SIGNS_OF_WORDS = 76;

        private final long[] keywords = new long[KEYWORD_COUNT];
        private final int[] kinds = new int[MOST_TOKENS + 1];
        private final int[] starts = new int[MOST_TOKENS + 1];
        private final long[] values = new long[MOST_TOKENS + 1];
        private int kind;
        private long value;

        Tokens() {
            int index = 0;
            for (int i = 0; i < KEYWORDS.length(); i++) {
                if (KEYWORDS.charAt(i) == ' ') {
                    index++;
                } else if (index < keywords.length) {
                    keywords[index] = spelled(keywords[index], KEYWORDS.charAt(i));
                }
            }
        }

        void scan(Tape tape) {
            int position = 0;
            boolean goesOn = true;
            for (int i = 0; i <= MOST_TOKENS && goesOn; i++) {
                position = behindBlanks(tape, position);
                int behind = readToken(tape, position);
                if (i == MOST_TOKENS && kind != END) {
                    kind = BAD;
                }
                put(kinds, i, kind);
                put(starts, i, position);
                putWide(values, i, value);
                position = behind;
                goesOn = kind != END && kind != BAD;
            }
        }

        private int behindBlanks(Tape tape, int from) {
            int position = from;
            while (position < MOST_BYTES && isBlank(tape.byteAt(position))) {
                position++;
            }
            return position;
        }

        /** Leaves the token's kind and value, and answers the position behind it. */
        private int readToken(Tape tape, int from) {
            int first = tape.byteAt(from);
            value = 0;
            if (isLetter(first)) {
                return readWord(tape, from);
            }
            if (isDigit(first)) {
                return readNumber(tape, from);
            }
            if ((first == '<' || first == '>') && tape.byteAt(from + 1) == '=') {
                kind = first == '<' ? AT_MOST : AT_LEAST;
                return from + 2;
            }
            kind = first == NONE ? END : isSymbol(first) ? first : BAD;
            return from + 1;
        }

        private int readWord(Tape tape, int from) {
            int position = from;
            while (position - from <= LONGEST_WORD && isOfWord(tape.byteAt(position))) {
                value = spelled(value, tape.byteAt(position));
                position++;
            }
            kind = position - from > LONGEST_WORD ? BAD : kindOfWord(value);
            return position;
        }

        private int readNumber(Tape tape, int from) {
            int position = from;
            while (position - from <= LONGEST_NUMBER && isDigit(tape.byteAt(position))) {
                value = value * 10 + (tape.byteAt(position) - '0');
                position++;
            }
            kind = position - from > LONGEST_NUMBER ? BAD : NUMBER;
            return position;
        }

        private int kindOfWord(long word) {
            for (int i = 0; i < keywords.length; i++) {
                if (keywords[i] == word) {
                    return i + 1;
                }
            }
            return NAME;
        }

        // Digits count 1 to 10 here, letters 50 to 75: so ten signs fit into a
        // long, and words are the same just when their numbers are.
        private static long spelled(long word, int sign) {
            return word * SIGNS_OF_WORDS + (sign - '0' + 1);
        }

        private static boolean isBlank(int sign) {
            return sign == ' ' || sign == '\n';
        }

        private static boolean isLetter(int sign) {
            return sign >= 'a' && sign <= 'z';
        }

        private static boolean isDigit(int sign) {
            return sign >= '0' && sign <= '9';
        }

        private static boolean isOfWord(int sign) {
            return isLetter(sign) || isDigit(sign);
        }

        private static boolean isSymbol(int sign) {
            switch (sign) {
                case '(': case ')': case '[': case ']': case ';': case ',':
                case '+': case '-': case '*': case '/':
                case '<': case '>': case '=':
                    return true;
                default:
                    return false;
            }
        }
    }

    /** What a list tells: all that stays the same till the next one. */
    private static final class Plan {
        private int bays;
        private final int[] bayPanes = new int[MOST_BAYS];
        private final int[] bayThick = new int[MOST_BAYS];
        private final int[] bayFirst = new int[MOST_BAYS];
        private int panes;
        private final int[] paneBay = new int[MOST_PANES];
        private int chimneys;
        private final int[] chimneyAt = new int[MOST_CHIMNEYS];
        private final int[] chimneySoot = new int[MOST_CHIMNEYS];
        private final int[] chimneyEvery = new int[MOST_CHIMNEYS];
        private final int[] chimneyReach = new int[MOST_CHIMNEYS];
        private int cradles;
        private final int[] cradleAt = new int[MOST_CRADLES];
        private final int[] cradleSpeed = new int[MOST_CRADLES];
        private final int[] cradleWash = new int[MOST_CRADLES];
        private int flocks;
        private final int[] flockBirds = new int[MOST_FLOCKS];
        private final int[] flockEvery = new int[MOST_FLOCKS];
        private final Orders orders = new Orders();

        void clear() {
            bays = 0;
            panes = 0;
            chimneys = 0;
            cradles = 0;
            flocks = 0;
            orders.told = 0;
            orders.steps = 0;
        }

        void addBay(int paneCount, int thick) {
            put(bayPanes, bays, paneCount);
            put(bayThick, bays, thick);
            put(bayFirst, bays, panes);
            for (int i = 0; i < paneCount; i++) {
                put(paneBay, panes + i, bays);
            }
            panes += paneCount;
            bays++;
        }

        void addChimney(int at, int soot, int every, int reach) {
            put(chimneyAt, chimneys, at);
            put(chimneySoot, chimneys, soot);
            put(chimneyEvery, chimneys, every);
            put(chimneyReach, chimneys, reach);
            chimneys++;
        }

        void addCradle(int at, int speed, int wash) {
            put(cradleAt, cradles, at);
            put(cradleSpeed, cradles, speed);
            put(cradleWash, cradles, wash);
            cradles++;
        }

        void addFlock(int birds, int every) {
            put(flockBirds, flocks, birds);
            put(flockEvery, flocks, every);
            flocks++;
        }

        int thickOf(int pane) {
            return cell(bayThick, cell(paneBay, pane));
        }
    }

    /**
     * The orders, with their sums and tests as steps for a stack: what is
     * reckoned with stands ahead of the sign that binds it. No token makes
     * more than one step.
     */
    private static final class Orders {
        private int told;
        private final int[] sorts = new int[MOST_ORDERS];
        private final int[] whos = new int[MOST_ORDERS];
        private final int[] sumStarts = new int[MOST_ORDERS];
        private final int[] testStarts = new int[MOST_ORDERS];
        private final int[] testEnds = new int[MOST_ORDERS];
        private int steps;
        private final int[] signs = new int[MOST_TOKENS];
        private final int[] operands = new int[MOST_TOKENS];

        void addStep(int sign, int operand) {
            put(signs, steps, sign);
            put(operands, steps, operand);
            steps++;
        }

        void addOrder(int sort, int who, int sumStart, int testStart) {
            put(sorts, told, sort);
            put(whos, told, who);
            put(sumStarts, told, sumStart);
            put(testStarts, told, testStart);
            put(testEnds, told, steps);
            told++;
        }

        boolean isFor(int order, int sort, int who) {
            return cell(sorts, order) == sort && cell(whos, order) == who;
        }
    }

    /** Reads a list into a plan, and finds its error. */
    private static final class Reader {
        private final Tokens tokens = new Tokens();
        private final long[] bayNames = new long[MOST_BAYS];
        private final long[] chimneyNames = new long[MOST_CHIMNEYS];
        private final long[] cradleNames = new long[MOST_CRADLES];
        private final long[] flockNames = new long[MOST_FLOCKS];
        private Plan plan = new Plan();
        private int next;
        private int kind;
        private boolean failed;
        private int fault;
        private int faultToken;

        /** Answers 0, or the error. */
        int read(Tape tape) {
            plan.clear();
            tokens.scan(tape);
            next = 0;
            kind = cell(tokens.kinds, next);
            failed = false;
            fault = 0;
            for (int i = 0; i < MOST_TOKENS && !failed && kind != END; i++) {
                switch (kind) {
                    case BAY: readBay(); break;
                    case CHIMNEY: readChimney(); break;
                    case CRADLE: readCradle(); break;
                    case FLOCK: readFlock(); break;
                    case GO: readGo(); break;
                    case SCARE: readScare(); break;
                    default: fail();
                }
                take(';');
            }
            return failed ? 1 : fault;
        }

        int errorPosition() {
            if (failed) {
                return cell(tokens.starts, next);
            }
            return fault == 0 ? NONE : cell(tokens.starts, faultToken);
        }

        /** Gives the plan that was read away, for one that can be written over. */
        Plan exchange(Plan old) {
            Plan told = plan;
            plan = old;
            return told;
        }

        /** Behind a fault the plan is not filled any more: only an error 1 still matters then. */
        private boolean isFine() {
            return !failed && fault == 0;
        }

        private boolean take(int wanted) {
            if (kind != wanted) {
                fail();
                return false;
            }
            next++;
            kind = cell(tokens.kinds, next);
            return true;
        }

        // No token fits behind an error 1, so that all that still reads comes
        // back without going on.
        private void fail() {
            failed = true;
            kind = BAD;
        }

        /** Marks the token that was taken last. */
        private void mark(int error) {
            if (fault == 0) {
                fault = error;
                faultToken = next - 1;
            }
        }

        private void readBay() {
            take(BAY);
            readNewName(bayNames, plan.bays);
            int paneCount = readNumber(PANES, 1, MOST_PANES_OF_BAY);
            int thick = readNumber(THICK, 1, 9);
            if (isFine()) {
                plan.addBay(paneCount, thick);
            }
        }

        private void readChimney() {
            take(CHIMNEY);
            readNewName(chimneyNames, plan.chimneys);
            int at = readNumber(AT, 0, plan.panes - 1);
            int soot = readNumber(SOOT, 1, 30);
            int every = readNumber(EVERY, 1, 12);
            int reach = readNumber(REACH, 0, 9);
            if (isFine()) {
                plan.addChimney(at, soot, every, reach);
            }
        }

        private void readCradle() {
            take(CRADLE);
            readNewName(cradleNames, plan.cradles);
            int at = readNumber(AT, 0, plan.panes - 1);
            int speed = readNumber(SPEED, 1, 9);
            int wash = readNumber(WASH, 1, 60);
            if (isFine()) {
                plan.addCradle(at, speed, wash);
            }
        }

        private void readFlock() {
            take(FLOCK);
            readNewName(flockNames, plan.flocks);
            int birds = readNumber(BIRDS, 1, 20);
            int every = readNumber(EVERY, 1, 12);
            if (isFine()) {
                plan.addFlock(birds, every);
            }
        }

        private void readGo() {
            takeOrder(GO);
            int who = readKnownName(cradleNames, plan.cradles);
            take(TO);
            int sumStart = plan.orders.steps;
            readSum(0);
            int testStart = plan.orders.steps;
            if (kind == WHEN) {
                take(WHEN);
                readTest(0);
            }
            addOrder(GO, who, sumStart, testStart);
        }

        private void readScare() {
            takeOrder(SCARE);
            int who = readKnownName(flockNames, plan.flocks);
            take(WHEN);
            int testStart = plan.orders.steps;
            readTest(0);
            addOrder(SCARE, who, testStart, testStart);
        }

        private void takeOrder(int sort) {
            take(sort);
            if (plan.orders.told >= MOST_ORDERS) {
                mark(TOO_MANY);
            }
        }

        private void addOrder(int sort, int who, int sumStart, int testStart) {
            if (isFine()) {
                plan.orders.addOrder(sort, who, sumStart, testStart);
            }
        }

        private void readNewName(long[] names, int known) {
            if (!take(NAME)) {
                return;
            }
            long name = wide(tokens.values, next - 1);
            if (find(names, known, name) != NONE) {
                mark(SAME_NAME);
            }
            if (known >= names.length) {
                mark(TOO_MANY);
            }
            putWide(names, known, name);
        }

        private int readKnownName(long[] names, int known) {
            if (!take(NAME)) {
                return NONE;
            }
            int index = find(names, known, wide(tokens.values, next - 1));
            if (index == NONE) {
                mark(UNKNOWN_NAME);
            }
            return index;
        }

        private static int find(long[] names, int known, long name) {
            for (int i = 0; i < known && i < names.length; i++) {
                if (names[i] == name) {
                    return i;
                }
            }
            return NONE;
        }

        private int readNumber(int keyword, int least, int most) {
            take(keyword);
            if (!take(NUMBER)) {
                return NONE;
            }
            int number = (int) wide(tokens.values, next - 1);
            if (number < least || number > most) {
                mark(OUT_OF_RANGE);
            }
            return number;
        }

        private void readTest(int depth) {
            readBoth(depth);
            for (int i = 0; i < MOST_TOKENS && kind == OR; i++) {
                take(OR);
                readBoth(depth);
                plan.orders.addStep(OR, 0);
            }
        }

        private void readBoth(int depth) {
            readSingle(depth);
            for (int i = 0; i < MOST_TOKENS && kind == AND; i++) {
                take(AND);
                readSingle(depth);
                plan.orders.addStep(AND, 0);
            }
        }

        private void readSingle(int depth) {
            switch (kind) {
                case NOT:
                    if (takeDeeper(NOT, depth)) {
                        readSingle(depth + 1);
                        plan.orders.addStep(NOT, 0);
                    }
                    break;
                case '[':
                    if (takeDeeper('[', depth)) {
                        readTest(depth + 1);
                        take(']');
                    }
                    break;
                case DARK:
                    take(DARK);
                    plan.orders.addStep(DARK, readKnownName(bayNames, plan.bays));
                    break;
                default:
                    readSum(depth);
                    int sign = takeComparison();
                    readSum(depth);
                    plan.orders.addStep(sign, 0);
            }
        }

        private int takeComparison() {
            int sign = kind;
            if (!isComparison(sign)) {
                fail();
                return BAD;
            }
            take(sign);
            return sign;
        }

        private static boolean isComparison(int sign) {
            return sign == '<' || sign == '>' || sign == '=' || sign == AT_MOST || sign == AT_LEAST;
        }

        private void readSum(int depth) {
            readProduct(depth);
            for (int i = 0; i < MOST_TOKENS && (kind == '+' || kind == '-'); i++) {
                int sign = kind;
                take(sign);
                readProduct(depth);
                plan.orders.addStep(sign, 0);
            }
        }

        private void readProduct(int depth) {
            readValue(depth);
            for (int i = 0; i < MOST_TOKENS && (kind == '*' || kind == '/'); i++) {
                int sign = kind;
                take(sign);
                readValue(depth);
                plan.orders.addStep(sign, 0);
            }
        }

        private void readValue(int depth) {
            int sign = kind;
            switch (sign) {
                case NUMBER:
                    plan.orders.addStep(NUMBER, (int) wide(tokens.values, next));
                    take(NUMBER);
                    break;
                case HOUR: case WIND: case LIGHT:
                    take(sign);
                    plan.orders.addStep(sign, 0);
                    break;
                case AT: case WATER:
                    take(sign);
                    plan.orders.addStep(sign, readKnownName(cradleNames, plan.cradles));
                    break;
                case PERCH:
                    take(PERCH);
                    plan.orders.addStep(PERCH, readKnownName(flockNames, plan.flocks));
                    break;
                case DIRT: case CRACK:
                    take(sign);
                    readInBrackets(depth);
                    plan.orders.addStep(sign, 0);
                    break;
                case MIN: case MAX:
                    take(sign);
                    readPair(depth);
                    plan.orders.addStep(sign, 0);
                    break;
                case '-':
                    if (takeDeeper('-', depth)) {
                        readValue(depth + 1);
                        plan.orders.addStep(TURNED, 0);
                    }
                    break;
                case '(':
                    readInBrackets(depth);
                    break;
                default:
                    fail();
            }
        }

        private void readInBrackets(int depth) {
            if (takeDeeper('(', depth)) {
                readSum(depth + 1);
                take(')');
            }
        }

        private void readPair(int depth) {
            if (takeDeeper('(', depth)) {
                readSum(depth + 1);
                take(',');
                readSum(depth + 1);
                take(')');
            }
        }

        /** Takes a token behind which it is one deeper. */
        private boolean takeDeeper(int wanted, int depth) {
            if (depth >= DEEPEST) {
                fail();
                return false;
            }
            return take(wanted);
        }
    }

    /** All that changes, and how it does by the hour. */
    private static final class Arcade {
        private Plan plan;
        private int hour;
        private int wind;
        private int lost;
        private int spared;
        private final int[] dirt = new int[MOST_PANES];
        private final int[] cracks = new int[MOST_PANES];
        private final int[] gone = new int[MOST_PANES];
        private final int[] cradlePane = new int[MOST_CRADLES];
        private final int[] water = new int[MOST_CRADLES];
        private final int[] washed = new int[MOST_CRADLES];
        private final int[] flockPane = new int[MOST_FLOCKS];
        private final int[] moves = new int[MOST_FLOCKS];
        private final int[] stack = new int[MOST_TOKENS];
        private int top;

        Arcade(Plan empty) {
            plan = empty;
            spared = NONE;
        }

        void begin(Plan told) {
            plan = told;
            lost = 0;
            fill(dirt, 0);
            fill(cracks, 0);
            fill(gone, 0);
            copy(told.cradleAt, cradlePane);
            fill(water, FULL_WATER);
            fill(washed, 0);
            fill(flockPane, NONE);
            fill(moves, 0);
        }

        void copyFrom(Arcade other) {
            plan = other.plan;
            hour = other.hour;
            wind = other.wind;
            lost = other.lost;
            spared = other.spared;
            copy(other.dirt, dirt);
            copy(other.cracks, cracks);
            copy(other.gone, gone);
            copy(other.cradlePane, cradlePane);
            copy(other.water, water);
            copy(other.washed, washed);
            copy(other.flockPane, flockPane);
            copy(other.moves, moves);
        }

        /** Answers how many panes are let go in these hours. */
        int goOn(int hours) {
            int lostBefore = lost;
            for (int i = 0; i < hours; i++) {
                for (int chimney = 0; chimney < plan.chimneys; chimney++) {
                    letSootDown(chimney);
                }
                for (int flock = 0; flock < plan.flocks; flock++) {
                    moveFlock(flock);
                }
                for (int cradle = 0; cradle < plan.cradles; cradle++) {
                    if (cradle != spared) {
                        moveCradle(cradle);
                    }
                }
                for (int pane = 0; pane < plan.panes; pane++) {
                    wearPane(pane);
                }
                hour++;
            }
            return lost - lostBefore;
        }

        private void letSootDown(int chimney) {
            if (!isHourOf(cell(plan.chimneyEvery, chimney))) {
                return;
            }
            int middle = cell(plan.chimneyAt, chimney) + wind;
            int soot = cell(plan.chimneySoot, chimney);
            int reach = cell(plan.chimneyReach, chimney);
            int last = Math.min(middle + reach, plan.panes - 1);
            for (int pane = Math.max(middle - reach, 0); pane <= last; pane++) {
                if (isWhole(pane)) {
                    int more = Math.max(0, soot - distance(pane, middle));
                    put(dirt, pane, cell(dirt, pane) + more);
                }
            }
        }

        private void moveFlock(int flock) {
            int before = cell(flockPane, flock);
            if (isHourOf(cell(plan.flockEvery, flock)) || !isFree(before) || isScared(flock)) {
                int to = cleanestBeside(before);
                put(flockPane, flock, to);
                if (to != before) {
                    put(moves, flock, cell(moves, flock) + 1);
                }
            }
            int pane = cell(flockPane, flock);
            put(dirt, pane, cell(dirt, pane) + cell(plan.flockBirds, flock));
        }

        private boolean isScared(int flock) {
            Orders orders = plan.orders;
            for (int order = 0; order < orders.told; order++) {
                if (orders.isFor(order, SCARE, flock)
                        && reckon(cell(orders.testStarts, order), cell(orders.testEnds, order)) != 0) {
                    return true;
                }
            }
            return false;
        }

        private int cleanestBeside(int own) {
            int best = NONE;
            for (int pane = 0; pane < plan.panes; pane++) {
                boolean isCleaner = best == NONE || cell(dirt, pane) < cell(dirt, best);
                if (isCleaner && pane != own && isFree(pane)) {
                    best = pane;
                }
            }
            return best;
        }

        private void moveCradle(int cradle) {
            int pane = stepTowards(cell(cradlePane, cradle), sentTo(cradle), cell(plan.cradleSpeed, cradle));
            put(cradlePane, cradle, pane);
            if (pane == 0) {
                put(water, cradle, FULL_WATER);
            }
            if (cell(water, cradle) > 0 && cell(dirt, pane) > 0 && isWhole(pane)) {
                int off = Math.min(cell(dirt, pane), cell(plan.cradleWash, cradle));
                put(dirt, pane, cell(dirt, pane) - off);
                put(washed, cradle, cell(washed, cradle) + off);
                put(water, cradle, cell(water, cradle) - 1);
            }
        }

        /** The pane to which a cradle is sent as all is now, however far it is. */
        int sentTo(int cradle) {
            Orders orders = plan.orders;
            for (int order = 0; order < orders.told; order++) {
                int testStart = cell(orders.testStarts, order);
                int testEnd = cell(orders.testEnds, order);
                if (orders.isFor(order, GO, cradle)
                        && (testStart == testEnd || reckon(testStart, testEnd) != 0)) {
                    int sum = reckon(cell(orders.sumStarts, order), testStart);
                    return Math.max(0, Math.min(sum, plan.panes - 1));
                }
            }
            return cell(cradlePane, cradle);
        }

        private static int stepTowards(int from, int to, int speed) {
            return to > from ? Math.min(to, from + speed) : Math.max(to, from - speed);
        }

        private void wearPane(int pane) {
            if (!isWhole(pane)) {
                return;
            }
            put(cracks, pane, cell(cracks, pane) + cell(dirt, pane) / 10);
            if (cell(cracks, pane) >= CRACKS_OF_THICK * plan.thickOf(pane)) {
                setNewPane(pane);
                put(gone, pane, 1);
                lost++;
            }
        }

        void setNewPane(int pane) {
            put(gone, pane, 0);
            put(dirt, pane, 0);
            put(cracks, pane, 0);
        }

        private boolean isHourOf(int every) {
            return every > 0 && hour % every == 0;
        }

        boolean isWhole(int pane) {
            return pane >= 0 && pane < plan.panes && cell(gone, pane) == 0;
        }

        boolean isFree(int pane) {
            if (!isWhole(pane)) {
                return false;
            }
            for (int cradle = 0; cradle < plan.cradles; cradle++) {
                if (cradle != spared && distance(cell(cradlePane, cradle), pane) <= 1) {
                    return false;
                }
            }
            return true;
        }

        int cradlesAt(int pane) {
            int cradles = 0;
            for (int cradle = 0; cradle < plan.cradles; cradle++) {
                if (cell(cradlePane, cradle) == pane) {
                    cradles++;
                }
            }
            return cradles;
        }

        /** The light of the panes from one to ahead of another; one that was let go has no dirt. */
        int lightOf(int from, int to) {
            int light = 0;
            for (int pane = from; pane < to; pane++) {
                if (pane >= 0 && pane < dirt.length && dirt[pane] < FULL_LIGHT) {
                    light += FULL_LIGHT - dirt[pane];
                }
            }
            return light;
        }

        int lightOfBay(int bay) {
            int first = cell(plan.bayFirst, bay);
            return lightOf(first, first + cell(plan.bayPanes, bay));
        }

        boolean isDark(int bay) {
            return lightOfBay(bay) < DARK_BELOW * cell(plan.bayPanes, bay);
        }

        int darkBays() {
            int dark = 0;
            for (int bay = 0; bay < plan.bays; bay++) {
                if (isDark(bay)) {
                    dark++;
                }
            }
            return dark;
        }

        int allDirt() {
            int all = 0;
            for (int pane = 0; pane < plan.panes; pane++) {
                all += cell(dirt, pane);
            }
            return all;
        }

        int panesLeft() {
            int left = 0;
            for (int pane = 0; pane < plan.panes; pane++) {
                if (isWhole(pane)) {
                    left++;
                }
            }
            return left;
        }

        /** The pane ahead of which just so many stand, by their dirt. */
        int paneInPlace(int place) {
            for (int pane = 0; pane < plan.panes; pane++) {
                if (isWhole(pane) && panesAheadOf(pane) == place) {
                    return pane;
                }
            }
            return NONE;
        }

        private int panesAheadOf(int pane) {
            int ahead = 0;
            int own = cell(dirt, pane);
            for (int other = 0; other < plan.panes; other++) {
                int its = cell(dirt, other);
                if (isWhole(other) && (its > own || its == own && other < pane)) {
                    ahead++;
                }
            }
            return ahead;
        }

        private static int distance(int a, int b) {
            return a > b ? a - b : b - a;
        }

        /** Goes through steps of the orders; a test answers 1 or 0. */
        private int reckon(int from, int to) {
            top = 0;
            for (int i = from; i < to; i++) {
                int sign = cell(plan.orders.signs, i);
                int operand = cell(plan.orders.operands, i);
                switch (sign) {
                    case NUMBER: push(operand); break;
                    case HOUR: push(hour); break;
                    case WIND: push(wind); break;
                    case LIGHT: push(lightOf(0, plan.panes)); break;
                    case AT: push(cell(cradlePane, operand)); break;
                    case WATER: push(cell(water, operand)); break;
                    case PERCH: push(cell(flockPane, operand)); break;
                    case DARK: push(truth(isDark(operand))); break;
                    case DIRT: push(cell(dirt, pop())); break;
                    case CRACK: push(cell(cracks, pop())); break;
                    case TURNED: push(-pop()); break;
                    case NOT: push(truth(pop() == 0)); break;
                    default: bind(sign);
                }
            }
            return pop();
        }

        private void bind(int sign) {
            int right = pop();
            int left = pop();
            switch (sign) {
                case '+': push(left + right); break;
                case '-': push(left - right); break;
                case '*': push(left * right); break;
                case '/': push(right == 0 ? 0 : left / right); break;
                case MIN: push(Math.min(left, right)); break;
                case MAX: push(Math.max(left, right)); break;
                case '<': push(truth(left < right)); break;
                case '>': push(truth(left > right)); break;
                case '=': push(truth(left == right)); break;
                case AT_MOST: push(truth(left <= right)); break;
                case AT_LEAST: push(truth(left >= right)); break;
                case AND: push(left & right); break;
                default: push(left | right);
            }
        }

        private static int truth(boolean holds) {
            return holds ? 1 : 0;
        }

        private void push(int number) {
            put(stack, top, number);
            top++;
        }

        private int pop() {
            if (top > 0) {
                top--;
            }
            return cell(stack, top);
        }
    }
}
