import java.math.BigInteger;

/**
 * Each sentence of the document's promises 6 to 23 that names a boundary case,
 * with a test of its own.
 */
public final class CallEdgesTest {
    private static final String LIST = "bay a panes 2 thick 1;bay b panes 3 thick 2;" + chimney("h", 0, 20, 1, 0)
            + "cradle c at 4 speed 1 wash 9;cradle d at 3 speed 2 wash 60;flock f birds 3 every 4;flock g birds 20 every 12;"
            + "go d to 9;scare f when 1 = 2;";
    // No two sorts are told as often as one another.
    private static final String UNLIKE = "bay a panes 2 thick 9;bay b panes 3 thick 8;bay c panes 1 thick 7;bay d panes 5 thick 6;"
            + chimney("h", 4, 7, 2, 3) + "cradle c at 4 speed 1 wash 2;cradle d at 6 speed 2 wash 4;cradle e at 4 speed 3 wash 6;"
            + "flock f birds 3 every 2;flock g birds 4 every 5;"
            + "go c to hour;go d to perch f;scare f when hour = 3;scare g when perch f = perch g;go e to 10 - hour;go c to 1;";
    private static final int[] FAR = {-1, -2, 100, Integer.MIN_VALUE, Integer.MAX_VALUE};

    private CallEdgesTest() {
    }

    public static void main(String[] args) {
        callsOfOneObject();
        counts();
        countsOfEachSort();
        countsWrongly();
        letGoNowAndInAll();
        panes();
        panesWrongly();
        bays();
        baysWrongly();
        cradles();
        cradlesWrongly();
        sentHeld();
        sentByNone();
        flocks();
        flocksWrongly();
        moves();
        worst();
        worstWrongly();
        winds();
        windsWrongly();
        glazing();
        glazingNone();
        glazingWhole();
        carrying();
        carryingWrongly();
        scaring();
        scaringWrongly();
        passing();
        passingWrongly();
        untilNow();
        untilTheLast();
        untilWrongly();
        foreseeing();
        foreseeingHoursWrongly();
        foreseeingWhatWrongly();
        costing();
        costingWrongly();
        advising();
        advisingOfSeveral();
        advisingPanesOnly();
        advisingCradleWrongly();
        advisingHoursWrongly();
        sparing();
        sparingOfSeveral();
        sparingWithoutCradles();
        sparingNoOneElse();
        sparingAtTheFirstPane();
        sparingWrongly();
        meanOfLeft();
        meanWithoutAny();
        digestOfNothing();
        digestWraps();
        asItComes();
        asAllIsNow();
        nothingChanged();
        Check.finish();
    }

    private static String chimney(String name, int at, int soot, int every, int reach) {
        return "chimney " + name + " at " + at + " soot " + soot + " every " + every + " reach " + reach + ";";
    }

    private static final class Row {
        private final String name;
        private final int[] due;

        Row(String name, int... due) {
            this.name = name;
            this.due = due;
        }
    }

    private interface Told {
        int tell(int what);
    }

    private static void tells(Row row, Told told) {
        for (int what = 0; what < row.due.length; what++) {
            Check.due(row.name + ", " + what, told.tell(what), row.due[what]);
        }
        for (int wrong : new int[] {-1, row.due.length, Integer.MIN_VALUE, Integer.MAX_VALUE}) {
            Check.dueThrow(row.name + ", " + wrong, IndexOutOfBoundsException.class, () -> told.tell(wrong));
        }
    }

    private static void callsOfOneObject() {
        Check.sentence("An object is used for at most 512 calls after it has been made");
        SkylightWash wash = new SkylightWash();
        for (int call = 1; call < 512; call++) {
            Check.due("the call " + call, wash.pass(120), 0);
        }
        Check.due("the hour in the call 512", wash.count(0), 511 * 120);
        SkylightWash busy = Check.taught(LIST);
        // Check.taught has made fewer than 30 calls.
        int best = busy.advise(0, 24);
        for (int call = 30; call < 511; call++) {
            Check.due("the call " + call, busy.advise(0, 24), best);
        }
        Check.due("the hour in the call 512", busy.count(0), 0);
    }

    // ---- count

    private static void counts() {
        Check.sentence("P6: 0 the hour, 1 the wind .. 13 bytes of the tape");
        SkylightWash wash = Check.taught(LIST);
        tells(new Row("count at first", 0, 0, 2, 5, 1, 2, 2, 2, 500, 0, 0, 0, 0, 0), wash::count);
        tells(new Row("count of a new object", 0, 0, 0, 0, 0, 0, 0, 0, 0, 0, 0, 0, 0, 0), new SkylightWash()::count);
        wash.setWind(-3);
        Check.feed(wash, "!");
        tells(new Row("count with a wind and a tape", 0, -3, 2, 5, 1, 2, 2, 2, 500, 0, 0, 0, 0, 1), wash::count);
    }

    private static void countsOfEachSort() {
        Check.sentence("P6: 2 bays, 3 panes, 4 chimneys, 5 cradles, 6 flocks, 7 orders");
        SkylightWash wash = Check.taught(UNLIKE);
        tells(new Row("count", 0, 0, 4, 11, 1, 3, 2, 6, 1100, 0, 0, 0, 0, 0), wash::count);
        Check.due("cradles at pane 4", wash.pane(4, 5), 2);
        wash.carry(1, 4);
        Check.due("cradles at pane 4", wash.pane(4, 5), 3);
        Check.due("cradles at pane 6", wash.pane(6, 5), 0);
        Check.dueThrow("pane(11, 0)", IndexOutOfBoundsException.class, () -> wash.pane(11, 0));
        Check.dueThrow("bay(4, 0)", IndexOutOfBoundsException.class, () -> wash.bay(4, 0));
        Check.dueThrow("cradle(3, 0)", IndexOutOfBoundsException.class, () -> wash.cradle(3, 0));
        Check.dueThrow("flock(2, 0)", IndexOutOfBoundsException.class, () -> wash.flock(2, 0));
        Check.dueThrow("worst(11)", IndexOutOfBoundsException.class, () -> wash.worst(11));
        Check.dueThrow("glaze(11)", IndexOutOfBoundsException.class, () -> wash.glaze(11));
        Check.dueThrow("carry(3, 0)", IndexOutOfBoundsException.class, () -> wash.carry(3, 0));
        Check.dueThrow("carry(0, 11)", IndexOutOfBoundsException.class, () -> wash.carry(0, 11));
        Check.dueThrow("scare(2)", IndexOutOfBoundsException.class, () -> wash.scare(2));
        Check.dueThrow("until(11)", IndexOutOfBoundsException.class, () -> wash.until(11));
        Check.dueThrow("advise(3, 1)", IndexOutOfBoundsException.class, () -> wash.advise(3, 1));
    }

    private static void countsWrongly() {
        Check.sentence("P6: Throws IndexOutOfBoundsException if what is not 0 to 13");
        for (int what : new int[] {-1, 14, 15, Integer.MIN_VALUE, Integer.MAX_VALUE}) {
            Check.dueThrow("count(" + what + ")", IndexOutOfBoundsException.class, () -> new SkylightWash().count(what));
            Check.dueThrow("count(" + what + ")", IndexOutOfBoundsException.class, () -> Check.taught(LIST).count(what));
        }
    }

    private static void letGoNowAndInAll() {
        Check.sentence("P6: 10 panes that are let go now, 11 panes that were let go in all");
        SkylightWash wash = Check.taught("bay a panes 1 thick 1;bay b panes 1 thick 2;" + chimney("h", 0, 20, 1, 0) + chimney("i", 1, 20, 1, 0));
        wash.pass(3);
        Check.due("now", wash.count(10), 0);
        Check.due("in all", wash.count(11), 0);
        wash.pass(1);
        Check.due("now", wash.count(10), 1);
        Check.due("in all", wash.count(11), 1);
        wash.pass(2);
        Check.due("now", wash.count(10), 2);
        Check.due("in all", wash.count(11), 2);
        wash.glaze(0);
        Check.due("now, behind glaze", wash.count(10), 1);
        Check.due("in all, behind glaze", wash.count(11), 2);
        wash.pass(4);
        Check.due("now", wash.count(10), 2);
        Check.due("in all", wash.count(11), 3);
    }

    // ---- pane, bay, cradle, flock

    private static void panes() {
        Check.sentence("P7: 0 its bay .. 6 1 if it is free for a flock, else 0");
        SkylightWash wash = Check.taught(LIST);
        tells(new Row("pane(0)", 0, 0, 0, 0, 100, 0, 1), what -> wash.pane(0, what));
        tells(new Row("pane(1)", 0, 0, 0, 0, 100, 0, 1), what -> wash.pane(1, what));
        tells(new Row("pane(2)", 1, 0, 0, 0, 100, 0, 0), what -> wash.pane(2, what));
        tells(new Row("pane(4)", 1, 0, 0, 0, 100, 1, 0), what -> wash.pane(4, what));
        wash.carry(0, 3);
        tells(new Row("pane(3) with both cradles", 1, 0, 0, 0, 100, 2, 0), what -> wash.pane(3, what));
        wash.pass(4);
        tells(new Row("pane(0), let go", 0, 0, 0, 1, 100, 0, 0), what -> wash.pane(0, what));
    }

    private static void panesWrongly() {
        Check.sentence("P7: Throws IndexOutOfBoundsException if there is no such pane, or what is not 0 to 6");
        SkylightWash wash = Check.taught(LIST);
        Check.due("the last", wash.pane(4, 0), 1);
        Check.dueThrow("pane(5, 0)", IndexOutOfBoundsException.class, () -> wash.pane(5, 0));
        Check.dueThrow("pane(0, 7)", IndexOutOfBoundsException.class, () -> wash.pane(0, 7));
        for (int wrong : FAR) {
            Check.dueThrow("pane(" + wrong + ", 0)", IndexOutOfBoundsException.class, () -> wash.pane(wrong, 0));
            Check.dueThrow("pane(0, " + wrong + ")", IndexOutOfBoundsException.class, () -> wash.pane(0, wrong));
        }
        SkylightWash most = Check.taught("bay a panes 8 thick 1;bay b panes 8 thick 1;bay c panes 8 thick 1;bay d panes 8 thick 1;"
                + "bay e panes 8 thick 1;");
        Check.due("the last of the most", most.pane(39, 0), 4);
        Check.dueThrow("pane(40, 0)", IndexOutOfBoundsException.class, () -> most.pane(40, 0));
    }

    private static void bays() {
        Check.sentence("P8: 0 its panes, 1 its thick, 2 its first pane, 3 its light, 4 1 if it is dark, else 0");
        SkylightWash wash = Check.taught(LIST + chimney("i", 1, 30, 1, 0));
        tells(new Row("bay(0)", 2, 1, 0, 200, 0), what -> wash.bay(0, what));
        tells(new Row("bay(1)", 3, 2, 2, 300, 0), what -> wash.bay(1, what));
        wash.pass(1);
        // Both flocks sit at pane 0: 20 + 3 + 20 dirt there, and 30 beside it.
        tells(new Row("bay(0) behind 1 h", 2, 1, 0, 127, 0), what -> wash.bay(0, what));
        wash.pass(1);
        tells(new Row("bay(0) behind 2 h", 2, 1, 0, 54, 1), what -> wash.bay(0, what));
    }

    private static void baysWrongly() {
        Check.sentence("P8: Throws IndexOutOfBoundsException if there is no such bay, or what is not 0 to 4");
        SkylightWash wash = Check.taught(LIST);
        Check.due("the last", wash.bay(1, 4), 0);
        Check.dueThrow("bay(2, 0)", IndexOutOfBoundsException.class, () -> wash.bay(2, 0));
        Check.dueThrow("bay(0, 5)", IndexOutOfBoundsException.class, () -> wash.bay(0, 5));
        for (int wrong : FAR) {
            Check.dueThrow("bay(" + wrong + ", 0)", IndexOutOfBoundsException.class, () -> wash.bay(wrong, 0));
            Check.dueThrow("bay(0, " + wrong + ")", IndexOutOfBoundsException.class, () -> wash.bay(0, wrong));
        }
    }

    private static void cradles() {
        Check.sentence("P9: 0 its pane .. 5 dirt that it washed off in all");
        SkylightWash wash = Check.taught(LIST);
        tells(new Row("cradle(0)", 4, 1, 9, 20, 4, 0), what -> wash.cradle(0, what));
        tells(new Row("cradle(1)", 3, 2, 60, 20, 4, 0), what -> wash.cradle(1, what));
        wash.carry(0, 0);
        wash.pass(2);
        // Pane 0 has 20 and 31 dirt ahead of it, and 20 water in each hour.
        tells(new Row("cradle(0) behind 2 h", 0, 1, 9, 19, 0, 18), what -> wash.cradle(0, what));
    }

    private static void cradlesWrongly() {
        Check.sentence("P9: Throws IndexOutOfBoundsException if there is no such cradle, or what is not 0 to 5");
        SkylightWash wash = Check.taught(LIST);
        Check.due("the last", wash.cradle(1, 5), 0);
        Check.dueThrow("cradle(2, 0)", IndexOutOfBoundsException.class, () -> wash.cradle(2, 0));
        Check.dueThrow("cradle(0, 6)", IndexOutOfBoundsException.class, () -> wash.cradle(0, 6));
        for (int wrong : FAR) {
            Check.dueThrow("cradle(" + wrong + ", 0)", IndexOutOfBoundsException.class, () -> wash.cradle(wrong, 0));
            Check.dueThrow("cradle(0, " + wrong + ")", IndexOutOfBoundsException.class, () -> wash.cradle(0, wrong));
        }
    }

    private static void sentTo(String order, int due) {
        SkylightWash wash = Check.taught("bay a panes 5 thick 1;cradle c at 2 speed 1 wash 1;cradle d at 1 speed 1 wash 1;" + order);
        Check.due("sent by " + order, wash.cradle(0, 4), due);
        Check.due("where it is", wash.cradle(0, 0), 2);
    }

    private static void sentHeld() {
        Check.sentence("P9: the pane to which it would be sent now, as all is now: that of the sum of its order, held");
        sentTo("go c to 4;", 4);
        sentTo("go c to 5;", 4);
        sentTo("go c to 999999 * 2000;", 4);
        sentTo("go c to 0;", 0);
        sentTo("go c to -1;", 0);
        sentTo("go c to -999999 * 2000;", 0);
        // As all is now, not as it is when its turn comes.
        SkylightWash wash = Check.taught("bay a panes 5 thick 1;cradle c at 2 speed 1 wash 1;flock f birds 1 every 1;go c to perch f;");
        Check.due("sent to nowhere", wash.cradle(0, 4), 0);
        wash.pass(1);
        Check.due("sent to the flock", wash.cradle(0, 4), wash.flock(0, 0));
    }

    private static void sentByNone() {
        Check.sentence("P9: its own one, if by no order");
        sentTo("", 2);
        sentTo("go d to 4;", 2);
        sentTo("go c to 4 when 1 = 2;", 2);
        sentTo("go c to 4 when 1 = 2;go c to 0 when dark a;go d to 3;", 2);
    }

    private static void flocks() {
        Check.sentence("P10: 0 its pane, -1 for nowhere, 1 its birds, 2 its every, 3 times in all");
        SkylightWash wash = Check.taught(LIST);
        tells(new Row("flock(0)", -1, 3, 4, 0), what -> wash.flock(0, what));
        tells(new Row("flock(1)", -1, 20, 12, 0), what -> wash.flock(1, what));
        wash.pass(1);
        // Pane 0 has soot, and the cradles keep the flocks from 2 to 4.
        tells(new Row("flock(0) behind 1 h", 1, 3, 4, 1), what -> wash.flock(0, what));
        tells(new Row("flock(1) behind 1 h", 1, 20, 12, 1), what -> wash.flock(1, what));
    }

    private static void flocksWrongly() {
        Check.sentence("P10: Throws IndexOutOfBoundsException if there is no such flock, or what is not 0 to 3");
        SkylightWash wash = Check.taught(LIST);
        Check.due("the last", wash.flock(1, 3), 0);
        Check.dueThrow("flock(2, 0)", IndexOutOfBoundsException.class, () -> wash.flock(2, 0));
        Check.dueThrow("flock(0, 4)", IndexOutOfBoundsException.class, () -> wash.flock(0, 4));
        for (int wrong : FAR) {
            Check.dueThrow("flock(" + wrong + ", 0)", IndexOutOfBoundsException.class, () -> wash.flock(wrong, 0));
            Check.dueThrow("flock(0, " + wrong + ")", IndexOutOfBoundsException.class, () -> wash.flock(0, wrong));
        }
    }

    private static void moves() {
        Check.sentence("P10: times in all that it came in step 2 to a pane where it had not sat, or to nowhere from a pane");
        SkylightWash wash = Check.taught("bay a panes 4 thick 9;cradle c at 0 speed 1 wash 1;flock f birds 1 every 12;");
        Check.due("at first", wash.flock(0, 3), 0);
        wash.pass(1);
        Check.due("from nowhere to a pane", wash.flock(0, 3), 1);
        wash.pass(3);
        Check.due("at the same pane", wash.flock(0, 3), 1);
        wash.carry(0, 1);
        wash.pass(1);
        Check.due("from a pane to another", wash.flock(0, 3), 2);
        wash.carry(0, 2);
        wash.pass(1);
        Check.due("from a pane to another, again", wash.flock(0, 3), 3);
        wash.scare(0);
        Check.due("to nowhere by hand", wash.flock(0, 3), 3);
        wash.pass(1);
        Check.due("from nowhere to the pane of before", wash.flock(0, 3), 4);
        Check.due("that is the only free one", wash.flock(0, 0), 0);
        SkylightWash gone = Check.taught("bay a panes 3 thick 9;cradle c at 0 speed 1 wash 1;flock f birds 1 every 12;");
        gone.pass(1);
        gone.carry(0, 1);
        gone.pass(1);
        Check.due("to nowhere from a pane", gone.flock(0, 3), 2);
        gone.pass(5);
        Check.due("nowhere still", gone.flock(0, 3), 2);
        gone.carry(0, 0);
        gone.pass(1);
        Check.due("back from nowhere", gone.flock(0, 3), 3);
    }

    // ---- worst

    private static void worst() {
        Check.sentence("P11: if all that were not let go stand by their dirt, the most first, of as much by their numbers.");
        SkylightWash wash = Check.taught("bay a panes 1 thick 1;bay b panes 4 thick 9;" + chimney("h", 0, 30, 1, 0)
                + chimney("i", 2, 5, 12, 0) + chimney("k", 4, 5, 12, 0));
        int[] atFirst = {0, 1, 2, 3, 4};
        int[] dirty = {0, 2, 4, 1, 3};
        int[] letGo = {2, 4, 1, 3};
        for (int place = 0; place < 5; place++) {
            Check.due("worst(" + place + ") at first", wash.worst(place), atFirst[place]);
        }
        wash.pass(1);
        for (int place = 0; place < 5; place++) {
            Check.due("worst(" + place + ") behind 1 h", wash.worst(place), dirty[place]);
        }
        wash.pass(3);
        for (int place = 0; place < 4; place++) {
            Check.due("worst(" + place + ") without pane 0", wash.worst(place), letGo[place]);
        }
        Check.dueThrow("worst(4) without pane 0", IndexOutOfBoundsException.class, () -> wash.worst(4));
        wash.glaze(0);
        Check.due("worst(2) with a new pane 0", wash.worst(2), 0);
        Check.due("worst(4) with a new pane 0", wash.worst(4), 3);
        SkylightWash kept = Check.taught("bay a panes 4 thick 9;" + chimney("h", 2, 5, 12, 1) + "cradle c at 2 speed 1 wash 1;");
        kept.pass(1);
        int[] notFree = {1, 2, 3, 0};
        for (int place = 0; place < 4; place++) {
            Check.due("worst(" + place + ") with panes that are not free", kept.worst(place), notFree[place]);
        }
    }

    private static void worstWrongly() {
        Check.sentence("P11: Throws IndexOutOfBoundsException if there is no such place");
        SkylightWash wash = Check.taught("bay a panes 2 thick 1;" + chimney("h", 0, 30, 1, 1));
        Check.due("the last place", wash.worst(1), 1);
        Check.dueThrow("worst(2)", IndexOutOfBoundsException.class, () -> wash.worst(2));
        for (int wrong : FAR) {
            Check.dueThrow("worst(" + wrong + ")", IndexOutOfBoundsException.class, () -> wash.worst(wrong));
        }
        wash.pass(4);
        Check.dueThrow("worst(0), all let go", IndexOutOfBoundsException.class, () -> wash.worst(0));
        Check.dueThrow("worst(0), without panes", IndexOutOfBoundsException.class, () -> new SkylightWash().worst(0));
    }

    // ---- by hand

    private static void winds() {
        Check.sentence("P12: wind: the wind from now on. Returns the one before.");
        SkylightWash wash = new SkylightWash();
        int before = 0;
        for (int wind : new int[] {-3, 3, 3, -2, 2, -1, 1, 0}) {
            Check.due("setWind(" + wind + ")", wash.setWind(wind), before);
            Check.due("the wind", wash.count(1), wind);
            before = wind;
        }
    }

    private static void windsWrongly() {
        Check.sentence("P12: Throws IllegalArgumentException if wind is not -3 to 3");
        SkylightWash wash = new SkylightWash();
        wash.setWind(2);
        for (int wind : new int[] {-4, 4, Integer.MIN_VALUE, Integer.MAX_VALUE}) {
            Check.dueThrow("setWind(" + wind + ")", IllegalArgumentException.class, () -> wash.setWind(wind));
            Check.due("the wind", wash.count(1), 2);
        }
    }

    /** Three panes of thick 1; all are let go behind 4 hours. */
    private static SkylightWash allLetGo() {
        SkylightWash wash = Check.taught("bay a panes 3 thick 1;" + chimney("h", 1, 21, 1, 1));
        Check.due("let go", wash.pass(4), 3);
        return wash;
    }

    private static void glazing() {
        Check.sentence("P13: Sets a new pane in the place of one that was let go: without dirt and cracks."
                + " Returns how many are let go then.");
        SkylightWash wash = allLetGo();
        Check.due("glaze(2)", wash.glaze(2), 2);
        Check.due("glaze(0)", wash.glaze(0), 1);
        Check.due("glaze(1)", wash.glaze(1), 0);
        for (int pane = 0; pane < 3; pane++) {
            int own = pane;
            tells(new Row("the new pane " + pane, 0, 0, 0, 0, 100, 0, 1), what -> wash.pane(own, what));
        }
        wash.pass(1);
        Check.due("its dirt then", wash.pane(1, 1), 21);
        Check.due("its cracks then", wash.pane(1, 2), 2);
        Check.due("let go in 3 hours more", wash.pass(3), 3);
    }

    private static void glazingNone() {
        Check.sentence("P13: Throws IndexOutOfBoundsException if there is no such pane");
        SkylightWash wash = allLetGo();
        Check.dueThrow("glaze(3)", IndexOutOfBoundsException.class, () -> wash.glaze(3));
        for (int wrong : FAR) {
            Check.dueThrow("glaze(" + wrong + ")", IndexOutOfBoundsException.class, () -> wash.glaze(wrong));
        }
        Check.due("let go still", wash.count(10), 3);
    }

    private static void glazingWhole() {
        Check.sentence("P13: Throws IllegalStateException if it was not let go");
        SkylightWash wash = Check.taught("bay a panes 3 thick 1;" + chimney("h", 1, 21, 1, 1));
        Check.dueThrow("glaze of a new one", IllegalStateException.class, () -> wash.glaze(0));
        wash.pass(3);
        Check.dueThrow("glaze of a dirty one", IllegalStateException.class, () -> wash.glaze(1));
        Check.due("its dirt", wash.pane(1, 1), 63);
        Check.due("its cracks", wash.pane(1, 2), 12);
        wash.pass(1);
        wash.glaze(2);
        Check.dueThrow("glaze once more", IllegalStateException.class, () -> wash.glaze(2));
        Check.due("let go still", wash.count(10), 2);
    }

    private static void carrying() {
        Check.sentence("P14: Takes a cradle to a pane. Returns the pane before.");
        SkylightWash wash = Check.taught(LIST);
        Check.due("to the first", wash.carry(0, 0), 4);
        Check.due("to the last", wash.carry(0, 4), 0);
        Check.due("to its own", wash.carry(0, 4), 4);
        Check.due("the other", wash.cradle(1, 0), 3);
        Check.due("its water", wash.cradle(0, 3), 20);
        SkylightWash gone = Check.taught("bay a panes 2 thick 1;" + chimney("h", 1, 30, 1, 0) + "cradle c at 0 speed 1 wash 1;");
        gone.pass(4);
        Check.due("to one that was let go", gone.carry(0, 1), 0);
        Check.due("it is there", gone.cradle(0, 0), 1);
    }

    private static void carryingWrongly() {
        Check.sentence("P14: Throws IndexOutOfBoundsException if there is no such cradle, or no such pane");
        SkylightWash wash = Check.taught(LIST);
        Check.dueThrow("carry(2, 0)", IndexOutOfBoundsException.class, () -> wash.carry(2, 0));
        Check.dueThrow("carry(0, 5)", IndexOutOfBoundsException.class, () -> wash.carry(0, 5));
        for (int wrong : FAR) {
            Check.dueThrow("carry(" + wrong + ", 0)", IndexOutOfBoundsException.class, () -> wash.carry(wrong, 0));
            Check.dueThrow("carry(0, " + wrong + ")", IndexOutOfBoundsException.class, () -> wash.carry(0, wrong));
        }
        Check.due("where the first is", wash.cradle(0, 0), 4);
        Check.due("where the second is", wash.cradle(1, 0), 3);
    }

    private static void scaring() {
        Check.sentence("P15: Scares a flock: it sits nowhere then. Returns the pane before, -1 for nowhere.");
        SkylightWash wash = Check.taught(LIST);
        Check.due("of one nowhere", wash.scare(1), -1);
        wash.pass(1);
        Check.due("of one at a pane", wash.scare(1), 1);
        Check.due("its pane then", wash.flock(1, 0), -1);
        Check.due("the other", wash.flock(0, 0), 1);
        Check.due("once more", wash.scare(1), -1);
        SkylightWash first = Check.taught("bay a panes 2 thick 1;flock f birds 20 every 12;");
        first.pass(1);
        Check.due("of one at pane 0", first.scare(0), 0);
        first.pass(4);
        Check.due("pane 1 is let go", first.pane(1, 3), 1);
        Check.due("of one at a pane let go", first.scare(0), 1);
    }

    private static void scaringWrongly() {
        Check.sentence("P15: Throws IndexOutOfBoundsException if there is no such flock");
        SkylightWash wash = Check.taught(LIST);
        wash.pass(1);
        Check.dueThrow("scare(2)", IndexOutOfBoundsException.class, () -> wash.scare(2));
        for (int wrong : FAR) {
            Check.dueThrow("scare(" + wrong + ")", IndexOutOfBoundsException.class, () -> wash.scare(wrong));
        }
        Check.due("the first", wash.flock(0, 0), 1);
        Check.due("the second", wash.flock(1, 0), 1);
    }

    // ---- hours

    private static void passing() {
        Check.sentence("P16: Lets hours go by. Returns how many panes are let go in them.");
        String list = "bay a panes 3 thick 1;" + chimney("h", 1, 21, 1, 1);
        Check.due("pass(1)", Check.taught(list).pass(1), 0);
        Check.due("pass(3)", Check.taught(list).pass(3), 0);
        Check.due("pass(4)", Check.taught(list).pass(4), 3);
        Check.due("pass(120)", Check.taught(list).pass(120), 3);
        SkylightWash wash = allLetGo();
        Check.due("pass(120) behind it", wash.pass(120), 0);
        Check.due("the hour", wash.count(0), 124);
        wash.glaze(1);
        Check.due("pass(120) with one left", wash.pass(120), 1);
    }

    private static void passingWrongly() {
        Check.sentence("P16: Throws IllegalArgumentException if hours is not 1 to 120");
        SkylightWash wash = Check.taught(LIST);
        for (int hours : new int[] {0, 121, -1, Integer.MIN_VALUE, Integer.MAX_VALUE}) {
            Check.dueThrow("pass(" + hours + ")", IllegalArgumentException.class, () -> wash.pass(hours));
        }
        Check.due("the hour", wash.count(0), 0);
        Check.due("pass(1)", wash.pass(1), 0);
        wash.pass(120);
        Check.due("the hour behind pass(120)", wash.count(0), 121);
    }

    // ---- what would be

    private static void untilNow() {
        Check.sentence("P17: Returns behind how many hours it is let go, if nothing is done by hand: 0 if it is now");
        SkylightWash wash = allLetGo();
        for (int pane = 0; pane < 3; pane++) {
            Check.due("until(" + pane + ")", wash.until(pane), 0);
        }
        wash.glaze(1);
        Check.due("of a new one", wash.until(1), 4);
        wash.pass(3);
        Check.due("of one that is let go in the next", wash.until(1), 1);
        Check.due("of one that is let go now", wash.until(0), 0);
    }

    /** A pane with 10 dirt for ever, and so a crack by the hour, 180 for it to be let go. */
    private static SkylightWash slowly() {
        SkylightWash wash = Check.taught("bay a panes 1 thick 9;bay b panes 1 thick 9;" + chimney("h", 0, 10, 12, 0));
        wash.pass(1);
        wash.setWind(3);
        return wash;
    }

    private static void untilTheLast() {
        Check.sentence("P17: at most 200; -1 if not by then (nothing is changed).");
        Check.due("of the slow one", slowly().until(0), 179);
        // 10 dirt from the hour 108 on, and 100 cracks behind the hour 207.
        SkylightWash wash = Check.taught("bay a panes 1 thick 5;" + chimney("h", 0, 1, 12, 0));
        Check.due("208 h ahead", wash.until(0), -1);
        wash.pass(7);
        Check.due("201 h ahead", wash.until(0), -1);
        Check.due("once more", wash.until(0), -1);
        wash.pass(1);
        Check.due("200 h ahead", wash.until(0), 200);
        Check.due("once more", wash.until(0), 200);
        wash.pass(1);
        Check.due("199 h ahead", wash.until(0), 199);
        Check.due("it comes so", wash.pass(120) + wash.pass(78), 0);
        Check.due("1 h ahead", wash.until(0), 1);
        Check.due("of one without dirt", slowly().until(1), -1);
    }

    private static void untilWrongly() {
        Check.sentence("P17: Throws IndexOutOfBoundsException if there is no such pane");
        SkylightWash wash = Check.taught(LIST);
        wash.until(4);
        Check.dueThrow("until(5)", IndexOutOfBoundsException.class, () -> wash.until(5));
        for (int wrong : FAR) {
            Check.dueThrow("until(" + wrong + ")", IndexOutOfBoundsException.class, () -> wash.until(wrong));
        }
    }

    private static void foreseeing() {
        Check.sentence("P18: hours: how many, 1 to 120. 0 panes that are let go in them, 1 the light then, 2 all dirt then,"
                + " 3 bays that are dark then");
        SkylightWash wash = Check.taught("bay a panes 1 thick 1;bay b panes 1 thick 9;" + chimney("h", 0, 21, 1, 0)
                + chimney("i", 1, 10, 1, 0));
        int[][] due = {{1, 0, 169, 31, 0}, {3, 0, 107, 93, 1}, {4, 1, 160, 40, 0}, {17, 1, 100, 170, 1}, {18, 1, 100, 180, 1},
            {19, 2, 200, 0, 0}, {120, 2, 200, 0, 0}};
        for (int[] row : due) {
            for (int what = 0; what < 4; what++) {
                Check.due("foresee(" + row[0] + ", " + what + ")", wash.foresee(row[0], what), row[what + 1]);
            }
        }
        wash.pass(4);
        Check.due("those let go ahead of it do not count", wash.foresee(120, 0), 1);
    }

    private static void foreseeingHoursWrongly() {
        Check.sentence("P18: Throws IllegalArgumentException if hours is not 1 to 120");
        SkylightWash wash = Check.taught(LIST);
        for (int hours : new int[] {0, 121, -1, Integer.MIN_VALUE, Integer.MAX_VALUE}) {
            for (int what = -1; what < 5; what++) {
                int own = what;
                Check.dueThrow("foresee(" + hours + ", " + what + ")", IllegalArgumentException.class, () -> wash.foresee(hours, own));
            }
        }
    }

    private static void foreseeingWhatWrongly() {
        Check.sentence("P18: Throws IndexOutOfBoundsException if what is not 0 to 3");
        SkylightWash wash = Check.taught(LIST);
        for (int what : new int[] {-1, 4, Integer.MIN_VALUE, Integer.MAX_VALUE}) {
            Check.dueThrow("foresee(1, " + what + ")", IndexOutOfBoundsException.class, () -> wash.foresee(1, what));
            Check.dueThrow("foresee(120, " + what + ")", IndexOutOfBoundsException.class, () -> wash.foresee(120, what));
        }
    }

    private static void costing() {
        Check.sentence("P19: Returns all dirt behind so many hours less all dirt then with the wind as it is");
        SkylightWash wash = Check.taught("bay a panes 3 thick 9;" + chimney("h", 0, 5, 12, 0));
        Check.due("costs(1, -3)", wash.costs(1, -3), -5);
        Check.due("costs(1, -1)", wash.costs(1, -1), -5);
        Check.due("costs(1, 0)", wash.costs(1, 0), 0);
        Check.due("costs(1, 2)", wash.costs(1, 2), 0);
        Check.due("costs(1, 3)", wash.costs(1, 3), -5);
        Check.due("costs(90, 3)", wash.costs(90, 3), -40);
        Check.due("costs(90, 0)", wash.costs(90, 0), 0);
        wash.setWind(3);
        Check.due("costs(1, 3) from 3", wash.costs(1, 3), 0);
        Check.due("costs(1, -3) from 3", wash.costs(1, -3), 0);
        Check.due("costs(90, 0) from 3", wash.costs(90, 0), 40);
        Check.due("costs(90, 2) from 3", wash.costs(90, 2), 40);
        Check.due("without panes", new SkylightWash().costs(90, 3), 0);
    }

    private static void costingWrongly() {
        Check.sentence("P19: Throws IllegalArgumentException if hours is not 1 to 90, or wind is not -3 to 3");
        SkylightWash wash = Check.taught(LIST);
        for (int hours : new int[] {0, 91, 120, -1, Integer.MIN_VALUE, Integer.MAX_VALUE}) {
            Check.dueThrow("costs(" + hours + ", 0)", IllegalArgumentException.class, () -> wash.costs(hours, 0));
        }
        for (int wind : new int[] {-4, 4, Integer.MIN_VALUE, Integer.MAX_VALUE}) {
            Check.dueThrow("costs(1, " + wind + ")", IllegalArgumentException.class, () -> wash.costs(1, wind));
            Check.dueThrow("costs(0, " + wind + ")", IllegalArgumentException.class, () -> wash.costs(0, wind));
        }
    }

    private static void advising() {
        Check.sentence("P20: so that the light behind so many hours is the most.");
        SkylightWash wash = Check.taught("bay a panes 6 thick 9;" + chimney("h", 5, 3, 1, 0) + "cradle c at 0 speed 9 wash 60;");
        Check.due("to the last pane", wash.advise(0, 1), 5);
        Check.due("in 24 h", wash.advise(0, 24), 5);
        SkylightWash first = Check.taught("bay a panes 6 thick 9;" + chimney("h", 0, 3, 1, 0) + "cradle c at 5 speed 9 wash 60;");
        Check.due("to the first pane", first.advise(0, 1), 0);
        SkylightWash other = Check.taught("bay a panes 6 thick 9;" + chimney("h", 0, 3, 1, 0) + chimney("i", 3, 3, 1, 0)
                + "cradle c at 0 speed 9 wash 60;cradle d at 5 speed 9 wash 60;");
        Check.due("to where the other is not", other.advise(1, 2), 3);
        Check.due("to where it is", other.advise(0, 2), 0);
    }

    private static void advisingOfSeveral() {
        Check.sentence("P20: Returns this, of several the one with the smallest number (nothing is changed).");
        SkylightWash wash = Check.taught("bay a panes 6 thick 9;cradle c at 5 speed 9 wash 60;");
        Check.due("all are as good", wash.advise(0, 1), 0);
        Check.due("in 24 h", wash.advise(0, 24), 0);
        Check.due("the cradle stays", wash.cradle(0, 0), 5);
        SkylightWash two = Check.taught("bay a panes 6 thick 9;" + chimney("h", 2, 3, 1, 0) + chimney("i", 4, 3, 1, 0)
                + "cradle c at 5 speed 9 wash 60;");
        Check.due("two are as good", two.advise(0, 3), 2);
        SkylightWash dark = Check.taught("bay a panes 2 thick 9;" + chimney("h", 0, 30, 1, 1) + chimney("i", 1, 30, 1, 1)
                + chimney("k", 1, 30, 1, 1) + "cradle c at 1 speed 1 wash 1;");
        Check.due("no light at all", dark.advise(0, 3), 0);
        Check.due("no light at all", dark.foresee(3, 1), 0);
    }

    private static void advisingPanesOnly() {
        Check.sentence("P20: Looks for the pane to which a cradle had best be taken now");
        // Beside the row, on either side, it would have the other one wash all.
        SkylightWash wash = Check.taught("bay a panes 3 thick 9;" + chimney("h", 1, 30, 12, 0)
                + "cradle c at 0 speed 1 wash 1;cradle d at 2 speed 9 wash 60;go d to 1 when at c > 2 or at c < 0;");
        Check.due("of the panes that there are", wash.advise(0, 1), 1);
        // A pane that was let go is a pane still: with c there, d washes pane 0.
        SkylightWash gone = Check.taught("bay a panes 3 thick 9;bay b panes 1 thick 1;" + chimney("h", 3, 30, 1, 0)
                + chimney("i", 0, 30, 1, 0) + "cradle c at 1 speed 1 wash 1;cradle d at 2 speed 9 wash 60;go d to 0 when at c = 3;");
        gone.pass(4);
        Check.due("pane 3 let go", gone.pane(3, 3), 1);
        Check.due("to one that was let go", gone.advise(0, 2), 3);
    }

    private static void advisingCradleWrongly() {
        Check.sentence("P20: Throws IndexOutOfBoundsException if there is no such cradle");
        SkylightWash wash = Check.taught(LIST);
        wash.advise(1, 24);
        Check.dueThrow("advise(2, 1)", IndexOutOfBoundsException.class, () -> wash.advise(2, 1));
        for (int wrong : FAR) {
            Check.dueThrow("advise(" + wrong + ", 1)", IndexOutOfBoundsException.class, () -> wash.advise(wrong, 1));
            Check.dueThrow("advise(" + wrong + ", 0)", IndexOutOfBoundsException.class, () -> wash.advise(wrong, 0));
        }
    }

    private static void advisingHoursWrongly() {
        Check.sentence("P20: Throws IllegalArgumentException if hours is not 1 to 24");
        SkylightWash wash = Check.taught(LIST);
        for (int hours : new int[] {0, 25, -1, 120, Integer.MIN_VALUE, Integer.MAX_VALUE}) {
            Check.dueThrow("advise(0, " + hours + ")", IllegalArgumentException.class, () -> wash.advise(0, hours));
        }
    }

    private static void sparing() {
        Check.sentence("P21: Looks for the cradle without whom the light behind so many hours is the most.");
        String begin = "bay a panes 6 thick 9;" + chimney("h", 5, 3, 12, 0) + chimney("i", 3, 2, 12, 0);
        SkylightWash last = Check.taught(begin + "cradle c at 5 speed 9 wash 60;cradle d at 3 speed 9 wash 60;cradle e at 1 speed 9 wash 60;");
        Check.due("one that washes nothing", last.spare(1), 2);
        Check.due("in 90 h", last.spare(90), 2);
        SkylightWash less = Check.taught(begin + "cradle c at 5 speed 9 wash 60;cradle d at 3 speed 9 wash 60;");
        Check.due("one that washes less", less.spare(1), 1);
        SkylightWash one = Check.taught(begin + "cradle c at 5 speed 9 wash 60;");
        Check.due("the only one", one.spare(1), 0);
        SkylightWash first = Check.taught("bay a panes 6 thick 9;" + chimney("h", 0, 3, 12, 0)
                + "cradle c at 0 speed 9 wash 60;cradle d at 3 speed 9 wash 60;");
        Check.due("light at the first pane", first.spare(1), 1);
    }

    private static void sparingOfSeveral() {
        Check.sentence("P21: Returns this one, of several the one with the smallest number");
        SkylightWash wash = Check.taught("bay a panes 6 thick 9;cradle c at 5 speed 9 wash 60;cradle d at 0 speed 9 wash 60;"
                + "cradle e at 1 speed 9 wash 60;");
        Check.due("all are as good", wash.spare(1), 0);
        Check.due("in 90 h", wash.spare(90), 0);
        SkylightWash two = Check.taught("bay a panes 6 thick 9;" + chimney("h", 5, 3, 1, 0)
                + "cradle c at 5 speed 9 wash 60;cradle d at 0 speed 9 wash 60;cradle e at 1 speed 9 wash 60;");
        Check.due("two are as good", two.spare(5), 1);
        SkylightWash dark = Check.taught("bay a panes 2 thick 9;" + chimney("h", 0, 30, 1, 1) + chimney("i", 1, 30, 1, 1)
                + chimney("k", 1, 30, 1, 1) + "cradle c at 1 speed 1 wash 1;cradle d at 0 speed 1 wash 1;");
        Check.due("no light at all", dark.spare(3), 0);
        Check.due("no light at all", dark.foresee(3, 1), 0);
    }

    private static void sparingWithoutCradles() {
        Check.sentence("P21: -1 without cradles (nothing is changed).");
        Check.due("of a new object", new SkylightWash().spare(1), -1);
        Check.due("of one with panes", Check.taught("bay a panes 2 thick 9;" + chimney("h", 0, 30, 1, 1)).spare(90), -1);
        SkylightWash wash = Check.taught(LIST);
        Check.feed(wash, "bay a panes 2 thick 9;");
        wash.teach();
        Check.due("of one that has none any more", wash.spare(1), -1);
    }

    private static void sparingNoOneElse() {
        Check.sentence("P21: (it neither goes, fetches water nor washes, nor keeps flocks away;"
                + " its pane and water are told as they are)");
        // Without c nobody comes to pane 2; without d, c does.
        String begin = "bay a panes 6 thick 9;" + chimney("h", 2, 3, 1, 0);
        Check.due("goes and washes", Check.taught(begin + "cradle c at 4 speed 9 wash 9;cradle d at 2 speed 9 wash 9;go c to 2;go d to 5;").spare(3), 1);
        Check.due("washes where it stands", Check.taught(begin + "cradle c at 2 speed 9 wash 9;cradle d at 5 speed 9 wash 9;").spare(3), 1);
        Check.due("goes", Check.taught(begin + "cradle c at 4 speed 9 wash 9;cradle d at 5 speed 9 wash 9;go c to 2;go d to at c;").spare(3), 1);
        // Without d its water stays 15 at pane 0, so that c washes pane 2; without c nobody does.
        SkylightWash water = Check.taught(begin + "cradle c at 5 speed 9 wash 60;cradle d at 2 speed 9 wash 1;go c to 2 when water d < 20;");
        water.pass(1);
        water.carry(0, 5);
        water.carry(1, 0);
        Check.due("water", water.cradle(1, 3), 19);
        Check.due("fetches water", water.spare(9), 1);
        // Without c the flock finds pane 2; without d it finds none.
        Check.due("keeps flocks away", Check.taught("bay a panes 3 thick 9;flock f birds 20 every 12;"
                + "cradle c at 1 speed 1 wash 1;cradle d at 0 speed 1 wash 1;").spare(1), 1);
        // Its pane is told as it is: d goes to where c stands, and washes there.
        Check.due("its pane", Check.taught(begin + "cradle c at 2 speed 9 wash 60;cradle d at 5 speed 9 wash 60;go d to at c;").spare(3), 0);
        // Its water is told as it is: without c it stays 20, with c it is less.
        Check.due("its water", Check.taught(begin + "cradle c at 2 speed 9 wash 60;cradle d at 5 speed 9 wash 60;"
                + "go d to 2 when water c = 20;").spare(1), 0);
    }

    private static void sparingAtTheFirstPane() {
        Check.sentence("P21: nor keeps flocks away, at the first panes too");
        // Without c the flock fouls pane 3, without d pane 0: both are as good.
        SkylightWash wash = Check.taught("bay a panes 5 thick 9;flock f birds 20 every 12;"
                + "cradle c at 3 speed 1 wash 1;cradle d at 1 speed 1 wash 1;");
        Check.due("either fouls", wash.spare(1), 0);
    }

    private static void sparingWrongly() {
        Check.sentence("P21: Throws IllegalArgumentException if hours is not 1 to 90");
        SkylightWash wash = Check.taught(LIST);
        for (int hours : new int[] {0, 91, 120, -1, Integer.MIN_VALUE, Integer.MAX_VALUE}) {
            Check.dueThrow("spare(" + hours + ")", IllegalArgumentException.class, () -> wash.spare(hours));
            Check.dueThrow("spare(" + hours + ") without cradles", IllegalArgumentException.class, () -> new SkylightWash().spare(hours));
        }
        Check.due("spare(90)", wash.spare(90) >= 0 ? 1 : 0, 1);
        Check.due("spare(1)", wash.spare(1) >= 0 ? 1 : 0, 1);
    }

    private static void meanOfLeft() {
        Check.sentence("P22: Returns the mean dirt of all panes that were not let go");
        SkylightWash wash = Check.taught("bay a panes 1 thick 1;bay b panes 2 thick 9;" + chimney("h", 0, 21, 1, 0)
                + chimney("i", 1, 10, 12, 0));
        Check.dueDouble("at first", wash::mean, 0.0);
        wash.pass(1);
        Check.dueDouble("of three panes", wash::mean, 31.0 / 3.0);
        wash.pass(3);
        Check.dueDouble("of two, without the one let go", wash::mean, 5.0);
        wash.glaze(0);
        Check.dueDouble("of three, with the new one", wash::mean, 10.0 / 3.0);
        SkylightWash one = Check.taught("bay a panes 1 thick 1;bay b panes 1 thick 9;" + chimney("h", 0, 21, 1, 0)
                + chimney("i", 1, 7, 12, 0));
        one.pass(4);
        Check.dueDouble("of a single one", one::mean, 7.0);
    }

    private static void meanWithoutAny() {
        Check.sentence("P22: 0 without any.");
        Check.dueDouble("without panes", new SkylightWash()::mean, 0.0);
        SkylightWash wash = allLetGo();
        Check.dueDouble("all let go", wash::mean, 0.0);
        wash.pass(5);
        Check.dueDouble("all let go, and soot", wash::mean, 0.0);
    }

    private static BigInteger next(BigInteger d, int x) {
        return d.multiply(BigInteger.valueOf(31)).add(BigInteger.valueOf(x));
    }

    private static void digestOfNothing() {
        Check.sentence("P23: A number d starts with 839");
        BigInteger d = BigInteger.valueOf(839);
        for (int what = 0; what < 14; what++) {
            d = next(d, 0);
        }
        Check.due("of a new object", new SkylightWash().digest(), d.longValue());
    }

    private static void digestWraps() {
        Check.sentence("P23: for each of the following numbers x, d becomes d * 31 + x, which wraps around as a 64-bit integer");
        for (String list : new String[] {LIST, UNLIKE, "bay a panes 3 thick 1;", "flock f birds 2 every 1;"}) {
            for (int hours = 1; hours <= 10; hours++) {
                SkylightWash wash = Check.taught(list);
                wash.setWind(-3);
                Check.due("at first, of " + list, wash.digest(), digestOf(wash));
                wash.pass(hours);
                Check.feed(wash, "!");
                Check.due("behind " + hours + " h, of " + list, wash.digest(), digestOf(wash));
            }
        }
    }

    private static long digestOf(SkylightWash wash) {
        BigInteger d = BigInteger.valueOf(839);
        for (int what = 0; what < 14; what++) {
            d = next(d, wash.count(what));
        }
        int panes = wash.count(3);
        for (int i = 0; i < panes * 7; i++) {
            d = next(d, wash.pane(i / 7, i % 7));
        }
        int bays = wash.count(2);
        for (int i = 0; i < bays * 5; i++) {
            d = next(d, wash.bay(i / 5, i % 5));
        }
        int cradles = wash.count(5);
        for (int i = 0; i < cradles * 6; i++) {
            d = next(d, wash.cradle(i / 6, i % 6));
        }
        int flocks = wash.count(6);
        for (int i = 0; i < flocks * 4; i++) {
            d = next(d, wash.flock(i / 4, i % 4));
        }
        return d.longValue();
    }

    private static void asItComes() {
        Check.sentence("Returns this, if nothing is done by hand (nothing is changed).");
        SkylightWash wash = Check.taught(LIST);
        for (int hour = 0; hour < 25; hour++) {
            long[] told = new long[4];
            for (int what = 0; what < 4; what++) {
                told[what] = wash.foresee(1, what);
            }
            int until = wash.until(1);
            // What these ask is another wind, another pane or one cradle less, and is not to stay.
            wash.costs(9, 3);
            wash.advise(1, 9);
            wash.spare(9);
            for (int what = 0; what < 4; what++) {
                Check.due("foresee(1, " + what + ") again", wash.foresee(1, what), told[what]);
            }
            Check.due("until(1) again", wash.until(1), until);
            Check.due("let go", wash.pass(1), told[0]);
            Check.due("the light", wash.count(8), told[1]);
            Check.due("all dirt", wash.count(9), told[2]);
            Check.due("dark bays", wash.count(12), told[3]);
            Check.due("until(1) 1 h on", wash.until(1), until > 0 ? until - 1 : until);
        }
    }

    /** In the hour 8, with all that can change changed. */
    private static SkylightWash used() {
        SkylightWash wash = Check.taught("bay a panes 1 thick 1;bay b panes 4 thick 3;bay c panes 3 thick 2;" + chimney("h", 0, 30, 1, 0)
                + chimney("i", 4, 9, 2, 3) + "cradle c at 7 speed 1 wash 4;cradle d at 4 speed 2 wash 3;"
                + "flock f birds 12 every 9;flock g birds 5 every 11;go d to perch f;go c to 5 when water c > 12;");
        wash.pass(5);
        wash.scare(0);
        wash.pass(1);
        wash.scare(1);
        wash.setWind(1);
        wash.pass(2);
        wash.carry(0, 6);
        return wash;
    }

    /** In the hour 4, with two flocks that nothing drives off till the hour 12. */
    private static SkylightWash perched() {
        SkylightWash wash = Check.taught("bay a panes 6 thick 1;flock f birds 12 every 12;flock g birds 7 every 12;");
        wash.pass(1);
        wash.scare(0);
        wash.pass(1);
        wash.scare(1);
        wash.pass(1);
        wash.scare(0);
        wash.pass(1);
        return wash;
    }

    private static void asAllIsNow() {
        Check.sentence("Returns this, if nothing is done by hand: as all is now, panes, cradles and flocks");
        Check.due("panes let go", used().count(10), 1);
        int[] letGoIn = untilEach(used());
        for (int hours = 1; hours <= 120; hours += hours < 30 ? 1 : 9) {
            comesAsForeseen(used(), used(), hours, letGoIn);
        }
        SkylightWash wash = perched();
        tells(new Row("the first flock", 4, 12, 12, 3), what -> wash.flock(0, what));
        tells(new Row("the second flock", 3, 7, 12, 2), what -> wash.flock(1, what));
        letGoIn = untilEach(wash);
        for (int hours = 1; hours <= 30; hours++) {
            comesAsForeseen(wash, perched(), hours, letGoIn);
        }
    }

    private static int[] untilEach(SkylightWash wash) {
        int[] letGoIn = new int[wash.count(3)];
        for (int pane = 0; pane < letGoIn.length; pane++) {
            letGoIn[pane] = wash.until(pane);
        }
        return letGoIn;
    }

    private static void comesAsForeseen(SkylightWash asked, SkylightWash other, int hours, int[] letGoIn) {
        Check.due("foresee(" + hours + ", 0)", asked.foresee(hours, 0), other.pass(hours));
        Check.due("foresee(" + hours + ", 1)", asked.foresee(hours, 1), other.count(8));
        Check.due("foresee(" + hours + ", 2)", asked.foresee(hours, 2), other.count(9));
        Check.due("foresee(" + hours + ", 3)", asked.foresee(hours, 3), other.count(12));
        for (int pane = 0; pane < letGoIn.length; pane++) {
            boolean isBy = letGoIn[pane] >= 0 && letGoIn[pane] <= hours;
            Check.due("pane " + pane + " let go behind " + hours + " h", other.pane(pane, 3), isBy ? 1 : 0);
        }
    }

    private static void nothingChanged() {
        Check.sentence("(nothing is changed)");
        SkylightWash wash = Check.taught(LIST);
        wash.pass(2);
        Check.feed(wash, "bay");
        wash.setWind(1);
        long digest = wash.digest();
        for (int i = 0; i < 5; i++) {
            wash.until(i);
            Check.due("until(" + i + ")", wash.digest(), digest);
        }
        for (int what = 0; what < 4; what++) {
            wash.foresee(120, what);
            Check.due("foresee(120, " + what + ")", wash.digest(), digest);
        }
        for (int wind = -3; wind <= 3; wind++) {
            wash.costs(90, wind);
            Check.due("costs(90, " + wind + ")", wash.digest(), digest);
        }
        for (int cradle = 0; cradle < 2; cradle++) {
            wash.advise(cradle, 24);
            Check.due("advise(" + cradle + ", 24)", wash.digest(), digest);
        }
        wash.spare(90);
        Check.due("spare(90)", wash.digest(), digest);
        wash.mean();
        wash.worst(0);
        wash.errorAt();
        Check.due("mean, worst, errorAt", wash.digest(), digest);
    }
}
