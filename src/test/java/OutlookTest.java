/** Promises 17 to 23: what would be. */
public final class OutlookTest {
    private static final String BUSY = "bay a panes 5 thick 1; bay b panes 4 thick 2; chimney h at 1 soot 9 every 2 reach 4;"
            + "chimney i at 7 soot 12 every 1 reach 2; cradle c at 0 speed 2 wash 15; cradle d at 8 speed 3 wash 40;"
            + "flock f birds 6 every 4; flock g birds 3 every 5; go c to hour / 2 when water c > 3; go c to 0;"
            + "go d to perch f; scare g when dirt(perch g) > 10 or dark b;";

    private OutlookTest() {
    }

    public static void main(String[] args) {
        until();
        untilTheLast();
        foreseeing();
        foreseeingWrongly();
        costing();
        costingWrongly();
        advising();
        advisingWrongly();
        sparing();
        sparingFromFlocks();
        sparingWrongly();
        meaning();
        digesting();
        nothingChanged();
        asItComes();
        Check.finish();
    }

    private static void untilIs(String when, SkylightWash wash, int pane, int due) {
        Check.due("P17 " + when + " until(" + pane + ")", wash.until(pane), due);
    }

    private static void untilIsNot(SkylightWash wash, int pane) {
        Check.dueThrow("P17 until(" + pane + ")", IndexOutOfBoundsException.class, () -> wash.until(pane));
    }

    private static void until() {
        SkylightWash wash = Check.taught("bay a panes 2 thick 1; chimney h at 0 soot 20 every 1 reach 0;");
        untilIs("at first", wash, 0, 4);
        untilIs("at first", wash, 1, -1);
        wash.pass(3);
        untilIs("3 h", wash, 0, 1);
        wash.pass(1);
        untilIs("4 h", wash, 0, 0);
        wash.glaze(0);
        untilIs("glazed", wash, 0, 4);
        wash.setWind(1);
        untilIs("with another wind", wash, 0, -1);
        untilIs("with another wind", wash, 1, 4);
        untilIsNot(wash, 2);
        untilIsNot(wash, -1);
        untilIsNot(wash, Integer.MIN_VALUE);
        untilIsNot(wash, Integer.MAX_VALUE);
        untilIsNot(new SkylightWash(), 0);
    }

    // The pane has 10 dirt from the hour 108 on, and 100 cracks behind the hour 207.
    private static void untilTheLast() {
        SkylightWash wash = Check.taught("bay a panes 1 thick 5; chimney h at 0 soot 1 every 12 reach 0;");
        wash.pass(7);
        untilIs("201 h ahead", wash, 0, -1);
        wash.pass(1);
        untilIs("200 h ahead", wash, 0, 200);
        wash.pass(1);
        untilIs("199 h ahead", wash, 0, 199);
        wash.pass(120);
        Check.due("P17 it comes so", wash.pass(79), 1);
    }

    private static void foreseen(String when, SkylightWash wash, int hours, long... due) {
        for (int what = 0; what < due.length; what++) {
            Check.due("P18 " + when + " foresee(" + hours + ", " + what + ")", wash.foresee(hours, what), due[what]);
        }
    }

    private static void foreseeing() {
        SkylightWash wash = Check.taught("bay a panes 1 thick 1; bay b panes 1 thick 2; chimney h at 0 soot 20 every 1 reach 0;"
                + "chimney i at 1 soot 25 every 1 reach 0;");
        foreseen("at first", wash, 1, 0, 155, 45, 0);
        foreseen("at first", wash, 3, 0, 65, 135, 1);
        foreseen("at first", wash, 4, 1, 100, 100, 1);
        foreseen("at first", wash, 120, 2, 200, 0, 0);
        wash.pass(4);
        foreseen("4 h", wash, 1, 0, 100, 125, 1);
        foreseen("4 h", wash, 120, 1, 200, 0, 0);
    }

    private static void foreseeingWrongly() {
        SkylightWash wash = Check.taught(BUSY);
        for (int wrong : new int[] {0, 121, -1, Integer.MIN_VALUE, Integer.MAX_VALUE}) {
            Check.dueThrow("P18 hours " + wrong, IllegalArgumentException.class, () -> wash.foresee(wrong, 0));
            Check.dueThrow("P18 both wrong", IllegalArgumentException.class, () -> wash.foresee(wrong, 4));
        }
        for (int wrong : new int[] {4, -1, Integer.MIN_VALUE, Integer.MAX_VALUE}) {
            Check.dueThrow("P18 what " + wrong, IndexOutOfBoundsException.class, () -> wash.foresee(1, wrong));
            Check.dueThrow("P18 what " + wrong, IndexOutOfBoundsException.class, () -> wash.foresee(120, wrong));
        }
    }

    private static void costing() {
        SkylightWash wash = Check.taught("bay a panes 3 thick 9; chimney h at 0 soot 10 every 1 reach 0;");
        Check.due("P19 the wind as it is", wash.costs(5, 0), 0);
        Check.due("P19 a wind that takes the soot off", wash.costs(1, -1), -10);
        Check.due("P19 a wind that takes it elsewhere", wash.costs(3, 2), 0);
        Check.due("P19 the strongest wind", wash.costs(4, 3), -40);
        Check.due("P19 the strongest wind from the right", wash.costs(4, -3), -40);
        wash.setWind(-3);
        Check.due("P19 a wind that brings soot", wash.costs(6, 1), 60);
        Check.due("P19 no wind, that brings soot", wash.costs(1, 0), 10);
        Check.due("P19 the most hours, the pane is let go in them", wash.costs(90, 1), 0);
        Check.due("P19 the wind stays", wash.count(1), -3);
    }

    private static void costingWrongly() {
        SkylightWash wash = Check.taught(BUSY);
        for (int wrong : new int[] {0, 91, -1, Integer.MIN_VALUE, Integer.MAX_VALUE}) {
            Check.dueThrow("P19 hours " + wrong, IllegalArgumentException.class, () -> wash.costs(wrong, 0));
        }
        for (int wrong : new int[] {4, -4, Integer.MIN_VALUE, Integer.MAX_VALUE}) {
            Check.dueThrow("P19 wind " + wrong, IllegalArgumentException.class, () -> wash.costs(1, wrong));
        }
        Check.due("P19 without panes", new SkylightWash().costs(90, 3), 0);
    }

    private static void advising() {
        SkylightWash wash = Check.taught("bay a panes 3 thick 9; bay b panes 3 thick 9; chimney h at 4 soot 30 every 1 reach 0;"
                + "cradle c at 0 speed 1 wash 60; cradle d at 1 speed 9 wash 60; go d to 0 when at d > 4;");
        Check.due("P20 advise(0, 1)", wash.advise(0, 1), 4);
        Check.due("P20 advise(0, 10)", wash.advise(0, 10), 4);
        Check.due("P20 advise(1, 10)", wash.advise(1, 10), 4);
        // By then the pane is let go, and gives light without a cradle.
        Check.due("P20 advise(0, 24)", wash.advise(0, 24), 0);
        wash.setWind(1);
        Check.due("P20 the soot at pane 5", wash.advise(0, 3), 5);
        Check.due("P20 one that leaves it at once", wash.advise(1, 3), 0);
        SkylightWash even = Check.taught("bay a panes 3 thick 9; cradle c at 2 speed 1 wash 60;");
        Check.due("P20 of several the first", even.advise(0, 24), 0);
        // It is best at the pane where the flock would sit, that it keeps away altogether.
        SkylightWash flock = Check.taught("bay a panes 3 thick 9; cradle c at 0 speed 1 wash 1; flock f birds 9 every 12;");
        Check.due("P20 a flock kept away", flock.advise(0, 1), 1);
    }

    private static void advisingWrongly() {
        SkylightWash wash = Check.taught(BUSY);
        for (int wrong : new int[] {2, -1, Integer.MIN_VALUE, Integer.MAX_VALUE}) {
            Check.dueThrow("P20 cradle " + wrong, IndexOutOfBoundsException.class, () -> wash.advise(wrong, 1));
            Check.dueThrow("P20 both wrong", IndexOutOfBoundsException.class, () -> wash.advise(wrong, 25));
        }
        for (int wrong : new int[] {0, 25, -1, Integer.MIN_VALUE, Integer.MAX_VALUE}) {
            Check.dueThrow("P20 hours " + wrong, IllegalArgumentException.class, () -> wash.advise(0, wrong));
        }
    }

    private static void spared(String cradles, int due) {
        SkylightWash wash = Check.taught("bay a panes 4 thick 9; chimney h at 2 soot 10 every 1 reach 0;" + cradles);
        Check.due("P21 spare of " + cradles, wash.spare(2), due);
    }

    private static void sparing() {
        spared("", -1);
        spared("cradle c at 2 speed 9 wash 60;", 0);
        spared("cradle c at 2 speed 9 wash 60; cradle d at 0 speed 9 wash 60;", 1);
        spared("cradle c at 0 speed 9 wash 60; cradle d at 2 speed 9 wash 60; cradle e at 2 speed 1 wash 1;", 0);
        spared("cradle c at 2 speed 9 wash 9; cradle d at 2 speed 9 wash 8; cradle e at 3 speed 1 wash 1;", 2);
        spared("cradle c at 3 speed 9 wash 60; cradle d at 2 speed 9 wash 60; chimney i at 0 soot 9 every 1 reach 0;"
                + "cradle e at 0 speed 9 wash 60;", 0);
        spared("cradle c at 2 speed 9 wash 60; cradle d at 0 speed 9 wash 60; chimney i at 0 soot 9 every 1 reach 0;", 1);
        spared("cradle c at 1 speed 9 wash 60; cradle d at 1 speed 9 wash 60; go c to 2;", 1);
        // Its pane and its water are told as they are, so that d goes to pane 2 without c too.
        spared("cradle c at 2 speed 9 wash 60; cradle d at 0 speed 9 wash 60; go d to at c;", 0);
        spared("cradle c at 2 speed 9 wash 60; cradle d at 0 speed 9 wash 60; go d to water c - 18;", 0);
        spared("cradle c at 0 speed 9 wash 60; cradle d at 0 speed 9 wash 60; go c to 2; go d to at c;", 1);
    }

    // Without c the flock finds pane 2; without d it finds none.
    private static void sparingFromFlocks() {
        SkylightWash wash = Check.taught("bay a panes 3 thick 9; flock f birds 20 every 12;"
                + "cradle c at 1 speed 1 wash 1; cradle d at 0 speed 1 wash 1;");
        Check.due("P21 flocks kept away", wash.spare(1), 1);
        Check.due("P21 flocks kept away for long", wash.spare(9), 1);
        // By then pane 2 would be let go without c, and give light again.
        Check.due("P21 flocks kept away for too long", wash.spare(90), 0);
    }

    private static void sparingWrongly() {
        SkylightWash wash = Check.taught(BUSY);
        for (int wrong : new int[] {0, 91, -1, Integer.MIN_VALUE, Integer.MAX_VALUE}) {
            Check.dueThrow("P21 hours " + wrong, IllegalArgumentException.class, () -> wash.spare(wrong));
            Check.dueThrow("P21 hours " + wrong, IllegalArgumentException.class, () -> new SkylightWash().spare(wrong));
        }
        Check.due("P21 without cradles", new SkylightWash().spare(90), -1);
    }

    private static void meaning() {
        SkylightWash empty = new SkylightWash();
        Check.dueDouble("P22 without panes", empty::mean, 0.0);
        SkylightWash wash = Check.taught("bay a panes 2 thick 1; bay b panes 1 thick 9; chimney h at 0 soot 20 every 1 reach 0;"
                + "chimney i at 2 soot 5 every 1 reach 0;");
        Check.dueDouble("P22 at first", wash::mean, 0.0);
        wash.pass(1);
        Check.dueDouble("P22 1 h", wash::mean, 25.0 / 3.0);
        wash.pass(3);
        Check.dueDouble("P22 without the pane let go", wash::mean, 10.0);
        SkylightWash gone = Check.taught("bay a panes 1 thick 1; chimney h at 0 soot 20 every 1 reach 0;");
        gone.pass(1);
        Check.dueDouble("P22 of a single pane", gone::mean, 20.0);
        gone.pass(3);
        Check.dueDouble("P22 all let go", gone::mean, 0.0);
    }

    private static long digestOf(SkylightWash wash) {
        long d = 839;
        for (int i = 0; i < 14; i++) {
            d = d * 31 + wash.count(i);
        }
        d = digestOf(d, wash.count(3), 7, wash::pane);
        d = digestOf(d, wash.count(2), 5, wash::bay);
        d = digestOf(d, wash.count(5), 6, wash::cradle);
        return digestOf(d, wash.count(6), 4, wash::flock);
    }

    private interface Told {
        int tell(int i, int what);
    }

    private static long digestOf(long from, int size, int whats, Told told) {
        long d = from;
        for (int i = 0; i < size * whats; i++) {
            d = d * 31 + told.tell(i / whats, i % whats);
        }
        return d;
    }

    private static void digesting() {
        SkylightWash wash = new SkylightWash();
        Check.due("P23 of a new object", wash.digest(), digestOf(wash));
        wash.setWind(-2);
        Check.feed(wash, BUSY);
        Check.due("P23 with a tape and a wind", wash.digest(), digestOf(wash));
        wash.teach();
        Check.due("P23 taught", wash.digest(), digestOf(wash));
        for (int hours = 7; hours <= 70; hours += 7) {
            SkylightWash older = Check.taught(BUSY);
            older.pass(hours);
            Check.due("P23 by the hours", older.digest(), digestOf(older));
        }
    }

    private static void nothingChanged() {
        SkylightWash asked = Check.taught(BUSY);
        SkylightWash left = Check.taught(BUSY);
        for (int i = 0; i < 12; i++) {
            long digest = asked.digest();
            asked.until(i % 9);
            Check.due("P17 changes nothing", asked.digest(), digest);
            asked.foresee(10 * i + 1, i % 4);
            Check.due("P18 changes nothing", asked.digest(), digest);
            asked.costs(7 * i + 1, i % 7 - 3);
            Check.due("P19 changes nothing", asked.digest(), digest);
            asked.advise(i % 2, 2 * i + 1);
            Check.due("P20 changes nothing", asked.digest(), digest);
            asked.spare(7 * i + 1);
            Check.due("P21 changes nothing", asked.digest(), digest);
            asked.mean();
            Check.due("P22 changes nothing", asked.digest(), digest);
            Check.due("let go in 5 h", asked.pass(5), left.pass(5));
            Check.due("the same as without asking", asked.digest(), left.digest());
        }
    }

    /** What is told ahead is what comes when the hours pass. */
    private static void asItComes() {
        for (int hours = 1; hours <= 120; hours += 7) {
            SkylightWash wash = Check.taught(BUSY);
            long[] told = new long[4];
            for (int what = 0; what < 4; what++) {
                told[what] = wash.foresee(hours, what);
            }
            int until = wash.until(1);
            Check.due("P18 let go in " + hours, told[0], wash.pass(hours));
            Check.due("P18 the light in " + hours, told[1], wash.count(8));
            Check.due("P18 the dirt in " + hours, told[2], wash.count(9));
            Check.due("P18 dark bays in " + hours, told[3], wash.count(12));
            Check.due("P17 let go by " + hours, until >= 0 && until <= hours ? 1 : 0, wash.pane(1, 3));
        }
    }
}
