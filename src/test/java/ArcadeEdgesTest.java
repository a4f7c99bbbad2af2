/**
 * Each sentence of the document's section 2 that names a boundary case, with a
 * test of its own.
 */
public final class ArcadeEdgesTest {
    private static final String ROW = "bay a panes 4 thick 9;bay b panes 3 thick 9;";

    private ArcadeEdgesTest() {
    }

    public static void main(String[] args) {
        panesAtFirst();
        panesLetGo();
        cradlesAtFirst();
        mostWater();
        flocksAtFirst();
        windAtFirst();
        leastLight();
        lightOfOneLetGo();
        lightOfBays();
        dark();
        free();
        freeBesideAnotherBay();
        freeWhenLetGo();
        flockOnOneLetGo();
        sootByHours();
        sootByReach();
        sootByWind();
        sootFromNoPane();
        sootAtLeastNothing();
        sootOnOneLetGo();
        flockByHours();
        flockFromNowhere();
        flockFromOneNotFree();
        flockByScare();
        flockToTheCleanest();
        flockToTheSmallestNumber();
        flockNotToItsOwn();
        flockToNowhere();
        flockFouls();
        cradleByTheFirst();
        cradleHeld();
        cradleBySpeed();
        cradleStays();
        waterAtPaneNought();
        noWater();
        noDirt();
        letGoUnderACradle();
        washAtLeastNothing();
        tenthOfDirt();
        cracksOfThick();
        letGoHasNoMoreCracks();
        oneHour();
        windOfSums();
        lightOfSums();
        dirtOfNoPane();
        waterOfSums();
        perchOfNowhere();
        darkOfTests();
        andBeforeOr();
        turnsByNumbers();
        refusedCallsChangeNothing();
        firstException();
        Check.finish();
    }

    private static void pane(SkylightWash wash, int pane, int dirt, int cracks, int gone) {
        Check.due("dirt of pane " + pane, wash.pane(pane, 1), dirt);
        Check.due("cracks of pane " + pane, wash.pane(pane, 2), cracks);
        Check.due("pane " + pane + " let go", wash.pane(pane, 3), gone);
    }

    private static void dirts(SkylightWash wash, int... due) {
        for (int pane = 0; pane < due.length; pane++) {
            Check.due("dirt of pane " + pane, wash.pane(pane, 1), due[pane]);
        }
    }

    private static void frees(SkylightWash wash, int... due) {
        for (int pane = 0; pane < due.length; pane++) {
            Check.due("pane " + pane + " free", wash.pane(pane, 6), due[pane]);
        }
    }

    /** The panes at which the flock 0 sits behind each hour. */
    private static void perches(SkylightWash wash, int... due) {
        for (int hour = 0; hour < due.length; hour++) {
            wash.pass(1);
            Check.due("the flock behind " + (hour + 1) + " h", wash.flock(0, 0), due[hour]);
        }
    }

    /** The panes at which the cradle 0 is behind each hour. */
    private static void places(SkylightWash wash, int... due) {
        for (int hour = 0; hour < due.length; hour++) {
            wash.pass(1);
            Check.due("the cradle behind " + (hour + 1) + " h", wash.cradle(0, 0), due[hour]);
        }
    }

    private static String chimney(String name, int at, int soot, int every, int reach) {
        return "chimney " + name + " at " + at + " soot " + soot + " every " + every + " reach " + reach + ";";
    }

    // ---- what there is

    private static void panesAtFirst() {
        Check.sentence("A pane has dirt, 0 (at first) or more, and cracks, 0 (at first) or more");
        SkylightWash wash = Check.taught(ROW + chimney("h", 0, 1, 12, 0));
        for (int pane = 0; pane < 7; pane++) {
            pane(wash, pane, 0, 0, 0);
        }
        wash.pass(1);
        pane(wash, 0, 1, 0, 0);
        pane(wash, 1, 0, 0, 0);
    }

    private static void panesLetGo() {
        Check.sentence("or it was let go: then it has neither.");
        SkylightWash wash = Check.taught("bay a panes 2 thick 1;" + chimney("h", 0, 30, 1, 0));
        wash.pass(3);
        pane(wash, 0, 90, 18, 0);
        wash.pass(1);
        pane(wash, 0, 0, 0, 1);
        wash.pass(9);
        pane(wash, 0, 0, 0, 1);
    }

    private static void cradlesAtFirst() {
        Check.sentence("A cradle is at a pane, the one behind at, at first, and has water, 0 to 20 (20, at first).");
        SkylightWash wash = Check.taught(ROW + "cradle c at 0 speed 1 wash 1;cradle d at 6 speed 1 wash 1;");
        Check.due("the first", wash.cradle(0, 0), 0);
        Check.due("its water", wash.cradle(0, 3), 20);
        Check.due("the second", wash.cradle(1, 0), 6);
        Check.due("its water", wash.cradle(1, 3), 20);
        Check.due("what it washed off", wash.cradle(1, 5), 0);
    }

    private static void mostWater() {
        Check.sentence("and has water, 0 to 20");
        SkylightWash wash = Check.taught(ROW + chimney("h", 1, 2, 1, 1) + "cradle c at 1 speed 1 wash 2;"
                + "go c to 0 when hour = 30;go c to 0 when hour = 31;go c to 1;");
        for (int hour = 1; hour <= 30; hour++) {
            wash.pass(1);
            Check.due("water behind " + hour + " h", wash.cradle(0, 3), Math.max(0, 20 - hour));
        }
        wash.pass(1);
        Check.due("water, 20 less the 1 that took pane 0", wash.cradle(0, 3), 19);
        wash.pass(1);
        Check.due("water, 20 less 1 again", wash.cradle(0, 3), 19);
    }

    private static void flocksAtFirst() {
        Check.sentence("A flock sits at a pane, or nowhere (at first).");
        SkylightWash wash = Check.taught(ROW + "flock f birds 1 every 1;flock g birds 1 every 12;");
        Check.due("the first", wash.flock(0, 0), -1);
        Check.due("the second", wash.flock(1, 0), -1);
        Check.due("its moves", wash.flock(1, 3), 0);
    }

    private static void windAtFirst() {
        Check.sentence("There is a wind, -3 to 3 (0, at first).");
        SkylightWash wash = Check.taught(ROW + chimney("h", 3, 9, 12, 0));
        Check.due("the wind", wash.count(1), 0);
        wash.pass(1);
        dirts(wash, 0, 0, 0, 9, 0, 0, 0);
    }

    private static void leastLight() {
        Check.sentence("Light of a pane: 100 less its dirt, at least 0");
        SkylightWash below = Check.taught("bay a panes 2 thick 9;" + chimney("h", 0, 11, 1, 0));
        below.pass(9);
        pane(below, 0, 99, 45, 0);
        Check.due("light with 99 dirt", below.pane(0, 4), 1);
        SkylightWash just = Check.taught("bay a panes 2 thick 9;" + chimney("h", 0, 25, 1, 0));
        just.pass(4);
        pane(just, 0, 100, 24, 0);
        Check.due("light with 100 dirt", just.pane(0, 4), 0);
        SkylightWash above = Check.taught("bay a panes 2 thick 9;" + chimney("h", 0, 25, 1, 0) + chimney("i", 0, 1, 12, 0));
        above.pass(4);
        pane(above, 0, 101, 24, 0);
        Check.due("light with 101 dirt", above.pane(0, 4), 0);
        Check.due("light of the bay", above.bay(0, 3), 100);
        Check.due("all light", above.count(8), 100);
    }

    private static void lightOfOneLetGo() {
        Check.sentence("100, if it was let go.");
        SkylightWash wash = Check.taught("bay a panes 1 thick 1;" + chimney("h", 0, 30, 1, 0));
        wash.pass(3);
        Check.due("light ahead", wash.pane(0, 4), 10);
        wash.pass(1);
        Check.due("light", wash.pane(0, 4), 100);
        Check.due("light of the bay", wash.bay(0, 3), 100);
        Check.due("all light", wash.count(8), 100);
    }

    private static void lightOfBays() {
        Check.sentence("Light of a bay: that of its panes, added; the light: that of all bays.");
        SkylightWash wash = Check.taught("bay a panes 1 thick 9;bay b panes 2 thick 9;bay c panes 8 thick 9;"
                + chimney("h", 1, 30, 12, 0) + chimney("i", 2, 20, 12, 0) + chimney("k", 10, 1, 12, 0));
        Check.due("all light at first", wash.count(8), 1100);
        wash.pass(1);
        Check.due("light of bay 0", wash.bay(0, 3), 100);
        Check.due("light of bay 1", wash.bay(1, 3), 150);
        Check.due("light of bay 2", wash.bay(2, 3), 799);
        Check.due("all light", wash.count(8), 1049);
    }

    private static void dark() {
        Check.sentence("A bay is dark, if its light is less than 40 for each of its panes.");
        // 60 dirt at each of two panes, and 1 more.
        String two = "bay a panes 2 thick 9;" + chimney("h", 0, 30, 1, 0) + chimney("i", 1, 30, 1, 0);
        SkylightWash even = Check.taught(two);
        even.pass(2);
        Check.due("light", even.bay(0, 3), 80);
        Check.due("dark with just 40 for each", even.bay(0, 4), 0);
        Check.due("dark bays", even.count(12), 0);
        SkylightWash less = Check.taught(two + chimney("k", 1, 1, 12, 0));
        less.pass(2);
        Check.due("light", less.bay(0, 3), 79);
        Check.due("dark with 1 less", less.bay(0, 4), 1);
        Check.due("dark bays", less.count(12), 1);
        // A pane without light beside a clean one does not make it dark, beside two that have none it does.
        SkylightWash uneven = Check.taught("bay a panes 2 thick 9;" + chimney("h", 0, 25, 1, 0));
        uneven.pass(4);
        Check.due("dark with 100 and 0", uneven.bay(0, 4), 0);
        SkylightWash third = Check.taught("bay a panes 3 thick 9;" + chimney("h", 0, 25, 1, 0) + chimney("i", 1, 25, 1, 0));
        third.pass(4);
        Check.due("dark with 0, 0 and 100", third.bay(0, 4), 1);
        // One chimney makes three bays dark.
        SkylightWash many = Check.taught("bay a panes 1 thick 9;bay b panes 1 thick 9;bay c panes 1 thick 9;bay d panes 8 thick 9;"
                + chimney("h", 1, 30, 1, 1));
        many.pass(3);
        Check.due("dark bays of four", many.count(12), 3);
        Check.due("the last one", many.bay(3, 4), 0);
    }

    private static void free() {
        Check.sentence("A pane is free for a flock, if it was not let go, and no cradle is at it,"
                + " or at a pane whose number differs by 1");
        SkylightWash wash = Check.taught("bay a panes 8 thick 9;cradle c at 0 speed 1 wash 1;cradle d at 4 speed 1 wash 1;");
        frees(wash, 0, 0, 1, 0, 0, 0, 1, 1);
        wash.carry(0, 7);
        frees(wash, 1, 1, 1, 0, 0, 0, 0, 0);
        frees(Check.taught("bay a panes 2 thick 9;"), 1, 1);
        frees(Check.taught("bay a panes 1 thick 9;cradle c at 0 speed 1 wash 1;"), 0);
    }

    private static void freeBesideAnotherBay() {
        Check.sentence("(also of another bay)");
        SkylightWash wash = Check.taught(ROW + "cradle c at 3 speed 1 wash 1;");
        frees(wash, 1, 1, 0, 0, 0, 1, 1);
        wash.carry(0, 4);
        frees(wash, 1, 1, 1, 0, 0, 0, 1);
    }

    private static void freeWhenLetGo() {
        Check.sentence("if it was not let go");
        SkylightWash wash = Check.taught("bay a panes 3 thick 1;" + chimney("h", 1, 30, 1, 0));
        wash.pass(4);
        frees(wash, 1, 0, 1);
        wash.glaze(1);
        frees(wash, 1, 1, 1);
    }

    private static void flockOnOneLetGo() {
        Check.sentence("A flock at a pane that is let go sits there still, till it goes.");
        SkylightWash wash = Check.taught("bay a panes 2 thick 1;" + chimney("h", 1, 30, 12, 0) + "flock f birds 20 every 12;");
        perches(wash, 0, 0, 0, 0);
        pane(wash, 0, 0, 0, 1);
        Check.due("its moves", wash.flock(0, 3), 1);
        perches(wash, 1);
        Check.due("its moves", wash.flock(0, 3), 2);
        pane(wash, 0, 0, 0, 1);
        // A new pane there keeps it.
        SkylightWash glazed = Check.taught("bay a panes 2 thick 1;flock f birds 20 every 12;");
        perches(glazed, 0, 0, 0, 0);
        glazed.glaze(0);
        perches(glazed, 0, 0);
        pane(glazed, 0, 40, 6, 0);
    }

    // ---- 1. Chimneys

    private static void sootByHours() {
        Check.sentence("Chimneys, by numbers, in hours that can be divided by their every");
        for (int every = 1; every <= 12; every++) {
            SkylightWash wash = Check.taught("bay a panes 1 thick 9;" + chimney("h", 0, 1, every, 0));
            for (int hour = 0; hour <= 24; hour++) {
                wash.pass(1);
                Check.due("dirt behind the hour " + hour + ", every " + every, wash.pane(0, 1), hour / every + 1);
            }
        }
        SkylightWash late = new SkylightWash();
        late.pass(11);
        Check.feed(late, "bay a panes 1 thick 9;" + chimney("h", 0, 1, 12, 0));
        late.teach();
        late.pass(1);
        Check.due("dirt behind the hour 11", late.pane(0, 1), 0);
        late.pass(1);
        Check.due("dirt behind the hour 12", late.pane(0, 1), 1);
    }

    private static void sootByReach() {
        Check.sentence("whose number differs by no more than reach from that of the pane of the chimney and the wind, added");
        SkylightWash none = Check.taught(ROW + chimney("h", 3, 9, 12, 0));
        none.pass(1);
        dirts(none, 0, 0, 0, 9, 0, 0, 0);
        SkylightWash two = Check.taught(ROW + chimney("h", 3, 9, 12, 2));
        two.pass(1);
        dirts(two, 0, 7, 8, 9, 8, 7, 0);
        SkylightWash first = Check.taught(ROW + chimney("h", 0, 9, 12, 3));
        first.pass(1);
        dirts(first, 9, 8, 7, 6, 0, 0, 0);
        SkylightWash last = Check.taught(ROW + chimney("h", 6, 9, 12, 3));
        last.pass(1);
        dirts(last, 0, 0, 0, 6, 7, 8, 9);
        SkylightWash most = Check.taught(ROW + ROW.replace("bay a", "bay c").replace("bay b", "bay d") + chimney("h", 0, 30, 12, 9));
        most.pass(1);
        dirts(most, 30, 29, 28, 27, 26, 25, 24, 23, 22, 21, 0, 0, 0, 0);
    }

    private static void sootByWind() {
        Check.sentence("of the pane of the chimney and the wind, added");
        for (int wind = -3; wind <= 3; wind++) {
            SkylightWash wash = Check.taught(ROW + chimney("h", 3, 9, 12, 0));
            wash.setWind(wind);
            wash.pass(1);
            for (int pane = 0; pane < 7; pane++) {
                Check.due("dirt of pane " + pane + ", wind " + wind, wash.pane(pane, 1), pane == 3 + wind ? 9 : 0);
            }
        }
    }

    private static void sootFromNoPane() {
        Check.sentence("(also if there is no such pane)");
        SkylightWash left = Check.taught(ROW + chimney("h", 0, 9, 12, 4));
        left.setWind(-3);
        left.pass(1);
        dirts(left, 6, 5, 0, 0, 0, 0, 0);
        SkylightWash right = Check.taught(ROW + chimney("h", 6, 9, 12, 4));
        right.setWind(3);
        right.pass(1);
        dirts(right, 0, 0, 0, 0, 0, 5, 6);
        SkylightWash over = Check.taught(ROW + chimney("h", 6, 9, 12, 2));
        over.setWind(3);
        over.pass(1);
        dirts(over, 0, 0, 0, 0, 0, 0, 0);
        SkylightWash single = Check.taught("bay a panes 1 thick 9;" + chimney("h", 0, 9, 12, 3));
        single.setWind(-3);
        single.pass(1);
        dirts(single, 6);
    }

    private static void sootAtLeastNothing() {
        Check.sentence("has as much more dirt as soot less by how much they differ, at least 0.");
        SkylightWash wash = Check.taught(ROW + chimney("h", 3, 9, 12, 0) + chimney("i", 0, 2, 12, 9) + chimney("k", 6, 1, 12, 9));
        wash.pass(1);
        dirts(wash, 2, 1, 0, 9, 0, 0, 1);
        SkylightWash dirty = Check.taught(ROW + chimney("h", 3, 1, 1, 9));
        dirty.pass(12);
        dirts(dirty, 0, 0, 0, 12, 0, 0, 0);
    }

    private static void sootOnOneLetGo() {
        Check.sentence("each pane that was not let go, and whose number differs");
        SkylightWash wash = Check.taught("bay a panes 1 thick 1;bay b panes 1 thick 9;" + chimney("h", 0, 30, 1, 1));
        wash.pass(4);
        pane(wash, 0, 0, 0, 1);
        wash.pass(2);
        pane(wash, 0, 0, 0, 1);
        dirts(wash, 0, 29 * 6);
    }

    // ---- 2. Flocks

    private static void flockByHours() {
        Check.sentence("one goes elsewhere, if the hour can be divided by its every");
        String flock = "bay a panes 3 thick 9;flock f birds 1 every ";
        perches(Check.taught(flock + "1;"), 0, 1, 2, 0, 1, 2);
        perches(Check.taught(flock + "2;"), 0, 0, 1, 1, 2, 2, 0);
        perches(Check.taught(flock + "12;"), 0, 0, 0, 0, 0, 0, 0, 0, 0, 0, 0, 0, 1, 1, 1, 1, 1, 1, 1, 1, 1, 1, 1, 1, 2);
    }

    private static void flockFromNowhere() {
        Check.sentence("or if it sits nowhere");
        SkylightWash wash = Check.taught("bay a panes 3 thick 9;cradle c at 1 speed 1 wash 1;flock f birds 1 every 12;");
        perches(wash, -1, -1);
        wash.carry(0, 0);
        perches(wash, 2, 2);
        wash.scare(0);
        perches(wash, 2);
        Check.due("its moves", wash.flock(0, 3), 2);
    }

    private static void flockFromOneNotFree() {
        Check.sentence("or at a pane that is not free for it");
        SkylightWash wash = Check.taught(ROW + "cradle c at 6 speed 1 wash 1;flock f birds 1 every 12;");
        perches(wash, 0, 0);
        wash.carry(0, 2);
        perches(wash, 0);
        wash.carry(0, 1);
        perches(wash, 3, 3);
        wash.carry(0, 4);
        perches(wash, 1);
        wash.carry(0, 1);
        perches(wash, 4);
        // The cradle has washed pane 1.
        dirts(wash, 3, 0, 0, 2, 1, 0, 0);
    }

    private static void flockByScare() {
        Check.sentence("or if the test of some order of scare for it holds as it comes to its turn");
        String begin = "bay a panes 4 thick 9;flock f birds 1 every 12;flock g birds 9 every 12;";
        perches(Check.taught(begin + "scare f when hour = 2;"), 0, 0, 2, 2);
        perches(Check.taught(begin + "scare f when 1 = 2;scare f when hour = 2;"), 0, 0, 2, 2);
        perches(Check.taught(begin + "scare f when hour = 2;scare f when 1 = 2;"), 0, 0, 2, 2);
        perches(Check.taught(begin + "scare g when hour = 2;"), 0, 0, 0, 0);
        // Behind the soot of this hour, and behind the flocks ahead of it.
        perches(Check.taught(begin + chimney("h", 0, 5, 2, 0) + "scare f when dirt(perch f) > 10;"), 1, 1, 1, 1);
        perches(Check.taught("bay a panes 4 thick 9;" + chimney("h", 0, 5, 3, 0) + "flock f birds 1 every 12;scare f when dirt(0) = 10;"),
                1, 1, 1, 2, 3);
        SkylightWash turns = Check.taught("bay a panes 4 thick 9;flock f birds 1 every 2;flock g birds 1 every 12;scare g when perch f = 2;");
        turns.pass(2);
        Check.due("the second flock", turns.flock(1, 0), 1);
        turns.pass(1);
        Check.due("the first flock, scared off by its every", turns.flock(0, 0), 2);
        Check.due("the second flock, scared by where the first has come", turns.flock(1, 0), 3);
    }

    private static void flockToTheCleanest() {
        Check.sentence("to that pane that is free, and where it does not sit, with the least dirt");
        String soot = chimney("h", 0, 3, 12, 0) + chimney("i", 1, 2, 12, 0) + chimney("k", 2, 1, 12, 0) + chimney("l", 3, 3, 12, 0);
        SkylightWash wash = Check.taught("bay a panes 4 thick 9;" + soot + "flock f birds 1 every 12;");
        perches(wash, 2);
        SkylightWash cradle = Check.taught("bay a panes 4 thick 9;" + soot + "flock f birds 1 every 12;cradle c at 3 speed 1 wash 1;");
        perches(cradle, 1);
        SkylightWash gone = Check.taught("bay a panes 1 thick 1;bay b panes 2 thick 9;" + chimney("h", 0, 30, 1, 0)
                + chimney("i", 1, 5, 1, 0) + chimney("k", 2, 4, 1, 0) + "flock f birds 1 every 5;");
        // Pane 0, that was let go by then, has less dirt than any.
        perches(gone, 2, 2, 2, 2, 2, 1);
    }

    private static void flockToTheSmallestNumber() {
        Check.sentence("of several that with the smallest number");
        perches(Check.taught("bay a panes 4 thick 9;flock f birds 1 every 12;"), 0);
        perches(Check.taught("bay a panes 4 thick 9;flock f birds 1 every 12;cradle c at 0 speed 1 wash 1;"), 2);
        perches(Check.taught("bay a panes 4 thick 9;" + chimney("h", 0, 1, 12, 1) + "flock f birds 1 every 12;"), 1);
        perches(Check.taught("bay a panes 4 thick 9;" + chimney("h", 1, 3, 12, 1) + "flock f birds 1 every 12;"), 3);
    }

    private static void flockNotToItsOwn() {
        Check.sentence("and where it does not sit");
        // Its own pane stays the cleanest by far.
        SkylightWash wash = Check.taught("bay a panes 3 thick 9;" + chimney("h", 1, 9, 1, 0) + chimney("i", 2, 8, 1, 0)
                + "flock f birds 1 every 3;");
        perches(wash, 0, 0, 0, 2, 2, 2, 0);
    }

    private static void flockToNowhere() {
        Check.sentence("nowhere, if there is none (also if its own one is the only free one).");
        SkylightWash none = Check.taught("bay a panes 3 thick 9;cradle c at 1 speed 1 wash 1;flock f birds 1 every 1;");
        perches(none, -1, -1, -1);
        Check.due("its moves", none.flock(0, 3), 0);
        SkylightWash own = Check.taught("bay a panes 3 thick 9;cradle c at 0 speed 1 wash 1;flock f birds 1 every 1;");
        perches(own, 2, -1, 2, -1);
        Check.due("its moves", own.flock(0, 3), 4);
        dirts(own, 0, 0, 2);
        SkylightWash driven = Check.taught("bay a panes 3 thick 9;cradle c at 0 speed 1 wash 1;flock f birds 1 every 12;");
        perches(driven, 2, 2);
        driven.carry(0, 1);
        perches(driven, -1, -1);
        Check.due("its moves", driven.flock(0, 3), 2);
        perches(Check.taught("bay a panes 1 thick 9;flock f birds 1 every 2;"), 0, 0, -1, 0, -1, 0, -1);
        SkylightWash empty = Check.taught("flock f birds 1 every 1;");
        perches(empty, -1, -1);
        Check.due("its moves", empty.flock(0, 3), 0);
    }

    private static void flockFouls() {
        Check.sentence("Then the pane at which it sits has as much more dirt as its birds.");
        SkylightWash wash = Check.taught("bay a panes 2 thick 9;flock f birds 20 every 3;");
        wash.pass(1);
        dirts(wash, 20, 0);
        wash.pass(2);
        dirts(wash, 60, 0);
        wash.pass(1);
        dirts(wash, 60, 20);
        // Two at one pane, and one that sits nowhere.
        SkylightWash two = Check.taught("bay a panes 3 thick 9;cradle c at 0 speed 1 wash 1;flock f birds 3 every 12;"
                + "flock g birds 4 every 1;");
        two.pass(1);
        dirts(two, 0, 0, 7);
        two.pass(1);
        dirts(two, 0, 0, 10);
    }

    // ---- 3. Cradles

    private static void cradleByTheFirst() {
        Check.sentence("it goes by the first order of go for it, in the order in which they are told,"
                + " whose test holds now (or that has none)");
        String begin = "bay a panes 8 thick 9;cradle c at 3 speed 9 wash 1;cradle d at 0 speed 9 wash 1;";
        places(Check.taught(begin + "go c to 1;go c to 2;"), 1);
        places(Check.taught(begin + "go d to 1;go c to 2;"), 2);
        places(Check.taught(begin + "go c to 1 when 1 = 2;go c to 2 when 1 = 1;go c to 3;"), 2);
        places(Check.taught(begin + "go c to 1 when 1 = 2;go c to 5;go c to 6;"), 5);
        places(Check.taught(begin + "go c to 1 when hour = 1;go c to 7 when hour <= 2;"), 7, 1, 7, 7);
        // Its sum is reckoned in the hour, too.
        places(Check.taught(begin + "go c to hour;"), 0, 1, 2, 3);
        places(Check.taught(begin + "flock f birds 1 every 1;go c to perch f;"), 5, 2, 4);
    }

    private static void cradleHeld() {
        Check.sentence("to the pane of its sum, held at 0 and at the last pane");
        String begin = ROW + "cradle c at 3 speed 9 wash 1;go c to ";
        places(Check.taught(begin + "6;"), 6);
        places(Check.taught(begin + "7;"), 6);
        places(Check.taught(begin + "999999;"), 6);
        places(Check.taught(begin + "46340 * 46340 + 88047;"), 6);
        places(Check.taught(begin + "0;"), 0);
        places(Check.taught(begin + "-1;"), 0);
        places(Check.taught(begin + "-46340 * 46340 - 88048;"), 0);
        // One more wraps around.
        places(Check.taught(begin + "46340 * 46340 + 88048;"), 0);
        places(Check.taught("bay a panes 1 thick 9;cradle c at 0 speed 9 wash 1;go c to 1;"), 0, 0);
    }

    private static void cradleBySpeed() {
        Check.sentence("by as many panes as its speed, at most");
        String begin = "bay a panes 8 thick 9;bay b panes 8 thick 9;cradle c at 8 speed ";
        places(Check.taught(begin + "3 wash 1;go c to 10;"), 10, 10);
        places(Check.taught(begin + "3 wash 1;go c to 11;"), 11, 11);
        places(Check.taught(begin + "3 wash 1;go c to 12;"), 11, 12, 12);
        places(Check.taught(begin + "3 wash 1;go c to 6;"), 6, 6);
        places(Check.taught(begin + "3 wash 1;go c to 5;"), 5, 5);
        places(Check.taught(begin + "3 wash 1;go c to 4;"), 5, 4, 4);
        places(Check.taught(begin + "1 wash 1;go c to 15;"), 9, 10, 11, 12, 13, 14, 15, 15);
        places(Check.taught(begin + "9 wash 1;go c to 0 when hour < 2;go c to 99;"), 0, 0, 9, 15, 15);
        places(Check.taught(begin + "1 wash 1;go c to 8;"), 8, 8);
    }

    private static void cradleStays() {
        Check.sentence("without any it stays.");
        places(Check.taught(ROW + "cradle c at 5 speed 9 wash 1;"), 5, 5);
        places(Check.taught(ROW + "cradle c at 5 speed 9 wash 1;go c to 1 when 1 = 2;"), 5, 5);
        places(Check.taught(ROW + "cradle c at 5 speed 9 wash 1;cradle d at 0 speed 9 wash 1;go d to 1;"), 5, 5);
        // Not to where the last order sent it.
        places(Check.taught(ROW + "cradle c at 5 speed 1 wash 1;go c to 0 when hour = 1;"), 5, 4, 4, 4);
    }

    private static void waterAtPaneNought() {
        Check.sentence("At the pane 0 it has 20 water then.");
        SkylightWash wash = Check.taught("bay a panes 3 thick 9;" + chimney("h", 1, 9, 1, 0) + chimney("i", 0, 3, 12, 0)
                + "cradle c at 1 speed 1 wash 1;go c to 0 when hour = 5;go c to 0 when hour = 12;go c to 1;");
        wash.pass(5);
        Check.due("water elsewhere", wash.cradle(0, 3), 15);
        wash.pass(1);
        Check.due("water at pane 0, which it washes", wash.cradle(0, 3), 19);
        Check.due("its pane", wash.cradle(0, 0), 0);
        wash.pass(1);
        Check.due("water at pane 1 again", wash.cradle(0, 3), 18);
        // It stays there, and has all its water in each hour.
        SkylightWash stays = Check.taught("bay a panes 3 thick 9;" + chimney("h", 0, 1, 2, 0) + "cradle c at 0 speed 1 wash 9;");
        int[] water = {19, 20, 19, 20};
        for (int hour = 0; hour < water.length; hour++) {
            stays.pass(1);
            Check.due("water behind " + (hour + 1) + " h", stays.cradle(0, 3), water[hour]);
        }
        // On its way it has none of it yet.
        SkylightWash far = Check.taught("bay a panes 4 thick 9;" + chimney("h", 2, 9, 1, 1) + "cradle c at 3 speed 1 wash 1;go c to 0;");
        int[] onItsWay = {19, 18, 20};
        for (int hour = 0; hour < onItsWay.length; hour++) {
            far.pass(1);
            Check.due("its pane behind " + (hour + 1) + " h", far.cradle(0, 0), 2 - hour);
            Check.due("its water behind " + (hour + 1) + " h", far.cradle(0, 3), onItsWay[hour]);
        }
        // By hand it is there at once, but the water comes with the hour; on its way over it, none.
        SkylightWash carried = Check.taught("bay a panes 3 thick 9;" + chimney("h", 1, 9, 1, 0) + "cradle c at 1 speed 1 wash 1;go c to 1;");
        carried.pass(4);
        carried.carry(0, 0);
        Check.due("water of one carried there", carried.cradle(0, 3), 16);
        carried.pass(1);
        Check.due("water of one that has left it in the hour", carried.cradle(0, 3), 15);
    }

    private static void noWater() {
        Check.sentence("Then, if it has water");
        SkylightWash wash = Check.taught("bay a panes 3 thick 9;" + chimney("h", 2, 2, 1, 0) + "cradle c at 2 speed 1 wash 1;");
        wash.pass(19);
        Check.due("water behind 19 h", wash.cradle(0, 3), 1);
        Check.due("washed off by 19 h", wash.cradle(0, 5), 19);
        wash.pass(1);
        Check.due("water behind 20 h", wash.cradle(0, 3), 0);
        Check.due("washed off by 20 h", wash.cradle(0, 5), 20);
        dirts(wash, 0, 0, 20);
        wash.pass(1);
        Check.due("water behind 21 h", wash.cradle(0, 3), 0);
        Check.due("washed off by 21 h", wash.cradle(0, 5), 20);
        dirts(wash, 0, 0, 22);
    }

    private static void noDirt() {
        Check.sentence("and its pane has dirt");
        SkylightWash wash = Check.taught("bay a panes 3 thick 9;" + chimney("h", 2, 1, 12, 0) + "cradle c at 2 speed 1 wash 1;");
        wash.pass(1);
        Check.due("water behind 1 h", wash.cradle(0, 3), 19);
        wash.pass(11);
        Check.due("water behind 12 h", wash.cradle(0, 3), 19);
        Check.due("washed off", wash.cradle(0, 5), 1);
        wash.pass(1);
        Check.due("water behind 13 h", wash.cradle(0, 3), 18);
    }

    private static void letGoUnderACradle() {
        Check.sentence("and was not let go");
        SkylightWash wash = Check.taught("bay a panes 3 thick 1;" + chimney("h", 2, 30, 1, 0) + "cradle c at 2 speed 1 wash 1;");
        wash.pass(3);
        Check.due("water", wash.cradle(0, 3), 17);
        wash.pass(1);
        Check.due("the pane", wash.pane(2, 3), 1);
        Check.due("water", wash.cradle(0, 3), 16);
        wash.pass(5);
        Check.due("water", wash.cradle(0, 3), 16);
        Check.due("washed off", wash.cradle(0, 5), 4);
    }

    private static void washAtLeastNothing() {
        Check.sentence("there is as much less of it as its wash (at least 0), and 1 water less.");
        for (int wash = 1; wash <= 60; wash++) {
            SkylightWash arcade = Check.taught("bay a panes 2 thick 9;" + chimney("h", 1, 30, 12, 0)
                    + "cradle c at 1 speed 1 wash " + wash + ";");
            arcade.pass(1);
            Check.due("dirt, wash " + wash, arcade.pane(1, 1), Math.max(0, 30 - wash));
            Check.due("washed off, wash " + wash, arcade.cradle(0, 5), Math.min(30, wash));
            Check.due("water, wash " + wash, arcade.cradle(0, 3), 19);
        }
    }

    // ---- 4. Panes

    private static void tenthOfDirt() {
        Check.sentence("cracks are more by a tenth (cut) of the dirt.");
        for (int soot = 1; soot <= 30; soot++) {
            SkylightWash wash = Check.taught("bay a panes 2 thick 9;" + chimney("h", 0, soot, 12, 0));
            wash.pass(1);
            pane(wash, 0, soot, soot / 10, 0);
        }
        // Behind the washing: 30 less 21.
        SkylightWash washed = Check.taught("bay a panes 2 thick 9;" + chimney("h", 1, 30, 12, 0) + "cradle c at 1 speed 1 wash 21;");
        washed.pass(1);
        pane(washed, 1, 9, 0, 0);
    }

    private static void cracksOfThick() {
        Check.sentence("With cracks of 20 times the thick of its bay or more it is let go.");
        for (int thick = 1; thick <= 9; thick++) {
            // 10 dirt, and so 1 crack by the hour.
            SkylightWash wash = Check.taught("bay z panes 1 thick 5;bay a panes 1 thick " + thick + ";" + chimney("h", 1, 10, 1, 0));
            wash.pass(1);
            wash.setWind(3);
            for (int cracks = 1; cracks < 20 * thick - 1; cracks++) {
                wash.pass(1);
            }
            pane(wash, 1, 10, 20 * thick - 1, 0);
            Check.due("let go with thick " + thick, wash.pass(1), 1);
            pane(wash, 1, 0, 0, 1);
        }
        // More than 20 at once.
        SkylightWash more = Check.taught("bay a panes 1 thick 1;" + chimney("h", 0, 30, 1, 0));
        more.pass(3);
        pane(more, 0, 90, 18, 0);
        Check.due("let go with 30 cracks", more.pass(1), 1);
    }

    private static void letGoHasNoMoreCracks() {
        Check.sentence("Panes, by numbers, that were not let go");
        SkylightWash wash = Check.taught("bay a panes 1 thick 1;" + chimney("h", 0, 30, 1, 0));
        Check.due("let go", wash.pass(120), 1);
        Check.due("let go again", wash.pass(120), 0);
        Check.due("let go in all", wash.count(11), 1);
        wash.glaze(0);
        Check.due("a new one let go", wash.pass(120), 1);
        Check.due("let go in all", wash.count(11), 2);
    }

    private static void oneHour() {
        Check.sentence("The hour is 1 greater.");
        SkylightWash wash = Check.taught(ROW + "cradle c at 3 speed 9 wash 1;go c to hour;");
        Check.due("the hour", wash.count(0), 0);
        wash.pass(1);
        Check.due("the hour", wash.count(0), 1);
        Check.due("the cradle went in the hour 0", wash.cradle(0, 0), 0);
        Check.due("it is sent in the hour 1", wash.cradle(0, 4), 1);
        wash.pass(119);
        Check.due("the hour", wash.count(0), 120);
    }

    // ---- tests and sums

    private static void windOfSums() {
        Check.sentence("In tests and sums hour is the hour, wind the wind");
        SkylightWash wash = Check.taught(ROW + "cradle c at 0 speed 1 wash 1;go c to 3 + wind;");
        for (int wind = -3; wind <= 3; wind++) {
            wash.setWind(wind);
            Check.due("sent with the wind " + wind, wash.cradle(0, 4), 3 + wind);
        }
    }

    private static void lightOfSums() {
        Check.sentence("light the light");
        SkylightWash wash = Check.taught(ROW + chimney("h", 0, 30, 1, 0) + "cradle c at 5 speed 1 wash 1;"
                + "go c to 1 when light = 700;go c to 2 when light = 610;go c to 3 when light = 600;");
        Check.due("sent when all is clean", wash.cradle(0, 4), 1);
        wash.pass(3);
        Check.due("sent with 10 light at pane 0", wash.cradle(0, 4), 2);
        wash.pass(1);
        Check.due("dirt of pane 0", wash.pane(0, 1), 120);
        Check.due("sent with none at pane 0", wash.cradle(0, 4), 3);
        SkylightWash gone = Check.taught("bay a panes 1 thick 1;bay b panes 3 thick 9;" + chimney("h", 0, 30, 1, 0)
                + "cradle c at 3 speed 1 wash 1;go c to 1 when light = 400 and hour = 4;");
        gone.pass(4);
        Check.due("sent with pane 0 let go", gone.cradle(0, 4), 1);
    }

    private static void waterOfSums() {
        Check.sentence("at the pane of a cradle, water what it has");
        SkylightWash wash = Check.taught(ROW + chimney("h", 6, 9, 1, 0) + "cradle c at 2 speed 1 wash 1;"
                + "cradle d at 6 speed 1 wash 1;go c to at d - 20 + water d;");
        for (int hour = 0; hour <= 21; hour++) {
            Check.due("sent in the hour " + hour, wash.cradle(0, 4), Math.max(0, 6 - hour));
            wash.pass(1);
        }
        SkylightWash none = Check.taught(ROW + chimney("h", 6, 9, 1, 0) + "cradle c at 6 speed 1 wash 1;go c to 5 when water c = 0;");
        none.pass(19);
        Check.due("sent with 1 water", none.cradle(0, 4), 6);
        none.pass(1);
        Check.due("sent with none", none.cradle(0, 4), 5);
    }

    private static void dirtOfNoPane() {
        Check.sentence("dirt and crack those of the pane with the number of the sum (0, if there is none, or it was let go)");
        String all = "dirt(-1) = 0 and dirt(2) = 0 and dirt(39) = 0 and dirt(40) = 0 and dirt(999999) = 0 and dirt(-999999 * 999) = 0"
                + " and crack(-1) = 0 and crack(2) = 0 and crack(40) = 0 and crack(46340 * 46340 + 88048) = 0";
        SkylightWash wash = Check.taught("bay a panes 2 thick 1;" + chimney("h", 0, 30, 1, 9)
                + "cradle c at 1 speed 1 wash 1;go c to 0 when " + all + ";");
        wash.pass(3);
        Check.due("of none", wash.cradle(0, 4), 0);
        SkylightWash gone = Check.taught("bay a panes 3 thick 1;" + chimney("h", 0, 30, 1, 0)
                + "cradle c at 1 speed 1 wash 1;go c to 2 when dirt(0) = 90 and crack(0) = 18;"
                + "go c to 0 when dirt(0) = 0 and crack(0) = 0;go c to 1;");
        gone.pass(3);
        Check.due("of one ahead of its end", gone.cradle(0, 4), 2);
        gone.pass(1);
        Check.due("of one let go", gone.cradle(0, 4), 0);
        // The panes of a greater list before are none.
        SkylightWash less = Check.taught("bay a panes 8 thick 9;" + chimney("h", 4, 30, 1, 9));
        less.pass(5);
        Check.feed(less, "bay a panes 2 thick 9;cradle c at 1 speed 1 wash 1;go c to dirt(2) + dirt(4) + crack(4);");
        less.teach();
        Check.due("of panes told no more", less.cradle(0, 4), 0);
    }

    private static void perchOfNowhere() {
        Check.sentence("perch the pane at which a flock sits (-1 for nowhere)");
        SkylightWash wash = Check.taught(ROW + "flock f birds 1 every 12;cradle c at 6 speed 1 wash 1;go c to 2 when perch f = -1;"
                + "go c to 5 + perch f;");
        Check.due("of nowhere", wash.cradle(0, 4), 2);
        wash.pass(1);
        Check.due("of pane 0", wash.cradle(0, 4), 5);
        wash.scare(0);
        Check.due("of nowhere again", wash.cradle(0, 4), 2);
    }

    private static void darkOfTests() {
        Check.sentence("dark holds, if the bay is dark");
        String list = "bay a panes 2 thick 9;bay b panes 4 thick 9;" + chimney("h", 0, 30, 1, 0) + chimney("i", 1, 30, 1, 0)
                + "cradle c at 5 speed 1 wash 1;go c to 2 when dark a;go c to 3 when dark b;";
        SkylightWash even = Check.taught(list);
        even.pass(2);
        Check.due("light of bay a", even.bay(0, 3), 80);
        Check.due("sent with just 40 for each", even.cradle(0, 4), 5);
        SkylightWash less = Check.taught(list + chimney("k", 1, 1, 12, 0));
        less.pass(2);
        Check.due("light of bay a", less.bay(0, 3), 79);
        Check.due("sent with 1 less", less.cradle(0, 4), 2);
        SkylightWash other = Check.taught(list + chimney("k", 1, 1, 12, 0) + "go c to 1;");
        other.carry(0, 0);
        other.pass(1);
        Check.due("sent when none is dark", other.cradle(0, 4), 1);
    }

    private static void andBeforeOr() {
        Check.sentence("and binds more than or, not more than and.");
        String begin = ROW + "cradle c at 6 speed 1 wash 1;go c to 1 when ";
        String yes = "1 = 1";
        String no = "1 = 2";
        String[] hold = {yes + " or " + yes + " and " + no, no + " and " + yes + " or " + yes, "not " + no + " or " + no,
            yes + " or not " + yes + " and " + no, "not [" + no + " and " + yes + "]", "not not " + yes};
        for (String test : hold) {
            Check.due(test, Check.taught(begin + test + ";").cradle(0, 4), 1);
        }
        String[] fail = {"[" + yes + " or " + yes + "] and " + no, no + " and [" + yes + " or " + yes + "]", "not " + no + " and " + no,
            "not [" + no + " or " + yes + "]", "not " + yes, "not not " + no};
        for (String test : fail) {
            Check.due(test, Check.taught(begin + test + ";").cradle(0, 4), 6);
        }
    }

    private static void turnsByNumbers() {
        Check.sentence("Chimneys, flocks, cradles, panes, by numbers");
        // The second cradle looks at where the first has come; the first at where the second was.
        SkylightWash wash = Check.taught("bay a panes 8 thick 9;cradle c at 1 speed 2 wash 1;cradle d at 7 speed 9 wash 1;"
                + "go d to at c;go c to at d;");
        wash.pass(1);
        Check.due("the first cradle", wash.cradle(0, 0), 3);
        Check.due("the second cradle", wash.cradle(1, 0), 3);
        // The first one leaves nothing to the second at the same pane.
        SkylightWash same = Check.taught("bay a panes 2 thick 9;" + chimney("h", 1, 9, 12, 0)
                + "cradle c at 1 speed 1 wash 9;cradle d at 1 speed 1 wash 9;");
        same.pass(1);
        Check.due("washed off by the first", same.cradle(0, 5), 9);
        Check.due("washed off by the second", same.cradle(1, 5), 0);
        Check.due("water of the second", same.cradle(1, 3), 20);
        // The second flock sees what the first has fouled.
        SkylightWash flocks = Check.taught("bay a panes 2 thick 9;flock f birds 1 every 12;flock g birds 1 every 12;");
        flocks.pass(1);
        Check.due("the first flock", flocks.flock(0, 0), 0);
        Check.due("the second flock", flocks.flock(1, 0), 1);
        // Soot ahead of flocks, flocks ahead of cradles, cradles ahead of the cracks.
        SkylightWash steps = Check.taught("bay a panes 3 thick 9;" + chimney("h", 0, 2, 12, 0) + "flock f birds 20 every 12;"
                + "cradle c at 2 speed 9 wash 60;go c to 0 when hour = 0;");
        steps.pass(1);
        dirts(steps, 0, 0, 0);
        SkylightWash later = Check.taught("bay a panes 4 thick 9;flock f birds 20 every 12;cradle c at 3 speed 9 wash 15;go c to 0;");
        later.pass(1);
        Check.due("the flock that came ahead of the cradle", later.flock(0, 0), 0);
        pane(later, 0, 5, 0, 0);
    }

    // ---- exceptions

    private static SkylightWash busy() {
        SkylightWash wash = Check.taught("bay a panes 3 thick 1;bay b panes 2 thick 9;" + chimney("h", 1, 21, 1, 1)
                + "cradle c at 4 speed 1 wash 5;flock f birds 3 every 2;go c to hour;scare f when hour = 3;");
        wash.setWind(1);
        wash.pass(4);
        Check.feed(wash, "bay a panes 9 thick 1;");
        wash.teach();
        Check.feed(wash, "bay a panes 1 thick 1;");
        return wash;
    }

    private static void refusedCallsChangeNothing() {
        Check.sentence("A method that throws an exception changes nothing.");
        SkylightWash wash = busy();
        SkylightWash other = busy();
        long digest = other.digest();
        Runnable same = () -> {
            Check.due("digest", wash.digest(), digest);
            Check.due("errorAt", wash.errorAt(), 12);
        };
        Check.due("let go", wash.pane(1, 3), 1);
        for (int wrong : new int[] {-1, -4, 200, Integer.MIN_VALUE, Integer.MAX_VALUE}) {
            Check.dueThrow("trim", IllegalArgumentException.class, () -> wash.trim(wrong));
            Check.dueThrow("count", IndexOutOfBoundsException.class, () -> wash.count(wrong));
            Check.dueThrow("pane", IndexOutOfBoundsException.class, () -> wash.pane(wrong, 1));
            Check.dueThrow("bay", IndexOutOfBoundsException.class, () -> wash.bay(wrong, 1));
            Check.dueThrow("cradle", IndexOutOfBoundsException.class, () -> wash.cradle(wrong, 1));
            Check.dueThrow("flock", IndexOutOfBoundsException.class, () -> wash.flock(wrong, 1));
            Check.dueThrow("worst", IndexOutOfBoundsException.class, () -> wash.worst(wrong));
            Check.dueThrow("setWind", IllegalArgumentException.class, () -> wash.setWind(wrong == -1 ? 4 : wrong));
            Check.dueThrow("glaze", IndexOutOfBoundsException.class, () -> wash.glaze(wrong));
            Check.dueThrow("carry of none", IndexOutOfBoundsException.class, () -> wash.carry(wrong, 0));
            Check.dueThrow("carry to none", IndexOutOfBoundsException.class, () -> wash.carry(0, wrong));
            Check.dueThrow("scare", IndexOutOfBoundsException.class, () -> wash.scare(wrong));
            Check.dueThrow("pass", IllegalArgumentException.class, () -> wash.pass(wrong));
            Check.dueThrow("until", IndexOutOfBoundsException.class, () -> wash.until(wrong));
            Check.dueThrow("foresee", IllegalArgumentException.class, () -> wash.foresee(wrong, 0));
            Check.dueThrow("costs", IllegalArgumentException.class, () -> wash.costs(wrong, 0));
            Check.dueThrow("advise", IndexOutOfBoundsException.class, () -> wash.advise(wrong, 1));
            Check.dueThrow("spare", IllegalArgumentException.class, () -> wash.spare(wrong));
            same.run();
        }
        Check.dueThrow("glaze of a whole pane", IllegalStateException.class, () -> wash.glaze(0));
        same.run();
        Check.due("teach of the tape", wash.teach(), other.teach());
        Check.due("panes", wash.count(3), 1);
        SkylightWash goesOn = busy();
        Check.dueThrow("pass(121)", IllegalArgumentException.class, () -> goesOn.pass(121));
        Check.dueThrow("glaze of a whole pane", IllegalStateException.class, () -> goesOn.glaze(0));
        SkylightWash left = busy();
        Check.due("pass", goesOn.pass(60), left.pass(60));
        Check.due("digest behind more hours", goesOn.digest(), left.digest());
    }

    private static void firstException() {
        Check.sentence("If several exceptions apply, the one that is named first is thrown.");
        SkylightWash wash = busy();
        Check.dueThrow("foresee(0, 4)", IllegalArgumentException.class, () -> wash.foresee(0, 4));
        Check.dueThrow("foresee(121, -1)", IllegalArgumentException.class, () -> wash.foresee(121, -1));
        Check.dueThrow("foresee(1, 4)", IndexOutOfBoundsException.class, () -> wash.foresee(1, 4));
        Check.dueThrow("advise(1, 0)", IndexOutOfBoundsException.class, () -> wash.advise(1, 0));
        Check.dueThrow("advise(-1, 25)", IndexOutOfBoundsException.class, () -> wash.advise(-1, 25));
        Check.dueThrow("advise(0, 25)", IllegalArgumentException.class, () -> wash.advise(0, 25));
        Check.dueThrow("glaze(5)", IndexOutOfBoundsException.class, () -> wash.glaze(5));
        Check.dueThrow("glaze(4)", IllegalStateException.class, () -> wash.glaze(4));
    }
}
