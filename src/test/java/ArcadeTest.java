/** Promises 6 to 15: what there is, and what is done by hand. */
public final class ArcadeTest {
    private static final String LIST = "bay a panes 3 thick 1; bay b panes 2 thick 2;"
            + "chimney h at 1 soot 12 every 2 reach 2;"
            + "cradle c at 0 speed 2 wash 5; cradle d at 0 speed 1 wash 60;"
            + "flock f birds 3 every 4; flock g birds 20 every 1;"
            + "go c to 4 when dirt(4) > 0; scare f when hour = 1;";

    private ArcadeTest() {
    }

    public static void main(String[] args) {
        atFirst();
        behindOneHour();
        behindTwoHours();
        behindThreeHours();
        lostPanes();
        darkBays();
        wrongPlaces();
        sentHeld();
        sentByTheFirst();
        reckoning();
        reckoningTests();
        settingTheWind();
        glazing();
        carrying();
        scaring();
        Check.finish();
    }

    private static void counts(String when, SkylightWash wash, long... due) {
        for (int what = 0; what < due.length; what++) {
            Check.due("P6 " + when + " count(" + what + ")", wash.count(what), due[what]);
        }
    }

    private static void pane(String when, SkylightWash wash, int pane, long... due) {
        for (int what = 0; what < due.length; what++) {
            Check.due("P7 " + when + " pane(" + pane + ", " + what + ")", wash.pane(pane, what), due[what]);
        }
    }

    private static void bay(String when, SkylightWash wash, int bay, long... due) {
        for (int what = 0; what < due.length; what++) {
            Check.due("P8 " + when + " bay(" + bay + ", " + what + ")", wash.bay(bay, what), due[what]);
        }
    }

    private static void cradle(String when, SkylightWash wash, int cradle, long... due) {
        for (int what = 0; what < due.length; what++) {
            Check.due("P9 " + when + " cradle(" + cradle + ", " + what + ")", wash.cradle(cradle, what), due[what]);
        }
    }

    private static void flock(String when, SkylightWash wash, int flock, long... due) {
        for (int what = 0; what < due.length; what++) {
            Check.due("P10 " + when + " flock(" + flock + ", " + what + ")", wash.flock(flock, what), due[what]);
        }
    }

    private static void worst(String when, SkylightWash wash, long... due) {
        for (int place = 0; place < due.length; place++) {
            Check.due("P11 " + when + " worst(" + place + ")", wash.worst(place), due[place]);
        }
        Check.dueThrow("P11 " + when + " worst behind all", IndexOutOfBoundsException.class, () -> wash.worst(due.length));
        Check.dueThrow("P11 " + when + " worst(-1)", IndexOutOfBoundsException.class, () -> wash.worst(-1));
    }

    private static void atFirst() {
        SkylightWash wash = Check.taught(LIST);
        counts("at first", wash, 0, 0, 2, 5, 1, 2, 2, 2, 500, 0, 0, 0, 0, 0);
        pane("at first", wash, 0, 0, 0, 0, 0, 100, 2, 0);
        pane("at first", wash, 1, 0, 0, 0, 0, 100, 0, 0);
        pane("at first", wash, 2, 0, 0, 0, 0, 100, 0, 1);
        pane("at first", wash, 3, 1, 0, 0, 0, 100, 0, 1);
        bay("at first", wash, 0, 3, 1, 0, 300, 0);
        bay("at first", wash, 1, 2, 2, 3, 200, 0);
        cradle("at first", wash, 0, 0, 2, 5, 20, 0, 0);
        cradle("at first", wash, 1, 0, 1, 60, 20, 0, 0);
        flock("at first", wash, 0, -1, 3, 4, 0);
        flock("at first", wash, 1, -1, 20, 1, 0);
        worst("at first", wash, 0, 1, 2, 3, 4);
        Check.feed(wash, "bay");
        counts("with a tape", wash, 0, 0, 2, 5, 1, 2, 2, 2, 500, 0, 0, 0, 0, 3);
    }

    // The soot is 11, 12, 11 and 10; both flocks go to pane 4, the cleanest;
    // cradle c comes half of its way and washes 5 of 11, d washes all 11.
    private static void behindOneHour() {
        SkylightWash wash = Check.taught(LIST);
        wash.pass(1);
        counts("1 h", wash, 1, 0, 2, 5, 1, 2, 2, 2, 449, 51, 0, 0, 0, 0);
        pane("1 h", wash, 0, 0, 0, 0, 0, 100, 1, 0);
        pane("1 h", wash, 1, 0, 12, 1, 0, 88, 0, 0);
        pane("1 h", wash, 2, 0, 6, 0, 0, 94, 1, 0);
        pane("1 h", wash, 3, 1, 10, 1, 0, 90, 0, 0);
        pane("1 h", wash, 4, 1, 23, 2, 0, 77, 0, 1);
        bay("1 h", wash, 0, 3, 1, 0, 282, 0);
        bay("1 h", wash, 1, 2, 2, 3, 167, 0);
        cradle("1 h", wash, 0, 2, 2, 5, 19, 4, 5);
        cradle("1 h", wash, 1, 0, 1, 60, 19, 0, 11);
        flock("1 h", wash, 0, 4, 3, 4, 1);
        flock("1 h", wash, 1, 4, 20, 1, 1);
        worst("1 h", wash, 4, 1, 3, 2, 0);
    }

    // No soot; pane 4 is the only free one, so that both flocks go nowhere.
    private static void behindTwoHours() {
        SkylightWash wash = Check.taught(LIST);
        wash.pass(2);
        counts("2 h", wash, 2, 0, 2, 5, 1, 2, 2, 2, 454, 46, 0, 0, 0, 0);
        pane("2 h", wash, 1, 0, 12, 2, 0, 88, 0, 0);
        pane("2 h", wash, 3, 1, 10, 2, 0, 90, 0, 0);
        pane("2 h", wash, 4, 1, 18, 3, 0, 82, 1, 0);
        cradle("2 h", wash, 0, 4, 2, 5, 18, 4, 10);
        cradle("2 h", wash, 1, 0, 1, 60, 20, 0, 11);
        flock("2 h", wash, 0, -1, 3, 4, 2);
        flock("2 h", wash, 1, -1, 20, 1, 2);
    }

    // The wind takes the soot 1 pane on: 10, 11, 12, 11 and 10.
    private static void behindThreeHours() {
        SkylightWash wash = Check.taught(LIST);
        wash.pass(2);
        wash.setWind(1);
        wash.pass(1);
        counts("3 h", wash, 3, 1, 2, 5, 1, 2, 2, 2, 392, 108, 0, 0, 0, 0);
        pane("3 h", wash, 0, 0, 0, 0, 0, 100, 1, 0);
        pane("3 h", wash, 1, 0, 23, 4, 0, 77, 0, 0);
        pane("3 h", wash, 2, 0, 41, 4, 0, 59, 0, 1);
        pane("3 h", wash, 3, 1, 21, 4, 0, 79, 0, 0);
        pane("3 h", wash, 4, 1, 23, 5, 0, 77, 1, 0);
        cradle("3 h", wash, 0, 4, 2, 5, 17, 4, 15);
        cradle("3 h", wash, 1, 0, 1, 60, 19, 0, 21);
        flock("3 h", wash, 0, 2, 3, 4, 3);
        flock("3 h", wash, 1, 2, 20, 1, 3);
        worst("3 h", wash, 2, 1, 4, 3, 0);
    }

    private static void lostPanes() {
        SkylightWash wash = Check.taught("bay a panes 1 thick 1; bay b panes 2 thick 1; chimney h at 0 soot 20 every 1 reach 0;");
        Check.due("P6 let go", wash.pass(4), 1);
        counts("with a pane let go", wash, 4, 0, 2, 3, 1, 0, 0, 0, 300, 0, 1, 1, 0, 0);
        pane("let go", wash, 0, 0, 0, 0, 1, 100, 0, 0);
        bay("let go", wash, 0, 1, 1, 0, 100, 0);
        worst("let go", wash, 1, 2);
        wash.glaze(0);
        counts("with a new pane", wash, 4, 0, 2, 3, 1, 0, 0, 0, 300, 0, 0, 1, 0, 0);
        wash.pass(4);
        counts("with a pane let go twice", wash, 8, 0, 2, 3, 1, 0, 0, 0, 300, 0, 1, 2, 0, 0);
    }

    // Two panes with 60 dirt each are not dark, one more makes them so.
    private static void darkBays() {
        SkylightWash wash = Check.taught("bay a panes 2 thick 9; bay b panes 3 thick 9; chimney h at 0 soot 30 every 12 reach 0;"
                + "chimney i at 0 soot 30 every 12 reach 0; chimney k at 1 soot 30 every 12 reach 0;"
                + "chimney l at 1 soot 30 every 12 reach 0; flock f birds 1 every 5; cradle c at 3 speed 1 wash 1;");
        wash.pass(1);
        Check.due("P8 the flock", wash.pane(0, 1), 61);
        bay("61 and 60", wash, 0, 2, 9, 0, 79, 1);
        Check.due("P6 dark bays", wash.count(12), 1);
        SkylightWash other = Check.taught("bay a panes 2 thick 9; bay b panes 3 thick 9; chimney h at 0 soot 30 every 12 reach 0;"
                + "chimney i at 0 soot 30 every 12 reach 0; chimney k at 1 soot 30 every 12 reach 0;"
                + "chimney l at 1 soot 30 every 12 reach 0;");
        other.pass(1);
        bay("60 and 60", other, 0, 2, 9, 0, 80, 0);
        Check.due("P6 no dark bays", other.count(12), 0);
        other.pass(12);
        bay("120 and 120", other, 0, 2, 9, 0, 0, 1);
        pane("120", other, 0, 0, 120, 6 * 12 + 12, 0, 0, 0, 1);
        counts("120 and 120", other, 13, 0, 2, 5, 4, 0, 0, 0, 300, 240, 0, 0, 1, 0);
    }

    private static void wrongPlaces() {
        SkylightWash wash = Check.taught(LIST);
        long digest = wash.digest();
        for (int wrong : new int[] {-1, Integer.MIN_VALUE, Integer.MAX_VALUE, 40, 14}) {
            Check.dueThrow("P6 count(" + wrong + ")", IndexOutOfBoundsException.class, () -> wash.count(wrong));
            Check.dueThrow("P7 pane(" + wrong + ", 0)", IndexOutOfBoundsException.class, () -> wash.pane(wrong, 0));
            Check.dueThrow("P7 pane(0, " + wrong + ")", IndexOutOfBoundsException.class, () -> wash.pane(0, wrong));
            Check.dueThrow("P8 bay(" + wrong + ", 0)", IndexOutOfBoundsException.class, () -> wash.bay(wrong, 0));
            Check.dueThrow("P8 bay(0, " + wrong + ")", IndexOutOfBoundsException.class, () -> wash.bay(0, wrong));
            Check.dueThrow("P9 cradle(" + wrong + ", 0)", IndexOutOfBoundsException.class, () -> wash.cradle(wrong, 0));
            Check.dueThrow("P9 cradle(0, " + wrong + ")", IndexOutOfBoundsException.class, () -> wash.cradle(0, wrong));
            Check.dueThrow("P10 flock(" + wrong + ", 0)", IndexOutOfBoundsException.class, () -> wash.flock(wrong, 0));
            Check.dueThrow("P10 flock(0, " + wrong + ")", IndexOutOfBoundsException.class, () -> wash.flock(0, wrong));
            Check.dueThrow("P13 glaze(" + wrong + ")", IndexOutOfBoundsException.class, () -> wash.glaze(wrong));
            Check.dueThrow("P14 carry(" + wrong + ", 0)", IndexOutOfBoundsException.class, () -> wash.carry(wrong, 0));
            Check.dueThrow("P14 carry(0, " + wrong + ")", IndexOutOfBoundsException.class, () -> wash.carry(0, wrong));
            Check.dueThrow("P15 scare(" + wrong + ")", IndexOutOfBoundsException.class, () -> wash.scare(wrong));
        }
        Check.dueThrow("P7 pane(5, 0)", IndexOutOfBoundsException.class, () -> wash.pane(5, 0));
        Check.dueThrow("P7 pane(0, 7)", IndexOutOfBoundsException.class, () -> wash.pane(0, 7));
        Check.dueThrow("P8 bay(2, 0)", IndexOutOfBoundsException.class, () -> wash.bay(2, 0));
        Check.dueThrow("P8 bay(0, 5)", IndexOutOfBoundsException.class, () -> wash.bay(0, 5));
        Check.dueThrow("P9 cradle(2, 0)", IndexOutOfBoundsException.class, () -> wash.cradle(2, 0));
        Check.dueThrow("P9 cradle(0, 6)", IndexOutOfBoundsException.class, () -> wash.cradle(0, 6));
        Check.dueThrow("P10 flock(2, 0)", IndexOutOfBoundsException.class, () -> wash.flock(2, 0));
        Check.dueThrow("P10 flock(0, 4)", IndexOutOfBoundsException.class, () -> wash.flock(0, 4));
        Check.due("nothing is changed by what throws", wash.digest(), digest);
    }

    private static void sent(String order, int pane) {
        SkylightWash wash = Check.taught("bay a panes 6 thick 1; bay b panes 4 thick 1; chimney h at 2 soot 30 every 1 reach 0;"
                + "cradle c at 7 speed 9 wash 1; cradle d at 3 speed 1 wash 1; flock f birds 4 every 12;" + order);
        wash.setWind(-2);
        Check.due("P9 sent by " + order, wash.cradle(0, 4), pane);
    }

    private static void sentHeld() {
        sent("", 7);
        sent("go d to 2;", 7);
        sent("go c to 9;", 9);
        sent("go c to 10;", 9);
        sent("go c to 999999 * 999;", 9);
        sent("go c to -1;", 0);
        sent("go c to 0 - 999999;", 0);
    }

    private static void sentByTheFirst() {
        sent("go c to 1; go c to 2;", 1);
        sent("go d to 1; go c to 2;", 2);
        sent("go c to 1 when 1 > 1; go c to 2 when 1 >= 1; go c to 3;", 2);
        sent("go c to 1 when 1 > 1; go c to 2 when 1 < 1;", 7);
        sent("go c to 1 when not 1 = 1; go c to 2 when not 1 < 1;", 2);
        sent("scare f when 1 = 1; go c to 4;", 4);
    }

    private static void reckoning() {
        sent("go c to 2 + 3 * 2 - 1;", 7);
        sent("go c to 9 - 3 - 2;", 4);
        sent("go c to 9 - (3 - 2);", 8);
        sent("go c to 17 / 3 / 2;", 2);
        sent("go c to 17 / 3 * 2 - 2;", 8);
        sent("go c to 5 - 17 / -9;", 6);
        sent("go c to 5 + -17 / 9;", 4);
        sent("go c to 5 + 7 / 0;", 5);
        sent("go c to --3 + - - -1;", 2);
        sent("go c to -1 + 4;", 3);
        sent("go c to -(1 + 4) + 7;", 2);
        sent("go c to min(8, 5) + max(1, -2);", 6);
        sent("go c to min(3, 5);", 3);
        sent("go c to wind + 5;", 3);
        sent("go c to hour + 5;", 5);
        sent("go c to light / 200;", 5);
        sent("go c to at c - at d;", 4);
        sent("go c to water d - 18;", 2);
        sent("go c to perch f + 4;", 3);
        sent("go c to dirt(2) + 4;", 4);
        // 65536 * 65536 wraps around to 0, and 46341 * 46341 below it
        sent("go c to 65536 * 65536 + 6;", 6);
        sent("go c to 46341 * 46341;", 0);
        sent("go c to 0 - 46341 * 46341;", 9);
        // the least number, by -1, is itself
        sent("go c to 32768 * 65536 / -1;", 0);
        sent("go c to -(32768 * 65536);", 0);
    }

    private static void holds(String test, boolean due) {
        sent("go c to 1 when " + test + ";", due ? 1 : 7);
    }

    private static void reckoningTests() {
        holds("1 < 2", true);
        holds("2 < 2", false);
        holds("3 < 2", false);
        holds("2 > 1", true);
        holds("2 > 2", false);
        holds("2 = 2", true);
        holds("1 = 2", false);
        holds("2 <= 2", true);
        holds("3 <= 2", false);
        holds("2 >= 2", true);
        holds("1 >= 2", false);
        holds("1 = 1 or 1 = 1 and 1 = 2", true);
        holds("[1 = 1 or 1 = 1] and 1 = 2", false);
        holds("1 = 2 and 1 = 2 or 1 = 1", true);
        holds("not 1 = 2 and 1 = 2", false);
        holds("not [1 = 2 and 1 = 2]", true);
        holds("not not 1 = 1", true);
        holds("not 1 = 2 or 1 = 1", true);
        holds("dark a", false);
        holds("not dark b", true);
        holds("perch f = -1", true);
        holds("dirt(-1) = 0 and dirt(10) = 0 and dirt(39) = 0 and dirt(40) = 0 and crack(999999) = 0", true);
        SkylightWash wash = Check.taught("bay a panes 1 thick 9; bay b panes 7 thick 9; chimney h at 0 soot 30 every 1 reach 0;"
                + "cradle c at 4 speed 1 wash 1; go c to 1 when dark a and dirt(0) = 90 and crack(0) = 18 and crack(at c) = 0;");
        wash.pass(2);
        Check.due("P9 sent behind 2 h", wash.cradle(0, 4), 4);
        wash.pass(1);
        Check.due("P9 sent behind 3 h", wash.cradle(0, 4), 1);
        wash.pass(1);
        Check.due("P9 sent behind 4 h", wash.cradle(0, 4), 4);
        SkylightWash gone = Check.taught("bay a panes 3 thick 1; chimney h at 0 soot 30 every 1 reach 0;"
                + "cradle c at 2 speed 1 wash 1; go c to 2 when dirt(0) + crack(0) = 0; go c to 1;");
        gone.pass(3);
        Check.due("P9 sent ahead of the pane's end", gone.cradle(0, 4), 1);
        gone.pass(1);
        Check.due("P9 sent behind the pane's end", gone.cradle(0, 4), 2);
    }

    private static void settingTheWind() {
        SkylightWash wash = new SkylightWash();
        Check.due("P12 setWind(3)", wash.setWind(3), 0);
        Check.due("P12 setWind(-3)", wash.setWind(-3), 3);
        Check.due("P12 the wind", wash.count(1), -3);
        for (int wrong : new int[] {4, -4, Integer.MAX_VALUE, Integer.MIN_VALUE}) {
            Check.dueThrow("P12 setWind(" + wrong + ")", IllegalArgumentException.class, () -> wash.setWind(wrong));
        }
        Check.due("P12 setWind(0)", wash.setWind(0), -3);
    }

    private static void glazing() {
        SkylightWash wash = Check.taught("bay a panes 3 thick 1; chimney h at 0 soot 20 every 1 reach 0;"
                + "chimney i at 2 soot 20 every 1 reach 0;");
        Check.dueThrow("P13 glaze of a whole pane", IllegalStateException.class, () -> wash.glaze(0));
        wash.pass(3);
        Check.dueThrow("P13 glaze of a dirty pane", IllegalStateException.class, () -> wash.glaze(0));
        Check.due("P13 its dirt stays", wash.pane(0, 1), 60);
        wash.pass(1);
        Check.dueThrow("P13 glaze beside them", IllegalStateException.class, () -> wash.glaze(1));
        Check.dueThrow("P13 glaze of no pane", IndexOutOfBoundsException.class, () -> wash.glaze(3));
        Check.due("P13 glaze(2)", wash.glaze(2), 1);
        pane("glazed", wash, 2, 0, 0, 0, 0, 100, 0, 1);
        pane("not glazed", wash, 0, 0, 0, 0, 1, 100, 0, 0);
        Check.due("P13 let go in all", wash.count(11), 2);
        Check.dueThrow("P13 glaze once more", IllegalStateException.class, () -> wash.glaze(2));
        Check.due("P13 glaze(0)", wash.glaze(0), 0);
        wash.pass(1);
        pane("glazed, 1 h", wash, 2, 0, 20, 2, 0, 80, 0, 1);
    }

    private static void carrying() {
        SkylightWash wash = Check.taught(LIST);
        Check.due("P14 carry(0, 4)", wash.carry(0, 4), 0);
        cradle("carried", wash, 0, 4, 2, 5, 20, 4, 0);
        cradle("not carried", wash, 1, 0, 1, 60, 20, 0, 0);
        pane("carried", wash, 4, 1, 0, 0, 0, 100, 1, 0);
        pane("carried", wash, 3, 1, 0, 0, 0, 100, 0, 0);
        pane("carried", wash, 2, 0, 0, 0, 0, 100, 0, 1);
        Check.due("P14 carry(0, 4) again", wash.carry(0, 4), 4);
        Check.dueThrow("P14 carry(2, 0)", IndexOutOfBoundsException.class, () -> wash.carry(2, 0));
        Check.dueThrow("P14 carry(0, 5)", IndexOutOfBoundsException.class, () -> wash.carry(0, 5));
        Check.due("P14 carry(0, 1)", wash.carry(0, 1), 4);
        // Water is fetched by the hour, not by being carried.
        SkylightWash dry = Check.taught("bay a panes 3 thick 9; chimney h at 1 soot 30 every 1 reach 0; cradle c at 1 speed 1 wash 1;");
        dry.pass(5);
        dry.carry(0, 0);
        Check.due("P14 the water of one that is carried", dry.cradle(0, 3), 15);
        dry.pass(1);
        Check.due("P14 its water behind an hour there", dry.cradle(0, 3), 20);
    }

    private static void scaring() {
        SkylightWash wash = Check.taught("bay a panes 3 thick 9; flock f birds 2 every 12; flock g birds 5 every 12;");
        Check.due("P15 scare of one nowhere", wash.scare(0), -1);
        wash.pass(2);
        flock("2 h", wash, 0, 0, 2, 12, 1);
        flock("2 h", wash, 1, 1, 5, 12, 1);
        Check.due("P15 scare(1)", wash.scare(1), 1);
        flock("scared", wash, 1, -1, 5, 12, 1);
        flock("not scared", wash, 0, 0, 2, 12, 1);
        Check.due("P15 scare(1) again", wash.scare(1), -1);
        Check.dueThrow("P15 scare(2)", IndexOutOfBoundsException.class, () -> wash.scare(2));
        wash.pass(1);
        flock("3 h", wash, 0, 0, 2, 12, 1);
        flock("3 h", wash, 1, 2, 5, 12, 2);
    }
}
