/** Promise 16, with section 2 of the document: how an hour goes. */
public final class HoursTest {
    private HoursTest() {
    }

    public static void main(String[] args) {
        passing();
        wrongHours();
        chimneys();
        chimneysByHours();
        theWholeRow();
        flockStaysAndGoes();
        flockOnAPaneThatGoes();
        flockDrivenOff();
        scareOrders();
        flocksByTurns();
        cradleGoes();
        cradlesByTurns();
        cradleWater();
        washing();
        cracking();
        Check.finish();
    }

    private static void dirts(String when, SkylightWash wash, long... due) {
        for (int pane = 0; pane < due.length; pane++) {
            Check.due("P16 " + when + " dirt of pane " + pane, wash.pane(pane, 1), due[pane]);
        }
    }

    private static void passing() {
        SkylightWash wash = Check.taught("bay a panes 3 thick 1; chimney h at 1 soot 21 every 1 reach 1;");
        Check.due("P16 pass(3)", wash.pass(3), 0);
        Check.due("P16 pass(1)", wash.pass(1), 3);
        Check.due("P16 the hour", wash.count(0), 4);
        Check.due("P16 pass(120)", wash.pass(120), 0);
        Check.due("P16 the hour", wash.count(0), 124);
        wash.glaze(1);
        Check.due("P16 pass(120) with one left", wash.pass(120), 1);
    }

    private static void wrongHours() {
        SkylightWash wash = Check.taught("bay a panes 3 thick 1; chimney h at 1 soot 20 every 1 reach 1;");
        long digest = wash.digest();
        for (int wrong : new int[] {0, 121, -1, Integer.MIN_VALUE, Integer.MAX_VALUE}) {
            Check.dueThrow("P16 pass(" + wrong + ")", IllegalArgumentException.class, () -> wash.pass(wrong));
        }
        Check.due("P16 nothing is changed", wash.digest(), digest);
    }

    private static void chimneys() {
        SkylightWash wash = Check.taught("bay a panes 4 thick 9; bay b panes 4 thick 9; chimney h at 6 soot 3 every 12 reach 9;"
                + "chimney i at 0 soot 10 every 12 reach 1;");
        wash.pass(1);
        dirts("two chimneys", wash, 10, 9, 0, 0, 1, 2, 3, 2);
        SkylightWash left = Check.taught("bay a panes 8 thick 9; chimney h at 1 soot 10 every 12 reach 3;");
        left.setWind(-3);
        left.pass(1);
        dirts("wind from the right", left, 8, 7, 0, 0, 0, 0, 0, 0);
        SkylightWash right = Check.taught("bay a panes 8 thick 9; chimney h at 6 soot 10 every 12 reach 3;");
        right.setWind(3);
        right.pass(1);
        dirts("wind from the left", right, 0, 0, 0, 0, 0, 0, 7, 8);
        SkylightWash gone = Check.taught("bay a panes 2 thick 1; chimney h at 0 soot 30 every 1 reach 0;");
        gone.pass(6);
        dirts("on a pane let go", gone, 0, 0);
    }

    private static void chimneysByHours() {
        SkylightWash wash = Check.taught("bay a panes 1 thick 9; chimney h at 0 soot 7 every 3 reach 0;");
        long[] due = {7, 7, 7, 14, 14, 14, 21};
        for (int hour = 0; hour < due.length; hour++) {
            wash.pass(1);
            dirts("in hour " + hour, wash, due[hour]);
        }
    }

    private static void theWholeRow() {
        SkylightWash wash = Check.taught("bay a panes 8 thick 9; bay b panes 8 thick 8; bay c panes 8 thick 7; bay d panes 8 thick 6;"
                + "bay e panes 8 thick 1; chimney h at 39 soot 22 every 1 reach 9; cradle c at 39 speed 9 wash 1;"
                + "go c to 0 when hour = 4; flock f birds 1 every 12;");
        Check.due("P16 the end of the row", wash.pass(4), 3);
        dirts("the row", wash, 4 * 1, 0, 0, 0);
        Check.due("P16 the last pane that has soot", wash.pane(30, 1), 4 * 13);
        Check.due("P16 the first pane that is let go", wash.pane(37, 3), 1);
        Check.due("P16 the pane where the cradle washed", wash.pane(39, 3), 1);
        wash.pass(1);
        Check.due("P16 nine panes less", wash.cradle(0, 0), 30);
    }

    private static void flockStaysAndGoes() {
        SkylightWash wash = Check.taught("bay a panes 3 thick 9; flock f birds 4 every 3;");
        long[] places = {0, 0, 0, 1, 1, 1, 2, 2, 2, 0};
        long[] moves = {1, 1, 1, 2, 2, 2, 3, 3, 3, 4};
        for (int hour = 0; hour < places.length; hour++) {
            wash.pass(1);
            Check.due("P16 the flock in hour " + hour, wash.flock(0, 0), places[hour]);
            Check.due("P16 its moves in hour " + hour, wash.flock(0, 3), moves[hour]);
        }
        dirts("fouled", wash, 16, 12, 12);
    }

    // With all its panes full of cradles it sits nowhere, and that is no move.
    private static void flockDrivenOff() {
        SkylightWash wash = Check.taught("bay a panes 2 thick 9; bay b panes 2 thick 9; cradle c at 0 speed 9 wash 1; flock f birds 4 every 12;");
        wash.pass(1);
        Check.due("P16 the flock", wash.flock(0, 0), 2);
        wash.carry(0, 1);
        wash.pass(1);
        Check.due("P16 the flock beside a cradle of another bay", wash.flock(0, 0), 3);
        Check.due("P16 its moves", wash.flock(0, 3), 2);
        wash.carry(0, 3);
        wash.pass(1);
        Check.due("P16 the flock with a cradle at its pane", wash.flock(0, 0), 0);
        SkylightWash full = Check.taught("bay a panes 3 thick 9; cradle c at 1 speed 9 wash 1; flock f birds 4 every 12;");
        full.pass(13);
        Check.due("P16 a flock without a place", full.flock(0, 0), -1);
        Check.due("P16 its moves", full.flock(0, 3), 0);
        dirts("without a flock", full, 0, 0, 0);
        // A single free pane: it comes, is driven off by its every, and comes again.
        SkylightWash one = Check.taught("bay a panes 3 thick 9; cradle c at 0 speed 9 wash 1; flock f birds 4 every 2;");
        long[] places = {2, 2, -1, 2, -1, 2, -1};
        for (int hour = 0; hour < places.length; hour++) {
            one.pass(1);
            Check.due("P16 the only free pane in hour " + hour, one.flock(0, 0), places[hour]);
        }
        Check.due("P16 its moves there", one.flock(0, 3), 6);
        dirts("the only free pane", one, 0, 0, 16);
    }

    // It sits there still when the pane is let go, and goes in the next hour.
    private static void flockOnAPaneThatGoes() {
        SkylightWash wash = Check.taught("bay a panes 1 thick 1; bay b panes 1 thick 9; flock f birds 20 every 12;");
        wash.pass(4);
        Check.due("P16 the pane is let go", wash.pane(0, 3), 1);
        Check.due("P16 the flock sits there still", wash.flock(0, 0), 0);
        wash.pass(1);
        Check.due("P16 the flock then", wash.flock(0, 0), 1);
        dirts("behind it", wash, 0, 20);
        wash.glaze(0);
        Check.due("P16 a new pane is free", wash.pane(0, 6), 1);
    }

    private static void scareOrders() {
        SkylightWash wash = Check.taught("bay a panes 4 thick 9; flock f birds 4 every 12; flock g birds 1 every 12;"
                + "scare g when 1 = 2; scare f when 2 = 1; scare f when dirt(perch f) >= 8;");
        long[] places = {0, 0, 2, 2, 3, 3};
        for (int hour = 0; hour < places.length; hour++) {
            wash.pass(1);
            Check.due("P16 the scared flock in hour " + hour, wash.flock(0, 0), places[hour]);
            Check.due("P16 the other flock in hour " + hour, wash.flock(1, 0), 1);
        }
        // A scare holds as all is when the flock's turn comes: behind the soot, ahead of the birds.
        SkylightWash soot = Check.taught("bay a panes 4 thick 9; chimney h at 0 soot 5 every 2 reach 0; flock f birds 4 every 12;"
                + "scare f when dirt(0) > 9; cradle c at 3 speed 1 wash 1;");
        soot.pass(2);
        Check.due("P16 the flock ahead of the soot", soot.flock(0, 0), 1);
        soot.pass(1);
        Check.due("P16 the flock behind the soot", soot.flock(0, 0), 0);
    }

    private static void flocksByTurns() {
        SkylightWash wash = Check.taught("bay a panes 4 thick 9; flock f birds 4 every 1; flock g birds 1 every 1;"
                + "flock h birds 2 every 1;");
        wash.pass(1);
        dirts("by turns, hour 0", wash, 4, 1, 2, 0);
        wash.pass(1);
        dirts("by turns, hour 1", wash, 4, 3, 3, 4);
    }

    private static void cradleGoes() {
        SkylightWash wash = Check.taught("bay a panes 8 thick 9; cradle c at 1 speed 3 wash 1; go c to 6 when hour < 3; go c to -9 when hour < 7;");
        long[] places = {4, 6, 6, 3, 0, 0, 0, 0};
        for (int hour = 0; hour < places.length; hour++) {
            wash.pass(1);
            Check.due("P16 the cradle in hour " + hour, wash.cradle(0, 0), places[hour]);
        }
    }

    // Each looks at where those ahead of it have come to.
    private static void cradlesByTurns() {
        SkylightWash wash = Check.taught("bay a panes 8 thick 9; cradle c at 1 speed 2 wash 1; cradle d at 7 speed 9 wash 1;"
                + "go d to at c; go c to at d;");
        wash.pass(1);
        Check.due("P16 the first cradle", wash.cradle(0, 0), 3);
        Check.due("P16 the second cradle", wash.cradle(1, 0), 3);
    }

    private static void cradleWater() {
        SkylightWash wash = Check.taught("bay a panes 3 thick 9; bay b panes 1 thick 9; chimney h at 3 soot 2 every 1 reach 0;"
                + "cradle c at 3 speed 9 wash 1; go c to 0 when hour = 26;");
        for (int hour = 1; hour <= 20; hour++) {
            wash.pass(1);
            Check.due("P16 water", wash.cradle(0, 3), 20 - hour);
        }
        dirts("20 h", wash, 0, 0, 0, 20);
        wash.pass(6);
        Check.due("P16 water without any", wash.cradle(0, 3), 0);
        Check.due("P16 washed without any", wash.cradle(0, 5), 20);
        dirts("26 h", wash, 0, 0, 0, 32);
        wash.pass(1);
        Check.due("P16 water at pane 0, that has no dirt", wash.cradle(0, 3), 20);
    }

    private static void washing() {
        SkylightWash wash = Check.taught("bay a panes 2 thick 1; chimney h at 1 soot 30 every 1 reach 0; cradle c at 1 speed 9 wash 60;");
        wash.pass(3);
        dirts("washed", wash, 0, 0);
        Check.due("P16 what was washed off", wash.cradle(0, 5), 90);
        Check.due("P16 water", wash.cradle(0, 3), 17);
        SkylightWash little = Check.taught("bay a panes 2 thick 1; chimney h at 1 soot 1 every 12 reach 0; cradle c at 1 speed 9 wash 60;");
        little.pass(2);
        dirts("a little washed", little, 0, 0);
        Check.due("P16 the water that took", little.cradle(0, 3), 19);
        Check.due("P16 the little that was washed off", little.cradle(0, 5), 1);
        // No water goes on a clean pane, and none on one that was let go.
        SkylightWash clean = Check.taught("bay a panes 2 thick 1; chimney h at 1 soot 30 every 1 reach 0; cradle c at 0 speed 9 wash 60;"
                + "go c to 1 when hour = 4;");
        clean.pass(4);
        Check.due("P16 the pane is let go", clean.pane(1, 3), 1);
        clean.pass(3);
        Check.due("P16 the cradle there", clean.cradle(0, 0), 1);
        Check.due("P16 water there", clean.cradle(0, 3), 20);
        Check.due("P16 nothing was washed off", clean.cradle(0, 5), 0);
    }

    // 20 dirt more by the hour: cracks of 2, 6, 12, 20, 30 and 42.
    private static void cracking() {
        SkylightWash wash = Check.taught("bay a panes 1 thick 1; bay b panes 1 thick 2; bay c panes 1 thick 9;"
                + "chimney h at 0 soot 20 every 1 reach 0; chimney i at 1 soot 20 every 1 reach 0; chimney k at 2 soot 19 every 1 reach 0;");
        wash.pass(3);
        Check.due("P16 cracks", wash.pane(0, 2), 12);
        Check.due("P16 cracks by a tenth that is cut", wash.pane(2, 2), 1 + 3 + 5);
        Check.due("P16 let go with just 20 cracks", wash.pass(1), 1);
        Check.due("P16 not so in the bay of thick 2", wash.pane(1, 2), 20);
        Check.due("P16 let go in hour 4", wash.pass(1), 0);
        Check.due("P16 let go in hour 5", wash.pass(1), 1);
        Check.due("P16 the pane of thick 2", wash.pane(1, 3), 1);
    }
}
