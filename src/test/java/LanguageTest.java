/** Promises 1 to 5, with section 1 of the document: a new object, the tape, and the list. */
public final class LanguageTest {
    private static final String BAY = "bay a panes 2 thick 1;";
    private static final String CRADLE = BAY + "cradle c at 0 speed 1 wash 1;";
    private static final String ALL = CRADLE + "flock f birds 1 every 1;";

    private LanguageTest() {
    }

    public static void main(String[] args) {
        newObject();
        feeding();
        feedingTooMuch();
        trimming();
        teachingAnew();
        teachingTheSameAnew();
        teachingWrongly();
        errorPlaces();
        tokens();
        grammar();
        tokenLimit();
        depthInTests();
        depthInSums();
        sameNames();
        unknownNames();
        tooMany();
        tooManyOrders();
        ranges();
        placesTold();
        orderOfErrors();
        Check.finish();
    }

    private static void newObject() {
        SkylightWash wash = new SkylightWash();
        long digest = 839;
        for (int what = 0; what < 14; what++) {
            Check.due("P1 count(" + what + ")", wash.count(what), 0);
            digest *= 31;
        }
        Check.due("P1 errorAt", wash.errorAt(), -1);
        Check.due("P1 digest", wash.digest(), digest);
        Check.dueThrow("P1 pane(0, 0)", IndexOutOfBoundsException.class, () -> wash.pane(0, 0));
        Check.dueThrow("P1 bay(0, 0)", IndexOutOfBoundsException.class, () -> wash.bay(0, 0));
        Check.dueThrow("P1 cradle(0, 0)", IndexOutOfBoundsException.class, () -> wash.cradle(0, 0));
        Check.dueThrow("P1 flock(0, 0)", IndexOutOfBoundsException.class, () -> wash.flock(0, 0));
        Check.due("P1 pass", wash.pass(3), 0);
        Check.due("P1 the hour then", wash.count(0), 3);
    }

    private static void feeding() {
        SkylightWash wash = new SkylightWash();
        // "bay a panes 2 thick " and "9;" with line ends behind it
        Check.due("P2 feed", wash.feed(0x62617920, 0x61207061, 0x6e657320, 0x32207468, 0x69636b20), 20);
        Check.due("P2 feed again", wash.feed(0x393b0a0a, 0x0a0a0a0a, 0x0a0a0a0a, 0x0a0a0a0a, 0x0a0a0a20), 40);
        Check.due("P2 count(13)", wash.count(13), 40);
        Check.due("P2 teach", wash.teach(), 0);
        Check.due("P2 the panes", wash.bay(0, 0), 2);
        Check.due("P2 the thick", wash.bay(0, 1), 9);
        Check.due("P2 bytes that are negative", wash.feed(-1, 0x80808080, Integer.MIN_VALUE, 0, 1), 20);
        Check.due("P2 teach of them", wash.teach(), 1);
        Check.due("P2 errorAt of them", wash.errorAt(), 0);
    }

    private static void feedingTooMuch() {
        SkylightWash wash = new SkylightWash();
        for (int i = 1; i <= 100; i++) {
            Check.due("P2 feed " + i, wash.feed(0x20202020, 0x20202020, 0x20202020, 0x20202020, 0x20202020), 20 * i);
        }
        Check.dueThrow("P2 feed 101", IllegalStateException.class, () -> wash.feed(0, 0, 0, 0, 0));
        Check.due("P2 the tape then", wash.count(13), 2000);
        wash.trim(1981);
        Check.dueThrow("P2 feed at 1981", IllegalStateException.class, () -> wash.feed(0, 0, 0, 0, 0));
        Check.due("P2 the tape then", wash.count(13), 1981);
        wash.trim(1980);
        Check.due("P2 feed at 1980", wash.feed(0x20202020, 0x20202020, 0x20202020, 0x20202020, 0x20202020), 2000);
        Check.due("P2 teach of 2000 blanks", wash.teach(), 0);
        Check.due("P2 the tape behind teach", wash.count(13), 0);
    }

    private static void trimming() {
        SkylightWash wash = new SkylightWash();
        Check.due("P3 trim of nothing", wash.trim(0), 0);
        Check.dueThrow("P3 trim(1) of nothing", IllegalArgumentException.class, () -> wash.trim(1));
        Check.feed(wash, BAY + "!");
        int length = BAY.length() + 1;
        Check.dueThrow("P3 trim(-1)", IllegalArgumentException.class, () -> wash.trim(-1));
        Check.dueThrow("P3 trim of more", IllegalArgumentException.class, () -> wash.trim(length + 1));
        Check.dueThrow("P3 trim of least", IllegalArgumentException.class, () -> wash.trim(Integer.MIN_VALUE));
        Check.due("P3 the tape then", wash.count(13), length);
        Check.due("P3 trim of all", wash.trim(length), length);
        Check.due("P3 trim of the last", wash.trim(length - 1), length - 1);
        Check.feed(wash, "bay b panes 3 thick 2;");
        Check.due("P3 teach of what is kept and fed", wash.teach(), 0);
        Check.due("P3 panes", wash.count(3), 5);
    }

    private static void teachingAnew() {
        SkylightWash wash = Check.taught(ALL + "chimney h at 1 soot 30 every 1 reach 9; go c to 1; scare f when 1 = 1;");
        wash.setWind(-2);
        wash.pass(20);
        Check.due("P4 let go before", wash.count(11), 2);
        Check.feed(wash, "bay z panes 3 thick 4; cradle c at 1 speed 2 wash 3; flock g birds 4 every 5;");
        Check.due("P4 teach", wash.teach(), 0);
        long[] counts = {20, -2, 1, 3, 0, 1, 1, 0, 300, 0, 0, 0, 0, 0};
        for (int what = 0; what < counts.length; what++) {
            Check.due("P4 count(" + what + ")", wash.count(what), counts[what]);
        }
        Check.due("P4 the cradle's pane", wash.cradle(0, 0), 1);
        Check.due("P4 its water", wash.cradle(0, 3), 20);
        Check.due("P4 what it washed off", wash.cradle(0, 5), 0);
        Check.due("P4 the flock's pane", wash.flock(0, 0), -1);
        Check.due("P4 its moves", wash.flock(0, 3), 0);
        for (int pane = 0; pane < 3; pane++) {
            for (int what = 1; what < 4; what++) {
                Check.due("P4 pane(" + pane + ", " + what + ")", wash.pane(pane, what), 0);
            }
        }
        Check.due("P4 teach of an empty tape", wash.teach(), 0);
        Check.due("P4 no panes then", wash.count(3), 0);
        Check.due("P4 the hour stays", wash.count(0), 20);
        Check.due("P4 the wind stays", wash.count(1), -2);
    }

    private static void teachingTheSameAnew() {
        String list = "bay a panes 3 thick 9; chimney h at 1 soot 30 every 1 reach 9; cradle c at 2 speed 1 wash 5;"
                + "flock f birds 3 every 2; go c to 1;";
        SkylightWash wash = Check.taught(list);
        wash.pass(5);
        Check.due("P4 a cradle that went", wash.cradle(0, 0), 1);
        Check.feed(wash, list);
        Check.due("P4 teach of the same", wash.teach(), 0);
        SkylightWash other = Check.taught("");
        other.pass(5);
        Check.feed(other, list);
        other.teach();
        Check.due("P4 all begins anew", wash.digest(), other.digest());
        Check.due("P4 no dirt", wash.count(9), 0);
    }

    private static void teachingWrongly() {
        SkylightWash wash = Check.taught(ALL + "chimney h at 1 soot 30 every 1 reach 9; go c to 1; scare f when 1 = 1;");
        wash.pass(3);
        long digest = wash.digest();
        String[] wrong = {"bay", "bay q panes 3 thick 1; bay q", "bay q panes 9 thick 1;", "go c to 1;",
            "bay q panes 3 thick 1; bay q panes 3 thick 1;", "bay b panes 1 thick 1; cradle x at 0 speed 9 wash 9; go y to 0;"};
        int[] errors = {1, 1, 5, 3, 2, 3};
        for (int i = 0; i < wrong.length; i++) {
            Check.feed(wash, wrong[i]);
            Check.due("P4 teach of " + wrong[i], wash.teach(), errors[i]);
            Check.due("P4 all stays, and the tape is empty behind " + wrong[i], wash.digest(), digest);
        }
        wash.pass(1);
        Check.due("P4 the old list still holds", wash.cradle(0, 4), 1);
    }

    private static void errorPlaces() {
        SkylightWash wash = new SkylightWash();
        Check.due("P5 ahead of all", wash.errorAt(), -1);
        Check.feed(wash, "bay a panes ;");
        Check.due("P5 ahead of teach", wash.errorAt(), -1);
        wash.teach();
        Check.due("P5 behind error 1", wash.errorAt(), 12);
        Check.due("P5 once more", wash.errorAt(), 12);
        Check.feed(wash, " bay a panes 0 thick 1;");
        wash.teach();
        Check.due("P5 behind error 5", wash.errorAt(), 13);
        Check.feed(wash, BAY);
        wash.teach();
        Check.due("P5 behind none", wash.errorAt(), -1);
    }

    private static void tokens() {
        Check.dueError("", 0, -1);
        Check.dueError(" \n\n ", 0, -1);
        Check.dueError("\nbay\na\npanes\n000002thick 1;\n", 0, -1);
        Check.dueError("bay abcdefghi0 panes 1thick 1;", 0, -1);
        Check.dueError("bay abcdefghi01 panes 1thick 1;", 1, 4);
        Check.dueError("bay bay1 panes 1 thick 1;bay bays panes 1 thick 1;", 0, -1);
        Check.dueError("bay bay panes 1 thick 1;", 1, 4);
        Check.dueError("bay a panes 000001 thick 1;", 0, -1);
        Check.dueError("bay a panes 0000001 thick 1;", 1, 12);
        Check.dueError("bay a panes1 thick 1;", 1, 6);
        Check.dueError("baya panes 1 thick 1;", 1, 0);
        Check.dueError("bay a\tpanes 1 thick 1;", 1, 5);
        Check.dueError("bay a panes 1 thick 1;\r", 1, 22);
        Check.dueError("bay A panes 1 thick 1;", 1, 4);
        Check.dueError("bay a_b panes 1 thick 1;", 1, 5);
        Check.dueError("bay a panes 1 thick 1;" + (char) 225, 1, 22);
        Check.dueError("bay a panes 1 thick 1;" + (char) 0, 1, 22);
        Check.dueError(CRADLE + "go c to 1 when 1<=1 and 1>=1 and 1<1 and 1>1 and 1=1;", 0, -1);
        Check.dueError(CRADLE + "go c to 1 when 1< =1;", 1, CRADLE.length() + 18);
        Check.dueError(CRADLE + "go c to 1 when 1=<1;", 1, CRADLE.length() + 17);
        Check.dueError(CRADLE + "go c to 1+-1*(2)/[;", 1, CRADLE.length() + 17);
        Check.dueError(CRADLE + "go c to 999999;", 0, -1);
    }

    private static void grammar() {
        Check.dueError("bay", 1, 3);
        Check.dueError("bay  ", 1, 5);
        Check.dueError(BAY + ";", 1, BAY.length());
        Check.dueError("bay a panes 1 thick 1", 1, 21);
        Check.dueError("bay a thick 1 panes 1;", 1, 6);
        Check.dueError("panes 1;", 1, 0);
        Check.dueError("7;", 1, 0);
        Check.dueError(BAY + "chimney h at 0 soot 1 every 1 reach 0;", 0, -1);
        Check.dueError(BAY + "chimney h at 0 soot 1 reach 0 every 1;", 1, BAY.length() + 22);
        Check.dueError(BAY + "chimney h at -1 soot 1 every 1 reach 0;", 1, BAY.length() + 13);
        Check.dueError(ALL + "scare f;", 1, ALL.length() + 7);
        Check.dueError(ALL + "scare f when 1;", 1, ALL.length() + 14);
        Check.dueError(ALL + "scare f when 1 (2);", 1, ALL.length() + 15);
        Check.dueError(ALL + "scare f when 1 2;", 1, ALL.length() + 15);
        Check.dueError(ALL + "scare f when 1 < 2 < 3;", 1, ALL.length() + 19);
        Check.dueError(ALL + "scare f when [1 < 2;", 1, ALL.length() + 19);
        Check.dueError(ALL + "scare f when (1 < 2);", 1, ALL.length() + 16);
        Check.dueError(ALL + "scare f when [1] < 2;", 1, ALL.length() + 15);
        Check.dueError(ALL + "scare f when dark a or not dark a and not [dark a and [1] = 1];", 1, ALL.length() + 56);
        Check.dueError(ALL + "scare f when dark a or not dark a and not [dark a or 1 = 1];", 0, -1);
        Check.dueError(ALL + "scare f when dark;", 1, ALL.length() + 17);
        Check.dueError(ALL + "scare f when not;", 1, ALL.length() + 16);
        Check.dueError(ALL + "go c 1;", 1, ALL.length() + 5);
        Check.dueError(ALL + "go c to;", 1, ALL.length() + 7);
        Check.dueError(ALL + "go c to 1 1;", 1, ALL.length() + 10);
        Check.dueError(ALL + "go c to 1 when;", 1, ALL.length() + 14);
        Check.dueError(ALL + "go c to c;", 1, ALL.length() + 8);
        Check.dueError(ALL + "go c to +1;", 1, ALL.length() + 8);
        Check.dueError(ALL + "go c to min(1);", 1, ALL.length() + 13);
        Check.dueError(ALL + "go c to max(1,2,3);", 1, ALL.length() + 15);
        Check.dueError(ALL + "go c to (1,2);", 1, ALL.length() + 10);
        Check.dueError(ALL + "go c to min 1;", 1, ALL.length() + 12);
        Check.dueError(ALL + "go c to crack 1;", 1, ALL.length() + 14);
        Check.dueError(ALL + "go c to at 1;", 1, ALL.length() + 11);
        Check.dueError(ALL + "go c to water hour;", 1, ALL.length() + 14);
        Check.dueError(ALL + "go c to min(hour, wind) - max(light, -1) * dirt(crack(1)) / at c + water c - perch f;", 0, -1);
    }

    private static void tokenLimit() {
        // 16 tokens, and 384 more: go c to, - 0, 189 times + 0, and ;
        String begin = "bay a panes 1 thick 1;cradle c at 0 speed 1 wash 1;go c to ";
        Check.dueError(begin + "-0" + "+0".repeat(189) + "; \n", 0, -1);
        String long1 = begin + "0" + "+0".repeat(190);
        Check.dueError(long1 + ";", 1, long1.length());
        Check.dueError(long1 + " ", 1, long1.length() + 1);
        Check.dueError(long1 + "!", 1, long1.length());
        Check.dueError(begin + "-0" + "+0".repeat(189) + ";bay", 1, begin.length() + 381);
    }

    private static void depthInTests() {
        String begin = ALL + "scare f when ";
        Check.dueError(begin + "[".repeat(8) + "1=1" + "]".repeat(8) + ";", 0, -1);
        Check.dueError(begin + "[".repeat(9) + "1=1" + "]".repeat(9) + ";", 1, begin.length() + 8);
        Check.dueError(begin + "not ".repeat(8) + "1=1;", 0, -1);
        Check.dueError(begin + "not ".repeat(9) + "1=1;", 1, begin.length() + 32);
        Check.dueError(begin + "not ".repeat(8) + "1=-1;", 1, begin.length() + 34);
        Check.dueError(begin + "not ".repeat(8) + "(1)=1;", 1, begin.length() + 32);
        Check.dueError(begin + "not ".repeat(8) + "dirt(1)=1;", 1, begin.length() + 36);
        Check.dueError(begin + "not not not [ not [ not [ not dark a] or " + "not ".repeat(3) + "dark a ]];", 1, begin.length() + 26);
        Check.dueError(CRADLE + "go c to 1 when " + "[".repeat(8) + "1=1" + "]".repeat(8) + ";", 0, -1);
        Check.dueError(CRADLE + "go c to 1 when " + "[".repeat(9) + "1=1" + "]".repeat(9) + ";", 1, CRADLE.length() + 23);
        Check.dueError(begin + "not not not [ not [ not [ dark a] or not not dark a ]] and " + "not ".repeat(8) + "dark a;", 0, -1);
    }

    private static void depthInSums() {
        String begin = CRADLE + "go c to ";
        Check.dueError(begin + "(".repeat(8) + "1" + ")".repeat(8) + ";", 0, -1);
        Check.dueError(begin + "(".repeat(9) + "1" + ")".repeat(9) + ";", 1, begin.length() + 8);
        Check.dueError(begin + "-".repeat(8) + "1;", 0, -1);
        Check.dueError(begin + "-".repeat(9) + "1;", 1, begin.length() + 8);
        Check.dueError(begin + "-".repeat(8) + "1-1*" + "-".repeat(8) + "1;", 0, -1);
        Check.dueError(begin + "-".repeat(8) + "(1);", 1, begin.length() + 8);
        Check.dueError(begin + "-1-" + "(".repeat(8) + "1" + ")".repeat(8) + ";", 0, -1);
        Check.dueError(begin + "dirt(".repeat(8) + "1" + ")".repeat(8) + ";", 0, -1);
        Check.dueError(begin + "dirt(".repeat(9) + "1" + ")".repeat(9) + ";", 1, begin.length() + 44);
        Check.dueError(begin + "min(1,".repeat(8) + "1" + ")".repeat(8) + ";", 0, -1);
        Check.dueError(begin + "min(".repeat(8) + "1" + ",1)".repeat(8) + ";", 0, -1);
        Check.dueError(begin + "min(".repeat(9) + "1" + ",1)".repeat(9) + ";", 1, begin.length() + 35);
        Check.dueError(begin + "max(1,".repeat(9) + "1" + ")".repeat(9) + ";", 1, begin.length() + 51);
        Check.dueError(begin + "min(1," + "(".repeat(7) + "1" + ")".repeat(7) + ");", 0, -1);
        Check.dueError(begin + "min(1," + "(".repeat(8) + "1" + ")".repeat(8) + ");", 1, begin.length() + 13);
        Check.dueError(begin + "max(" + "-".repeat(7) + "1," + "-".repeat(8) + "1);", 1, begin.length() + 20);
    }

    private static void sameNames() {
        Check.dueError("bay a panes 1 thick 1;bay a panes 1 thick 1;", 2, 26);
        Check.dueError(BAY + "chimney a at 0 soot 1 every 1 reach 0;cradle a at 0 speed 1 wash 1;flock a birds 1 every 1;"
                + "go a to at a;scare a when perch a = 0 and dark a;", 0, -1);
        Check.dueError(BAY + "chimney a at 0 soot 1 every 1 reach 0;chimney a at 0 soot 1 every 1 reach 0;", 2, BAY.length() + 46);
        Check.dueError(CRADLE + "cradle d at 0 speed 1 wash 1;cradle c at 0 speed 1 wash 1;", 2, CRADLE.length() + 36);
        Check.dueError("flock f birds 1 every 1;flock f birds 1 every 1;", 2, 30);
        Check.dueError("flock f1 birds 1 every 1;flock f birds 1 every 1;flock f2 birds 1 every 1;", 0, -1);
        Check.dueError("flock abcdefghij birds 1 every 1;flock abcdefghik birds 1 every 1;", 0, -1);
    }

    private static void unknownNames() {
        int n = ALL.length();
        Check.dueError(ALL + "go d to 1;", 3, n + 3);
        Check.dueError(ALL + "go f to 1;", 3, n + 3);
        Check.dueError(ALL + "go c to at f;", 3, n + 11);
        Check.dueError(ALL + "go c to water a;", 3, n + 14);
        Check.dueError(ALL + "go c to perch c;", 3, n + 14);
        Check.dueError(ALL + "scare c when 1 = 1;", 3, n + 6);
        Check.dueError(ALL + "scare f when dark f;", 3, n + 18);
        Check.dueError(ALL + "scare f when 1 = 1 and not [perch g = 1];", 3, n + 34);
        Check.dueError("go c to 1;" + ALL, 3, 3);
        Check.dueError(CRADLE + "go c to perch f;flock f birds 1 every 1;", 3, CRADLE.length() + 14);
        Check.dueError(ALL + "go c to at d when dark b;", 3, n + 11);
    }

    private static void tooMany() {
        StringBuilder list = new StringBuilder();
        for (int i = 0; i < 5; i++) {
            list.append("bay b").append(i).append(" panes 8 thick 9;");
        }
        Check.dueError(list.toString(), 0, -1);
        Check.dueError(list + "bay c panes 8 thick 9;", 4, list.length() + 4);
        Check.dueError(list + "bay c panes 9 thick 9;", 4, list.length() + 4);
        Check.dueError(list + "bay b4 panes 8 thick 9;", 2, list.length() + 4);
        Check.due("panes", Check.taught(list.toString()).count(3), 40);
        StringBuilder chimneys = new StringBuilder(BAY);
        for (int i = 0; i < 4; i++) {
            chimneys.append("chimney h").append(i).append(" at 1 soot 1 every 1 reach 1;");
        }
        Check.dueError(chimneys.toString(), 0, -1);
        Check.dueError(chimneys + "chimney c at 1 soot 1 every 1 reach 1;", 4, chimneys.length() + 8);
        StringBuilder cradles = new StringBuilder(BAY);
        StringBuilder flocks = new StringBuilder();
        for (int i = 0; i < 3; i++) {
            cradles.append("cradle c").append(i).append(" at 1 speed 1 wash 1;");
            flocks.append("flock f").append(i).append(" birds 1 every 1;");
        }
        Check.dueError(cradles.toString(), 0, -1);
        Check.dueError(cradles + "cradle c at 1 speed 1 wash 1;", 4, cradles.length() + 7);
        Check.dueError(flocks.toString(), 0, -1);
        Check.dueError(flocks + "flock f birds 1 every 1;", 4, flocks.length() + 6);
        Check.dueError(flocks + "flock f2 birds 1 every 1;", 2, flocks.length() + 6);
    }

    private static void tooManyOrders() {
        String list = ALL + "go c to 1;".repeat(9) + "scare f when 1=1;".repeat(7);
        Check.dueError(list, 0, -1);
        Check.due("orders", Check.taught(list).count(7), 16);
        Check.dueError(list + " go c to 1;", 4, list.length() + 1);
        Check.dueError(list + " go x to 1;", 4, list.length() + 1);
        Check.dueError(list + "scare f when 1=1;", 4, list.length());
        Check.dueError(list + "scare f when 1=1 1;", 1, list.length() + 17);
    }

    private static void ranges() {
        range("bay a panes ", " thick 1;", 1, 8);
        range("bay a panes 1 thick ", ";", 1, 9);
        String at = "bay a panes 8 thick 9;bay b panes 8 thick 9;bay c panes 8 thick 9;bay d panes 8 thick 9;bay e panes 8 thick 9;";
        range(at + "chimney h at ", " soot 1 every 1 reach 1;", 0, 39);
        range(at + "chimney h at 1 soot ", " every 1 reach 1;", 1, 30);
        range(at + "chimney h at 1 soot 1 every ", " reach 1;", 1, 12);
        range(at + "chimney h at 1 soot 1 every 1 reach ", ";", 0, 9);
        range(at + "cradle h at ", " speed 1 wash 1;", 0, 39);
        range(at + "cradle h at 1 speed ", " wash 1;", 1, 9);
        range(at + "cradle h at 1 speed 1 wash ", ";", 1, 60);
        range(at + "flock h birds ", " every 1;", 1, 20);
        range(at + "flock h birds 1 every ", ";", 1, 12);
    }

    private static void range(String ahead, String behind, int least, int most) {
        Check.dueError(ahead + least + behind, 0, -1);
        Check.dueError(ahead + most + behind, 0, -1);
        Check.dueError(ahead + (most + 1) + behind, 5, ahead.length());
        Check.dueError(ahead + 999999 + behind, 5, ahead.length());
        if (least > 0) {
            Check.dueError(ahead + (least - 1) + behind, 5, ahead.length());
        }
    }

    private static void placesTold() {
        Check.dueError("cradle c at 0 speed 1 wash 1;" + BAY, 5, 12);
        Check.dueError("chimney h at 0 soot 1 every 1 reach 1;" + BAY, 5, 13);
        Check.dueError(BAY + "cradle c at 1 speed 1 wash 1;chimney h at 1 soot 1 every 1 reach 1;", 0, -1);
        Check.dueError(BAY + "cradle c at 2 speed 1 wash 1;bay b panes 1 thick 1;", 5, BAY.length() + 12);
        Check.dueError(BAY + "bay b panes 1 thick 1;cradle c at 2 speed 1 wash 1;", 0, -1);
        Check.dueError(BAY + "chimney h at 2 soot 1 every 1 reach 1;", 5, BAY.length() + 13);
    }

    private static void orderOfErrors() {
        Check.dueError("bay a panes 9 thick 0;bay a panes 1 thick 1;", 5, 12);
        Check.dueError("bay a panes 1 thick 0;bay a panes 1 thick 1;", 5, 20);
        Check.dueError("bay a panes 9 thick 1;bay a panes 1 thick", 1, 41);
        Check.dueError("go c to at d when perch e = 1;bay a panes 9 thick 1;", 3, 3);
        Check.dueError(BAY + "bay a panes 9 thick 1;go c to 1;", 2, BAY.length() + 4);
    }
}
