import java.util.Set;

/**
 * Each sentence of the document's terms, its section 1 and its promises 1 to 5
 * that names a boundary case, with a test of its own.
 */
public final class LanguageEdgesTest {
    private static final String BAY = "bay a panes 2 thick 1;";
    private static final String CRADLE = BAY + "cradle c at 0 speed 1 wash 1;";
    private static final String ALL = CRADLE + "flock f birds 1 every 1;";
    private static final String FIVE_BAYS = "bay a panes 8 thick 9;bay b panes 8 thick 9;bay c panes 8 thick 9;"
            + "bay d panes 8 thick 9;bay e panes 8 thick 9;";
    private static final String KEYWORDS = "bay panes thick chimney at soot every reach cradle speed wash flock birds go to"
            + " scare when hour wind light dirt crack water perch dark not and or min max";
    // The greatest number and the least, of numbers of 6 digits.
    private static final String GREATEST = "(46340 * 46340 + 88047)";
    private static final String LEAST = "(-46340 * 46340 - 88048)";

    private LanguageEdgesTest() {
    }

    public static void main(String[] args) {
        wrapping();
        cutting();
        dividingByNothing();
        dividingTheLeast();
        positions();
        hours();
        tapeFull();
        tapeAtFirst();
        tapeBehindTeach();
        blanks();
        blanksThatHaveToStand();
        longestToken();
        words();
        longestWord();
        longestNumber();
        symbols();
        otherWords();
        anyNumberOfTimes();
        comparing();
        fromLeftToRight();
        turningValues();
        leastAndMost();
        depthOfRound();
        depthOfWords();
        depthOfSquare();
        depthOfMinus();
        depthOfNot();
        depthEnds();
        bytesOfNoToken();
        tooLong();
        endOfTape();
        tooManyTokens();
        firstError();
        errorOneFirst();
        leftToRight();
        smallestNumber();
        sameName();
        sameNameOfAnotherSort();
        otherNameOfCradle();
        otherNameOfFlock();
        otherNameOfBay();
        toldAhead();
        toldByAnotherList();
        sixthBay();
        fifthChimney();
        fourthCradle();
        fourthFlock();
        seventeenthOrder();
        rangesOfBays();
        rangesOfChimneys();
        rangesOfCradles();
        rangesOfFlocks();
        numbersOfSums();
        placesToldAhead();
        numbering();
        paneNumbering();
        newObject();
        feeding();
        feedingBytes();
        feedingTooMuch();
        trimming();
        trimmingWrongly();
        teachingAnew();
        teachingOften();
        teachingLess();
        teachingWrongly();
        teachingWronglyLater();
        teachingNothing();
        errorPlaces();
        noErrorPlace();
        Check.finish();
    }

    private static void holds(String test) {
        SkylightWash wash = Check.taught(CRADLE + "go c to 1 when " + test + ";");
        Check.due(test, wash.cradle(0, 4), 1);
    }

    // ---- the terms

    private static void wrapping() {
        Check.sentence("sums, differences and products of the language wrap around in 32 bits");
        holds(GREATEST + " > 0 and " + LEAST + " < 0 and " + GREATEST + " + " + LEAST + " = -1");
        holds(GREATEST + " + 1 = " + LEAST);
        holds(GREATEST + " + " + GREATEST + " = -2");
        holds(LEAST + " - 1 = " + GREATEST);
        holds(LEAST + " - " + GREATEST + " = 1");
        holds("0 - " + LEAST + " = " + LEAST);
        holds("-" + LEAST + " = " + LEAST);
        holds("65536 * 65536 = 0");
        holds("65536 * 32768 = " + LEAST);
        holds("999999 * 999999 = -729379 * 1000 - 967");
        holds(GREATEST + " * " + GREATEST + " = 1");
        holds(LEAST + " * -1 = " + LEAST);
    }

    private static void cutting() {
        Check.sentence("/ is cut towards 0");
        holds("7 / 2 = 3");
        holds("-7 / 2 = -3");
        holds("7 / -2 = -3");
        holds("-7 / -2 = 3");
        holds("-1 / 2 = 0");
        holds("1 / " + LEAST + " = 0");
    }

    private static void dividingByNothing() {
        Check.sentence("gives 0 with 0 on the right side");
        holds("5 / 0 = 0");
        holds("-5 / 0 = 0");
        holds("0 / 0 = 0");
        holds(LEAST + " / 0 = 0");
        holds(GREATEST + " / (1 - 1) = 0");
        holds("1 / hour = 0");
    }

    private static void dividingTheLeast() {
        Check.sentence("-2147483648 / -1 gives -2147483648");
        holds(LEAST + " / -1 = " + LEAST);
        holds(LEAST + " / 1 = " + LEAST);
        holds("(" + LEAST + " + 1) / -1 = " + GREATEST);
    }

    private static void positions() {
        Check.sentence("Positions of the tape are counted from 0, in bytes.");
        Check.dueError("!", 1, 0);
        Check.dueError(" !", 1, 1);
        Check.dueError("\n\n!", 1, 2);
        Check.dueError("bay " + (char) 228 + " panes", 1, 4);
        Check.dueError(" ".repeat(1979) + "!", 1, 1979);
    }

    private static void hours() {
        Check.sentence("Time is told in hours, from 0.");
        SkylightWash wash = Check.taught(CRADLE + "go c to 1 when hour = 0;");
        Check.due("the hour", wash.count(0), 0);
        Check.due("the cradle is sent in the hour 0", wash.cradle(0, 4), 1);
        wash.pass(1);
        Check.due("the hour behind one", wash.count(0), 1);
    }

    // ---- 1. The language

    private static void tapeFull() {
        Check.sentence("The tape is a row of at most 2000 bytes");
        String blanks = " ".repeat(2000 - BAY.length());
        Check.dueError(blanks + BAY, 0, -1);
        Check.dueError(" ".repeat(1999) + "!", 1, 1999);
        Check.dueError(" ".repeat(1998) + "<=", 1, 1998);
        Check.dueError(" ".repeat(1998) + "1<", 1, 1998);
        Check.dueError(blanks + BAY.replace(';', ' '), 1, 2000);
        Check.dueError(" ".repeat(1997) + "bay", 1, 2000);
        Check.dueError(" ".repeat(1989) + "abcdefghijk", 1, 1989);
        SkylightWash wash = new SkylightWash();
        Check.feed(wash, blanks + BAY);
        Check.due("its bytes", wash.count(13), 2000);
        wash.teach();
        Check.due("the panes of what stood at its end", wash.count(3), 2);
    }

    private static void tapeAtFirst() {
        Check.sentence("at first empty, which feed and trim fill");
        SkylightWash wash = new SkylightWash();
        Check.due("its bytes", wash.count(13), 0);
        Check.due("trim", wash.trim(0), 0);
        Check.due("teach", wash.teach(), 0);
        Check.due("errorAt", wash.errorAt(), -1);
    }

    private static void tapeBehindTeach() {
        Check.sentence("teach reads it as a list, and it is empty behind it.");
        SkylightWash wash = new SkylightWash();
        Check.feed(wash, BAY);
        wash.teach();
        Check.due("its bytes behind a list", wash.count(13), 0);
        Check.dueThrow("trim(1)", IllegalArgumentException.class, () -> wash.trim(1));
        Check.feed(wash, BAY + "!");
        wash.teach();
        Check.due("its bytes behind an error", wash.count(13), 0);
        Check.due("feed then", wash.feed(0x20202020, 0x20202020, 0x20202020, 0x20202020, 0x20202020), 20);
        Check.due("teach then", wash.teach(), 0);
    }

    private static boolean isBlank(int sign) {
        return sign == 32 || sign == 10;
    }

    private static boolean isOfWord(int sign) {
        return sign >= 'a' && sign <= 'z' || sign >= '0' && sign <= '9';
    }

    private static void blanks() {
        Check.sentence("Blanks (32) and line ends (10) can stand between tokens, at the beginning and at the end");
        for (int sign = 0; sign < 256; sign++) {
            int error = isBlank(sign) ? 0 : 1;
            Check.dueError((char) sign + BAY, error, error == 0 ? -1 : 0);
            Check.dueError(BAY + (char) sign, error, error == 0 ? -1 : BAY.length());
            if (!isOfWord(sign)) {
                Check.dueError("bay a" + (char) sign + "panes 2 thick 1;", error, error == 0 ? -1 : 5);
            }
        }
        Check.dueError("\n \n" + BAY.replace(" ", " \n\n ").replace(";", " ;") + "\n \n", 0, -1);
    }

    private static void blanksThatHaveToStand() {
        Check.sentence("and have to stand between two tokens that would otherwise be read as one.");
        Check.dueError("baya panes 2 thick 1;", 1, 0);
        Check.dueError("bay apanes 2 thick 1;", 1, 11);
        Check.dueError("bay a panes2 thick 1;", 1, 6);
        Check.dueError("bay a panes 2thick 1;", 0, -1);
        Check.dueError("bay a panes 2 thick1;", 1, 14);
        Check.dueError(CRADLE + "go c to-1;go c to(1);go c to 1when 1=1and 2=2or 3=3;", 0, -1);
        Check.dueError(CRADLE + "go c to 1 when 1 < = 1;", 1, CRADLE.length() + 19);
        Check.dueError(CRADLE + "go c to 1 when 1 > = 1;", 1, CRADLE.length() + 19);
    }

    private static void longestToken() {
        Check.sentence("The longest possible token is always read.");
        Check.dueError(CRADLE + "go c to 1 when 1<=1;", 0, -1);
        Check.dueError(CRADLE + "go c to 1 when 1>=1;", 0, -1);
        Check.dueError(CRADLE + "go c to 1 when 1<==1;", 1, CRADLE.length() + 18);
        Check.dueError(CRADLE + "go c to 1 when 1>==1;", 1, CRADLE.length() + 18);
        Check.dueError(CRADLE + "go c to 1 when 1=<1;", 1, CRADLE.length() + 17);
        Check.dueError(CRADLE + "go c to 1 when 1<>1;", 1, CRADLE.length() + 17);
        Check.dueError(CRADLE + "go c to 1 when 1==1;", 1, CRADLE.length() + 17);
        Check.dueError("bay atbay panes 1 thick 1;bay min1 panes 1 thick 1;", 0, -1);
        Check.dueError("bay a panes 2 thick 1;cradle c at0 speed 1 wash 1;", 1, 31);
        Check.dueError(BAY + "cradle c at 00001 speed 1 wash 1;", 0, -1);
    }

    private static void words() {
        Check.sentence("A word: a letter a to z, followed by letters a to z and digits");
        for (int sign = 33; sign < 256; sign++) {
            boolean isLetter = sign >= 'a' && sign <= 'z';
            Check.dueError("bay " + (char) sign + " panes 2 thick 1;", isLetter ? 0 : 1, isLetter ? -1 : 4);
            Check.dueError("bay x" + (char) sign + " panes 2 thick 1;", isOfWord(sign) ? 0 : 1, isOfWord(sign) ? -1 : 5);
        }
        Check.dueError("bay z9a0 panes 2 thick 1;", 0, -1);
        Check.dueError("bay 9z panes 2 thick 1;", 1, 4);
    }

    private static void longestWord() {
        Check.sentence("at most 10 bytes");
        Check.dueError("bay abcdefghij panes 2 thick 1;", 0, -1);
        Check.dueError("bay a123456789 panes 2 thick 1;", 0, -1);
        Check.dueError("bay abcdefghijk panes 2 thick 1;", 1, 4);
        Check.dueError("bay a1234567890 panes 2 thick 1;", 1, 4);
        Check.dueError("bay " + "z".repeat(1000) + " panes 2 thick 1;", 1, 4);
        Check.dueError("bay zzzzzzzzzz panes 2 thick 1;bay zzzzzzzzzy panes 2 thick 1;bay zzzzzzzzz panes 1 thick 1;", 0, -1);
        Check.dueError("bay zzzzzzzzzz panes 2 thick 1;bay zzzzzzzzzz panes 2 thick 1;", 2, 35);
    }

    private static void longestNumber() {
        Check.sentence("A number: 1 to 6 digits.");
        Check.dueError("bay a panes 000008 thick 9;", 0, -1);
        Check.dueError("bay a panes 8 thick 000009;", 0, -1);
        Check.dueError("bay a panes 0000008 thick 9;", 1, 12);
        Check.dueError("bay a panes " + "0".repeat(1000) + "8 thick 9;", 1, 12);
        Check.dueError("bay a panes 100000 thick 9;", 5, 12);
        Check.dueError("bay a panes thick 9;", 1, 12);
        holds("999999 = 1000 * 1000 - 1");
        holds("000000 = 0 and 000012 = 12");
        Check.dueError(CRADLE + "go c to 1000000;", 1, CRADLE.length() + 8);
    }

    private static void symbols() {
        Check.sentence("Symbols: ( ) [ ] ; , + - * / < > = <= >=");
        String begin = CRADLE + "go c to 1";
        for (int sign = 33; sign < 256; sign++) {
            boolean binds = "+-*/".indexOf(sign) >= 0;
            if (!isOfWord(sign) && sign != ';') {
                int error = binds ? 0 : 1;
                Check.dueError(begin + (char) sign + "1;", error, binds ? -1 : begin.length());
            }
            boolean compares = "<>=".indexOf(sign) >= 0;
            if (!isOfWord(sign) && !binds) {
                int error = compares ? 0 : 1;
                Check.dueError(begin + " when 1" + (char) sign + "1;", error, compares ? -1 : begin.length() + 7);
            }
        }
        holds("[min(1, max(2, 3)) <= 1 and 1 >= (1)] and [2 > 1] and [1 < 2] and [1 + 1 - 1 * 4 / 2 = 0]");
    }

    private static void otherWords() {
        Check.sentence("All other words are names.");
        for (String keyword : KEYWORDS.split(" ")) {
            Check.dueError("bay " + keyword + " panes 2 thick 1;", 1, 4);
            Check.dueError("bay " + keyword + "0 panes 2 thick 1;", 0, -1);
            Check.dueError("bay " + keyword + "s panes 2 thick 1;", 0, -1);
            Check.dueError("bay x" + keyword + " panes 2 thick 1;", 0, -1);
            Check.dueError("bay " + keyword.substring(0, keyword.length() - 1) + " panes 2 thick 1;", 0, -1);
        }
        Set<String> near = Set.of("bey", "pain", "hours", "dusk", "nor", "mean", "list", "line", "pane", "test", "sum");
        for (String word : near) {
            Check.dueError("bay " + word + " panes 2 thick 1;", 0, -1);
        }
    }

    private static void anyNumberOfTimes() {
        Check.sentence("[ x ] outside of quotation marks means x or nothing, { x } x any number of times, also none");
        Check.dueError("", 0, -1);
        Check.dueError(";", 1, 0);
        Check.dueError(BAY, 0, -1);
        Check.dueError(BAY + ";", 1, BAY.length());
        Check.dueError(CRADLE + "go c to 1;", 0, -1);
        Check.dueError(CRADLE + "go c to 1 when 1=1;", 0, -1);
        Check.dueError(CRADLE + "go c to 1 when 1=1 when 1=1;", 1, CRADLE.length() + 19);
        Check.dueError(ALL + "scare f;", 1, ALL.length() + 7);
        Check.dueError(ALL + "scare f when 1=1;", 0, -1);
        holds("1" + "+1".repeat(30) + " = 31");
        holds("1" + "*2".repeat(10) + " = 1024");
        holds("1 = 1" + " and 1 = 1".repeat(20) + " or 1 = 2".repeat(20));
    }

    private static void comparing() {
        Check.sentence("single = sum ( \"<\" | \">\" | \"=\" | \"<=\" | \">=\" ) sum");
        holds("1 < 2 and not 2 < 2 and not 3 < 2");
        holds("3 > 2 and not 2 > 2 and not 1 > 2");
        holds("2 = 2 and not 1 = 2 and not 3 = 2");
        holds("1 <= 2 and 2 <= 2 and not 3 <= 2");
        holds("3 >= 2 and 2 >= 2 and not 1 >= 2");
        holds(LEAST + " < " + GREATEST + " and not " + GREATEST + " <= " + LEAST);
        holds(GREATEST + " > " + LEAST + " and not " + LEAST + " >= " + GREATEST);
        holds(LEAST + " = " + LEAST + " and not " + LEAST + " = " + GREATEST);
        Check.dueError(CRADLE + "go c to 1 when 1=1=1;", 1, CRADLE.length() + 18);
        Check.dueError(CRADLE + "go c to 1 when 1<2<=3;", 1, CRADLE.length() + 18);
        Check.dueError(CRADLE + "go c to 1 when [1=1]=1;", 1, CRADLE.length() + 20);
    }

    private static void fromLeftToRight() {
        Check.sentence("sum = product { ( \"+\" | \"-\" ) product }, product = value { ( \"*\" | \"/\" ) value }");
        holds("8 - 4 - 2 = 2 and 8 - 4 + 2 = 6 and 8 + 4 - 2 = 10");
        holds("8 / 4 / 2 = 1 and 7 / 2 * 2 = 6 and 2 * 7 / 4 = 3");
        holds("8 / (4 / 2) = 4 and 7 / (2 * 2) = 1 and 2 * (7 / 4) = 2 and 8 - (4 - 2) = 6");
        holds("2 + 3 * 4 = 14 and 20 - 6 / 3 = 18 and (2 + 3) * 4 = 20 and 2 * 3 + 4 = 10");
    }

    private static void turningValues() {
        Check.sentence("value = \"-\" value: what it turns is a value alone");
        holds("-" + LEAST + " / 2 = " + LEAST + " / 2");
        holds("-1 + 3 = 2 and --3 = 3 and 2 - -1 = 3 and -(1 + 1) = -2 and 2 * -3 = -6");
        Check.dueError(CRADLE + "go c to " + "-".repeat(8) + "1*(1)/(1)+(1);", 0, -1);
    }

    private static void leastAndMost() {
        Check.sentence("value = ( \"min\" | \"max\" ) \"(\" sum \",\" sum \")\"");
        holds("min(1, 2) = 1 and min(2, 1) = 1 and min(2, 2) = 2");
        holds("max(1, 2) = 2 and max(2, 1) = 2 and max(2, 2) = 2");
        holds("min(" + LEAST + ", " + GREATEST + ") = " + LEAST);
        holds("max(" + LEAST + ", " + GREATEST + ") = " + GREATEST);
        holds("min(-1, 0) = -1 and max(-1, 0) = 0");
    }

    // ---- the depth

    private static void depthOfRound() {
        Check.sentence("1 greater between a ( and its ). It may be at most 8.");
        String begin = CRADLE + "go c to ";
        Check.dueError(begin + "(".repeat(8) + "1" + ")".repeat(8) + ";", 0, -1);
        Check.dueError(begin + "(".repeat(9) + "1" + ")".repeat(9) + ";", 1, begin.length() + 8);
        Check.dueError(begin + "dirt(".repeat(8) + "1" + ")".repeat(8) + ";", 0, -1);
        Check.dueError(begin + "dirt(".repeat(9) + "1" + ")".repeat(9) + ";", 1, begin.length() + 44);
        Check.dueError(begin + "crack(".repeat(9) + "1" + ")".repeat(9) + ";", 1, begin.length() + 53);
        Check.dueError(begin + "min(1,".repeat(8) + "1" + ")".repeat(8) + ";", 0, -1);
        Check.dueError(begin + "max(1,".repeat(9) + "1" + ")".repeat(9) + ";", 1, begin.length() + 51);
        Check.dueError(begin + "min(".repeat(8) + "1" + ",1)".repeat(8) + ";", 0, -1);
        Check.dueError(begin + "min(".repeat(9) + "1" + ",1)".repeat(9) + ";", 1, begin.length() + 35);
        Check.dueError(begin + "max(" + "(".repeat(8) + "1" + ")".repeat(8) + ",1);", 1, begin.length() + 11);
        Check.dueError(begin + "(".repeat(8) + "at c+water c+hour*wind/light" + ")".repeat(8) + ";", 0, -1);
        Check.dueError(begin + "(".repeat(8) + "dirt(1)" + ")".repeat(8) + ";", 1, begin.length() + 12);
        Check.dueError(begin + "(".repeat(8) + "min(1,1)" + ")".repeat(8) + ";", 1, begin.length() + 11);
        Check.dueError(begin + "(".repeat(400), 1, begin.length() + 8);
    }

    private static void depthOfWords() {
        Check.sentence("the (, [, - or not behind which the depth would be 9: the (, not the word ahead of it");
        String[] ahead = {"[".repeat(8), "not ".repeat(8), "[not ".repeat(4), "(".repeat(8), "-".repeat(8), "not [".repeat(3) + "-(",
            "dirt(min(max(crack(dirt(min(max(crack("};
        for (String deep : ahead) {
            String begin = ALL + "scare f when " + deep;
            for (String word : new String[] {"dirt", "crack", "min", "max"}) {
                Check.dueError(begin + word + " (1", 1, begin.length() + word.length() + 1);
                Check.dueError(begin + word, 1, begin.length() + word.length());
                Check.dueError(begin + word + " 1", 1, begin.length() + word.length() + 1);
            }
            Check.dueError(begin + "hour (", 1, begin.length() + 5);
        }
    }

    private static void depthOfSquare() {
        Check.sentence("a [ and its ]. It may be at most 8.");
        String begin = ALL + "scare f when ";
        Check.dueError(begin + "[".repeat(8) + "1=1" + "]".repeat(8) + ";", 0, -1);
        Check.dueError(begin + "[".repeat(9) + "1=1" + "]".repeat(9) + ";", 1, begin.length() + 8);
        Check.dueError(begin + "[".repeat(8) + "dark a" + "]".repeat(8) + ";", 0, -1);
        Check.dueError(begin + "[".repeat(8) + "(1)=1" + "]".repeat(8) + ";", 1, begin.length() + 8);
        Check.dueError(begin + "[".repeat(8) + "1=-1" + "]".repeat(8) + ";", 1, begin.length() + 10);
        Check.dueError(begin + "[".repeat(8) + "not dark a" + "]".repeat(8) + ";", 1, begin.length() + 8);
        Check.dueError(begin + "[".repeat(300), 1, begin.length() + 8);
        String go = CRADLE + "go c to 1 when ";
        Check.dueError(go + "[".repeat(8) + "1=1" + "]".repeat(8) + ";", 0, -1);
        Check.dueError(go + "[".repeat(9) + "1=1" + "]".repeat(9) + ";", 1, go.length() + 8);
    }

    private static void depthOfMinus() {
        Check.sentence("behind a - in front (of a value) for what it turns. It may be at most 8.");
        String begin = CRADLE + "go c to ";
        Check.dueError(begin + "-".repeat(8) + "1;", 0, -1);
        Check.dueError(begin + "-".repeat(9) + "1;", 1, begin.length() + 8);
        Check.dueError(begin + "-".repeat(8) + "(1);", 1, begin.length() + 8);
        Check.dueError(begin + "-".repeat(7) + "(1);", 0, -1);
        Check.dueError(begin + "-".repeat(7) + "(-1);", 1, begin.length() + 8);
        Check.dueError(begin + "1" + "-1".repeat(20) + ";", 0, -1);
        Check.dueError(begin + "(".repeat(8) + "1-1-1" + ")".repeat(8) + ";", 0, -1);
        Check.dueError(begin + "-".repeat(300), 1, begin.length() + 8);
    }

    private static void depthOfNot() {
        Check.sentence("and behind a not for what it turns. It may be at most 8.");
        String begin = ALL + "scare f when ";
        Check.dueError(begin + "not ".repeat(8) + "1=1;", 0, -1);
        Check.dueError(begin + "not ".repeat(9) + "1=1;", 1, begin.length() + 32);
        Check.dueError(begin + "not ".repeat(8) + "[1=1];", 1, begin.length() + 32);
        Check.dueError(begin + "not ".repeat(8) + "(1)=1;", 1, begin.length() + 32);
        Check.dueError(begin + "not ".repeat(8) + "1=(1);", 1, begin.length() + 34);
        Check.dueError(begin + "not ".repeat(7) + "-1=(1);", 0, -1);
        Check.dueError(begin + "not ".repeat(300), 1, begin.length() + 32);
    }

    private static void depthEnds() {
        Check.sentence("Depth. It is 0 at the beginning");
        String sum = "(".repeat(8) + "1" + ")".repeat(8);
        String test = "[".repeat(8) + "1=1" + "]".repeat(8);
        Check.dueError(CRADLE + "go c to " + sum + "*" + sum + "+" + sum + ";go c to " + sum + ";", 0, -1);
        Check.dueError(CRADLE + "go c to -1+" + sum + "-" + sum + ";", 0, -1);
        Check.dueError(CRADLE + "go c to " + sum + " when " + test + " and " + test + " or " + test + ";", 0, -1);
        Check.dueError(ALL + "scare f when not 1=1 and " + test + ";scare f when " + sum + "=" + sum + ";", 0, -1);
        Check.dueError(ALL + "scare f when not dark a or " + "not ".repeat(8) + "dark a;", 0, -1);
        Check.dueError(CRADLE + "go c to min(" + sum.substring(1, 16) + "," + sum.substring(1, 16) + ");", 0, -1);
        Check.dueError(CRADLE + "go c to min(1," + sum + ");", 1, CRADLE.length() + 21);
    }

    // ---- error 1

    private static void bytesOfNoToken() {
        Check.sentence("This includes a byte with which no token begins");
        String all = "();,+-*/<>=[] \n";
        for (int sign = 0; sign < 256; sign++) {
            if (!isOfWord(sign) && all.indexOf(sign) < 0) {
                Check.dueError("bay a panes 2" + (char) sign + " thick 1;", 1, 13);
                Check.dueError(BAY + (char) sign, 1, BAY.length());
            }
        }
        Check.dueError("" + (char) 0, 1, 0);
        Check.dueError("" + (char) 255, 1, 0);
    }

    private static void tooLong() {
        Check.sentence("a word or number that is too long");
        Check.dueError("abcdefghijk", 1, 0);
        Check.dueError("bay abcdefghijk", 1, 4);
        Check.dueError("bay a panes 1234567", 1, 12);
        Check.dueError("bay a chimneychimney", 1, 6);
        Check.dueError("bay a panes 9 thick 0000000;", 1, 20);
    }

    private static void endOfTape() {
        Check.sentence("the end of the tape (at its length)");
        String line = "chimney h at 1 soot 1 every 1 reach 1;";
        for (int length = 1; length < line.length(); length++) {
            // A keyword that is cut is a name, and so the error itself.
            boolean isCut = Character.isLetter(line.charAt(length - 1)) && Character.isLetter(line.charAt(length));
            int from = isCut ? line.lastIndexOf(' ', length) + 1 : length;
            Check.dueError(BAY + line.substring(0, length), 1, BAY.length() + from);
        }
        Check.dueError("bay", 1, 3);
        Check.dueError("bay \n ", 1, 6);
        Check.dueError(BAY + "bay b panes 1 thick 1", 1, BAY.length() + 21);
        Check.dueError(BAY + "bay b panes 1 thick 1 \n", 1, BAY.length() + 23);
        Check.dueError(ALL + "scare f when not", 1, ALL.length() + 16);
    }

    private static void tooManyTokens() {
        Check.sentence("and the token that would be the 401st (the end of the tape not counted).");
        // 20 tokens, and 380 more, with no room for the ; then.
        String begin = "bay a panes 2 thick 1;cradle c at 0 speed 1 wash 1;go c to 1";
        String full = begin + "+1".repeat(190);
        Check.dueError(full, 1, full.length());
        Check.dueError(full + " \n ", 1, full.length() + 3);
        Check.dueError(full + " ;", 1, full.length() + 1);
        // 399 tokens, and the ;.
        String even = begin.replace("to 1", "to -1") + "+1".repeat(189);
        Check.dueError(even + ";", 0, -1);
        Check.dueError(even + "; \n ", 0, -1);
        Check.dueError(even + ";bay", 1, even.length() + 1);
        Check.dueError(even + ";  !", 1, even.length() + 3);
        Check.dueError(even + " ", 1, even.length() + 1);
        Check.dueError(even + "+1;", 1, even.length() + 1);
        Check.dueError(even + "+1+1+1+1", 1, even.length() + 1);
        Check.dueError(even.replace("c at 0", "c at 9") + "+1;", 1, even.length() + 1);
    }

    private static void firstError() {
        Check.sentence("Error 1: the first token with which the tokens so far are not the beginning of a list."
                + " The position is that of its first byte.");
        Check.dueError("bay a thick 1 panes 1 ! 1234567", 1, 6);
        Check.dueError(BAY + " chimney h 1", 1, BAY.length() + 11);
        Check.dueError(BAY + " name", 1, BAY.length() + 1);
        Check.dueError(CRADLE + "go c to 1 when 1 >= ;", 1, CRADLE.length() + 20);
        Check.dueError(CRADLE + "go c to 1 when 1 and 1=1;", 1, CRADLE.length() + 17);
    }

    // ---- errors 2 to 5

    private static void errorOneFirst() {
        Check.sentence("Only if there is no error 1, keywords, names and numbers are looked at");
        Check.dueError(BAY + BAY, 2, BAY.length() + 4);
        Check.dueError(BAY + BAY + "!", 1, 2 * BAY.length());
        Check.dueError("go c to 1;", 3, 3);
        Check.dueError("go c to 1;bay", 1, 13);
        Check.dueError(FIVE_BAYS + "bay f panes 1 thick 1;", 4, FIVE_BAYS.length() + 4);
        Check.dueError(FIVE_BAYS + "bay f panes 1 thick 1", 1, FIVE_BAYS.length() + 21);
        Check.dueError("bay a panes 9 thick 1;", 5, 12);
        Check.dueError("bay a panes 9 thick 1;;", 1, 22);
    }

    private static void leftToRight() {
        Check.sentence("from left to right, and the first error is told, at its token");
        Check.dueError("bay a panes 9 thick 10;", 5, 12);
        Check.dueError("bay a panes 8 thick 10;", 5, 20);
        Check.dueError("bay a panes 9 thick 1;bay a panes 1 thick 1;", 5, 12);
        Check.dueError("go c to 1;bay a panes 9 thick 1;", 3, 3);
        Check.dueError(BAY + "bay a panes 9 thick 1;go c to 1;", 2, BAY.length() + 4);
        Check.dueError(ALL + "go d to at e when dark b;", 3, ALL.length() + 3);
        Check.dueError(ALL + "go c to at e when dark b;", 3, ALL.length() + 11);
        Check.dueError(ALL + "go c to at c when dark b;", 3, ALL.length() + 23);
        Check.dueError(CRADLE + "go c to 1;".repeat(16) + "go x to 1;", 4, CRADLE.length() + 160);
    }

    private static void smallestNumber() {
        Check.sentence("of errors at one token the one with the smallest number.");
        Check.dueError(FIVE_BAYS + "bay e panes 1 thick 1;", 2, FIVE_BAYS.length() + 4);
        String chimneys = four("chimney ", " at 1 soot 1 every 1 reach 1;", 4);
        Check.dueError(BAY + chimneys + "chimney x0 at 1 soot 1 every 1 reach 1;", 2, BAY.length() + chimneys.length() + 8);
        String cradles = four("cradle ", " at 1 speed 1 wash 1;", 3);
        Check.dueError(BAY + cradles + "cradle x2 at 1 speed 1 wash 1;", 2, BAY.length() + cradles.length() + 7);
        String flocks = four("flock ", " birds 1 every 1;", 3);
        Check.dueError(flocks + "flock x1 birds 1 every 1;", 2, flocks.length() + 6);
    }

    private static String four(String ahead, String behind, int n) {
        StringBuilder lines = new StringBuilder();
        for (int i = 0; i < n; i++) {
            lines.append(ahead).append("x").append(i).append(behind);
        }
        return lines.toString();
    }

    private static void sameName() {
        Check.sentence("Error 2: the name behind bay, chimney, cradle or flock (at the beginning of a line)"
                + " is that of one of the same sort told ahead.");
        Check.dueError(BAY + "bay b panes 1 thick 1;bay a panes 1 thick 1;", 2, BAY.length() + 26);
        String chimney = "chimney h at 1 soot 1 every 1 reach 1;";
        Check.dueError(BAY + chimney + chimney, 2, BAY.length() + chimney.length() + 8);
        String cradle = "cradle c at 1 speed 1 wash 1;";
        Check.dueError(BAY + cradle + "cradle d at 1 speed 1 wash 1;" + cradle, 2, BAY.length() + 2 * cradle.length() + 7);
        String flock = "flock f birds 1 every 1;";
        Check.dueError(flock + flock, 2, flock.length() + 6);
    }

    private static void sameNameOfAnotherSort() {
        Check.sentence("one of the same sort");
        Check.dueError(BAY + "chimney a at 1 soot 1 every 1 reach 1;cradle a at 1 speed 1 wash 1;flock a birds 1 every 1;"
                + "go a to at a + water a + perch a when dark a;scare a when dark a;", 0, -1);
    }

    private static void otherNameOfCradle() {
        Check.sentence("Error 3: another name is none of what it has to be, told ahead:"
                + " behind go, at (of a sum) and water, of a cradle");
        for (String name : new String[] {"a", "f", "d", "h"}) {
            Check.dueError(ALL + "go " + name + " to 1;", 3, ALL.length() + 3);
            Check.dueError(ALL + "go c to at " + name + ";", 3, ALL.length() + 11);
            Check.dueError(ALL + "go c to water " + name + ";", 3, ALL.length() + 14);
            Check.dueError(ALL + "scare f when 1=at " + name + ";", 3, ALL.length() + 18);
        }
        Check.dueError(ALL + "go c to at c - water c;", 0, -1);
    }

    private static void otherNameOfFlock() {
        Check.sentence("behind scare and perch, of a flock");
        for (String name : new String[] {"a", "c", "d", "h"}) {
            Check.dueError(ALL + "scare " + name + " when 1=1;", 3, ALL.length() + 6);
            Check.dueError(ALL + "go c to perch " + name + ";", 3, ALL.length() + 14);
        }
        Check.dueError(ALL + "scare f when perch f = 1;", 0, -1);
    }

    private static void otherNameOfBay() {
        Check.sentence("behind dark, of a bay");
        for (String name : new String[] {"c", "f", "d", "h"}) {
            Check.dueError(ALL + "go c to 1 when dark " + name + ";", 3, ALL.length() + 20);
        }
        Check.dueError(ALL + "go c to 1 when dark a;", 0, -1);
    }

    private static void toldAhead() {
        Check.sentence("is none of what it has to be, told ahead");
        String d = "cradle d at 1 speed 1 wash 1;";
        Check.dueError(ALL + "go d to 1;" + d, 3, ALL.length() + 3);
        Check.dueError(ALL + d + "go d to 1;", 0, -1);
        Check.dueError(ALL + "go c to at d;" + d, 3, ALL.length() + 11);
        Check.dueError(ALL + "go c to 1 when dark b;bay b panes 1 thick 1;", 3, ALL.length() + 20);
        Check.dueError(ALL + "bay b panes 1 thick 1;go c to 1 when dark b;", 0, -1);
        Check.dueError(ALL + "scare g when 1=1;flock g birds 1 every 1;", 3, ALL.length() + 6);
        Check.dueError(ALL + "flock g birds 1 every 1;scare g when perch g=1;", 0, -1);
    }

    private static void toldByAnotherList() {
        Check.sentence("(at the beginning of a line) is that of one of the same sort told ahead: what the list before told is not");
        String line = "cradle y at 0 speed 1 wash 1;flock y birds 1 every 1;";
        String[] uses = {"go c to 1;", "scare f when 1=1;", "go y to at c;", "go y to water c;", "go y to perch f;",
            "go y to 1 when dark b;", "scare y when perch f=1;"};
        for (String use : uses) {
            SkylightWash wash = Check.taught("bay a panes 1 thick 1;bay b panes 1 thick 1;cradle y at 0 speed 1 wash 1;"
                    + "cradle c at 0 speed 1 wash 1;flock y birds 1 every 1;flock f birds 1 every 1;" + use);
            Check.feed(wash, "bay x panes 8 thick 1;" + line + use);
            Check.due("behind another list, " + use, wash.teach(), 3);
            Check.feed(wash, "bay x panes 8 thick 1;" + line + "cradle c at 0 speed 1 wash 1;flock f birds 1 every 1;"
                    + "bay b panes 1 thick 1;" + use);
            Check.due("told anew, " + use, wash.teach(), 0);
            Check.feed(wash, use);
            Check.due("behind a list without any", wash.teach(), 3);
        }
        String all = ALL + "chimney h at 0 soot 1 every 1 reach 1;";
        SkylightWash same = Check.taught(all);
        Check.feed(same, all);
        Check.due("the same names once more", same.teach(), 0);
    }

    private static void sixthBay() {
        Check.sentence("Error 4: the name of the 6th bay");
        Check.dueError(FIVE_BAYS, 0, -1);
        Check.due("panes of five bays", Check.taught(FIVE_BAYS).count(3), 40);
        Check.dueError(FIVE_BAYS + "bay f panes 1 thick 1;", 4, FIVE_BAYS.length() + 4);
        Check.dueError(FIVE_BAYS + "bay f panes 9 thick 1;", 4, FIVE_BAYS.length() + 4);
    }

    private static void fifthChimney() {
        Check.sentence("of the 5th chimney");
        String four = BAY + four("chimney ", " at 1 soot 1 every 1 reach 1;", 4);
        Check.dueError(four, 0, -1);
        Check.dueError(four + "chimney y at 1 soot 1 every 1 reach 1;", 4, four.length() + 8);
        Check.dueError(four + "chimney y at 2 soot 1 every 1 reach 1;", 4, four.length() + 8);
    }

    private static void fourthCradle() {
        Check.sentence("of the 4th cradle");
        String three = BAY + four("cradle ", " at 1 speed 1 wash 1;", 3);
        Check.dueError(three, 0, -1);
        Check.dueError(three + "cradle y at 1 speed 1 wash 1;", 4, three.length() + 7);
    }

    private static void fourthFlock() {
        Check.sentence("or of the 4th flock");
        String three = four("flock ", " birds 1 every 1;", 3);
        Check.dueError(three, 0, -1);
        Check.dueError(three + "flock y birds 1 every 1;", 4, three.length() + 6);
    }

    private static void seventeenthOrder() {
        Check.sentence("or the go or scare of the 17th order (of both together).");
        String goes = ALL + "go c to 1;".repeat(16);
        String scares = ALL + "scare f when 1=1;".repeat(16);
        String both = ALL + "go c to 1;scare f when 1=1;".repeat(8);
        for (String list : new String[] {goes, scares, both}) {
            Check.dueError(list, 0, -1);
            Check.due("orders", Check.taught(list).count(7), 16);
            Check.dueError(list + "go c to 1;", 4, list.length());
            Check.dueError(list + " scare f when 1=1;", 4, list.length() + 1);
            Check.dueError(list + "scare x when 1=1;", 4, list.length());
        }
    }

    private static void range(String ahead, String behind, int least, int most) {
        Check.dueError(ahead + least + behind, 0, -1);
        Check.dueError(ahead + most + behind, 0, -1);
        Check.dueError(ahead + (most + 1) + behind, 5, ahead.length());
        Check.dueError(ahead + 999999 + behind, 5, ahead.length());
        if (least > 0) {
            Check.dueError(ahead + (least - 1) + behind, 5, ahead.length());
        }
    }

    private static void rangesOfBays() {
        Check.sentence("Error 5: a number is out of its range: panes 1 to 8, thick 1 to 9");
        range("bay a panes ", " thick 1;", 1, 8);
        range("bay a panes 1 thick ", ";", 1, 9);
    }

    private static void rangesOfChimneys() {
        Check.sentence("at 0 to 39, soot 1 to 30, every 1 to 12, reach 0 to 9");
        range(FIVE_BAYS + "chimney h at ", " soot 1 every 1 reach 1;", 0, 39);
        range(FIVE_BAYS + "chimney h at 1 soot ", " every 1 reach 1;", 1, 30);
        range(FIVE_BAYS + "chimney h at 1 soot 1 every ", " reach 1;", 1, 12);
        range(FIVE_BAYS + "chimney h at 1 soot 1 every 1 reach ", ";", 0, 9);
    }

    private static void rangesOfCradles() {
        Check.sentence("at 0 to 39, speed 1 to 9, wash 1 to 60");
        range(FIVE_BAYS + "cradle c at ", " speed 1 wash 1;", 0, 39);
        range(FIVE_BAYS + "cradle c at 1 speed ", " wash 1;", 1, 9);
        range(FIVE_BAYS + "cradle c at 1 speed 1 wash ", ";", 1, 60);
    }

    private static void rangesOfFlocks() {
        Check.sentence("every 1 to 12, birds 1 to 20");
        range("flock f birds ", " every 1;", 1, 20);
        range("flock f birds 1 every ", ";", 1, 12);
    }

    private static void numbersOfSums() {
        Check.sentence("value = number (of any range)");
        Check.dueError(ALL + "go c to 0 + 999999;scare f when 999999 = 0;", 0, -1);
    }

    private static void placesToldAhead() {
        Check.sentence("or the at of a chimney or cradle is not that of a pane told ahead.");
        String chimney = " soot 1 every 1 reach 1;";
        String cradle = " speed 1 wash 1;";
        Check.dueError("chimney h at 0" + chimney + BAY, 5, 13);
        Check.dueError("cradle c at 0" + cradle + BAY, 5, 12);
        Check.dueError(BAY + "chimney h at 1" + chimney + "cradle c at 1" + cradle, 0, -1);
        Check.dueError(BAY + "chimney h at 2" + chimney, 5, BAY.length() + 13);
        Check.dueError(BAY + "cradle c at 2" + cradle, 5, BAY.length() + 12);
        Check.dueError(BAY + "cradle c at 2" + cradle + "bay b panes 1 thick 1;", 5, BAY.length() + 12);
        Check.dueError(BAY + "bay b panes 1 thick 1;cradle c at 2" + cradle, 0, -1);
        // The panes of the list before do not count.
        SkylightWash wash = Check.taught(FIVE_BAYS);
        Check.feed(wash, BAY + "cradle c at 2" + cradle);
        Check.due("a pane of the list before", wash.teach(), 5);
    }

    private static void numbering() {
        Check.sentence("Bays, chimneys, cradles, flocks and orders (lines with go or scare) are numbered from 0"
                + " in the order in which they are told.");
        SkylightWash wash = Check.taught("flock z birds 3 every 1;bay z panes 2 thick 4;flock a birds 4 every 2;"
                + "bay a panes 3 thick 5;cradle z at 4 speed 6 wash 1;cradle a at 1 speed 7 wash 1;");
        Check.due("the first flock", wash.flock(0, 1), 3);
        Check.due("the second flock", wash.flock(1, 1), 4);
        Check.due("the first bay", wash.bay(0, 1), 4);
        Check.due("the second bay", wash.bay(1, 1), 5);
        Check.due("the first cradle", wash.cradle(0, 1), 6);
        Check.due("the second cradle", wash.cradle(1, 1), 7);
    }

    private static void paneNumbering() {
        Check.sentence("The panes of all bays are numbered through, from 0, bay by bay.");
        SkylightWash wash = Check.taught("bay a panes 1 thick 1;bay b panes 8 thick 1;bay c panes 2 thick 1;");
        int[] bays = {0, 1, 1, 1, 1, 1, 1, 1, 1, 2, 2};
        for (int pane = 0; pane < bays.length; pane++) {
            Check.due("the bay of pane " + pane, wash.pane(pane, 0), bays[pane]);
        }
        int[] firsts = {0, 1, 9};
        for (int bay = 0; bay < 3; bay++) {
            Check.due("the first pane of bay " + bay, wash.bay(bay, 2), firsts[bay]);
        }
        Check.dueThrow("behind the last", IndexOutOfBoundsException.class, () -> wash.pane(11, 0));
        SkylightWash most = Check.taught(FIVE_BAYS);
        Check.due("the bay of pane 39", most.pane(39, 0), 4);
        Check.due("the bay of pane 32", most.pane(32, 0), 4);
        Check.due("the bay of pane 31", most.pane(31, 0), 3);
    }

    // ---- promises 1 to 5

    private static void newObject() {
        Check.sentence("P1: Creates an arcade without panes, in the hour 0.");
        SkylightWash wash = new SkylightWash();
        for (int what = 0; what < 14; what++) {
            Check.due("count(" + what + ")", wash.count(what), 0);
        }
        Check.due("errorAt", wash.errorAt(), -1);
        Check.dueThrow("pane(0, 0)", IndexOutOfBoundsException.class, () -> wash.pane(0, 0));
        Check.dueThrow("bay(0, 0)", IndexOutOfBoundsException.class, () -> wash.bay(0, 0));
        Check.dueThrow("cradle(0, 0)", IndexOutOfBoundsException.class, () -> wash.cradle(0, 0));
        Check.dueThrow("flock(0, 0)", IndexOutOfBoundsException.class, () -> wash.flock(0, 0));
        Check.dueThrow("worst(0)", IndexOutOfBoundsException.class, () -> wash.worst(0));
        Check.dueThrow("glaze(0)", IndexOutOfBoundsException.class, () -> wash.glaze(0));
        Check.dueThrow("carry(0, 0)", IndexOutOfBoundsException.class, () -> wash.carry(0, 0));
        Check.dueThrow("scare(0)", IndexOutOfBoundsException.class, () -> wash.scare(0));
        Check.dueThrow("until(0)", IndexOutOfBoundsException.class, () -> wash.until(0));
        Check.dueThrow("advise(0, 1)", IndexOutOfBoundsException.class, () -> wash.advise(0, 1));
        Check.due("spare", wash.spare(1), -1);
        Check.due("pass", wash.pass(120), 0);
        for (int what = 0; what < 4; what++) {
            Check.due("foresee(120, " + what + ")", wash.foresee(120, what), 0);
        }
        Check.due("the hour then", wash.count(0), 120);
    }

    private static void feeding() {
        Check.sentence("P2: Appends twenty bytes to the tape. Returns the number of bytes of the tape.");
        SkylightWash wash = new SkylightWash();
        Check.due("the first", wash.feed(0, 0, 0, 0, 0), 20);
        Check.due("the second", wash.feed(0, 0, 0, 0, 0), 40);
        wash.trim(7);
        Check.due("behind trim(7)", wash.feed(0, 0, 0, 0, 0), 27);
        wash.trim(0);
        Check.due("behind trim(0)", wash.feed(-1, -1, -1, -1, -1), 20);
        wash.teach();
        Check.due("behind teach", wash.feed(1, 2, 3, 4, 5), 20);
        Check.due("count(13)", wash.count(13), 20);
    }

    private static void feedingBytes() {
        Check.sentence("P2: the four bytes of each number, the highest one first.");
        byte[] list = "bay xy panes 3thick7;".getBytes();
        SkylightWash wash = new SkylightWash();
        wash.feed(0x20626179, 0x20787920, 0x70616e65, 0x73203374, 0x6869636b);
        wash.feed(0x20373b0a, 0x20202020, 0x0a0a0a0a, 0x20202020, 0x2020200a);
        Check.due("teach", wash.teach(), 0);
        Check.due("panes", wash.bay(0, 0), 3);
        Check.due("thick", wash.bay(0, 1), 7);
        // The first byte that no token begins with, at each of the 20 places, above 127 too.
        for (int place = 0; place < 20; place++) {
            int[] words = new int[5];
            for (int i = 0; i < 20; i++) {
                words[i / 4] = words[i / 4] << 8 | (i < place ? ' ' : 0x80 + list[i]);
            }
            wash.feed(words[0], words[1], words[2], words[3], words[4]);
            Check.due("teach with a wrong byte at " + place, wash.teach(), 1);
            Check.due("errorAt", wash.errorAt(), place);
        }
    }

    private static void feedingTooMuch() {
        Check.sentence("P2: Throws IllegalStateException if there would be more than 2000");
        SkylightWash wash = new SkylightWash();
        Check.feed(wash, " ".repeat(1980));
        Check.due("feed at 1980", wash.feed(0x20202020, 0x20202020, 0x20202020, 0x20202020, 0x20202020), 2000);
        for (int length = 2000; length > 1980; length--) {
            wash.trim(length);
            Check.dueThrow("feed at " + length, IllegalStateException.class, () -> wash.feed(1, 2, 3, 4, 5));
            Check.due("the bytes then", wash.count(13), length);
        }
        Check.due("teach of what is left, that no feed has changed", wash.teach(), 0);
    }

    private static void trimming() {
        Check.sentence("P3: Shortens the tape to its first bytes. Returns n.");
        SkylightWash wash = new SkylightWash();
        Check.feed(wash, BAY + "!!!!");
        int length = BAY.length() + 4;
        Check.due("trim of all", wash.trim(length), length);
        Check.due("the bytes then", wash.count(13), length);
        Check.due("trim of less", wash.trim(length - 4), length - 4);
        Check.due("the bytes then", wash.count(13), length - 4);
        Check.due("teach of what is kept", wash.teach(), 0);
        Check.feed(wash, BAY);
        Check.due("trim(0)", wash.trim(0), 0);
        Check.due("teach of nothing", wash.teach(), 0);
        Check.due("panes", wash.count(3), 0);
        Check.feed(wash, " ".repeat(2000));
        Check.due("trim(2000)", wash.trim(2000), 2000);
        Check.due("trim(1999)", wash.trim(1999), 1999);
    }

    private static void trimmingWrongly() {
        Check.sentence("P3: Throws IllegalArgumentException if n is not 0 to the number of bytes of the tape");
        SkylightWash wash = new SkylightWash();
        Check.dueThrow("trim(1) of none", IllegalArgumentException.class, () -> wash.trim(1));
        Check.dueThrow("trim(-1) of none", IllegalArgumentException.class, () -> wash.trim(-1));
        Check.feed(wash, BAY);
        int length = BAY.length();
        for (int n : new int[] {-1, length + 1, 2000, Integer.MIN_VALUE, Integer.MAX_VALUE}) {
            Check.dueThrow("trim(" + n + ")", IllegalArgumentException.class, () -> wash.trim(n));
            Check.due("the bytes then", wash.count(13), length);
        }
        wash.trim(length - 1);
        Check.dueThrow("trim to what it was", IllegalArgumentException.class, () -> wash.trim(length));
        Check.feed(wash, ";");
        Check.due("teach", wash.teach(), 0);
    }

    private static SkylightWash used() {
        SkylightWash wash = Check.taught("bay a panes 3 thick 1;bay b panes 2 thick 9;chimney h at 1 soot 20 every 1 reach 2;"
                + "cradle c at 0 speed 1 wash 5;flock f birds 3 every 2;go c to 4;scare f when hour = 3;");
        wash.setWind(-1);
        wash.pass(5);
        return wash;
    }

    private static void teachingAnew() {
        Check.sentence("P4: in the place of all that was told before; all begins anew, but the hour and the wind, which stay.");
        SkylightWash wash = used();
        Check.due("let go in all ahead of it", wash.count(11), 3);
        Check.feed(wash, ALL);
        Check.due("teach", wash.teach(), 0);
        SkylightWash other = new SkylightWash();
        other.pass(5);
        other.setWind(-1);
        Check.feed(other, ALL);
        other.teach();
        Check.due("the hour", wash.count(0), 5);
        Check.due("the wind", wash.count(1), -1);
        Check.due("let go in all", wash.count(11), 0);
        Check.due("orders", wash.count(7), 0);
        Check.due("chimneys", wash.count(4), 0);
        Check.due("the cradle's water", wash.cradle(0, 3), 20);
        Check.due("the flock's pane", wash.flock(0, 0), -1);
        Check.due("digest", wash.digest(), other.digest());
        Check.due("pass", wash.pass(100), other.pass(100));
        Check.due("digest behind more hours", wash.digest(), other.digest());
    }

    private static void teachingOften() {
        Check.sentence("P4: in the place of all that was told before");
        String much = "bay a panes 8 thick 1;bay b panes 8 thick 2;chimney h at 3 soot 30 every 1 reach 9;"
                + "chimney i at 9 soot 30 every 1 reach 9;cradle c at 3 speed 9 wash 60;cradle d at 1 speed 9 wash 60;"
                + "cradle e at 2 speed 9 wash 60;flock f birds 20 every 1;flock g birds 20 every 1;flock h birds 20 every 1;"
                + "go d to 0;go c to 1;scare f when 1=1;go c to 2;scare f when 2=2;";
        String little = "bay a panes 4 thick 9;chimney h at 0 soot 9 every 2 reach 4;cradle c at 2 speed 1 wash 3;"
                + "flock f birds 2 every 5;go c to 1 when hour = 990;";
        String twoOrders = little + "go c to 1+1+1+1+1 when hour = 991;";
        String longSum = little + "go c to 0" + "+1".repeat(150) + "-147;";
        String[] lists = {much, little, much + "!", little, little, much, "", little, much + much, twoOrders, BAY, little, little,
            much, much, twoOrders, twoOrders, longSum, longSum, longSum, longSum, longSum, longSum, little};
        SkylightWash wash = new SkylightWash();
        int hour = 0;
        for (String list : lists) {
            Check.feed(wash, list);
            boolean isTold = wash.teach() == 0;
            SkylightWash other = new SkylightWash();
            for (int i = 0; i < hour; i++) {
                other.pass(1);
            }
            Check.feed(other, list);
            if (other.teach() == 0) {
                Check.due("digest", wash.digest(), other.digest());
                Check.due("pass", wash.pass(7), other.pass(7));
                Check.due("digest behind 7 h", wash.digest(), other.digest());
                hour += 7;
            } else {
                Check.due("told", isTold ? 1 : 0, 0);
            }
        }
    }

    private static void teachingLess() {
        Check.sentence("P4: all begins anew, so that bays told no more are not dark");
        SkylightWash wash = new SkylightWash();
        // Of the bays told ahead, the second would be dark with the soot of the last list.
        String more = "bay a panes 2 thick 9;bay b panes 1 thick 9;bay c panes 1 thick 9;";
        for (String list : new String[] {more, more, more + "!", BAY, more + more,
            "bay a panes 8 thick 9;chimney h at 2 soot 30 every 1 reach 0;"}) {
            Check.feed(wash, list);
            wash.teach();
        }
        wash.pass(3);
        Check.due("light of pane 2", wash.pane(2, 4), 10);
        Check.due("dark bays", wash.count(12), 0);
        Check.due("dark bays as foreseen", wash.foresee(1, 3), 0);
        Check.dueThrow("a bay told no more", IndexOutOfBoundsException.class, () -> wash.bay(1, 4));
    }

    private static void teachingWrongly() {
        Check.sentence("P4: If it has an error, all stays (but the tape is empty). Returns 0, or the error, 1 to 5.");
        String[] lists = {BAY + "!", BAY + BAY, BAY + "cradle d at 1 speed 9 wash 9;go c to 1;",
            FIVE_BAYS + "bay f panes 1 thick 1;", BAY + "chimney h at 0 soot 31 every 1 reach 1;"};
        for (int error = 1; error <= 5; error++) {
            SkylightWash wash = used();
            SkylightWash other = used();
            Check.feed(wash, lists[error - 1]);
            Check.due("teach of " + lists[error - 1], wash.teach(), error);
            Check.due("the bytes", wash.count(13), 0);
            Check.due("digest", wash.digest(), other.digest());
            Check.due("pass", wash.pass(10), other.pass(10));
            Check.due("digest behind more hours", wash.digest(), other.digest());
            Check.feed(wash, ALL);
            Check.due("teach of a list without an error then", wash.teach(), 0);
        }
    }

    private static void teachingWronglyLater() {
        Check.sentence("P4: If it has an error, all stays, behind any number of lists");
        String[] lists = {CRADLE, ALL, "bay a panes 3 thick 2;bay b panes 5 thick 1;flock f birds 3 every 2;", BAY};
        for (boolean isAsked : new boolean[] {false, true}) {
            SkylightWash wash = new SkylightWash();
            for (String list : lists) {
                Check.feed(wash, list);
                Check.due("teach of " + list, wash.teach(), 0);
                for (int i = 0; i < 3; i++) {
                    long digest = wash.digest();
                    int dirt = isAsked ? wash.foresee(9, 2) : 0;
                    Check.feed(wash, "bay x panes 8 thick 3;cradle x at 7 speed 2 wash 2;flock x birds 9 every 1;go x to 9");
                    Check.due("teach without the last ;", wash.teach(), 1);
                    Check.due("digest", wash.digest(), digest);
                    Check.due("foresee(9, 2)", isAsked ? wash.foresee(9, 2) : 0, dirt);
                }
            }
        }
    }

    private static void teachingNothing() {
        Check.sentence("P4: list = { line \";\" }, so that an empty tape is a list too");
        SkylightWash wash = used();
        Check.due("teach", wash.teach(), 0);
        int[] counts = {5, -1, 0, 0, 0, 0, 0, 0, 0, 0, 0, 0, 0, 0};
        for (int what = 0; what < 14; what++) {
            Check.due("count(" + what + ")", wash.count(what), counts[what]);
        }
        Check.dueThrow("pane(0, 0)", IndexOutOfBoundsException.class, () -> wash.pane(0, 0));
    }

    private static void errorPlaces() {
        Check.sentence("P5: Returns the position of the error of the latest teach()");
        SkylightWash wash = new SkylightWash();
        Check.feed(wash, BAY + "!");
        wash.teach();
        Check.due("behind an error", wash.errorAt(), BAY.length());
        Check.due("once more", wash.errorAt(), BAY.length());
        Check.feed(wash, " bay a panes 0 thick 1;");
        Check.due("behind feed", wash.errorAt(), BAY.length());
        wash.teach();
        Check.due("behind another error", wash.errorAt(), 13);
        wash.pass(1);
        Check.due("behind pass", wash.errorAt(), 13);
        Check.feed(wash, "!");
        wash.teach();
        Check.due("behind one at the beginning", wash.errorAt(), 0);
    }

    private static void noErrorPlace() {
        Check.sentence("P5: -1 if it had none, or there was none.");
        SkylightWash wash = new SkylightWash();
        Check.due("without teach", wash.errorAt(), -1);
        Check.feed(wash, "!");
        Check.due("ahead of teach", wash.errorAt(), -1);
        wash.teach();
        Check.due("behind an error", wash.errorAt(), 0);
        Check.feed(wash, BAY);
        wash.teach();
        Check.due("behind none", wash.errorAt(), -1);
        Check.feed(wash, "!");
        wash.teach();
        wash.teach();
        Check.due("behind an empty tape", wash.errorAt(), -1);
    }
}
