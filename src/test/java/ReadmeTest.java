/** The example of README.md, call by call: whoever changes one of them changes the other. */
public final class ReadmeTest {
    private static final String LIST = """
            bay north panes 4 thick 1;
            bay south panes 3 thick 2;
            chimney bakery at 2 soot 12 every 2 reach 1;
            cradle ann at 0 speed 2 wash 25;
            flock grey birds 4 every 3;
            go ann to 0 when water ann = 0;
            go ann to perch grey + 1 when perch grey >= 0 and not dark north;
            scare grey when dirt(perch grey) > 30 or wind < 0;
            """;

    private ReadmeTest() {
    }

    public static void main(String[] args) {
        calls();
        longestText();
        Check.finish();
    }

    private static void calls() {
        SkylightWash wash = new SkylightWash();
        tell(wash, LIST);
        Check.due("count(13)", wash.count(13), LIST.length());
        Check.due("teach()", wash.teach(), 0);
        Check.due("count(3)", wash.count(3), 7);
        Check.due("pass(4)", wash.pass(4), 0);
        Check.due("count(8)", wash.count(8), 652);
        Check.due("worst(0)", wash.worst(0), 1);
        Check.due("until(2)", wash.until(2), 8);
        Check.due("foresee(48, 0)", wash.foresee(48, 0), 4);
        Check.due("costs(12, 3)", wash.costs(12, 3), -15);
        Check.due("advise(0, 12)", wash.advise(0, 12), 0);
        Check.due("carry(0, 0)", wash.carry(0, 0), 4);
        Check.due("setWind(3)", wash.setWind(3), 0);
    }

    private static void longestText() {
        SkylightWash wash = new SkylightWash();
        tell(wash, " ".repeat(2000));
        Check.due("count(13) behind a text of 2000 bytes", wash.count(13), 2000);
        Check.due("teach() of blanks", wash.teach(), 0);
    }

    private static void tell(SkylightWash wash, String list) {
        int length = wash.count(13) + list.length();
        for (int i = 0; i < list.length(); i += 20) {
            wash.feed(four(list, i), four(list, i + 4), four(list, i + 8), four(list, i + 12), four(list, i + 16));
        }
        wash.trim(length);
    }

    private static int four(String list, int from) {
        int bytes = 0;
        for (int i = from; i < from + 4; i++) {
            bytes = bytes << 8 | (i < list.length() ? list.charAt(i) : ' ');
        }
        return bytes;
    }
}
