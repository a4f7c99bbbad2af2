import java.util.ArrayList;
import java.util.List;
import java.util.Random;
import java.util.function.LongSupplier;

/** Runs of random calls, from lists right and wrong, with the answers that Model gives. */
public final class ModelTest {
    private static final String[] WORDS = ("bay panes thick chimney at soot every reach cradle speed wash flock birds go to"
            + " scare when hour wind light dirt crack water perch dark not and or min max"
            + " ( ) [ ] ; , + - * / < > = <= >= 0 1 7 40 a b a1 abcdefghij abcdefghijk 999999 1000000 ! A _").split(" ");
    private final Random random;
    private final SkylightWash wash = new SkylightWash();
    private final Model model = new Model();
    private final StringBuilder story = new StringBuilder();
    private int calls;
    private int bays;
    private int panes;
    private int cradles;
    private int flocks;
    private int tokens;

    private ModelTest(long seed) {
        random = new Random(seed);
        story.append("seed ").append(seed);
    }

    public static void main(String[] args) {
        int runs = args.length > 0 ? Integer.parseInt(args[0]) : 700;
        long first = args.length > 1 ? Long.parseLong(args[1]) : 1;
        for (long seed = first; seed < first + runs; seed++) {
            new ModelTest(seed).run();
        }
        Check.finish();
    }

    private void run() {
        int most = 30 + below(200);
        teach();
        while (calls < most) {
            if (chance(25)) {
                teach();
            } else {
                call();
            }
        }
    }

    private void same(String what, LongSupplier got, LongSupplier want) {
        calls++;
        story.append("; ").append(what);
        String answer = Check.answer(got);
        String due = Check.answer(want);
        if (!answer.equals(due)) {
            Check.say(story + " answered " + answer + ", due is " + due);
        }
    }

    private void teach() {
        String list = list();
        story.append("; list ").append(list);
        byte[] bytes = new byte[list.length()];
        for (int i = 0; i < bytes.length; i++) {
            bytes[i] = (byte) list.charAt(i);
        }
        for (int i = 0; i < bytes.length; i += 20) {
            int[] w = new int[5];
            for (int k = 0; k < 5; k++) {
                w[k] = Check.word(bytes, i + 4 * k);
            }
            same("feed", () -> wash.feed(w[0], w[1], w[2], w[3], w[4]), () -> model.feed(w));
        }
        int n = chance(20) ? below(2100) - 50 : Math.min(2000, bytes.length);
        same("trim(" + n + ")", () -> wash.trim(n), () -> model.trim(n));
        same("teach()", wash::teach, model::teach);
        same("errorAt()", wash::errorAt, () -> model.errorAt);
        same("digest()", wash::digest, model::digest);
    }

    private void call() {
        int a = chance(8) ? below(50) - 5 : below(13);
        int b = chance(8) ? below(30) - 5 : below(5);
        int w = chance(8) ? below(12) - 6 : below(7) - 3;
        int h = chance(8) ? below(150) - 10 : 1 + below(30);
        int p = chance(8) ? below(50) - 5 : below(Math.max(1, (int) model.count(3)));
        int t = below(3);
        int f = chance(10) ? 3 - below(5) : t;
        switch (below(18)) {
            case 0: same("count(" + a + ")", () -> wash.count(a), () -> model.count(a)); break;
            case 1: same("pane(" + p + "," + b + ")", () -> wash.pane(p, b), () -> model.pane(p, b)); break;
            case 2: same("bay(" + f + "," + b + ")", () -> wash.bay(f, b), () -> model.bay(f, b)); break;
            case 3: same("cradle(" + f + "," + b + ")", () -> wash.cradle(f, b), () -> model.cradle(f, b)); break;
            case 4: same("flock(" + f + "," + b + ")", () -> wash.flock(f, b), () -> model.flock(f, b)); break;
            case 5: same("worst(" + p + ")", () -> wash.worst(p), () -> model.worst(p)); break;
            case 6: same("setWind(" + w + ")", () -> wash.setWind(w), () -> model.setWind(w)); break;
            case 7: same("glaze(" + p + ")", () -> wash.glaze(p), () -> model.glaze(p)); break;
            case 8: same("carry(" + f + "," + p + ")", () -> wash.carry(f, p), () -> model.carry(f, p)); break;
            case 9: same("scare(" + f + ")", () -> wash.scare(f), () -> model.scare(f)); break;
            case 10: case 11: same("pass(" + h / 3 + ")", () -> wash.pass(h / 3), () -> model.pass(h / 3)); break;
            case 12: same("until(" + p + ")", () -> wash.until(p), () -> model.until(p)); break;
            case 13: same("foresee(" + h + "," + t + ")", () -> wash.foresee(h, t), () -> model.foresee(h, t)); break;
            case 14: same("costs(" + h + "," + w + ")", () -> wash.costs(h, w), () -> model.costs(h, w)); break;
            case 15: same("advise(" + f + "," + h / 4 + ")", () -> wash.advise(f, h / 4), () -> model.advise(f, h / 4)); break;
            case 16: same("spare(" + h + ")", () -> wash.spare(h), () -> model.spare(h)); break;
            default:
                same("mean()", () -> Double.doubleToLongBits(wash.mean()), () -> Double.doubleToLongBits(model.mean()));
        }
        same("digest()", wash::digest, model::digest);
    }

    private int below(int n) {
        return random.nextInt(n);
    }

    private boolean chance(int oneIn) {
        return below(oneIn) == 0;
    }

    /** Mostly a right list; now and then one with a few words spoilt, or with too much of something. */
    private String list() {
        List<String> words = new ArrayList<>();
        boolean isWild = chance(5);
        bays = 0;
        panes = 0;
        cradles = 0;
        flocks = 0;
        tokens = 0;
        int n = 1 + below(isWild ? 7 : 5);
        for (int i = 0; i < n; i++) {
            int size = number(1, 8, isWild);
            add(words, "bay " + name("b", i, isWild) + " panes " + size + " thick " + number(1, chance(2) ? 2 : 9, isWild) + " ;");
            bays++;
            panes += size;
        }
        n = below(isWild ? 6 : 5);
        for (int i = 0; i < n; i++) {
            add(words, "chimney " + name("h", i, isWild) + " at " + number(0, panes - 1, isWild) + " soot " + number(1, 30, isWild)
                    + " every " + number(1, 12, isWild) + " reach " + number(0, 9, isWild) + " ;");
        }
        n = below(isWild ? 5 : 4);
        for (int i = 0; i < n; i++) {
            add(words, "cradle " + name("c", i, isWild) + " at " + number(0, panes - 1, isWild) + " speed " + number(1, 9, isWild)
                    + " wash " + number(1, 60, isWild) + " ;");
            cradles++;
        }
        n = below(isWild ? 5 : 4);
        for (int i = 0; i < n; i++) {
            add(words, "flock " + name("f", i, isWild) + " birds " + number(1, 20, isWild) + " every " + number(1, 12, isWild) + " ;");
            flocks++;
        }
        n = below(isWild ? 19 : 14);
        int deepest = chance(3) ? 9 : 3;
        for (int i = 0; i < n && tokens < (isWild ? 420 : 370); i++) {
            addOrder(words, deepest, isWild);
        }
        for (int i = chance(3) ? 1 + below(2) : 0; i > 0 && !words.isEmpty(); i--) {
            spoil(words);
        }
        return joined(words);
    }

    private void addOrder(List<String> words, int deepest, boolean isWild) {
        if (cradles > 0 && (flocks == 0 || chance(2))) {
            String test = chance(4) ? "" : " when " + test(below(deepest));
            add(words, "go " + name("c", below(cradles), isWild) + " to " + sum(below(deepest)) + test + " ;");
        } else if (flocks > 0) {
            add(words, "scare " + name("f", below(flocks), isWild) + " when " + test(below(deepest)) + " ;");
        }
    }

    private void add(List<String> words, String line) {
        String[] more = line.split(" ");
        words.addAll(List.of(more));
        tokens += more.length;
    }

    private void spoil(List<String> words) {
        int i = below(words.size());
        switch (below(4)) {
            case 0: words.remove(i); break;
            case 1: words.add(i, WORDS[below(WORDS.length)]); break;
            case 2: words.set(i, WORDS[below(WORDS.length)]); break;
            default: words.set(i, words.get(below(words.size())));
        }
    }

    private String name(String sort, int i, boolean isWild) {
        return sort + (isWild && chance(25) ? below(6) : i);
    }

    private int number(int least, int most, boolean isWild) {
        return isWild && chance(40) ? (chance(2) ? most + 1 : Math.max(0, least - 1)) : least + below(Math.max(1, most - least + 1));
    }

    /** Blanks only where they have to stand, or a few more. */
    private String joined(List<String> words) {
        StringBuilder text = new StringBuilder(" \n ".substring(below(4)));
        boolean isTight = chance(2);
        for (String word : words) {
            char last = text.length() == 0 ? ' ' : text.charAt(text.length() - 1);
            boolean isApart = isTight && (!Character.isLetterOrDigit(last) || !Character.isLetterOrDigit(word.charAt(0)))
                    && word.charAt(0) != '=';
            text.append(isApart ? "" : chance(8) ? "\n" : " ").append(word);
        }
        return text.append(chance(2) ? "" : " \n").toString();
    }

    private String test(int depth) {
        switch (below(depth > 0 ? 7 : 3)) {
            case 0: return "dark b" + below(bays);
            case 1: case 2: return sum(depth) + " " + List.of("<", ">", "=", "<=", ">=").get(below(5)) + " " + sum(depth);
            case 3: return "not " + single(depth - 1);
            case 4: return "[ " + test(depth - 1) + " ]";
            case 5: return test(depth - 1) + " and " + test(depth - 1);
            default: return test(depth - 1) + " or " + test(depth - 1);
        }
    }

    private String single(int depth) {
        return chance(2) ? "[ " + test(depth) + " ]" : depth > 0 && chance(3) ? "not " + single(depth - 1) : "dark b" + below(bays);
    }

    private String sum(int depth) {
        if (depth <= 0 || chance(4)) {
            return value(0);
        }
        switch (below(5)) {
            case 0: return sum(depth - 2) + " + " + sum(depth - 2);
            case 1: return sum(depth - 2) + " - " + value(depth - 1);
            case 2: return value(depth - 2) + " * " + value(depth - 2);
            case 3: return value(depth - 2) + " / " + value(depth - 2);
            default: return value(depth);
        }
    }

    private String value(int depth) {
        switch (below(depth > 0 ? 14 : 8)) {
            case 0: case 1: return "" + below(chance(6) ? 1000000 : 45);
            case 2: return "hour";
            case 3: return chance(3) ? "light" : "wind";
            case 4: return cradles > 0 ? "at c" + below(cradles) : "3";
            case 5: return cradles > 0 ? "water c" + below(cradles) : "4";
            case 6: return flocks > 0 ? "perch f" + below(flocks) : "5";
            case 7: return "hour";
            case 8: return "- " + value(depth - 1);
            case 9: return "( " + sum(depth - 1) + " )";
            case 10: case 11: return "dirt ( " + sum(depth - 1) + " )";
            case 12: return "crack ( " + sum(depth - 1) + " )";
            default: return (chance(2) ? "min" : "max") + " ( " + sum(depth - 1) + " , " + sum(depth - 1) + " )";
        }
    }
}
