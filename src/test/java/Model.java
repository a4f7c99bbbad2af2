import java.util.ArrayList;
import java.util.Arrays;
import java.util.HashSet;
import java.util.List;
import java.util.Set;
import java.util.stream.Collectors;
import java.util.stream.IntStream;

/**
 * The document once more, told in another way, for ModelTest: the list is
 * recognized by its grammar as it stands there, and sums and tests are
 * reckoned from their tokens each time. It knows no exceptions' texts and
 * spares no room.
 */
final class Model {
    private static final Set<String> KEYWORDS = Set.of(("bay panes thick chimney at soot every reach cradle speed wash"
            + " flock birds go to scare when hour wind light dirt crack water perch dark not and or min max").split(" "));

    record Token(String text, int start) {
        boolean isName() {
            return Character.isLowerCase(text.charAt(0)) && !KEYWORDS.contains(text);
        }

        boolean isNumber() {
            return Character.isDigit(text.charAt(0));
        }

        boolean fits(String terminal) {
            return terminal.equals("NAME") ? isName() : terminal.equals("NUMBER") ? isNumber() : terminal.equals(text);
        }
    }

    record Stack(String top, Stack below) {
    }

    static final class Bay {
        String name;
        int panes;
        int thick;
        int first;
    }

    static final class Chimney {
        String name;
        int at;
        int soot;
        int every;
        int reach;
    }

    static final class Order {
        boolean isGo;
        int who;
        List<Token> sum = List.of();
        List<Token> test = List.of();
    }

    static final class Pane implements Cloneable {
        int bay;
        int dirt;
        int cracks;
        boolean gone;

        int light() {
            return gone ? 100 : Math.max(0, 100 - dirt);
        }

        Pane copy() {
            Pane p = new Pane();
            p.bay = bay;
            p.dirt = dirt;
            p.cracks = cracks;
            p.gone = gone;
            return p;
        }
    }

    static final class Cradle {
        String name;
        int pane;
        int speed;
        int wash;
        int water = 20;
        int off;
        boolean spared;

        Cradle copy() {
            Cradle c = new Cradle();
            c.name = name;
            c.pane = pane;
            c.speed = speed;
            c.wash = wash;
            c.water = water;
            c.off = off;
            return c;
        }
    }

    static final class Flock {
        String name;
        int pane = -1;
        int birds;
        int every;
        int moves;

        Flock copy() {
            Flock f = new Flock();
            f.name = name;
            f.pane = pane;
            f.birds = birds;
            f.every = every;
            f.moves = moves;
            return f;
        }
    }

    byte[] tape = new byte[0];
    int errorAt = -1;
    int hour;
    int wind;
    int lost;
    List<Bay> bays = new ArrayList<>();
    List<Chimney> chimneys = new ArrayList<>();
    List<Order> orders = new ArrayList<>();
    List<Pane> panes = new ArrayList<>();
    List<Cradle> cradles = new ArrayList<>();
    List<Flock> flocks = new ArrayList<>();

    Model copy() {
        Model m = new Model();
        m.hour = hour;
        m.wind = wind;
        m.lost = lost;
        m.bays = bays;
        m.chimneys = chimneys;
        m.orders = orders;
        m.panes = panes.stream().map(Pane::copy).collect(Collectors.toList());
        m.cradles = cradles.stream().map(Cradle::copy).collect(Collectors.toList());
        m.flocks = flocks.stream().map(Flock::copy).collect(Collectors.toList());
        return m;
    }

    // ---- the language

    int feed(int... numbers) {
        if (tape.length + 20 > 2000) {
            throw new IllegalStateException();
        }
        int old = tape.length;
        tape = Arrays.copyOf(tape, old + 20);
        for (int i = 0; i < 20; i++) {
            tape[old + i] = (byte) (numbers[i / 4] >>> (24 - 8 * (i % 4)));
        }
        return tape.length;
    }

    int trim(int n) {
        if (n < 0 || n > tape.length) {
            throw new IllegalArgumentException();
        }
        tape = Arrays.copyOf(tape, n);
        return n;
    }

    int teach() {
        byte[] bytes = tape;
        tape = new byte[0];
        List<Token> tokens = new ArrayList<>();
        int bad = tokens(bytes, tokens);
        int failed = firstMisfit(tokens, bad, bytes.length);
        if (failed >= 0) {
            errorAt = failed;
            return 1;
        }
        Model fresh = new Model();
        int error = fresh.build(tokens);
        errorAt = fresh.errorAt;
        if (error == 0) {
            bays = fresh.bays;
            chimneys = fresh.chimneys;
            orders = fresh.orders;
            panes = fresh.panes;
            cradles = fresh.cradles;
            flocks = fresh.flocks;
            lost = 0;
        }
        return error;
    }

    /** Fills the row of tokens, and answers where the first bad one begins, -1 if there is none. */
    private static int tokens(byte[] bytes, List<Token> tokens) {
        int i = 0;
        while (i < bytes.length) {
            char c = (char) (bytes[i] & 255);
            if (c == 32 || c == 10) {
                i++;
                continue;
            }
            int start = i;
            StringBuilder text = new StringBuilder();
            boolean isWord = c >= 'a' && c <= 'z';
            boolean isNumber = c >= '0' && c <= '9';
            if (isWord || isNumber) {
                while (i < bytes.length && (bytes[i] >= '0' && bytes[i] <= '9' || isWord && bytes[i] >= 'a' && bytes[i] <= 'z')) {
                    text.append((char) bytes[i++]);
                }
                if (text.length() > (isWord ? 10 : 6)) {
                    return start;
                }
            } else {
                if ("()[];,+-*/<>=".indexOf(c) < 0) {
                    return start;
                }
                text.append(c);
                i++;
                if ((c == '<' || c == '>') && i < bytes.length && bytes[i] == '=') {
                    text.append('=');
                    i++;
                }
            }
            if (tokens.size() == 400) {
                return start;
            }
            tokens.add(new Token(text.toString(), start));
        }
        return -1;
    }

    private static int firstMisfit(List<Token> tokens, int bad, int length) {
        Set<Stack> stacks = grown(new Stack("list", null));
        for (Token token : tokens) {
            Set<Stack> after = new HashSet<>();
            for (Stack stack : stacks) {
                if (stack.top != null && token.fits(stack.top)) {
                    after.addAll(grown(stack.below));
                }
            }
            if (after.isEmpty()) {
                return token.start;
            }
            stacks = after;
        }
        if (bad >= 0) {
            return bad;
        }
        return stacks.contains(new Stack(null, null)) ? -1 : length;
    }

    /** All stacks that a stack can become, with a terminal on top; null on top stands for the end. */
    private static Set<Stack> grown(Stack stack) {
        if (stack == null) {
            return Set.of(new Stack(null, null));
        }
        String[] productions = productions(stack.top);
        if (productions == null) {
            return Set.of(stack);
        }
        Set<Stack> all = new HashSet<>();
        for (String production : productions) {
            Stack next = stack.below;
            String[] symbols = production.isEmpty() ? new String[0] : production.split(" ");
            for (int i = symbols.length - 1; i >= 0; i--) {
                next = new Stack(symbols[i], next);
            }
            all.addAll(grown(next));
        }
        return all;
    }

    /** What stands for a symbol of the grammar, behind @ its depth; null for a token. */
    private static String[] productions(String symbol) {
        int sign = symbol.indexOf('@');
        String base = sign < 0 ? symbol : symbol.substring(0, sign);
        int depth = sign < 0 ? 0 : Integer.parseInt(symbol.substring(sign + 1));
        String here = "@" + depth;
        String in = depth < 8 ? "@" + (depth + 1) : "-none";
        switch (base) {
            case "list": return new String[] {"", "line ; list"};
            case "line": return new String[] {"bay NAME panes NUMBER thick NUMBER",
                "chimney NAME at NUMBER soot NUMBER every NUMBER reach NUMBER",
                "cradle NAME at NUMBER speed NUMBER wash NUMBER", "flock NAME birds NUMBER every NUMBER",
                "go NAME to sum@0", "go NAME to sum@0 when test@0", "scare NAME when test@0"};
            case "test": return new String[] {"both" + here + " ors" + here};
            case "ors": return new String[] {"", "or both" + here + " ors" + here};
            case "both": return new String[] {"single" + here + " ands" + here};
            case "ands": return new String[] {"", "and single" + here + " ands" + here};
            case "single": return deeper(depth, new String[] {"dark NAME", "sum" + here + " sign sum" + here},
                    "not single" + in, "[ test" + in + " ]");
            case "sign": return new String[] {"<", ">", "=", "<=", ">="};
            case "sum": return new String[] {"product" + here + " sums" + here};
            case "sums": return new String[] {"", "+ product" + here + " sums" + here, "- product" + here + " sums" + here};
            case "product": return new String[] {"value" + here + " products" + here};
            case "products":
                return new String[] {"", "* value" + here + " products" + here, "/ value" + here + " products" + here};
            case "value": return deeper(depth, new String[] {"NUMBER", "hour", "wind", "light", "at NAME", "water NAME",
                "perch NAME", "dirt inner" + here, "crack inner" + here, "min pair" + here, "max pair" + here, "inner" + here},
                    "- value" + in);
            // At the greatest depth it is the ( that is wrong, not the word ahead of it: NEVER stands for what no token fits.
            case "inner": return new String[] {depth < 8 ? "( sum" + in + " )" : "NEVER"};
            case "pair": return new String[] {depth < 8 ? "( sum" + in + " , sum" + in + " )" : "NEVER"};
            default: return null;
        }
    }

    private static String[] deeper(int depth, String[] all, String... onlyAboveTheDeepest) {
        List<String> both = new ArrayList<>(List.of(all));
        if (depth < 8) {
            both.addAll(List.of(onlyAboveTheDeepest));
        }
        return both.toArray(new String[0]);
    }

    /** Takes a list without error 1, and answers its error. */
    private int build(List<Token> tokens) {
        int i = 0;
        while (i < tokens.size()) {
            int end = i;
            while (!tokens.get(end).text.equals(";")) {
                end++;
            }
            List<Token> line = tokens.subList(i, end);
            int error = buildLine(line);
            if (error != 0) {
                return error;
            }
            i = end + 1;
        }
        return 0;
    }

    private int buildLine(List<Token> line) {
        String sort = line.get(0).text;
        String name = line.get(1).text;
        if (sort.equals("go") || sort.equals("scare")) {
            return buildOrder(line, sort, name);
        }
        List<String> names = sort.equals("bay") ? bays.stream().map(b -> b.name).toList()
                : sort.equals("chimney") ? chimneys.stream().map(c -> c.name).toList() : sort.equals("cradle") ? cradleNames()
                : flockNames();
        int most = sort.equals("bay") ? 5 : sort.equals("chimney") ? 4 : 3;
        if (names.contains(name)) {
            return err(2, line.get(1));
        }
        if (names.size() == most) {
            return err(4, line.get(1));
        }
        int[] v = new int[line.size() / 2];
        for (int k = 1; k < v.length; k++) {
            v[k] = Integer.parseInt(line.get(2 * k + 1).text);
            if (!inRange(line.get(2 * k).text, v[k])) {
                return err(5, line.get(2 * k + 1));
            }
        }
        add(sort, name, v);
        return 0;
    }

    private boolean inRange(String word, int v) {
        switch (word) {
            case "panes": return 1 <= v && v <= 8;
            case "thick": return 1 <= v && v <= 9;
            case "at": return 0 <= v && v <= 39 && v < panes.size();
            case "soot": return 1 <= v && v <= 30;
            case "every": return 1 <= v && v <= 12;
            case "reach": return 0 <= v && v <= 9;
            case "speed": return 1 <= v && v <= 9;
            case "wash": return 1 <= v && v <= 60;
            case "birds": return 1 <= v && v <= 20;
            default: throw new AssertionError(word);
        }
    }

    private void add(String sort, String name, int[] v) {
        switch (sort) {
            case "bay": {
                Bay b = new Bay();
                b.name = name;
                b.panes = v[1];
                b.thick = v[2];
                b.first = panes.size();
                for (int i = 0; i < v[1]; i++) {
                    Pane p = new Pane();
                    p.bay = bays.size();
                    panes.add(p);
                }
                bays.add(b);
                break;
            }
            case "chimney": {
                Chimney c = new Chimney();
                c.name = name;
                c.at = v[1];
                c.soot = v[2];
                c.every = v[3];
                c.reach = v[4];
                chimneys.add(c);
                break;
            }
            case "cradle": {
                Cradle c = new Cradle();
                c.name = name;
                c.pane = v[1];
                c.speed = v[2];
                c.wash = v[3];
                cradles.add(c);
                break;
            }
            default: {
                Flock f = new Flock();
                f.name = name;
                f.birds = v[1];
                f.every = v[2];
                flocks.add(f);
            }
        }
    }

    private int buildOrder(List<Token> line, String sort, String name) {
        if (orders.size() == 16) {
            return err(4, line.get(0));
        }
        Order o = new Order();
        o.isGo = sort.equals("go");
        o.who = (o.isGo ? cradleNames() : flockNames()).indexOf(name);
        if (o.who < 0) {
            return err(3, line.get(1));
        }
        for (int i = 2; i + 1 < line.size(); i++) {
            String word = line.get(i).text;
            Token next = line.get(i + 1);
            if ((word.equals("at") || word.equals("water")) && !cradleNames().contains(next.text)
                    || word.equals("perch") && !flockNames().contains(next.text)
                    || word.equals("dark") && bays.stream().noneMatch(b -> b.name.equals(next.text))) {
                return err(3, next);
            }
        }
        int when = IntStream.range(0, line.size()).filter(i -> line.get(i).text.equals("when")).findFirst().orElse(line.size());
        if (o.isGo) {
            o.sum = List.copyOf(line.subList(3, when));
        }
        if (when < line.size()) {
            o.test = List.copyOf(line.subList(when + 1, line.size()));
        }
        orders.add(o);
        return 0;
    }

    private int err(int error, Token token) {
        errorAt = token.start;
        return error;
    }

    private List<String> cradleNames() {
        return cradles.stream().map(c -> c.name).toList();
    }

    private List<String> flockNames() {
        return flocks.stream().map(f -> f.name).toList();
    }

    /** Reckons a row of tokens as things are. */
    private final class Reckoning {
        final List<Token> row;
        int i;

        Reckoning(List<Token> row) {
            this.row = row;
        }

        boolean sees(String... texts) {
            return i < row.size() && List.of(texts).contains(row.get(i).text);
        }

        String take() {
            return row.get(i++).text;
        }

        boolean test() {
            boolean holds = both();
            while (sees("or")) {
                take();
                boolean right = both();
                holds = holds || right;
            }
            return holds;
        }

        boolean both() {
            boolean holds = single();
            while (sees("and")) {
                take();
                boolean right = single();
                holds = holds && right;
            }
            return holds;
        }

        boolean single() {
            if (sees("not")) {
                take();
                return !single();
            }
            if (sees("[")) {
                take();
                boolean holds = test();
                take();
                return holds;
            }
            if (sees("dark")) {
                take();
                String name = take();
                return isDark(bays.stream().filter(b -> b.name.equals(name)).findFirst().orElseThrow());
            }
            int left = sum();
            String sign = take();
            int right = sum();
            switch (sign) {
                case "<": return left < right;
                case ">": return left > right;
                case "=": return left == right;
                case "<=": return left <= right;
                default: return left >= right;
            }
        }

        int sum() {
            long all = product();
            while (sees("+", "-")) {
                all = (int) (take().equals("+") ? all + product() : all - product());
            }
            return (int) all;
        }

        int product() {
            long all = value();
            while (sees("*", "/")) {
                if (take().equals("*")) {
                    all = (int) (all * value());
                } else {
                    long by = value();
                    all = by == 0 ? 0 : (int) (all / by);
                }
            }
            return (int) all;
        }

        int value() {
            String word = take();
            switch (word) {
                case "hour": return hour;
                case "wind": return wind;
                case "light": return light();
                case "at": return cradles.get(cradleNames().indexOf(take())).pane;
                case "water": return cradles.get(cradleNames().indexOf(take())).water;
                case "perch": return flocks.get(flockNames().indexOf(take())).pane;
                case "-": return (int) -(long) value();
                case "(": {
                    int in = sum();
                    take();
                    return in;
                }
                case "dirt": case "crack": {
                    take();
                    int p = sum();
                    take();
                    if (p < 0 || p >= panes.size() || panes.get(p).gone) {
                        return 0;
                    }
                    return word.equals("dirt") ? panes.get(p).dirt : panes.get(p).cracks;
                }
                case "min": case "max": {
                    take();
                    int a = sum();
                    take();
                    int b = sum();
                    take();
                    return word.equals("min") == a < b ? a : b;
                }
                default: return Integer.parseInt(word);
            }
        }
    }

    // ---- hours

    int light() {
        return panes.stream().mapToInt(Pane::light).sum();
    }

    int light(Bay b) {
        return panes.subList(b.first, b.first + b.panes).stream().mapToInt(Pane::light).sum();
    }

    boolean isDark(Bay b) {
        return light(b) < 40 * b.panes;
    }

    boolean isFree(int p) {
        return p >= 0 && !panes.get(p).gone
                && cradles.stream().noneMatch(c -> !c.spared && Math.abs(c.pane - p) <= 1);
    }

    int target(Cradle c) {
        for (Order o : orders) {
            if (o.isGo && cradles.get(o.who) == c && (o.test.isEmpty() || new Reckoning(o.test).test())) {
                int sum = new Reckoning(o.sum).sum();
                return sum < 0 ? 0 : sum > panes.size() - 1 ? panes.size() - 1 : sum;
            }
        }
        return c.pane;
    }

    void oneHour() {
        for (Chimney c : chimneys) {
            for (int p = 0; p < panes.size() && hour % c.every == 0; p++) {
                int apart = Math.abs(p - (c.at + wind));
                if (apart <= c.reach && !panes.get(p).gone && c.soot > apart) {
                    panes.get(p).dirt += c.soot - apart;
                }
            }
        }
        for (Flock f : flocks) {
            boolean goes = hour % f.every == 0 || f.pane < 0 || !isFree(f.pane);
            for (Order o : orders) {
                goes |= !o.isGo && flocks.get(o.who) == f && new Reckoning(o.test).test();
            }
            if (goes) {
                int from = f.pane;
                f.pane = IntStream.range(0, panes.size()).filter(p -> p != from && isFree(p)).boxed()
                        .min((a, b) -> panes.get(a).dirt != panes.get(b).dirt ? panes.get(a).dirt - panes.get(b).dirt : a - b)
                        .orElse(-1);
                f.moves += f.pane == from ? 0 : 1;
            }
            if (f.pane >= 0) {
                panes.get(f.pane).dirt += f.birds;
            }
        }
        for (Cradle c : cradles) {
            if (c.spared) {
                continue;
            }
            int to = target(c);
            for (int s = 0; s < c.speed && c.pane != to; s++) {
                c.pane += to > c.pane ? 1 : -1;
            }
            if (c.pane == 0) {
                c.water = 20;
            }
            Pane p = panes.get(c.pane);
            if (c.water > 0 && !p.gone && p.dirt > 0) {
                int left = p.dirt > c.wash ? p.dirt - c.wash : 0;
                c.off += p.dirt - left;
                p.dirt = left;
                c.water--;
            }
        }
        for (Pane p : panes) {
            if (!p.gone) {
                p.cracks += p.dirt / 10;
                if (p.cracks >= 20 * bays.get(p.bay).thick) {
                    p.gone = true;
                    p.dirt = 0;
                    p.cracks = 0;
                    lost++;
                }
            }
        }
        hour++;
    }

    Model after(int hours) {
        Model m = copy();
        for (int i = 0; i < hours; i++) {
            m.oneHour();
        }
        return m;
    }

    // ---- the calls

    private static void index(boolean fine) {
        if (!fine) {
            throw new IndexOutOfBoundsException();
        }
    }

    private static void argument(boolean fine) {
        if (!fine) {
            throw new IllegalArgumentException();
        }
    }

    private static boolean in(int i, int size) {
        return 0 <= i && i < size;
    }

    private long gone() {
        return panes.stream().filter(p -> p.gone).count();
    }

    private int allDirt() {
        return panes.stream().mapToInt(p -> p.dirt).sum();
    }

    private long dark() {
        return bays.stream().filter(this::isDark).count();
    }

    long count(int what) {
        index(in(what, 14));
        return new long[] {hour, wind, bays.size(), panes.size(), chimneys.size(), cradles.size(), flocks.size(),
            orders.size(), light(), allDirt(), gone(), lost, dark(), tape.length}[what];
    }

    long pane(int pane, int what) {
        index(in(pane, panes.size()) && in(what, 7));
        Pane p = panes.get(pane);
        return new long[] {p.bay, p.dirt, p.cracks, p.gone ? 1 : 0, p.light(),
            cradles.stream().filter(c -> c.pane == pane).count(), isFree(pane) ? 1 : 0}[what];
    }

    long bay(int bay, int what) {
        index(in(bay, bays.size()) && in(what, 5));
        Bay b = bays.get(bay);
        return new long[] {b.panes, b.thick, b.first, light(b), isDark(b) ? 1 : 0}[what];
    }

    long cradle(int cradle, int what) {
        index(in(cradle, cradles.size()) && in(what, 6));
        Cradle c = cradles.get(cradle);
        return new long[] {c.pane, c.speed, c.wash, c.water, target(c), c.off}[what];
    }

    long flock(int flock, int what) {
        index(in(flock, flocks.size()) && in(what, 4));
        Flock f = flocks.get(flock);
        return new long[] {f.pane, f.birds, f.every, f.moves}[what];
    }

    long worst(int place) {
        List<Integer> left = IntStream.range(0, panes.size()).filter(p -> !panes.get(p).gone).boxed()
                .sorted((a, b) -> panes.get(a).dirt == panes.get(b).dirt ? a - b : panes.get(b).dirt - panes.get(a).dirt)
                .toList();
        index(in(place, left.size()));
        return left.get(place);
    }

    long setWind(int to) {
        argument(Math.abs((long) to) <= 3);
        int before = wind;
        wind = to;
        return before;
    }

    long glaze(int pane) {
        index(in(pane, panes.size()));
        if (!panes.get(pane).gone) {
            throw new IllegalStateException();
        }
        panes.get(pane).gone = false;
        return gone();
    }

    long carry(int cradle, int pane) {
        index(in(cradle, cradles.size()) && in(pane, panes.size()));
        int before = cradles.get(cradle).pane;
        cradles.get(cradle).pane = pane;
        return before;
    }

    long scare(int flock) {
        index(in(flock, flocks.size()));
        int before = flocks.get(flock).pane;
        flocks.get(flock).pane = -1;
        return before;
    }

    long pass(int hours) {
        argument(hours >= 1 && hours <= 120);
        int before = lost;
        for (int i = 0; i < hours; i++) {
            oneHour();
        }
        return lost - before;
    }

    long until(int pane) {
        index(in(pane, panes.size()));
        Model m = copy();
        for (int i = 0; i <= 200; i++) {
            if (m.panes.get(pane).gone) {
                return i;
            }
            m.oneHour();
        }
        return -1;
    }

    long foresee(int hours, int what) {
        argument(hours >= 1 && hours <= 120);
        index(in(what, 4));
        Model m = after(hours);
        return new long[] {m.lost - lost, m.light(), m.allDirt(), m.dark()}[what];
    }

    long costs(int hours, int to) {
        argument(hours >= 1 && hours <= 90 && to >= -3 && to <= 3);
        Model m = copy();
        m.wind = to;
        return m.after(hours).allDirt() - after(hours).allDirt();
    }

    long advise(int cradle, int hours) {
        index(in(cradle, cradles.size()));
        argument(hours >= 1 && hours <= 24);
        int best = 0;
        int most = -1;
        for (int p = 0; p < panes.size(); p++) {
            Model m = copy();
            m.cradles.get(cradle).pane = p;
            int light = m.after(hours).light();
            if (light > most) {
                most = light;
                best = p;
            }
        }
        return best;
    }

    long spare(int hours) {
        argument(hours >= 1 && hours <= 90);
        int best = -1;
        int most = -1;
        for (int i = 0; i < cradles.size(); i++) {
            Model m = copy();
            m.cradles.get(i).spared = true;
            for (int h = 0; h < hours; h++) {
                m.oneHour();
            }
            if (m.light() > most) {
                most = m.light();
                best = i;
            }
        }
        return best;
    }

    double mean() {
        return panes.stream().filter(p -> !p.gone).mapToInt(p -> p.dirt).average().orElse(0);
    }

    long digest() {
        long d = 839;
        for (int i = 0; i < 14; i++) {
            d = d * 31 + count(i);
        }
        for (int i = 0; i < panes.size() * 7; i++) {
            d = d * 31 + pane(i / 7, i % 7);
        }
        for (int i = 0; i < bays.size() * 5; i++) {
            d = d * 31 + bay(i / 5, i % 5);
        }
        for (int i = 0; i < cradles.size() * 6; i++) {
            d = d * 31 + cradle(i / 6, i % 6);
        }
        for (int i = 0; i < flocks.size() * 4; i++) {
            d = d * 31 + flock(i / 4, i % 4);
        }
        return d;
    }
}
