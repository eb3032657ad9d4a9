import java.util.Random;

/** Random runs of calls: the program and the model must answer alike. The seeds are fixed, so all runs are alike. */
public final class ModelTest {
    private static final int RUNS = 4000;
    private static final int CALLS = 512;

    private interface Answer {
        Object get();
    }

    private final Random random;
    private final int run;
    private final IssueFold x = new IssueFold();
    private final Model m = new Model();
    private int calls = 0;

    private ModelTest(int run) {
        this.run = run;
        random = new Random(run);
    }

    public static void main(String[] args) {
        for (int run = 0; run < RUNS; run++) {
            new ModelTest(run).go();
        }
        Check.end("ModelTest");
    }

    private void go() {
        if (random.nextInt(10) > 0) {
            prepare();
        }
        while (calls < CALLS) {
            step();
        }
    }

    private void alike(String what, Answer got, Answer due) {
        calls++;
        if (calls <= CALLS) {
            Check.due("run " + run + " call " + calls + ": " + what, answer(got), answer(due));
        }
    }

    private static Object answer(Answer call) {
        try {
            return call.get();
        } catch (RuntimeException e) {
            return e.getClass().getSimpleName();
        }
    }

    private void prepare() {
        for (int k = random.nextInt(4); k > 0; k--) {
            rights();
        }
        for (int tries = 0; tries < 3; tries++) {
            compileText();
        }
    }

    private void step() {
        switch (random.nextInt(24)) {
            case 0: rights(); break;
            case 1: if (random.nextInt(8) == 0) { compileText(); } break;
            case 2: case 3: case 4: case 5: case 6: case 7: act(); break;
            case 8: case 9: send(); break;
            case 10: case 11: deliver(); break;
            case 12: if (random.nextInt(3) == 0) { lose(); } break;
            case 13: if (random.nextInt(4) == 0) { crash(); } break;
            case 14: if (random.nextInt(3) == 0) { query(); } break;
            default: look();
        }
    }

    /** Mostly a number of the range 0 .. last, sometimes one beside it. */
    private int near(int last) {
        int odd = random.nextInt(60);
        if (odd == 0) {
            return -1;
        }
        if (odd == 1) {
            return last + 1;
        }
        return odd == 2 ? random.nextInt() : random.nextInt(last + 1);
    }

    private void rights() {
        int a = near(3);
        int b = random.nextInt(2) == 0 ? random.nextInt(2) : near(3);
        if (random.nextBoolean()) {
            alike("role " + a + " " + b, () -> { x.role(a, b); return 0; }, () -> { m.role(a, b); return 0; });
        } else {
            alike("needs " + a + " " + b, () -> { x.needs(a, b); return 0; }, () -> { m.needs(a, b); return 0; });
        }
    }

    private void compileText() {
        String text = spoilt(rules(), 120);
        for (char c : text.toCharArray()) {
            alike("write " + c, () -> x.write(c), () -> m.write(c));
        }
        alike("compile " + text, x::compile, m::compile);
        alike("place of " + text, x::place, () -> m.place);
    }

    private String rules() {
        StringBuilder text = new StringBuilder();
        for (int k = 1 + random.nextInt(9); k > 0; k--) {
            text.append(state()).append('>').append(state());
            if (random.nextInt(3) == 0) {
                text.append(':').append(condition(false, 3));
            }
            text.append(';');
        }
        return text.toString();
    }

    private char state() {
        return "AAABBBCCDEF".charAt(random.nextInt(11));
    }

    private String condition(boolean query, int depth) {
        switch (depth == 0 ? 9 : random.nextInt(12)) {
            case 0: case 1: return condition(query, depth - 1) + "|" + condition(query, depth - 1);
            case 2: case 3: return condition(query, depth - 1) + "&" + condition(query, depth - 1);
            case 4: return "!" + condition(query, depth - 1);
            case 5: case 6: return "(" + condition(query, depth - 1) + ")";
            default: return fact(query);
        }
    }

    private String fact(boolean query) {
        int digit = random.nextInt(random.nextBoolean() ? 5 : 10);
        switch (random.nextInt(query ? 6 : 8)) {
            case 0: return "p<" + digit;
            case 1: return "p=" + digit;
            case 2: return "p>" + digit;
            case 3: return "n";
            case 4: return "u=" + digit;
            case 5: return query ? "s=" + state() : "u=" + digit;
            case 6: return "r=" + digit;
            default: return "o";
        }
    }

    /** A text as it is, with blanks, or with a fault or two. */
    private String spoilt(String text, int limit) {
        StringBuilder spoilt = new StringBuilder(text);
        int faults = Math.max(0, random.nextInt(6) - 3);
        for (int k = 0; k < faults; k++) {
            int at = random.nextInt(spoilt.length() + 1);
            String signs = "ABFGs=pnuro!!((())&|<>:;0959 ";
            switch (random.nextInt(4)) {
                case 0: spoilt.setLength(at); break;
                case 1: spoilt.insert(at, "!(".repeat(random.nextInt(5))); break;
                case 2: spoilt.insert(at, signs.charAt(random.nextInt(signs.length()))); break;
                default: if (at < spoilt.length()) { spoilt.deleteCharAt(at); }
            }
        }
        for (int k = Math.max(0, random.nextInt(8) - 4); k > 0; k--) {
            spoilt.insert(random.nextInt(spoilt.length() + 1), random.nextInt(20) == 0 ? "\t" : " ");
        }
        return spoilt.length() > limit + 3 ? spoilt.substring(0, limit + 3) : spoilt.toString();
    }

    private void act() {
        int place = near(2);
        int kind = random.nextInt(5) == 0 ? near(3) : random.nextInt(6) == 0 ? 0 : 1 + random.nextInt(3);
        int user = near(3);
        int issue = pickIssue();
        int value = kind == 1 && random.nextInt(4) > 0 ? random.nextInt(3) : near(kind == 1 ? 5 : kind == 3 ? 4 : 9);
        alike("act " + place + " " + kind + " " + user + " " + issue + " " + value,
            () -> x.act(place, kind, user, issue, value), () -> m.act(place, kind, user, issue, value));
    }

    /** Mostly one of the first codes of a place, as these are where issues are. */
    private int pickIssue() {
        int made = m.made.size();
        if (made > 0 && random.nextInt(5) > 0) {
            return m.made.get(random.nextInt(Math.min(made, 4))).code();
        }
        return near(47);
    }

    private void send() {
        int from = near(2);
        int to = random.nextInt(8) == 0 ? near(2) : (from + 1 + random.nextInt(2)) % 3;
        alike("send " + from + " " + to, () -> x.send(from, to), () -> m.send(from, to));
    }

    private void deliver() {
        int k = random.nextInt(3) == 0 ? near(5) : 0;
        alike("deliver " + k, () -> x.deliver(k), () -> m.deliver(k));
    }

    private void lose() {
        int k = near(5);
        alike("lose " + k, () -> x.lose(k), () -> m.lose(k));
    }

    private void crash() {
        int place = near(2);
        alike("crash " + place, () -> x.crash(place), () -> m.crash(place));
    }

    private void query() {
        String text = random.nextInt(6) == 0 ? "" : spoilt(condition(true, 3), 40);
        for (char c : text.toCharArray()) {
            alike("ask " + c, () -> x.ask(c), () -> m.ask(c));
        }
        int place = near(2);
        alike("query " + place + " of " + text, () -> x.query(place), () -> m.query(place));
        alike("place of " + text, x::place, () -> m.place);
        for (int k = -1; k < Math.min(m.found.size() + 1, 8); k++) {
            int at = k;
            alike("result " + at, () -> x.result(at), () -> m.result(at));
        }
    }

    private void look() {
        int place = near(2);
        int code = random.nextInt(3) == 0 ? near(47) : pickIssue();
        int what = near(4);
        int view = random.nextInt(4) - 1;
        switch (random.nextInt(8)) {
            case 0: case 1:
                alike("issue " + place + " " + code + " " + what,
                    () -> x.issue(place, code, what), () -> m.issue(place, code, what));
                break;
            case 2: alike("event " + code + " " + what, () -> x.event(code, what), () -> m.event(code, what)); break;
            case 3: case 4:
                int recent = m.made.isEmpty() ? code : m.made.get(random.nextInt(m.made.size())).code();
                alike("skipped " + place + " " + recent,
                    () -> x.skipped(place, recent), () -> m.skipped(place, recent));
                break;
            case 5:
                int origin = near(2);
                alike("known " + place + " " + origin + " " + view,
                    () -> x.known(place, origin, view), () -> m.known(place, origin, view));
                break;
            case 6: alike("clock " + place, () -> x.clock(place), () -> m.clock(place)); break;
            default: alike("messages", x::messages, m::messages);
        }
    }
}
