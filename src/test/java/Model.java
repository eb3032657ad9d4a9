import java.util.ArrayList;
import java.util.Comparator;
import java.util.List;

/**
 * The document done a second time, in another way and without care for cost: messages carry events, every answer
 * folds anew, texts are looked through character by character, and conditions are weighed by cutting them apart.
 */
final class Model {
    static final class Event {
        int origin;
        int number;
        int stamp;
        int kind;
        int user;
        int issue;
        int value;

        int code() {
            return 16 * origin + number;
        }
    }

    static final class Issue {
        int code;
        char state;
        int priority;
        int owner = 4;
        int deeds = 1;
    }

    static final class Letter {
        int from;
        int to;
        List<Event> events = new ArrayList<>();
        int[] says = new int[3];
    }

    String workflowText = "";
    String queryText = "";
    String workflow = null;
    int place = -1;
    int[] roles = new int[4];
    int[] needs = new int[4];
    List<Event> made = new ArrayList<>();
    List<List<Event>> knows = List.of(new ArrayList<>(), new ArrayList<>(), new ArrayList<>());
    int[] clocks = new int[3];
    int[][][] views = new int[3][3][3];
    List<Letter> letters = new ArrayList<>();
    List<Integer> found = new ArrayList<>();

    static boolean in(int x, int last) {
        return 0 <= x && x <= last;
    }

    boolean write(char c) {
        boolean fine = c >= ' ' && c <= '~' && workflowText.length() < 120;
        workflowText += fine ? String.valueOf(c) : "";
        return fine;
    }

    boolean ask(char c) {
        boolean fine = c >= ' ' && c <= '~' && queryText.length() < 40;
        queryText += fine ? String.valueOf(c) : "";
        return fine;
    }

    int compile() {
        String text = workflowText.replace(" ", "");
        workflowText = "";
        if (workflow != null) {
            throw new IllegalStateException();
        }
        place = illAt(text, false);
        if (place >= 0) {
            throw new IllegalArgumentException();
        }
        workflow = text;
        return text.split(";").length;
    }

    void role(int user, int role) {
        if (!in(user, 3) || !in(role, 3)) {
            throw new IllegalArgumentException();
        }
        if (!made.isEmpty()) {
            throw new IllegalStateException();
        }
        roles[user] = role;
    }

    void needs(int kind, int role) {
        if (!in(kind, 3) || !in(role, 3)) {
            throw new IllegalArgumentException();
        }
        if (!made.isEmpty()) {
            throw new IllegalStateException();
        }
        needs[kind] = role;
    }

    int act(int at, int kind, int user, int issue, int value) {
        if (!in(at, 2) || !in(kind, 3) || !in(user, 3) || !in(value, new int[] {9, 5, 9, 4}[kind])
            || kind > 0 && !in(issue, 47)) {
            throw new IllegalArgumentException();
        }
        int number = countOf(made, at);
        if (workflow == null || number == 16) {
            throw new IllegalStateException();
        }
        Event e = new Event();
        e.origin = at;
        e.number = number;
        e.stamp = clocks[at] + 1;
        e.kind = kind;
        e.user = user;
        e.issue = kind == 0 ? e.code() : issue;
        e.value = value;
        List<Event> with = new ArrayList<>(knows.get(at));
        with.add(e);
        List<Event> left = new ArrayList<>();
        fold(with, left);
        if (left.contains(e)) {
            throw new UnsupportedOperationException();
        }
        made.add(e);
        knows.get(at).add(e);
        clocks[at]++;
        return e.code();
    }

    int send(int from, int to) {
        if (!in(from, 2) || !in(to, 2) || from == to) {
            throw new IllegalArgumentException();
        }
        if (letters.size() == 6) {
            throw new IllegalStateException();
        }
        Letter letter = new Letter();
        letter.from = from;
        letter.to = to;
        for (Event e : knows.get(from)) {
            letter.says[e.origin]++;
            if (e.number >= views[from][to][e.origin]) {
                letter.events.add(e);
            }
        }
        letters.add(letter);
        return letter.events.size();
    }

    int deliver(int k) {
        if (!in(k, letters.size() - 1)) {
            return -1;
        }
        Letter letter = letters.remove(k);
        int fresh = 0;
        for (Event e : letter.events) {
            clocks[letter.to] = Math.max(clocks[letter.to], e.stamp);
            if (!knows.get(letter.to).contains(e)) {
                knows.get(letter.to).add(e);
                fresh++;
            }
        }
        for (int o = 0; o < 3; o++) {
            int[] view = views[letter.to][letter.from];
            view[o] = Math.max(view[o], letter.says[o]);
        }
        return fresh;
    }

    boolean lose(int k) {
        boolean fine = in(k, letters.size() - 1);
        if (fine) {
            letters.remove(k);
        }
        return fine;
    }

    boolean crash(int at) {
        if (in(at, 2)) {
            views[at] = new int[3][3];
        }
        return in(at, 2);
    }

    int query(int at) {
        String text = queryText.replace(" ", "");
        queryText = "";
        found = new ArrayList<>();
        place = -1;
        if (!in(at, 2)) {
            throw new IllegalArgumentException();
        }
        place = text.isEmpty() ? -1 : illAt(text, true);
        if (place >= 0) {
            throw new IllegalArgumentException();
        }
        List<Issue> issues = fold(knows.get(at), new ArrayList<>());
        issues.removeIf(i -> !text.isEmpty() && !holds(text, i, -1));
        issues.sort(Comparator.comparingInt((Issue i) -> -i.priority).thenComparingInt(i -> i.code));
        for (Issue i : issues) {
            found.add(i.code);
        }
        return found.size();
    }

    int result(int k) {
        return in(k, found.size() - 1) ? found.get(k) : -1;
    }

    int issue(int at, int code, int what) {
        if (in(at, 2)) {
            for (Issue i : fold(knows.get(at), new ArrayList<>())) {
                if (i.code == code && in(what, 3)) {
                    return new int[] {i.state - 'A', i.priority, i.owner, i.deeds}[what];
                }
            }
        }
        return -1;
    }

    int event(int code, int what) {
        for (Event e : made) {
            if (e.code() == code && in(what, 4)) {
                return new int[] {e.kind, e.stamp, e.user, e.issue, e.value}[what];
            }
        }
        return -1;
    }

    int skipped(int at, int code) {
        if (in(at, 2)) {
            List<Event> left = new ArrayList<>();
            fold(knows.get(at), left);
            for (Event e : knows.get(at)) {
                if (e.code() == code) {
                    return left.contains(e) ? 1 : 0;
                }
            }
        }
        return -1;
    }

    int known(int at, int origin, int view) {
        if (!in(at, 2) || !in(origin, 2) || view < -1 || view > 2 || view == at) {
            return -1;
        }
        return view == -1 ? countOf(knows.get(at), origin) : views[at][view][origin];
    }

    int clock(int at) {
        return in(at, 2) ? clocks[at] : -1;
    }

    int messages() {
        return letters.size();
    }

    private static int countOf(List<Event> events, int origin) {
        int count = 0;
        for (Event e : events) {
            count += e.origin == origin ? 1 : 0;
        }
        return count;
    }

    private List<Issue> fold(List<Event> events, List<Event> left) {
        List<Event> ordered = new ArrayList<>(events);
        ordered.sort(Comparator.comparingInt((Event e) -> e.stamp).thenComparingInt(e -> e.origin));
        List<Issue> issues = new ArrayList<>();
        for (Event e : ordered) {
            Issue it = null;
            for (Issue i : issues) {
                it = i.code == e.issue ? i : it;
            }
            boolean may = roles[e.user] >= needs[e.kind];
            if (!may || e.kind > 0 && it == null || e.kind == 1 && !ruled(it, (char) ('A' + e.value), e.user)) {
                left.add(e);
            } else if (e.kind == 0) {
                Issue opened = new Issue();
                opened.code = e.issue;
                opened.state = workflow.charAt(0);
                opened.priority = e.value;
                issues.add(opened);
            } else {
                it.deeds++;
                it.state = e.kind == 1 ? (char) ('A' + e.value) : it.state;
                it.priority = e.kind == 2 ? e.value : it.priority;
                it.owner = e.kind == 3 ? e.value : it.owner;
            }
        }
        return issues;
    }

    private boolean ruled(Issue it, char to, int user) {
        for (String rule : workflow.split(";")) {
            if (rule.charAt(0) == it.state && rule.charAt(2) == to
                && (rule.length() == 3 || holds(rule.substring(4), it, user))) {
                return true;
            }
        }
        return false;
    }

    /** Whether a well condition holds; the user is -1 in a query. */
    private boolean holds(String text, Issue it, int user) {
        int cut = outside(text, '|');
        if (cut >= 0) {
            return holds(text.substring(0, cut), it, user) | holds(text.substring(cut + 1), it, user);
        }
        cut = outside(text, '&');
        if (cut >= 0) {
            return holds(text.substring(0, cut), it, user) & holds(text.substring(cut + 1), it, user);
        }
        char last = text.charAt(text.length() - 1);
        switch (text.charAt(0)) {
            case '!': return !holds(text.substring(1), it, user);
            case '(': return holds(text.substring(1, text.length() - 1), it, user);
            case 'n': return it.owner == 4;
            case 'o': return it.owner == user;
            case 's': return it.state == last;
            case 'r': return roles[user] == last - '0';
            case 'u': return (user == -1 ? it.owner : user) == last - '0';
            default:
        }
        int sign = Integer.signum(it.priority - (last - '0'));
        return sign == "<=>".indexOf(text.charAt(1)) - 1;
    }

    private static int outside(String text, char sign) {
        int open = 0;
        for (int i = 0; i < text.length(); i++) {
            open += text.charAt(i) == '(' ? 1 : text.charAt(i) == ')' ? -1 : 0;
            if (open == 0 && text.charAt(i) == sign) {
                return i;
            }
        }
        return -1;
    }

    /** Goes through the text with what may come next and the ! and ( that are open. */
    private static int illAt(String text, boolean query) {
        String stage = query ? "test" : "from";
        String open = "";
        int rules = 0;
        for (int i = 0; i < text.length(); i++) {
            char c = text.charAt(i);
            String next = next(stage, c, query, open);
            if (next.equals("ill") || (c == '!' || c == '(') && open.length() == 6) {
                return i;
            }
            if (c == '!' || c == '(') {
                open += c;
            } else if (c == ')') {
                open = open.substring(0, open.length() - 1);
            }
            if (next.equals("done")) {
                while (open.endsWith("!")) {
                    open = open.substring(0, open.length() - 1);
                }
            }
            rules += c == ';' ? 1 : 0;
            stage = next;
        }
        boolean whole = query ? stage.equals("done") && open.isEmpty() : stage.equals("from") && rules > 0;
        return whole ? -1 : text.length();
    }

    private static String next(String stage, char c, boolean query, String open) {
        boolean state = c >= 'A' && c <= 'F';
        switch (stage) {
            case "from": return state ? "arrow" : "ill";
            case "arrow": return c == '>' ? "to" : "ill";
            case "to": return state ? "reached" : "ill";
            case "reached": return c == ':' ? "test" : c == ';' ? "from" : "ill";
            case "test":
                if (c == '!' || c == '(') {
                    return "test";
                }
                if (c == 'n' || c == 'o' && !query) {
                    return "done";
                }
                return c == 'p' ? "sign" : c == 's' && query ? "is state" : c == 'u' || c == 'r' && !query ? "is" : "ill";
            case "sign": return c == '<' || c == '=' || c == '>' ? "digit" : "ill";
            case "is": return c == '=' ? "digit" : "ill";
            case "is state": return c == '=' ? "state" : "ill";
            case "digit": return Character.isDigit(c) ? "done" : "ill";
            case "state": return state ? "done" : "ill";
            default:
                if (c == '&' || c == '|') {
                    return "test";
                }
                if (c == ')' && open.endsWith("(")) {
                    return "done";
                }
                return c == ';' && open.isEmpty() && !query ? "from" : "ill";
        }
    }
}
