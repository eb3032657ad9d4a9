/** Promises 7 act, 16 event, 19 clock, and what act refuses. */
public final class ActTest {
    private static final String[] NAMES = {"IllegalArgumentException", "nothing", "UnsupportedOperationException"};

    public static void main(String[] args) {
        codesAndStamps();
        wrongArguments();
        valuesOfEachKind();
        openLooksAtNoIssue();
        sixteenOfAPlace();
        orderOfExceptions();
        refusedActsChangeNothing();
        skippedActsAreRefused();
        movesByTheRules();
        factsOfTheWorkflow();
        joinedFacts();
        eventsAreAnswered();
        clocks();
        Check.end("ActTest");
    }

    private static void codesAndStamps() {
        IssueFold x = Use.with("B>C;");
        Check.due("open at 0", x.act(0, Use.OPEN, 3, 0, 9), 0);
        Check.due("open at 1", x.act(1, Use.OPEN, 2, 0, 0), 16);
        Check.due("open at 2", x.act(2, Use.OPEN, 1, 0, 4), 32);
        Check.due("move at 2", x.act(2, Use.MOVE, 0, 32, 2), 33);
        Check.due("rank at 2", x.act(2, Use.RANK, 3, 32, 8), 34);
        Check.due("own at 2", x.act(2, Use.OWN, 1, 32, 3), 35);
        Use.eventIs(x, 0, Use.OPEN, 1, 3, 0, 9);
        Use.eventIs(x, 16, Use.OPEN, 1, 2, 16, 0);
        Use.eventIs(x, 32, Use.OPEN, 1, 1, 32, 4);
        Use.eventIs(x, 33, Use.MOVE, 2, 0, 32, 2);
        Use.eventIs(x, 34, Use.RANK, 3, 3, 32, 8);
        Use.eventIs(x, 35, Use.OWN, 4, 1, 32, 3);
        Use.issueIs(x, 0, 0, 1, 9, 4, 1);
        Use.issueIs(x, 1, 16, 1, 0, 4, 1);
        Use.issueIs(x, 2, 32, 2, 8, 3, 4);
        Check.due("known of itself", x.known(2, 2, -1), 4);
        Check.due("known elsewhere", x.known(0, 2, -1), 0);
    }

    private static void wrongArguments() {
        IssueFold x = Use.with("A>B;");
        x.act(0, Use.OPEN, 0, 0, 0);
        for (int bad : new int[] {-1, -2, Integer.MIN_VALUE, Integer.MAX_VALUE}) {
            refused(x, bad, Use.RANK, 0, 0, 0);
            refused(x, 0, bad, 0, 0, 0);
            refused(x, 0, Use.RANK, bad, 0, 0);
            refused(x, 0, Use.RANK, 0, bad, 0);
            refused(x, 0, Use.RANK, 0, 0, bad);
        }
        refused(x, 3, Use.RANK, 0, 0, 0);
        refused(x, 0, 4, 0, 0, 0);
        refused(x, 0, Use.RANK, 4, 0, 0);
        for (int kind = 1; kind < 4; kind++) {
            int k = kind;
            refused(x, 0, kind, 0, 48, 1);
            refused(x, 0, kind, 0, -1, 1);
            Check.unsupported("an issue that isn't there", () -> x.act(0, k, 0, 47, 1));
        }
        Check.due("clock", x.clock(0), 1);
    }

    private static void refused(IssueFold x, int place, int kind, int user, int issue, int value) {
        Check.illegalArgument("act " + place + " " + kind + " " + user + " " + issue + " " + value,
            () -> x.act(place, kind, user, issue, value));
    }

    private static void valuesOfEachKind() {
        int[] greatest = {9, 5, 9, 4};
        for (int kind = 0; kind < 4; kind++) {
            for (int value = -2; value < 12; value++) {
                IssueFold x = Use.with("A>A;A>B;A>C;A>D;A>E;A>F;");
                x.act(0, Use.OPEN, 0, 0, 1);
                int k = kind;
                int v = value;
                boolean fine = value >= 0 && value <= greatest[kind];
                Check.due("kind " + kind + " value " + value, Check.thrownBy(() -> x.act(0, k, 0, 0, v)),
                    NAMES[fine ? 1 : 0]);
                Check.due("its value", x.event(1, 4), fine ? value : -1);
            }
        }
    }

    private static void openLooksAtNoIssue() {
        IssueFold x = Use.with("A>B;");
        int[] issues = {-1, 48, 7, Integer.MIN_VALUE, Integer.MAX_VALUE};
        for (int k = 0; k < issues.length; k++) {
            Check.due("open", x.act(1, Use.OPEN, 0, issues[k], 3), 16 + k);
            Check.due("its issue", x.event(16 + k, 3), 16 + k);
        }
        Check.due("no other issue", x.issue(1, 7, 0), -1);
    }

    private static void sixteenOfAPlace() {
        IssueFold x = Use.with("A>B;");
        for (int k = 0; k < 16; k++) {
            Check.due("open " + k, x.act(1, Use.OPEN, 0, 0, 3), 16 + k);
        }
        Check.illegalState("the seventeenth", () -> x.act(1, Use.OPEN, 0, 0, 3));
        Check.illegalState("of any kind", () -> x.act(1, Use.RANK, 0, 16, 3));
        Check.due("another place", x.act(2, Use.OPEN, 0, 0, 3), 32);
        Check.due("clock", x.clock(1), 16);
        Check.due("all are passed on", Use.pass(x, 1, 2), 16);
        Check.due("others have room of their own", x.act(2, Use.RANK, 0, 31, 4), 33);
        Check.due("its stamp", x.event(33, 1), 17);
    }

    private static void orderOfExceptions() {
        IssueFold none = new IssueFold();
        Check.illegalArgument("a wrong value first", () -> none.act(0, Use.OPEN, 0, 0, 10));
        Check.illegalArgument("a wrong issue first", () -> none.act(0, Use.RANK, 0, 48, 1));
        Check.illegalState("no workflow before skipping", () -> none.act(0, Use.RANK, 0, 47, 1));
        IssueFold full = Use.with("A>B;");
        full.needs(Use.OWN, 1);
        for (int k = 0; k < 16; k++) {
            full.act(0, Use.OPEN, 0, 0, 0);
        }
        Check.illegalArgument("a wrong user first", () -> full.act(0, Use.OPEN, 4, 0, 0));
        Check.illegalState("no room before skipping", () -> full.act(0, Use.MOVE, 0, 0, 5));
        Check.illegalState("no room before skipping", () -> full.act(0, Use.OWN, 0, 0, 0));
        Check.illegalState("no room before skipping", () -> full.act(0, Use.RANK, 0, 40, 0));
    }

    private static void refusedActsChangeNothing() {
        IssueFold x = Use.with("A>B;");
        x.needs(Use.OPEN, 1);
        x.role(1, 1);
        Check.unsupported("open by 0", () -> x.act(0, Use.OPEN, 0, 0, 3));
        Check.due("no event", x.event(0, 0), -1);
        Check.due("no clock", x.clock(0), 0);
        Check.due("not known", x.known(0, 0, -1), 0);
        x.role(0, 0);
        Check.due("open by 1", x.act(0, Use.OPEN, 1, 0, 3), 0);
        Check.unsupported("move", () -> x.act(0, Use.MOVE, 1, 0, 5));
        Check.due("no event", x.event(1, 0), -1);
        Check.due("skipped of no event", x.skipped(0, 1), -1);
        Check.due("clock", x.clock(0), 1);
        Use.issueIs(x, 0, 0, 0, 3, 4, 1);
        Check.due("the next one", x.act(0, Use.RANK, 0, 0, 7), 1);
        Use.eventIs(x, 1, Use.RANK, 2, 0, 0, 7);
    }

    private static void skippedActsAreRefused() {
        IssueFold x = Use.with("A>B;");
        x.act(0, Use.OPEN, 0, 0, 3);
        x.act(0, Use.RANK, 0, 0, 4);
        Check.unsupported("the code of no OPEN", () -> x.act(0, Use.RANK, 0, 1, 3));
        Check.unsupported("the code that it would get", () -> x.act(0, Use.RANK, 0, 2, 3));
        Check.unsupported("an issue of which another place knows", () -> x.act(1, Use.RANK, 0, 0, 3));
        Use.pass(x, 0, 1);
        Check.due("now it knows", x.act(1, Use.RANK, 0, 0, 3), 16);
    }

    private static void movesByTheRules() {
        IssueFold x = Use.with("B>C;C>D;C>C;D>B:n;");
        x.act(0, Use.OPEN, 0, 0, 3);
        Check.unsupported("B to B", () -> x.act(0, Use.MOVE, 0, 0, 1));
        Check.unsupported("B to D", () -> x.act(0, Use.MOVE, 0, 0, 3));
        x.act(0, Use.MOVE, 0, 0, 2);
        Check.unsupported("C to B", () -> x.act(0, Use.MOVE, 0, 0, 1));
        x.act(0, Use.MOVE, 0, 0, 2);
        x.act(0, Use.MOVE, 0, 0, 3);
        x.act(0, Use.OWN, 0, 0, 2);
        Check.unsupported("D to B, owned", () -> x.act(0, Use.MOVE, 0, 0, 1));
        x.act(0, Use.OWN, 0, 0, 4);
        x.act(0, Use.MOVE, 0, 0, 1);
        Use.issueIs(x, 0, 0, 1, 3, 4, 7);

        IssueFold y = Use.with("A>B:u=1;A>B:u=2;A>C:u=1;A>C;");
        for (int k = 0; k < 3; k++) {
            y.act(0, Use.OPEN, 0, 0, 3);
        }
        Check.unsupported("no rule of two", () -> y.act(0, Use.MOVE, 0, 0, 1));
        Check.due("the second rule", y.act(0, Use.MOVE, 2, 0, 1), 3);
        Check.due("the first rule", y.act(0, Use.MOVE, 1, 1, 1), 4);
        Check.due("the one without a condition", y.act(0, Use.MOVE, 3, 2, 2), 5);
    }

    private static void factsOfTheWorkflow() {
        for (int d = 0; d < 10; d++) {
            for (int priority = 0; priority < 10; priority++) {
                holds("p<" + d, priority, 0, 4, priority < d);
                holds("p=" + d, priority, 0, 4, priority == d);
                holds("p>" + d, priority, 0, 4, priority > d);
            }
            for (int user = 0; user < 4; user++) {
                holds("u=" + d, 0, user, 4, user == d);
            }
        }
        for (int owner = 0; owner < 5; owner++) {
            holds("n", 0, 0, owner, owner == 4);
            for (int user = 0; user < 4; user++) {
                holds("o", 0, user, owner, user == owner);
                holds("!o", 0, user, owner, user != owner);
            }
        }
    }

    private static void joinedFacts() {
        for (int bits = 0; bits < 8; bits++) {
            boolean a = (bits & 1) != 0;
            boolean b = (bits & 2) != 0;
            boolean c = (bits & 4) != 0;
            String t = a ? "p=5" : "p=6";
            String u = b ? "u=1" : "!u=1";
            String v = c ? "(!n)" : "n";
            holds(t + "&" + u + "|" + v, 5, 1, 0, a && b || c);
            holds(t + "|" + u + "&" + v, 5, 1, 0, a || b && c);
            holds(t + "&(" + u + "|" + v + ")", 5, 1, 0, a && (b || c));
            holds("!" + t + "&" + u + "|!" + v, 5, 1, 0, !a && b || !c);
            holds("!(" + t + "&" + u + ")&!" + v, 5, 1, 0, !(a && b) && !c);
            holds("!(" + t + "|" + u + "|" + v + ")", 5, 1, 0, !(a || b || c));
            holds("!!" + t + "&!!!" + u, 5, 1, 0, a && !b);
        }
        // Everything that can wait, waits: two answers in each of seven conditions.
        holds("n|!n&(".repeat(6) + "n|p=5&u=1" + ")".repeat(6), 5, 1, 0, true);
        holds("n|!n&(".repeat(6) + "n|p=5&u=1" + ")".repeat(6), 5, 2, 0, false);
        holds("n|!n&(".repeat(6) + "n|p=5&u=1" + ")".repeat(6), 5, 2, 4, true);
        holds("!n|n&(".repeat(6) + "p=4|u=1" + ")".repeat(6), 5, 2, 0, true);
        holds("!n|n&(".repeat(6) + "p=4|u=1" + ")".repeat(6), 5, 2, 4, false);
        holds("!n|n&(".repeat(6) + "p=4|u=1" + ")".repeat(6), 5, 1, 4, true);
    }

    private static void holds(String condition, int priority, int user, int owner, boolean due) {
        IssueFold x = Use.with("E>F:" + condition + ";");
        x.act(0, Use.OPEN, 0, 0, priority);
        x.act(0, Use.OWN, 0, 0, owner);
        Check.due(condition + " with priority " + priority + " user " + user + " owner " + owner,
            Check.thrownBy(() -> x.act(0, Use.MOVE, user, 0, 5)), NAMES[due ? 1 : 2]);
    }

    private static void eventsAreAnswered() {
        IssueFold x = Use.with("A>B;");
        x.act(2, Use.OPEN, 1, 0, 6);
        Check.due("what 5", x.event(32, 5), -1);
        Check.due("what -1", x.event(32, -1), -1);
        for (int what = 0; what < 5; what++) {
            Check.due("the next code", x.event(33, what), -1);
            Check.due("no code", x.event(-1, what), -1);
            Check.due("no code", x.event(-16, what), -1);
            Check.due("no code", x.event(48, what), -1);
            Check.due("no code", x.event(Integer.MAX_VALUE, what), -1);
            Check.due("no code", x.event(Integer.MIN_VALUE, what), -1);
            Check.due("another origin", x.event(0, what), -1);
            Check.due("the last number before", x.event(31, what), -1);
        }
    }

    private static void clocks() {
        IssueFold x = Use.with("A>B;");
        x.act(0, Use.OPEN, 0, 0, 1);
        x.act(0, Use.RANK, 0, 0, 2);
        Check.due("clock 0", x.clock(0), 2);
        Check.due("clock 1", x.clock(1), 0);
        Check.due("clock 2", x.clock(2), 0);
        for (int bad : new int[] {-1, 3, Integer.MIN_VALUE, Integer.MAX_VALUE}) {
            Check.due("clock of none", x.clock(bad), -1);
        }
        x.send(0, 1);
        Check.due("sending leaves the clock", x.clock(0), 2);
        Check.due("on its way", x.clock(1), 0);
        x.deliver(0);
        Check.due("the greatest stamp that came", x.clock(1), 2);
        for (int k = 0; k < 5; k++) {
            x.act(1, Use.RANK, 0, 0, k);
        }
        Check.due("stamps go on from there", x.event(16, 1), 3);
        x.act(0, Use.RANK, 0, 0, 0);
        Use.pass(x, 0, 1);
        Check.due("its own clock was greater", x.clock(1), 7);
    }
}
