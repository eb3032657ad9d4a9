/** Short ways to use an object that the tests share. */
final class Use {
    static final int OPEN = 0;
    static final int MOVE = 1;
    static final int RANK = 2;
    static final int OWN = 3;

    private Use() {
    }

    static void write(IssueFold x, String text) {
        for (int i = 0; i < text.length(); i++) {
            Check.due("write of " + text + " at " + i, x.write(text.charAt(i)), true);
        }
    }

    static void ask(IssueFold x, String text) {
        for (int i = 0; i < text.length(); i++) {
            Check.due("ask of " + text + " at " + i, x.ask(text.charAt(i)), true);
        }
    }

    static IssueFold with(String workflow) {
        IssueFold x = new IssueFold();
        write(x, workflow);
        x.compile();
        return x;
    }

    /** Compiles a text on a new object that must find it ill at a place. */
    static void illWorkflow(String text, int place) {
        IssueFold x = new IssueFold();
        write(x, text);
        Check.illegalArgument("compile of " + text, x::compile);
        Check.due("place of " + text, x.place(), place);
    }

    static void wellWorkflow(String text, int rules) {
        IssueFold x = new IssueFold();
        write(x, text);
        Check.due("compile of " + text, x.compile(), rules);
        Check.due("place of " + text, x.place(), IssueFold.NONE);
    }

    static void illQuery(IssueFold x, String text, int place) {
        ask(x, text);
        Check.illegalArgument("query of " + text, () -> x.query(0));
        Check.due("place of " + text, x.place(), place);
        Check.due("result of " + text, x.result(0), IssueFold.NONE);
    }

    /** Asks a place and compares all that is found. */
    static void found(IssueFold x, int place, String text, int... codes) {
        ask(x, text);
        Check.due("query of " + text, x.query(place), codes.length);
        Check.due("place of " + text, x.place(), IssueFold.NONE);
        for (int k = 0; k < codes.length; k++) {
            Check.due("result " + k + " of " + text, x.result(k), codes[k]);
        }
        Check.due("result behind the last of " + text, x.result(codes.length), IssueFold.NONE);
    }

    /** A message that is sent and comes at once, before all that are on their way. */
    static int pass(IssueFold x, int from, int to) {
        x.send(from, to);
        return x.deliver(x.messages() - 1);
    }

    static void issueIs(IssueFold x, int place, int code, int state, int priority, int owner, int deeds) {
        String name = "issue " + code + " at " + place;
        Check.due(name + " state", x.issue(place, code, 0), state);
        Check.due(name + " priority", x.issue(place, code, 1), priority);
        Check.due(name + " owner", x.issue(place, code, 2), owner);
        Check.due(name + " deeds", x.issue(place, code, 3), deeds);
    }

    static void eventIs(IssueFold x, int code, int kind, int stamp, int user, int issue, int value) {
        String name = "event " + code;
        Check.due(name + " kind", x.event(code, 0), kind);
        Check.due(name + " stamp", x.event(code, 1), stamp);
        Check.due(name + " user", x.event(code, 2), user);
        Check.due(name + " issue", x.event(code, 3), issue);
        Check.due(name + " value", x.event(code, 4), value);
    }
}
