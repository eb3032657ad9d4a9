/**
 * A test for each sentence on events: the terms for users, kinds and conditions, a new object, and promises 5 role,
 * 6 needs, 7 act, 16 event and 19 clock.
 */
public final class SentencesOfEventsTest {
    private static final int[] FAR = {-1, -2, Integer.MIN_VALUE, Integer.MAX_VALUE};
    private static final int[] GREATEST_VALUE = {9, 5, 9, 4};

    public static void main(String[] args) {
        terms();
        meaningOfConditions();
        promise5();
        promise6();
        promise7();
        promise16();
        promise19();
        Check.end("SentencesOfEventsTest");
    }

    private static void terms() {
        Check.sentence("USERS 0 .. 3 have ROLES 0 .. 3, 0 at first", SentencesOfEventsTest::rolesAtFirst);
        Check.sentence("each kind of event NEEDS a role, 0 at first", SentencesOfEventsTest::needsAtFirst);
        Check.sentence("a user may do it whose role is that or greater", SentencesOfEventsTest::thatOrGreater);
        Check.sentence("the ORIGIN 0 .. 2, and their number there, 0 .. 15", SentencesOfEventsTest::codes);
        Check.sentence("OPEN: the issue is the event's own code", SentencesOfEventsTest::openIsItsOwnIssue);
        Check.sentence("OPEN: the value a priority 0 .. 9", () -> valuesOf(Use.OPEN));
        Check.sentence("MOVE: the value is a state, 0 for A .. 5", () -> valuesOf(Use.MOVE));
        Check.sentence("RANK: the value a priority", () -> valuesOf(Use.RANK));
        Check.sentence("OWN: the value is a user, or 4, nobody", () -> valuesOf(Use.OWN));
    }

    private static void rolesAtFirst() {
        for (int user = 0; user < 4; user++) {
            for (int need = 0; need < 4; need++) {
                IssueFold x = Use.with("A>B;");
                x.needs(Use.OPEN, need);
                opens(x, user, need == 0);
            }
            IssueFold y = Use.with("A>B:r=0;");
            y.act(0, Use.OPEN, user, 0, 0);
            Check.due("r=0 holds for user " + user, y.act(0, Use.MOVE, user, 0, 1), 1);
        }
    }

    private static void opens(IssueFold x, int user, boolean may) {
        Check.due("whether user " + user + " may open", Check.thrownBy(() -> x.act(0, Use.OPEN, user, 0, 0)),
            may ? "nothing" : "UnsupportedOperationException");
    }

    private static void needsAtFirst() {
        IssueFold x = Use.with("A>B;");
        for (int kind = 0; kind < 4; kind++) {
            Check.due("kind " + kind + " by one of role 0", x.act(0, kind, 3, 0, 1), kind);
        }
    }

    private static void thatOrGreater() {
        for (int kind = 0; kind < 4; kind++) {
            for (int role = 0; role < 4; role++) {
                for (int need = 0; need < 4; need++) {
                    IssueFold x = Use.with("A>B;");
                    x.role(0, 3);
                    x.role(1, role);
                    x.needs(kind, need);
                    x.act(0, Use.OPEN, 0, 0, 0);
                    int k = kind;
                    Check.due("kind " + kind + " with role " + role + " where it needs " + need,
                        Check.thrownBy(() -> x.act(0, k, 1, 0, 1)),
                        role >= need ? "nothing" : "UnsupportedOperationException");
                }
            }
        }
    }

    private static void codes() {
        IssueFold x = Use.with("A>B;");
        for (int number = 0; number < 16; number++) {
            for (int origin = 0; origin < 3; origin++) {
                Check.due("code of " + origin + " " + number, x.act(origin, Use.OPEN, 0, 0, 0), 16 * origin + number);
            }
        }
    }

    private static void openIsItsOwnIssue() {
        IssueFold x = Use.with("A>B;");
        x.act(2, Use.OPEN, 0, 5, 0);
        x.act(2, Use.OPEN, 0, 32, 0);
        Check.due("its issue", x.event(32, 3), 32);
        Check.due("its issue", x.event(33, 3), 33);
        Check.due("no other one is opened", x.issue(2, 5, 0), -1);
        Check.due("each has one deed", x.issue(2, 32, 3), 1);
    }

    private static void valuesOf(int kind) {
        for (int value = -2; value < 12; value++) {
            acceptsValue(kind, value, value >= 0 && value <= GREATEST_VALUE[kind]);
        }
        acceptsValue(kind, Integer.MIN_VALUE, false);
        acceptsValue(kind, Integer.MAX_VALUE, false);
    }

    private static void acceptsValue(int kind, int value, boolean fine) {
        IssueFold x = Use.with("A>A;A>B;A>C;A>D;A>E;A>F;");
        x.act(0, Use.OPEN, 0, 0, 1);
        Check.due("kind " + kind + " with value " + value, Check.thrownBy(() -> x.act(0, kind, 0, 0, value)),
            fine ? "nothing" : "IllegalArgumentException");
        int what = kind == Use.MOVE ? 0 : kind == Use.OWN ? 2 : 1;
        int issue = kind == Use.OPEN ? 1 : 0;
        int before = kind == Use.OPEN ? -1 : new int[] {0, 1, 4}[what];
        Check.due("what it gave", x.issue(0, issue, what), fine ? value : before);
    }

    private static void meaningOfConditions() {
        Check.sentence("alternatives: one that holds is enough", SentencesOfEventsTest::alternativesHold);
        Check.sentence("tests of an alternative: all must hold", SentencesOfEventsTest::testsHold);
        Check.sentence("! and a test (not)", SentencesOfEventsTest::notHolds);
        Check.sentence("( and a condition and )", SentencesOfEventsTest::bracketsHold);
        Check.sentence("p<d: the priority is less than the digit", () -> comparisons('<'));
        Check.sentence("p=d: equal to", () -> comparisons('='));
        Check.sentence("p>d: greater than", () -> comparisons('>'));
        Check.sentence("n (nobody owns it)", SentencesOfEventsTest::nobodyHolds);
        Check.sentence("u=d: the user who acts is d", SentencesOfEventsTest::actorHolds);
        Check.sentence("r=d: the user who acts has the role d", SentencesOfEventsTest::roleHolds);
        Check.sentence("o: the user who acts owns it", SentencesOfEventsTest::ownsHolds);
    }

    /** Whether a user with a role may move an issue that has a priority and an owner. */
    private static void holds(String condition, int[] priorityUserRoleOwner, boolean due) {
        int user = priorityUserRoleOwner[1];
        IssueFold x = Use.with("E>F:" + condition + ";");
        x.role(user, priorityUserRoleOwner[2]);
        x.act(0, Use.OPEN, 0, 0, priorityUserRoleOwner[0]);
        x.act(0, Use.OWN, 0, 0, priorityUserRoleOwner[3]);
        Check.due(condition, Check.thrownBy(() -> x.act(0, Use.MOVE, user, 0, 5)),
            due ? "nothing" : "UnsupportedOperationException");
    }

    private static int[] of(int priority, int user, int role, int owner) {
        return new int[] {priority, user, role, owner};
    }

    private static void alternativesHold() {
        int[] it = of(5, 1, 0, 4);
        holds("n|n", it, true);
        holds("n|!n", it, true);
        holds("!n|n", it, true);
        holds("!n|!n", it, false);
        holds("!n|!n|n", it, true);
        holds("n|!n|!n", it, true);
        holds("!n|n|!n", it, true);
        holds("!n|".repeat(19) + "n", it, true);
        holds("!n|".repeat(19) + "!n", it, false);
    }

    private static void testsHold() {
        int[] it = of(5, 1, 0, 4);
        holds("n&n", it, true);
        holds("n&!n", it, false);
        holds("!n&n", it, false);
        holds("!n&!n", it, false);
        holds("n&n&!n", it, false);
        holds("!n&n&n", it, false);
        holds("n&!n&n", it, false);
        holds("n&".repeat(50) + "n", it, true);
        holds("n&".repeat(50) + "!n", it, false);
        holds("n|n&!n", it, true);
        holds("!n&n|n", it, true);
        holds("n&!n|!n&n", it, false);
    }

    private static void notHolds() {
        int[] it = of(5, 1, 0, 4);
        holds("!n", it, false);
        holds("!!n", it, true);
        holds("!!!n", it, false);
        holds("!!!!!!n", it, true);
        holds("!!!!!n", it, false);
        holds("!n|n", it, true);
        holds("!p=4&n", it, true);
        holds("!(n|n)", it, false);
        holds("!(n&!n)", it, true);
    }

    private static void bracketsHold() {
        int[] it = of(5, 1, 0, 4);
        holds("(n)", it, true);
        holds("((((((n))))))", it, true);
        holds("(((((!n)))))", it, false);
        holds("(n|n)&!n", it, false);
        holds("!n&(n|n)", it, false);
        holds("n|(n&!n)", it, true);
        holds("(n|n&!n)&n", it, true);
        holds("!n|n&(!n|n&(!n|n&(!n|n&(!n|n&(!n|n&(n|n))))))", it, true);
        holds("!n|n&(!n|n&(!n|n&(!n|n&(!n|n&(!n|n&(p=4|u=0))))))", it, false);
    }

    private static void comparisons(char sign) {
        for (int digit = 0; digit < 10; digit++) {
            for (int priority = 0; priority < 10; priority++) {
                boolean due = sign == '<' ? priority < digit : sign == '=' ? priority == digit : priority > digit;
                holds("p" + sign + digit, of(priority, 0, 0, 4), due);
            }
        }
    }

    private static void nobodyHolds() {
        for (int owner = 0; owner < 5; owner++) {
            holds("n", of(1, 0, 0, owner), owner == 4);
        }
        IssueFold x = Use.with("A>B:n;");
        x.act(0, Use.OPEN, 2, 0, 1);
        Check.due("nobody owns what was opened", x.act(0, Use.MOVE, 2, 0, 1), 1);
    }

    private static void actorHolds() {
        for (int digit = 0; digit < 10; digit++) {
            for (int user = 0; user < 4; user++) {
                holds("u=" + digit, of(1, user, 0, (user + 1) % 5), user == digit);
            }
        }
        holds("u=4", of(1, 0, 0, 4), false);
    }

    private static void roleHolds() {
        for (int digit = 0; digit < 10; digit++) {
            for (int role = 0; role < 4; role++) {
                holds("r=" + digit, of(1, 1, role, 4), role == digit);
            }
        }
    }

    private static void ownsHolds() {
        for (int owner = 0; owner < 5; owner++) {
            for (int user = 0; user < 4; user++) {
                holds("o", of(1, user, 0, owner), user == owner);
            }
        }
    }

    private static void promise5() {
        Check.sentence("role: A user gets a role", SentencesOfEventsTest::aUserGetsARole);
        Check.sentence("role: Until the first event, as often as wanted", SentencesOfEventsTest::roleAsOftenAsWanted);
        Check.sentence("role: IllegalArgumentException: there is no such user", () -> {
            IssueFold x = new IssueFold();
            for (int bad : new int[] {-1, 4, 5, Integer.MIN_VALUE, Integer.MAX_VALUE}) {
                Check.illegalArgument("user " + bad, () -> x.role(bad, 0));
            }
            x.role(0, 0);
            x.role(3, 0);
        });
        Check.sentence("role: IllegalArgumentException: or role", () -> {
            IssueFold x = new IssueFold();
            for (int bad : new int[] {-1, 4, 5, Integer.MIN_VALUE, Integer.MAX_VALUE}) {
                Check.illegalArgument("role " + bad, () -> x.role(0, bad));
            }
            x.role(0, 0);
            x.role(0, 3);
        });
        Check.sentence("role: IllegalStateException: there is an event", SentencesOfEventsTest::roleWithAnEvent);
        Check.sentence("role: of two exceptions the IllegalArgumentException", () -> {
            IssueFold x = withAnEventAt(0);
            Check.illegalArgument("no user", () -> x.role(4, 0));
            Check.illegalArgument("no role", () -> x.role(0, -1));
        });
    }

    private static void aUserGetsARole() {
        for (int user = 0; user < 4; user++) {
            IssueFold x = Use.with("A>B;");
            x.needs(Use.OPEN, 3);
            x.role(user, 3);
            for (int other = 0; other < 4; other++) {
                opens(x, other, other == user);
            }
        }
    }

    private static void roleAsOftenAsWanted() {
        IssueFold x = Use.with("A>B;");
        x.needs(Use.OPEN, 2);
        for (int round = 0; round < 20; round++) {
            x.role(1, 3 - round % 4);
        }
        Check.unsupported("the latest role is 0", () -> x.act(0, Use.OPEN, 1, 0, 0));
        x.role(1, 2);
        Check.illegalArgument("a role that is refused", () -> x.role(1, 4));
        x.send(0, 1);
        x.deliver(0);
        x.role(2, 2);
        Check.due("the latest role is 2", x.act(0, Use.OPEN, 1, 0, 0), 0);
    }

    private static IssueFold withAnEventAt(int place) {
        IssueFold x = Use.with("A>B;");
        x.act(place, Use.OPEN, 0, 0, 0);
        return x;
    }

    private static void roleWithAnEvent() {
        for (int place = 0; place < 3; place++) {
            IssueFold x = withAnEventAt(place);
            Check.illegalState("role", () -> x.role(0, 0));
            Check.illegalState("role of another", () -> x.role(3, 3));
        }
        IssueFold y = Use.with("A>B:r=1;");
        y.act(0, Use.OPEN, 0, 0, 0);
        Check.illegalState("role", () -> y.role(0, 1));
        Check.unsupported("the role is as it was", () -> y.act(0, Use.MOVE, 0, 0, 1));
    }

    private static void promise6() {
        Check.sentence("needs: A kind of event needs a role", SentencesOfEventsTest::aKindNeedsARole);
        Check.sentence("needs: until the first event, as often as wanted", SentencesOfEventsTest::needsAsOftenAsWanted);
        Check.sentence("needs: IllegalArgumentException: there is no such kind", () -> {
            IssueFold x = new IssueFold();
            for (int bad : new int[] {-1, 4, 5, Integer.MIN_VALUE, Integer.MAX_VALUE}) {
                Check.illegalArgument("kind " + bad, () -> x.needs(bad, 0));
            }
            x.needs(0, 0);
            x.needs(3, 0);
        });
        Check.sentence("needs: IllegalArgumentException: or role", () -> {
            IssueFold x = new IssueFold();
            for (int bad : new int[] {-1, 4, 5, Integer.MIN_VALUE, Integer.MAX_VALUE}) {
                Check.illegalArgument("role " + bad, () -> x.needs(0, bad));
            }
            x.needs(0, 0);
            x.needs(0, 3);
        });
        Check.sentence("needs: IllegalStateException: there is an event", SentencesOfEventsTest::needsWithAnEvent);
        Check.sentence("needs: of two exceptions the IllegalArgumentException", () -> {
            IssueFold x = withAnEventAt(0);
            Check.illegalArgument("no kind", () -> x.needs(4, 0));
            Check.illegalArgument("no role", () -> x.needs(0, -1));
        });
    }

    private static void aKindNeedsARole() {
        for (int kind = 0; kind < 4; kind++) {
            IssueFold x = Use.with("A>B;");
            x.role(1, 3);
            x.needs(kind, 3);
            x.act(0, Use.OPEN, 1, 0, 0);
            for (int other = 0; other < 4; other++) {
                int k = other;
                Check.due("kind " + other + " where " + kind + " needs 3",
                    Check.thrownBy(() -> x.act(0, k, 0, 0, 1)),
                    other == kind ? "UnsupportedOperationException" : "nothing");
            }
        }
    }

    private static void needsAsOftenAsWanted() {
        IssueFold x = Use.with("A>B;");
        for (int round = 0; round < 20; round++) {
            x.needs(Use.OPEN, round % 4);
        }
        Check.unsupported("the latest need is 3", () -> x.act(0, Use.OPEN, 0, 0, 0));
        x.needs(Use.OPEN, 0);
        Check.illegalArgument("a need that is refused", () -> x.needs(0, 4));
        Check.due("the latest need is 0", x.act(0, Use.OPEN, 0, 0, 0), 0);
    }

    private static void needsWithAnEvent() {
        for (int place = 0; place < 3; place++) {
            IssueFold x = withAnEventAt(place);
            Check.illegalState("needs", () -> x.needs(0, 0));
            Check.illegalState("needs of another", () -> x.needs(3, 3));
        }
        IssueFold y = withAnEventAt(0);
        Check.illegalState("needs", () -> y.needs(Use.RANK, 1));
        Check.due("the need is as it was", y.act(0, Use.RANK, 0, 0, 1), 1);
    }

    private static void promise7() {
        Check.sentence("act: Makes an event at a place: its code", SentencesOfEventsTest::makesAnEvent);
        Check.sentence("act: The stamp is the clock and 1", SentencesOfEventsTest::stampIsTheClockAndOne);
        Check.sentence("act: which the clock becomes", SentencesOfEventsTest::clockBecomesTheStamp);
        Check.sentence("act: there is no such place", () -> wrongArgument(0, 3));
        Check.sentence("act: there is no such kind", () -> wrongArgument(1, 4));
        Check.sentence("act: there is no such user", () -> wrongArgument(2, 4));
        Check.sentence("act: issue isn't 0 .. 47", SentencesOfEventsTest::issueOutside);
        Check.sentence("act: the value isn't one for the kind", () -> wrongArgument(4, 10));
        Check.sentence("act: issue isn't looked at for 0", SentencesOfEventsTest::issueOfOpen);
        Check.sentence("act: IllegalStateException: there is no workflow", SentencesOfEventsTest::noWorkflow);
        Check.sentence("act: or 16 events of this place", SentencesOfEventsTest::sixteenEvents);
        Check.sentence("act: it would be skipped: its user may not do it", SentencesOfEventsTest::mayNot);
        Check.sentence("act: it would be skipped: its issue isn't there yet", SentencesOfEventsTest::isNotThereYet);
        Check.sentence("act: it would be skipped: no rule", SentencesOfEventsTest::noRule);
        Check.sentence("act: in the place's fold", SentencesOfEventsTest::inThePlacesFold);
        Check.sentence("act: IllegalArgumentException before IllegalStateException", SentencesOfEventsTest::argumentFirst);
        Check.sentence("act: IllegalStateException before Unsupported", SentencesOfEventsTest::stateBeforeSkipping);
        Check.sentence("act: IllegalArgumentException before Unsupported", SentencesOfEventsTest::argumentBeforeSkipping);
        Check.sentence("act: a refused one changes nothing", SentencesOfEventsTest::refusedChangesNothing);
    }

    private static void makesAnEvent() {
        IssueFold x = Use.with("A>B;");
        Check.due("code", x.act(1, Use.OPEN, 2, 0, 7), 16);
        Use.eventIs(x, 16, Use.OPEN, 1, 2, 16, 7);
        Check.due("known where it was made", x.known(1, 1, -1), 1);
        Check.due("not known at 0", x.known(0, 1, -1), 0);
        Check.due("not known at 2", x.known(2, 1, -1), 0);
        Check.due("done there", x.skipped(1, 16), 0);
        Check.due("the second code", x.act(1, Use.RANK, 2, 16, 8), 17);
        Check.due("its deed", x.issue(1, 16, 1), 8);
    }

    private static void stampIsTheClockAndOne() {
        IssueFold x = Use.with("A>B;");
        x.act(0, Use.OPEN, 0, 0, 0);
        x.act(0, Use.RANK, 0, 0, 1);
        x.act(0, Use.RANK, 0, 0, 2);
        Check.due("the first", x.event(0, 1), 1);
        Check.due("the third", x.event(2, 1), 3);
        x.act(1, Use.OPEN, 0, 0, 0);
        Check.due("each place has a clock of its own", x.event(16, 1), 1);
        Use.pass(x, 0, 1);
        x.act(1, Use.RANK, 0, 0, 3);
        Check.due("behind the stamps that came", x.event(17, 1), 4);
        x.crash(1);
        x.act(1, Use.RANK, 0, 0, 3);
        Check.due("behind a crash", x.event(18, 1), 5);
    }

    private static void clockBecomesTheStamp() {
        IssueFold x = Use.with("A>B;");
        for (int k = 1; k <= 16; k++) {
            x.act(2, Use.OPEN, 0, 0, 0);
            Check.due("clock", x.clock(2), k);
        }
        Check.due("no other clock", x.clock(0), 0);
        Check.due("no other clock", x.clock(1), 0);
    }

    /** Of the five arguments one is the first number behind the range, or far outside. */
    private static void wrongArgument(int which, int behind) {
        IssueFold x = Use.with("A>B;");
        x.act(0, Use.OPEN, 0, 0, 0);
        wrongWith(x, which, behind);
        for (int far : FAR) {
            wrongWith(x, which, far);
        }
        Check.due("none was made", x.event(1, 0), -1);
        Check.due("the clock stays", x.clock(0), 1);
    }

    private static void wrongWith(IssueFold x, int which, int number) {
        int[] a = {0, Use.RANK, 0, 0, 0};
        a[which] = number;
        Check.illegalArgument("argument " + which + " is " + number, () -> x.act(a[0], a[1], a[2], a[3], a[4]));
    }

    private static void issueOutside() {
        IssueFold x = Use.with("A>B;");
        x.act(0, Use.OPEN, 0, 0, 0);
        for (int kind = 1; kind < 4; kind++) {
            int k = kind;
            for (int bad : new int[] {-1, 48, 49, Integer.MIN_VALUE, Integer.MAX_VALUE}) {
                Check.illegalArgument("issue " + bad, () -> x.act(0, k, 0, bad, 1));
            }
            Check.unsupported("47 is one", () -> x.act(0, k, 0, 47, 1));
        }
        Check.due("0 is one", x.act(0, Use.RANK, 0, 0, 1), 1);
        for (int k = 0; k < 16; k++) {
            x.act(2, Use.OPEN, 0, 0, 0);
        }
        Use.pass(x, 2, 1);
        Check.due("47 can be there", x.act(1, Use.RANK, 0, 47, 1), 16);
    }

    private static void issueOfOpen() {
        IssueFold x = Use.with("A>B;");
        int[] issues = {-1, 48, 0, 47, Integer.MIN_VALUE, Integer.MAX_VALUE};
        for (int k = 0; k < issues.length; k++) {
            Check.due("open with issue " + issues[k], x.act(0, Use.OPEN, 0, issues[k], 0), k);
        }
    }

    private static void noWorkflow() {
        IssueFold x = new IssueFold();
        for (int kind = 0; kind < 4; kind++) {
            int k = kind;
            Check.illegalState("kind " + kind, () -> x.act(0, k, 0, 0, 1));
        }
        Use.write(x, "A>B;");
        Check.illegalState("a text alone is none", () -> x.act(0, Use.OPEN, 0, 0, 0));
        x.compile();
        Check.due("with one", x.act(0, Use.OPEN, 0, 0, 0), 0);
    }

    private static void sixteenEvents() {
        for (int place = 0; place < 3; place++) {
            int p = place;
            IssueFold x = Use.with("A>B;");
            for (int k = 0; k < 15; k++) {
                x.act(place, Use.OPEN, 0, 0, 0);
            }
            Check.due("the sixteenth", x.act(place, Use.OPEN, 0, 0, 0), 16 * place + 15);
            Check.illegalState("the seventeenth", () -> x.act(p, Use.OPEN, 0, 0, 0));
            Check.illegalState("of another kind", () -> x.act(p, Use.RANK, 0, 16 * p, 1));
            Check.due("the clock stays", x.clock(place), 16);
            int next = (place + 1) % 3;
            Use.pass(x, place, next);
            Check.due("those of others do not count", x.act(next, Use.OPEN, 0, 0, 0), 16 * next);
            x.crash(place);
            Check.illegalState("nor does a crash make room", () -> x.act(p, Use.OPEN, 0, 0, 0));
        }
    }

    private static void mayNot() {
        IssueFold x = Use.with("A>B;");
        x.role(1, 1);
        x.role(2, 2);
        x.needs(Use.MOVE, 2);
        x.act(0, Use.OPEN, 0, 0, 0);
        Check.unsupported("with role 0", () -> x.act(0, Use.MOVE, 0, 0, 1));
        Check.unsupported("with role 1", () -> x.act(0, Use.MOVE, 1, 0, 1));
        Check.due("with role 2", x.act(0, Use.MOVE, 2, 0, 1), 1);
    }

    private static void isNotThereYet() {
        IssueFold x = Use.with("A>B;");
        for (int kind = 1; kind < 4; kind++) {
            int k = kind;
            Check.unsupported("before any event, kind " + kind, () -> x.act(0, k, 0, 0, 1));
        }
        x.act(0, Use.OPEN, 0, 0, 0);
        x.act(0, Use.RANK, 0, 0, 1);
        for (int kind = 1; kind < 4; kind++) {
            int k = kind;
            Check.unsupported("the code of a RANK, kind " + kind, () -> x.act(0, k, 0, 1, 1));
            Check.unsupported("the code that comes next, kind " + kind, () -> x.act(0, k, 0, 2, 1));
        }
    }

    private static void noRule() {
        IssueFold x = Use.with("B>C;C>D;D>E:!n;");
        x.act(0, Use.OPEN, 0, 0, 0);
        Check.unsupported("where it is", () -> x.act(0, Use.MOVE, 0, 0, 1));
        Check.unsupported("the rule's second step", () -> x.act(0, Use.MOVE, 0, 0, 3));
        Check.unsupported("a state of no rule", () -> x.act(0, Use.MOVE, 0, 0, 0));
        x.act(0, Use.MOVE, 0, 0, 2);
        Check.unsupported("the way back", () -> x.act(0, Use.MOVE, 0, 0, 1));
        x.act(0, Use.MOVE, 0, 0, 3);
        Check.unsupported("a condition that does not hold", () -> x.act(0, Use.MOVE, 0, 0, 4));
        x.act(0, Use.OWN, 0, 0, 0);
        Check.due("one that holds", x.act(0, Use.MOVE, 0, 0, 4), 4);
        for (int rules = 1; rules <= 30; rules++) {
            IssueFold y = Use.with("A>B;".repeat(rules));
            y.act(0, Use.OPEN, 0, 0, 0);
            Check.unsupported("to A, with rules " + rules, () -> y.act(0, Use.MOVE, 0, 0, 0));
        }
    }

    private static void inThePlacesFold() {
        IssueFold x = Use.with("A>B;");
        x.act(0, Use.OPEN, 0, 0, 0);
        Check.unsupported("1 does not know the issue", () -> x.act(1, Use.RANK, 0, 0, 1));
        x.send(0, 1);
        Check.unsupported("it is on its way", () -> x.act(1, Use.RANK, 0, 0, 1));
        x.deliver(0);
        x.act(0, Use.MOVE, 0, 0, 1);
        Check.unsupported("moved already at 0", () -> x.act(0, Use.MOVE, 0, 0, 1));
        Check.due("not moved yet at 1", x.act(1, Use.MOVE, 0, 0, 1), 16);
    }

    private static void argumentFirst() {
        IssueFold none = new IssueFold();
        IssueFold full = Use.with("A>B;");
        for (int k = 0; k < 16; k++) {
            full.act(0, Use.OPEN, 0, 0, 0);
        }
        for (IssueFold x : new IssueFold[] {none, full}) {
            Check.illegalArgument("place", () -> x.act(3, Use.RANK, 0, 0, 0));
            Check.illegalArgument("kind", () -> x.act(0, 4, 0, 0, 0));
            Check.illegalArgument("user", () -> x.act(0, Use.RANK, 4, 0, 0));
            Check.illegalArgument("issue", () -> x.act(0, Use.RANK, 0, 48, 0));
            Check.illegalArgument("value", () -> x.act(0, Use.RANK, 0, 0, 10));
            Check.illegalState("none of them", () -> x.act(0, Use.RANK, 0, 0, 0));
        }
    }

    private static void stateBeforeSkipping() {
        IssueFold none = new IssueFold();
        none.needs(Use.OPEN, 1);
        Check.illegalState("no workflow, and it may not", () -> none.act(0, Use.OPEN, 0, 0, 0));
        Check.illegalState("no workflow, and no issue", () -> none.act(0, Use.RANK, 0, 0, 0));
        IssueFold full = Use.with("A>B;");
        full.needs(Use.OWN, 1);
        for (int k = 0; k < 16; k++) {
            full.act(0, Use.OPEN, 0, 0, 0);
        }
        Check.illegalState("full, and it may not", () -> full.act(0, Use.OWN, 0, 0, 0));
        Check.illegalState("full, and no issue", () -> full.act(0, Use.RANK, 0, 16, 0));
        Check.illegalState("full, and no rule", () -> full.act(0, Use.MOVE, 0, 0, 2));
    }

    private static void argumentBeforeSkipping() {
        IssueFold x = Use.with("A>B;");
        x.needs(Use.OPEN, 1);
        Check.illegalArgument("a value, and it may not", () -> x.act(0, Use.OPEN, 0, 0, 10));
        Check.illegalArgument("a value, and no issue", () -> x.act(0, Use.MOVE, 0, 0, 6));
        Check.illegalArgument("an issue that cannot be", () -> x.act(0, Use.RANK, 0, 48, 0));
        Check.illegalArgument("a user, and no issue", () -> x.act(0, Use.RANK, 4, 0, 0));
    }

    private static void refusedChangesNothing() {
        IssueFold x = Use.with("A>B;");
        x.act(0, Use.OPEN, 0, 0, 3);
        Check.illegalArgument("a value", () -> x.act(0, Use.RANK, 0, 0, 10));
        Check.unsupported("no rule", () -> x.act(0, Use.MOVE, 0, 0, 5));
        Check.unsupported("no issue", () -> x.act(0, Use.OWN, 0, 1, 1));
        Check.due("clock", x.clock(0), 1);
        Check.due("known", x.known(0, 0, -1), 1);
        Check.due("event", x.event(1, 0), -1);
        Check.due("skipped", x.skipped(0, 1), -1);
        Use.issueIs(x, 0, 0, 0, 3, 4, 1);
        Check.due("what it sends", x.send(0, 1), 1);
        Check.due("the next code", x.act(0, Use.RANK, 1, 0, 4), 1);
        Use.eventIs(x, 1, Use.RANK, 2, 1, 0, 4);
    }

    private static void promise16() {
        Check.sentence("event: 0 its kind, 1 its stamp, 2 its user, 3 its issue, 4 its value", () -> {
            IssueFold x = Use.with("A>B;");
            x.act(1, Use.OPEN, 3, 0, 9);
            x.act(1, Use.MOVE, 1, 16, 1);
            x.act(1, Use.RANK, 2, 16, 0);
            x.act(1, Use.OWN, 0, 16, 4);
            Use.eventIs(x, 16, Use.OPEN, 1, 3, 16, 9);
            Use.eventIs(x, 17, Use.MOVE, 2, 1, 16, 1);
            Use.eventIs(x, 18, Use.RANK, 3, 2, 16, 0);
            Use.eventIs(x, 19, Use.OWN, 4, 0, 16, 4);
        });
        Check.sentence("event: NONE if there is none", SentencesOfEventsTest::noEvent);
        Check.sentence("event: there is no such what", () -> {
            IssueFold x = withAnEventAt(0);
            for (int bad : new int[] {-1, 5, 6, Integer.MIN_VALUE, Integer.MAX_VALUE}) {
                Check.due("what " + bad, x.event(0, bad), -1);
            }
        });
        Check.sentence("event: anywhere", () -> {
            IssueFold x = withAnEventAt(2);
            Check.due("known at its origin alone", x.event(32, 1), 1);
            x.send(2, 0);
            x.lose(0);
            x.crash(2);
            Check.due("after a lost message and a crash", x.event(32, 1), 1);
        });
    }

    private static void noEvent() {
        IssueFold x = Use.with("A>B;");
        for (int k = 0; k < 16; k++) {
            x.act(1, Use.OPEN, 0, 0, 0);
        }
        for (int what = 0; what < 5; what++) {
            for (int bad : new int[] {-1, -16, 0, 15, 32, 47, 48, 64, Integer.MIN_VALUE, Integer.MAX_VALUE}) {
                Check.due("code " + bad, x.event(bad, what), -1);
            }
            Check.due("the first is there", x.event(16, what) == -1, false);
            Check.due("the last is there", x.event(31, what) == -1, false);
        }
        IssueFold y = withAnEventAt(0);
        Check.due("the number that comes next", y.event(1, 0), -1);
    }

    private static void promise19() {
        Check.sentence("A place has a CLOCK, 0 at first", () -> {
            IssueFold x = new IssueFold();
            for (int place = 0; place < 3; place++) {
                Check.due("clock " + place, x.clock(place), 0);
            }
        });
        Check.sentence("clock: The clock of a place", () -> {
            IssueFold x = Use.with("A>B;");
            for (int k = 0; k < 6; k++) {
                x.act(k == 0 ? 0 : k < 3 ? 1 : 2, Use.OPEN, 0, 0, 0);
            }
            for (int place = 0; place < 3; place++) {
                Check.due("clock " + place, x.clock(place), place + 1);
            }
        });
        Check.sentence("clock: NONE if there is none", () -> {
            IssueFold x = withAnEventAt(0);
            for (int bad : new int[] {-1, 3, 4, Integer.MIN_VALUE, Integer.MAX_VALUE}) {
                Check.due("clock " + bad, x.clock(bad), -1);
            }
        });
    }
}
