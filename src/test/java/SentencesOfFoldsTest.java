/** A test for each sentence on folds: their terms, promise 1 a new object, and promises 15 issue and 17 skipped. */
public final class SentencesOfFoldsTest {
    private static final int[] NO_PLACE = {-1, 3, 4, Integer.MIN_VALUE, Integer.MAX_VALUE};

    public static void main(String[] args) {
        Check.sentence("An object is used for at most 512 calls", SentencesOfFoldsTest::fiveHundredAndTwelveCalls);
        promise1();
        order();
        skippedOnes();
        doneOnes();
        promise15();
        promise17();
        Check.end("SentencesOfFoldsTest");
    }

    /** All that can be filled is full at the end, and the last of the calls are answered as they are due. */
    private static void fiveHundredAndTwelveCalls() {
        IssueFold x = new IssueFold();
        Use.write(x, "A>B;".repeat(30));
        x.compile();
        for (int k = 0; k < 48; k++) {
            x.act(k / 16, Use.OPEN, 0, 0, k % 10);
        }
        int calls = 120 + 1 + 48;
        for (int k = 0; k < 6; k++) {
            x.send(k % 3, (k + 1) % 3);
            x.deliver(0);
            calls += 2;
        }
        for (int k = 0; k < 6; k++) {
            x.send(0, 1);
            calls++;
        }
        Use.ask(x, "n|".repeat(19) + "!n");
        calls += 40;
        while (calls < 508) {
            x.crash(calls % 3);
            calls++;
        }
        Check.due("call 509", x.query(0), 48);
        Check.due("call 510", x.result(0), 9);
        Check.due("call 511", x.result(47), 40);
        Check.due("call 512", x.deliver(5), 0);
    }

    private static void promise1() {
        Check.sentence("A new object: No workflow", () -> {
            IssueFold x = new IssueFold();
            Check.illegalState("act", () -> x.act(0, Use.OPEN, 0, 0, 0));
            Check.illegalArgument("the text is empty", x::compile);
            Check.due("so it is ill at 0", x.place(), 0);
            Use.write(x, "A>B;");
            Check.due("there is room for one", x.compile(), 1);
        });
        Check.sentence("A new object: no events", () -> {
            IssueFold x = new IssueFold();
            x.role(3, 3);
            x.needs(3, 3);
            for (int code = 0; code < 48; code++) {
                Check.due("event " + code, x.event(code, 0), -1);
                for (int place = 0; place < 3; place++) {
                    Check.due("skipped " + code, x.skipped(place, code), -1);
                    Check.due("issue " + code, x.issue(place, code, 0), -1);
                }
            }
            for (int place = 0; place < 3; place++) {
                Check.due("query", x.query(place), 0);
                for (int origin = 0; origin < 3; origin++) {
                    Check.due("known", x.known(place, origin, -1), 0);
                }
            }
        });
        Check.sentence("A new object: nothing on its way", () -> {
            IssueFold x = new IssueFold();
            Check.due("messages", x.messages(), 0);
            Check.due("deliver", x.deliver(0), -1);
            Check.due("lose", x.lose(0), false);
        });
        Check.sentence("A new object: nothing of another object", () -> {
            IssueFold other = Use.with("A>B;");
            other.act(0, Use.OPEN, 0, 0, 0);
            other.send(0, 1);
            other.ask('?');
            other.write('?');
            IssueFold x = new IssueFold();
            Check.due("event", x.event(0, 0), -1);
            Check.due("messages", x.messages(), 0);
            Check.due("query", x.query(0), 0);
            Use.write(x, "C>B;");
            Check.due("compile", x.compile(), 1);
            Check.due("the other goes on", other.deliver(0), 1);
        });
    }

    private static void order() {
        Check.sentence("Its FOLD goes through all events that it knows", SentencesOfFoldsTest::allThatItKnows);
        Check.sentence("ordered by stamp", SentencesOfFoldsTest::byStamp);
        Check.sentence("with equal stamps by origin", SentencesOfFoldsTest::byOrigin);
        Check.sentence("in one order for all", SentencesOfFoldsTest::oneOrderForAll);
    }

    /** An issue 32 that all places know, opened with a priority. */
    private static IssueFold shared(String workflow, int priority) {
        IssueFold x = Use.with(workflow);
        x.act(2, Use.OPEN, 0, 0, priority);
        Use.pass(x, 2, 0);
        Use.pass(x, 2, 1);
        return x;
    }

    private static void allThatItKnows() {
        IssueFold x = shared("A>B;", 0);
        x.act(0, Use.RANK, 0, 32, 5);
        x.act(1, Use.OWN, 0, 32, 3);
        x.act(2, Use.MOVE, 0, 32, 1);
        Use.issueIs(x, 2, 32, 1, 0, 4, 2);
        Use.pass(x, 0, 2);
        Use.issueIs(x, 2, 32, 1, 5, 4, 3);
        Use.pass(x, 1, 2);
        Use.issueIs(x, 2, 32, 1, 5, 3, 4);
        Use.issueIs(x, 0, 32, 0, 5, 4, 2);
        Use.issueIs(x, 1, 32, 0, 0, 3, 2);
    }

    private static void byStamp() {
        IssueFold x = shared("A>B;", 0);
        x.act(0, Use.RANK, 0, 32, 1);
        x.act(0, Use.RANK, 0, 32, 2);
        x.act(0, Use.RANK, 0, 32, 3);
        x.act(1, Use.RANK, 0, 32, 4);
        x.act(1, Use.RANK, 0, 32, 5);
        x.act(2, Use.RANK, 0, 32, 6);
        Use.pass(x, 1, 0);
        Check.due("stamp 4 of 0 behind stamp 3 of 1", x.issue(0, 32, 1), 3);
        Use.pass(x, 2, 0);
        Check.due("and behind stamp 2 of 2", x.issue(0, 32, 1), 3);
        Use.pass(x, 2, 1);
        Check.due("stamp 3 of 1 behind stamp 2 of 2", x.issue(1, 32, 1), 5);
        Use.pass(x, 0, 1);
        Check.due("stamp 4 of 0 is the last", x.issue(1, 32, 1), 3);
        Check.due("all seven are done", x.issue(1, 32, 3), 7);
    }

    private static void byOrigin() {
        for (int receiver = 0; receiver < 3; receiver++) {
            for (int first = 1; first < 3; first++) {
                IssueFold x = shared("A>B;", 9);
                for (int place = 0; place < 3; place++) {
                    x.act(place, Use.RANK, 0, 32, place);
                }
                int one = (receiver + first) % 3;
                Use.pass(x, one, receiver);
                Check.due("the greater origin of two is the last", x.issue(receiver, 32, 1), Math.max(one, receiver));
                Use.pass(x, 3 - one - receiver, receiver);
                Check.due("2 is the last of three", x.issue(receiver, 32, 1), 2);
            }
        }
    }

    private static void oneOrderForAll() {
        IssueFold x = shared("A>B;A>C;A>D;B>E;C>E;", 9);
        for (int place = 0; place < 3; place++) {
            x.act(place, Use.MOVE, place, 32, place + 1);
            x.act(place, Use.OWN, place, 32, place);
        }
        int[] route = {0, 1, 1, 2, 2, 0, 0, 1};
        for (int k = 0; k < route.length; k += 2) {
            Use.pass(x, route[k], route[k + 1]);
        }
        for (int place = 0; place < 3; place++) {
            Use.issueIs(x, place, 32, 1, 9, 2, 5);
            Check.due("the move of 0", x.skipped(place, 0), 0);
            Check.due("the move of 1", x.skipped(place, 16), 1);
            Check.due("the move of 2", x.skipped(place, 33), 1);
        }
    }

    private static void skippedOnes() {
        Check.sentence("SKIPPED if there is no rule from the issue's state", SentencesOfFoldsTest::noRuleFromTheState);
        Check.sentence("no rule to the value", SentencesOfFoldsTest::noRuleToTheValue);
        Check.sentence("without a condition or with one that holds", SentencesOfFoldsTest::oneRuleIsEnough);
        Check.sentence("holds for the issue as it is then: its priority", SentencesOfFoldsTest::priorityThen);
        Check.sentence("holds for the issue as it is then: its owner", SentencesOfFoldsTest::ownerThen);
        Check.sentence("and the user", SentencesOfFoldsTest::andTheUser);
        Check.sentence("SKIPPED is told anew by each fold", SentencesOfFoldsTest::skippedAnew);
        Check.sentence("a skipped event does nothing", SentencesOfFoldsTest::skippedDoesNothing);
    }

    private static void noRuleFromTheState() {
        IssueFold x = shared("A>B;A>C;C>D;", 0);
        x.act(0, Use.MOVE, 0, 32, 1);
        x.act(1, Use.MOVE, 0, 32, 2);
        x.act(1, Use.MOVE, 0, 32, 3);
        Check.due("done at 1 alone", x.skipped(1, 17), 0);
        Use.pass(x, 0, 1);
        Check.due("no rule from B to C", x.skipped(1, 16), 1);
        Check.due("nor from B to D", x.skipped(1, 17), 1);
        Check.due("state", x.issue(1, 32, 0), 1);
    }

    private static void noRuleToTheValue() {
        IssueFold x = shared("A>B;", 0);
        x.act(0, Use.MOVE, 0, 32, 1);
        x.act(1, Use.MOVE, 0, 32, 1);
        Use.pass(x, 0, 1);
        Check.due("no rule from B to B", x.skipped(1, 16), 1);
        IssueFold y = shared("A>B;B>B;", 0);
        y.act(0, Use.MOVE, 0, 32, 1);
        y.act(1, Use.MOVE, 0, 32, 1);
        Use.pass(y, 0, 1);
        Check.due("a rule from B to B", y.skipped(1, 16), 0);
        Check.due("both moves are done", y.issue(1, 32, 3), 3);
    }

    private static void oneRuleIsEnough() {
        IssueFold x = Use.with("A>B:p=1;A>B:p=2;A>B:p=3;A>C:p=1;A>C;A>D;A>D:p=1;");
        for (int priority = 0; priority < 5; priority++) {
            int issue = x.act(0, Use.OPEN, 0, 0, priority);
            Check.due("to B with priority " + priority, Check.thrownBy(() -> x.act(0, Use.MOVE, 0, issue, 1)),
                priority >= 1 && priority <= 3 ? "nothing" : "UnsupportedOperationException");
        }
        int issue = x.act(0, Use.OPEN, 0, 0, 7);
        x.act(0, Use.MOVE, 0, issue, 2);
        Check.due("to C by the second of two rules", x.issue(0, issue, 0), 2);
        int last = x.act(0, Use.OPEN, 0, 0, 7);
        x.act(0, Use.MOVE, 0, last, 3);
        Check.due("to D by the first of two rules", x.issue(0, last, 0), 3);
    }

    private static void priorityThen() {
        IssueFold x = shared("A>B:p=5;", 5);
        x.act(0, Use.RANK, 0, 32, 1);
        x.act(1, Use.MOVE, 0, 32, 1);
        x.act(2, Use.RANK, 0, 32, 2);
        Use.pass(x, 2, 1);
        Check.due("a rank behind it changes nothing", x.skipped(1, 16), 0);
        Use.issueIs(x, 1, 32, 1, 2, 4, 3);
        Use.pass(x, 0, 1);
        Check.due("a rank before it does", x.skipped(1, 16), 1);
        Use.issueIs(x, 1, 32, 0, 2, 4, 3);
    }

    private static void ownerThen() {
        IssueFold x = shared("A>B:n;", 5);
        x.act(0, Use.OWN, 0, 32, 1);
        x.act(1, Use.MOVE, 0, 32, 1);
        x.act(2, Use.OWN, 0, 32, 2);
        Use.pass(x, 2, 1);
        Check.due("an owner behind it changes nothing", x.skipped(1, 16), 0);
        Use.pass(x, 0, 1);
        Check.due("an owner before it does", x.skipped(1, 16), 1);
        Use.issueIs(x, 1, 32, 0, 5, 2, 3);
    }

    private static void andTheUser() {
        IssueFold x = Use.with("A>B:u=1;A>B:r=2;A>B:o;");
        x.role(2, 2);
        for (int user = 0; user < 4; user++) {
            int issue = x.act(0, Use.OPEN, 3, 0, 0);
            int u = user;
            Check.due("user " + user, Check.thrownBy(() -> x.act(0, Use.MOVE, u, issue, 1)),
                user == 1 || user == 2 ? "nothing" : "UnsupportedOperationException");
        }
        int owned = x.act(0, Use.OPEN, 3, 0, 0);
        x.act(0, Use.OWN, 1, owned, 3);
        Check.unsupported("0 does not own it", () -> x.act(0, Use.MOVE, 0, owned, 1));
        int move = x.act(0, Use.MOVE, 3, owned, 1);
        Use.pass(x, 0, 1);
        Check.due("the user of the event counts where it is folded", x.skipped(1, move), 0);
    }

    private static void skippedAnew() {
        IssueFold x = shared("A>B:p=5;", 5);
        x.act(0, Use.OWN, 0, 32, 0);
        x.act(1, Use.RANK, 0, 32, 1);
        x.act(2, Use.OWN, 0, 32, 2);
        x.act(2, Use.OWN, 0, 32, 2);
        x.act(2, Use.MOVE, 0, 32, 1);
        Use.pass(x, 2, 1);
        Check.due("skipped behind the rank", x.skipped(1, 35), 1);
        Check.due("done at 2", x.skipped(2, 35), 0);
        x.act(0, Use.RANK, 0, 32, 5);
        Use.pass(x, 0, 1);
        Check.due("done again behind the second rank", x.skipped(1, 35), 0);
        Use.issueIs(x, 1, 32, 1, 5, 2, 7);
    }

    private static void skippedDoesNothing() {
        IssueFold x = shared("A>B;A>C;", 7);
        x.act(0, Use.MOVE, 0, 32, 2);
        x.act(1, Use.MOVE, 0, 32, 1);
        Use.pass(x, 0, 1);
        Check.due("skipped", x.skipped(1, 16), 1);
        Use.issueIs(x, 1, 32, 2, 7, 4, 2);
        Check.due("it is known all the same", x.known(1, 1, -1), 1);
        Check.due("and sent on", x.send(1, 0), 1);
        Check.due("and new there", x.deliver(0), 1);
        Check.due("and skipped there", x.skipped(0, 16), 1);
        Check.due("and an event", x.event(16, 4), 1);
    }

    private static void doneOnes() {
        Check.sentence("OPEN makes the issue, with its priority", () -> {
            IssueFold x = Use.with("A>B;");
            for (int priority = 0; priority < 10; priority++) {
                Check.due("priority", x.issue(0, x.act(0, Use.OPEN, 0, 0, priority), 1), priority);
            }
        });
        Check.sentence("in the first state of the workflow", () -> {
            IssueFold x = Use.with("F>A;A>F;");
            x.act(0, Use.OPEN, 0, 0, 0);
            x.act(0, Use.MOVE, 0, 0, 0);
            x.act(0, Use.OPEN, 0, 0, 0);
            Check.due("moved", x.issue(0, 0, 0), 0);
            Check.due("opened", x.issue(0, 2, 0), 5);
        });
        Check.sentence("owned by nobody", () -> {
            IssueFold x = Use.with("A>B;");
            x.act(0, Use.OPEN, 1, 0, 0);
            Check.due("owner", x.issue(0, 0, 2), 4);
            x.act(0, Use.OWN, 1, 0, 2);
            x.act(0, Use.OPEN, 1, 0, 0);
            Check.due("owner of the next one", x.issue(0, 2, 2), 4);
            Use.pass(x, 0, 1);
            Check.due("owner elsewhere", x.issue(1, 2, 2), 4);
        });
        Check.sentence("MOVE, RANK and OWN give it the state, priority, owner", () -> {
            IssueFold x = Use.with("A>F;F>A;");
            x.act(0, Use.OPEN, 0, 0, 3);
            x.act(0, Use.OPEN, 0, 0, 3);
            x.act(0, Use.MOVE, 0, 0, 5);
            Use.issueIs(x, 0, 0, 5, 3, 4, 2);
            x.act(0, Use.RANK, 0, 0, 9);
            Use.issueIs(x, 0, 0, 5, 9, 4, 3);
            x.act(0, Use.RANK, 0, 0, 0);
            Use.issueIs(x, 0, 0, 5, 0, 4, 4);
            x.act(0, Use.OWN, 0, 0, 0);
            Use.issueIs(x, 0, 0, 5, 0, 0, 5);
            x.act(0, Use.OWN, 0, 0, 3);
            Use.issueIs(x, 0, 0, 5, 0, 3, 6);
            x.act(0, Use.OWN, 0, 0, 4);
            Use.issueIs(x, 0, 0, 5, 0, 4, 7);
            x.act(0, Use.MOVE, 0, 0, 0);
            Use.issueIs(x, 0, 0, 0, 0, 4, 8);
            Use.issueIs(x, 0, 1, 0, 3, 4, 1);
        });
    }

    private static void promise15() {
        Check.sentence("issue: 0 its state, 1 its priority, 2 its owner (4 nobody)", () -> {
            IssueFold x = Use.with("A>B;B>C;");
            x.act(1, Use.OPEN, 0, 0, 8);
            Check.due("state", x.issue(1, 16, 0), 0);
            Check.due("priority", x.issue(1, 16, 1), 8);
            Check.due("owner", x.issue(1, 16, 2), 4);
            x.act(1, Use.MOVE, 0, 16, 1);
            x.act(1, Use.OWN, 0, 16, 3);
            Check.due("state", x.issue(1, 16, 0), 1);
            Check.due("owner", x.issue(1, 16, 2), 3);
        });
        Check.sentence("issue: 3 how many events were done to it (OPEN counts)", () -> {
            IssueFold x = Use.with("A>B;");
            x.act(0, Use.OPEN, 0, 0, 8);
            x.act(0, Use.OPEN, 0, 0, 8);
            Check.due("OPEN alone", x.issue(0, 0, 3), 1);
            for (int k = 2; k <= 15; k++) {
                x.act(0, Use.RANK, 0, 0, 8);
                Check.due("a rank that changes nothing counts", x.issue(0, 0, 3), k);
            }
            Check.due("another one's do not", x.issue(0, 1, 3), 1);
        });
        Check.sentence("issue: NONE if there is none: no such place", () -> {
            IssueFold x = shared("A>B;", 1);
            for (int bad : NO_PLACE) {
                noIssue(x, bad, 32);
            }
        });
        Check.sentence("issue: NONE if there is none: no such code", () -> {
            IssueFold x = shared("A>B;", 1);
            for (int bad : new int[] {-1, -16, 48, 64, Integer.MIN_VALUE, Integer.MAX_VALUE}) {
                noIssue(x, 2, bad);
            }
        });
        Check.sentence("issue: NONE if there is none: the event is no OPEN", () -> {
            IssueFold x = shared("A>B;", 1);
            x.act(2, Use.RANK, 0, 32, 2);
            x.act(2, Use.MOVE, 0, 32, 1);
            x.act(2, Use.OWN, 0, 32, 1);
            for (int code = 33; code < 37; code++) {
                noIssue(x, 2, code);
            }
        });
        Check.sentence("issue: Of an issue in a place's fold", () -> {
            IssueFold x = Use.with("A>B;");
            x.act(0, Use.OPEN, 0, 0, 1);
            noIssue(x, 1, 0);
            noIssue(x, 2, 0);
            x.send(0, 1);
            noIssue(x, 1, 0);
            x.deliver(0);
            Use.issueIs(x, 1, 0, 0, 1, 4, 1);
            noIssue(x, 2, 0);
        });
        Check.sentence("issue: there is no such what", () -> {
            IssueFold x = shared("A>B;", 1);
            for (int bad : new int[] {-1, 4, 5, Integer.MIN_VALUE, Integer.MAX_VALUE}) {
                Check.due("what " + bad, x.issue(2, 32, bad), -1);
            }
        });
    }

    private static void noIssue(IssueFold x, int place, int code) {
        Use.issueIs(x, place, code, -1, -1, -1, -1);
    }

    private static void promise17() {
        Check.sentence("skipped: Whether the event is skipped (1) or done (0)", () -> {
            IssueFold x = shared("A>B;", 1);
            x.act(0, Use.MOVE, 0, 32, 1);
            x.act(1, Use.MOVE, 0, 32, 1);
            Use.pass(x, 0, 1);
            Check.due("OPEN", x.skipped(1, 32), 0);
            Check.due("the first move", x.skipped(1, 0), 0);
            Check.due("the second move", x.skipped(1, 16), 1);
        });
        Check.sentence("skipped: in a place's fold", () -> {
            IssueFold x = shared("A>B;", 1);
            x.act(0, Use.MOVE, 0, 32, 1);
            x.act(1, Use.MOVE, 0, 32, 1);
            Use.pass(x, 0, 1);
            Use.pass(x, 1, 2);
            x.act(2, Use.OPEN, 0, 0, 0);
            Check.due("at 1", x.skipped(1, 16), 1);
            Check.due("at 2", x.skipped(2, 16), 1);
            IssueFold y = shared("A>B;", 1);
            y.act(0, Use.MOVE, 0, 32, 1);
            y.act(1, Use.MOVE, 0, 32, 1);
            Use.pass(y, 1, 0);
            Check.due("at 0", y.skipped(0, 16), 1);
            Check.due("at 1, which knows of no other move", y.skipped(1, 16), 0);
        });
        Check.sentence("skipped: NONE if that doesn't know it", () -> {
            IssueFold x = Use.with("A>B;");
            x.act(0, Use.OPEN, 0, 0, 0);
            Check.due("not known at 1", x.skipped(1, 0), -1);
            x.send(0, 1);
            Check.due("on its way", x.skipped(1, 0), -1);
            x.deliver(0);
            Check.due("known", x.skipped(1, 0), 0);
            for (int bad : new int[] {-1, -16, 1, 16, 32, 47, 48, Integer.MIN_VALUE, Integer.MAX_VALUE}) {
                Check.due("code " + bad, x.skipped(0, bad), -1);
            }
        });
        Check.sentence("skipped: NONE, there is no such place", () -> {
            IssueFold x = shared("A>B;", 1);
            for (int bad : NO_PLACE) {
                Check.due("place " + bad, x.skipped(bad, 32), -1);
            }
        });
    }
}
