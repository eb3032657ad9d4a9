/** Promises 8 send, 9 deliver, 10 lose, 11 crash, 18 known, 20 messages. */
public final class PostTest {
    public static void main(String[] args) {
        wrongPlaces();
        sixOnTheirWay();
        messagesKeepTheirOrder();
        sendBringsWhatItKnowsNow();
        viewsGrow();
        eventsComeThroughAThird();
        lateMessagesLowerNothing();
        emptyMessagesTellViews();
        theRestOfKnownEvents();
        lostOnes();
        crashes();
        anyPlaceCanCrash();
        knownOfNoPlace();
        Check.end("PostTest");
    }

    private static void wrongPlaces() {
        IssueFold x = new IssueFold();
        for (int from = -2; from < 5; from++) {
            for (int to = -2; to < 5; to++) {
                int f = from;
                int t = to;
                boolean fine = from >= 0 && from < 3 && to >= 0 && to < 3 && from != to;
                Check.due("send " + from + " " + to, Check.thrownBy(() -> x.send(f, t)),
                    fine ? "nothing" : "IllegalArgumentException");
            }
        }
        Check.due("without a workflow too", x.messages(), 6);
        Check.illegalState("the seventh", () -> x.send(0, 1));
        Check.illegalArgument("to itself, with six", () -> x.send(1, 1));
        Check.illegalArgument("to nobody, with six", () -> x.send(1, 3));
        Check.illegalArgument("from nobody, with six", () -> x.send(-1, 2));
        Check.illegalArgument("from far", () -> x.send(Integer.MIN_VALUE, Integer.MAX_VALUE));
    }

    private static void sixOnTheirWay() {
        IssueFold x = Use.with("A>B;");
        for (int k = 0; k < 6; k++) {
            Check.due("messages", x.messages(), k);
            Check.due("send", x.send(0, 1), 0);
        }
        Check.illegalState("the seventh", () -> x.send(2, 1));
        Check.due("six", x.messages(), 6);
        Check.due("there is no seventh", x.deliver(6), -1);
        Check.due("nor one before the first", x.deliver(-1), -1);
        Check.due("nor far", x.deliver(Integer.MAX_VALUE), -1);
        Check.due("nor far", x.deliver(Integer.MIN_VALUE), -1);
        Check.due("lose none", x.lose(6), false);
        Check.due("lose none", x.lose(-1), false);
        Check.due("lose none", x.lose(Integer.MIN_VALUE), false);
        Check.due("six", x.messages(), 6);
        Check.due("lose one", x.lose(5), true);
        Check.due("five", x.messages(), 5);
        Check.due("there is no sixth", x.lose(5), false);
        Check.due("room again", x.send(2, 1), 0);
        Check.due("deliver one", x.deliver(5), 0);
        Check.due("five", x.messages(), 5);
    }

    private static void messagesKeepTheirOrder() {
        IssueFold x = Use.with("A>B;");
        for (int k = 0; k < 6; k++) {
            x.act(0, Use.OPEN, 0, 0, k);
            Check.due("send", x.send(0, 1), k + 1);
        }
        Check.due("the third", x.deliver(2), 3);
        Check.due("the one behind it moved up", x.deliver(2), 1);
        Check.due("lose the first", x.lose(0), true);
        Check.due("the second has nothing new", x.deliver(0), 0);
        Check.due("two are left", x.messages(), 2);
        x.act(0, Use.OPEN, 0, 0, 9);
        Check.due("a later one is last", x.send(0, 2), 7);
        Check.due("the fifth", x.deliver(0), 1);
        Check.due("the sixth", x.deliver(0), 1);
        Check.due("known at 1", x.known(1, 0, -1), 6);
        Check.due("the later one", x.deliver(0), 7);
        Check.due("known at 2", x.known(2, 0, -1), 7);
        Check.due("none is left", x.deliver(0), -1);
    }

    private static void sendBringsWhatItKnowsNow() {
        IssueFold x = Use.with("A>B;");
        x.act(0, Use.OPEN, 0, 0, 1);
        Check.due("one", x.send(0, 1), 1);
        x.act(0, Use.RANK, 0, 0, 2);
        Check.due("what was sent stays as it was", x.deliver(0), 1);
        Check.due("known", x.known(1, 0, -1), 1);
        Check.due("the view of the sender", x.known(1, 0, 0), 1);
        Check.due("clock", x.clock(1), 1);
        Check.due("its priority there", x.issue(1, 0, 1), 1);
        Check.due("the sender's view does not change", x.known(0, 0, 1), 0);
        Check.due("both again", x.send(0, 1), 2);
        Check.due("one is new", x.deliver(0), 1);
        Check.due("its priority there", x.issue(1, 0, 1), 2);
    }

    private static void viewsGrow() {
        IssueFold x = Use.with("A>B;");
        x.act(0, Use.OPEN, 0, 0, 1);
        x.act(0, Use.OPEN, 0, 0, 1);
        x.act(1, Use.OPEN, 0, 0, 1);
        Use.pass(x, 0, 1);
        Check.due("1 of 0", x.known(1, 0, 0), 2);
        Check.due("1 of 0, its own events", x.known(1, 1, 0), 0);
        Check.due("only what 0 does not know", x.send(1, 0), 1);
        Check.due("it comes", x.deliver(0), 1);
        Check.due("0 of 1", x.known(0, 0, 1), 2);
        Check.due("0 of 1", x.known(0, 1, 1), 1);
        Check.due("0 of 2", x.known(0, 0, 2), 0);
        Check.due("nothing to bring", x.send(0, 1), 0);
        x.act(0, Use.OPEN, 0, 0, 1);
        Check.due("the new one alone", x.send(0, 1), 1);
        Check.due("all to the third", x.send(0, 2), 4);
        Check.due("nothing new", x.deliver(0), 0);
        Check.due("one new", x.deliver(0), 1);
        Check.due("1 knows now that 0 knows", x.known(1, 1, 0), 1);
        Check.due("four new", x.deliver(0), 4);
        Check.due("2 of 0", x.known(2, 0, 0), 3);
        Check.due("2 of 0", x.known(2, 1, 0), 1);
        Check.due("2 of 1", x.known(2, 1, 1), 0);
    }

    private static void eventsComeThroughAThird() {
        IssueFold x = Use.with("A>B;");
        x.act(2, Use.OPEN, 0, 0, 1);
        x.act(2, Use.RANK, 0, 32, 5);
        Check.due("to 1", Use.pass(x, 2, 1), 2);
        x.act(1, Use.MOVE, 0, 32, 1);
        Check.due("to 0", Use.pass(x, 1, 0), 3);
        Use.issueIs(x, 0, 32, 1, 5, 4, 3);
        Check.due("clock", x.clock(0), 3);
        Check.due("0 of 1", x.known(0, 2, 1), 2);
        Check.due("0 of 2 is not heard of", x.known(0, 2, 2), 0);
        Check.due("so all is sent", x.send(0, 2), 3);
        Check.due("one is new", x.deliver(0), 1);
    }

    private static void lateMessagesLowerNothing() {
        IssueFold x = Use.with("A>B;");
        x.act(0, Use.OPEN, 0, 0, 1);
        x.send(0, 1);
        x.act(0, Use.RANK, 0, 0, 2);
        x.act(0, Use.RANK, 0, 0, 3);
        x.send(0, 1);
        Check.due("the later one first", x.deliver(1), 3);
        Check.due("the earlier one then", x.deliver(0), 0);
        Check.due("known", x.known(1, 0, -1), 3);
        Check.due("view", x.known(1, 0, 0), 3);
        Check.due("clock", x.clock(1), 3);
        Check.due("priority", x.issue(1, 0, 1), 3);
    }

    private static void emptyMessagesTellViews() {
        IssueFold x = Use.with("A>B;");
        x.act(0, Use.OPEN, 0, 0, 1);
        Use.pass(x, 0, 1);
        Check.due("nothing to bring", x.send(1, 0), 0);
        Check.due("nothing new", x.deliver(0), 0);
        Check.due("but the view", x.known(0, 0, 1), 1);
        Check.due("clock", x.clock(0), 1);
    }

    private static void theRestOfKnownEvents() {
        IssueFold x = Use.with("A>B;");
        for (int k = 0; k < 3; k++) {
            x.act(0, Use.OPEN, 0, 0, k);
        }
        Use.pass(x, 0, 1);
        x.act(0, Use.RANK, 0, 0, 7);
        x.act(0, Use.RANK, 0, 1, 8);
        Check.due("all are sent", x.send(0, 1), 5);
        Check.due("the rest is new", x.deliver(0), 2);
        Check.due("known", x.known(1, 0, -1), 5);
        Use.issueIs(x, 1, 0, 0, 7, 4, 2);
        Use.issueIs(x, 1, 1, 0, 8, 4, 2);
        Use.issueIs(x, 1, 2, 0, 2, 4, 1);
    }

    private static void lostOnes() {
        IssueFold x = Use.with("A>B;");
        x.act(0, Use.OPEN, 0, 0, 1);
        x.send(0, 1);
        x.send(0, 2);
        Check.due("lose", x.lose(0), true);
        Check.due("one left", x.messages(), 1);
        Check.due("nothing came", x.known(1, 0, -1), 0);
        Check.due("nothing was heard", x.known(1, 0, 0), 0);
        Check.due("no clock", x.clock(1), 0);
        Check.due("the other comes", x.deliver(0), 1);
        Check.due("where it is for", x.known(2, 0, -1), 1);
        Check.due("sent again", x.send(0, 1), 1);
    }

    private static void crashes() {
        IssueFold x = Use.with("A>B;");
        x.act(0, Use.OPEN, 0, 0, 1);
        x.act(1, Use.OPEN, 0, 0, 2);
        x.act(2, Use.OPEN, 0, 0, 3);
        Use.pass(x, 1, 0);
        Use.pass(x, 2, 0);
        Use.pass(x, 0, 1);
        x.act(0, Use.MOVE, 0, 16, 1);
        x.send(0, 1);
        Check.due("no place", x.crash(-1), false);
        Check.due("no place", x.crash(3), false);
        Check.due("no place", x.crash(Integer.MIN_VALUE), false);
        Check.due("view before", x.known(0, 1, 1), 1);
        Check.due("view before", x.known(0, 2, 2), 1);
        Check.due("crash", x.crash(0), true);
        for (int origin = 0; origin < 3; origin++) {
            Check.due("views are 0", x.known(0, origin, 1), 0);
            Check.due("views are 0", x.known(0, origin, 2), 0);
            Check.due("others' views stay", x.known(1, origin, 0), 1);
            Check.due("events stay", x.known(0, origin, -1), origin == 0 ? 2 : 1);
        }
        Check.due("clock", x.clock(0), 2);
        Use.issueIs(x, 0, 16, 1, 2, 4, 2);
        Check.due("messages stay", x.messages(), 1);
        Check.due("all is sent again", x.send(0, 1), 4);
        Check.due("what was sent before comes", x.deliver(0), 1);
        Check.due("nothing is new then", x.deliver(0), 0);
        Check.due("its events go on", x.act(0, Use.RANK, 0, 16, 9), 2);
        Check.due("its clock goes on", x.event(2, 1), 3);
        Use.pass(x, 1, 0);
        Check.due("it hears anew", x.known(0, 0, 1), 2);
        Check.due("crash again", x.crash(0), true);
        Check.due("views are 0 again", x.known(0, 0, 1), 0);
    }

    private static void anyPlaceCanCrash() {
        for (int place = 0; place < 3; place++) {
            IssueFold x = Use.with("A>B;");
            for (int k = 0; k < 3; k++) {
                x.act(k, Use.OPEN, 0, 0, k);
            }
            for (int from = 0; from < 3; from++) {
                Use.pass(x, from, (from + 1) % 3);
                Use.pass(x, from, (from + 2) % 3);
            }
            int time = x.clock(place);
            Check.due("crash", x.crash(place), true);
            for (int origin = 0; origin < 3; origin++) {
                Check.due("view of the next", x.known(place, origin, (place + 1) % 3), 0);
                Check.due("view of the one behind", x.known(place, origin, (place + 2) % 3), 0);
                Check.due("known", x.known(place, origin, -1), 1);
            }
            Check.due("clock", x.clock(place), time);
            Check.due("another's view", x.known((place + 1) % 3, place, place), 1);
            Check.due("another's view", x.known((place + 2) % 3, place, place), 1);
        }
    }

    private static void knownOfNoPlace() {
        IssueFold x = Use.with("A>B;");
        x.act(0, Use.OPEN, 0, 0, 1);
        Use.pass(x, 0, 1);
        for (int bad : new int[] {-1, -2, 3, Integer.MIN_VALUE, Integer.MAX_VALUE}) {
            Check.due("no place", x.known(bad, 0, -1), -1);
            Check.due("no place with a view", x.known(bad, 0, 1), -1);
            Check.due("no origin", x.known(0, bad, -1), -1);
            Check.due("no origin with a view", x.known(0, bad, 1), -1);
            Check.due("no view", x.known(1, 0, bad), bad == -1 ? 1 : -1);
        }
        for (int place = 0; place < 3; place++) {
            Check.due("a view of itself", x.known(place, 0, place), -1);
        }
    }
}
