/**
 * A test for each sentence on messages: their terms, and promises 8 send, 9 deliver, 10 lose, 11 crash, 18 known and
 * 20 messages.
 */
public final class SentencesOfMessagesTest {
    private static final int[] NO_PLACE = {-1, 3, 4, Integer.MIN_VALUE, Integer.MAX_VALUE};

    public static void main(String[] args) {
        terms();
        promise8();
        promise9();
        promise10();
        promise11();
        promise18();
        promise20();
        Check.end("SentencesOfMessagesTest");
    }

    private static void terms() {
        Check.sentence("A place KNOWS of each origin the first so many events", SentencesOfMessagesTest::theFirstSoMany);
        Check.sentence("for each other place a VIEW (0 at first)", SentencesOfMessagesTest::viewsAtFirst);
        Check.sentence("MESSAGES, at most 6 on their way", SentencesOfMessagesTest::atMostSix);
        Check.sentence("of each origin, the events beyond its view of the other one", SentencesOfMessagesTest::beyondTheView);
        Check.sentence("the events that it knows now", SentencesOfMessagesTest::knowsNow);
        Check.sentence("and how many events of each origin it knows", SentencesOfMessagesTest::howManyItKnows);
        Check.sentence("the place that it is for knows those events too", SentencesOfMessagesTest::knowsThoseToo);
        Check.sentence("if it knew some of them, the rest as well", SentencesOfMessagesTest::theRestAsWell);
        Check.sentence("its clock becomes the greatest: of the stamps that came", SentencesOfMessagesTest::clockOfStamps);
        Check.sentence("its clock becomes the greatest: of it", SentencesOfMessagesTest::clockOfItself);
        Check.sentence("its view of the sender becomes what the message says", SentencesOfMessagesTest::viewAsSaid);
        Check.sentence("for each origin, the greater one of it", SentencesOfMessagesTest::viewIsNotLowered);
    }

    private static IssueFold withOpens(int at0, int at1, int at2) {
        IssueFold x = Use.with("A>B;");
        int[] opens = {at0, at1, at2};
        for (int place = 0; place < 3; place++) {
            for (int k = 0; k < opens[place]; k++) {
                x.act(place, Use.OPEN, 0, 0, k % 10);
            }
        }
        return x;
    }

    private static void knows(IssueFold x, int place, int... counts) {
        for (int origin = 0; origin < 3; origin++) {
            Check.due("known at " + place + " of " + origin, x.known(place, origin, -1), counts[origin]);
        }
    }

    private static void views(IssueFold x, int place, int other, int... counts) {
        for (int origin = 0; origin < 3; origin++) {
            Check.due("view at " + place + " of " + other + " on " + origin, x.known(place, origin, other),
                counts[origin]);
        }
    }

    private static void theFirstSoMany() {
        IssueFold x = withOpens(2, 0, 0);
        x.send(0, 1);
        x.act(0, Use.OPEN, 0, 0, 5);
        x.deliver(0);
        knows(x, 1, 2, 0, 0);
        Check.due("the second", x.skipped(1, 1), 0);
        Check.due("the third", x.skipped(1, 2), -1);
        Use.pass(x, 0, 1);
        knows(x, 1, 3, 0, 0);
        Check.due("the third", x.skipped(1, 2), 0);
    }

    private static void viewsAtFirst() {
        IssueFold x = new IssueFold();
        for (int place = 0; place < 3; place++) {
            views(x, place, (place + 1) % 3, 0, 0, 0);
            views(x, place, (place + 2) % 3, 0, 0, 0);
        }
    }

    private static void atMostSix() {
        IssueFold x = withOpens(1, 0, 0);
        for (int k = 0; k < 5; k++) {
            x.send(k % 3, (k + 1) % 3);
        }
        Check.due("the sixth", x.send(0, 2), 1);
        Check.illegalState("the seventh", () -> x.send(0, 1));
        Check.due("six", x.messages(), 6);
    }

    private static void beyondTheView() {
        IssueFold x = withOpens(2, 3, 1);
        Use.pass(x, 2, 0);
        Check.due("of the third place too", x.send(0, 1), 3);
        x.deliver(0);
        Check.due("1 has heard of three, and has three", x.send(1, 0), 3);
        x.deliver(0);
        views(x, 0, 1, 2, 3, 1);
        Check.due("nothing beyond the view", x.send(0, 1), 0);
        x.act(0, Use.OPEN, 0, 0, 0);
        Check.due("one beyond the view", x.send(0, 1), 1);
        Check.due("the view of another counts nothing", x.send(0, 2), 6);
        x.crash(0);
        Check.due("its own events go back to it as well", x.send(0, 1), 7);
    }

    private static void knowsNow() {
        IssueFold x = withOpens(1, 0, 0);
        Check.due("one", x.send(0, 1), 1);
        x.act(0, Use.RANK, 0, 0, 9);
        x.act(0, Use.OPEN, 0, 0, 9);
        Check.due("one comes", x.deliver(0), 1);
        knows(x, 1, 1, 0, 0);
        Check.due("its priority is the old one", x.issue(1, 0, 1), 0);
        Check.due("the later issue is not there", x.issue(1, 2, 1), -1);
    }

    private static void howManyItKnows() {
        IssueFold x = withOpens(2, 0, 1);
        Use.pass(x, 2, 0);
        Use.pass(x, 0, 1);
        views(x, 1, 0, 2, 0, 1);
        x.send(1, 0);
        x.act(1, Use.OPEN, 0, 0, 0);
        Check.due("a message without events", x.deliver(0), 0);
        views(x, 0, 1, 2, 0, 1);
        views(x, 0, 2, 0, 0, 1);
    }

    private static void knowsThoseToo() {
        for (int from = 0; from < 3; from++) {
            for (int to = 0; to < 3; to++) {
                if (from != to) {
                    IssueFold x = withOpens(1, 1, 1);
                    Check.due("new", Use.pass(x, from, to), 1);
                    Check.due("the receiver", x.known(to, from, -1), 1);
                    Check.due("its issue", x.issue(to, 16 * from, 3), 1);
                    Check.due("the sender", x.known(from, to, -1), 0);
                    Check.due("the third", x.known(3 - from - to, from, -1), 0);
                }
            }
        }
    }

    private static void theRestAsWell() {
        IssueFold x = withOpens(2, 0, 0);
        Use.pass(x, 0, 1);
        x.act(0, Use.RANK, 0, 0, 7);
        x.act(0, Use.RANK, 0, 1, 8);
        Check.due("four", x.send(0, 1), 4);
        Check.due("two are new", x.deliver(0), 2);
        knows(x, 1, 4, 0, 0);
        Use.issueIs(x, 1, 0, 0, 7, 4, 2);
        Use.issueIs(x, 1, 1, 0, 8, 4, 2);
    }

    private static void clockOfStamps() {
        IssueFold x = withOpens(5, 2, 0);
        x.send(0, 1);
        x.act(0, Use.OPEN, 0, 0, 0);
        x.deliver(0);
        Check.due("the greatest stamp that came", x.clock(1), 5);
        Check.due("the sender's clock", x.clock(0), 6);
        Use.pass(x, 1, 2);
        Check.due("of all origins", x.clock(2), 5);
    }

    private static void clockOfItself() {
        IssueFold x = withOpens(2, 5, 0);
        Use.pass(x, 0, 1);
        Check.due("its own was greater", x.clock(1), 5);
        x.act(1, Use.OPEN, 0, 0, 0);
        Use.pass(x, 0, 1);
        Check.due("events that it knew already", x.clock(1), 6);
        Use.pass(x, 2, 1);
        Check.due("no events", x.clock(1), 6);
        IssueFold y = withOpens(2, 2, 0);
        Use.pass(y, 0, 1);
        Check.due("equal ones", y.clock(1), 2);
    }

    private static void viewAsSaid() {
        IssueFold x = withOpens(3, 2, 1);
        Use.pass(x, 0, 1);
        views(x, 1, 0, 3, 0, 0);
        views(x, 1, 2, 0, 0, 0);
        views(x, 0, 1, 0, 0, 0);
        Use.pass(x, 1, 2);
        views(x, 2, 1, 3, 2, 0);
        views(x, 2, 0, 0, 0, 0);
    }

    private static void viewIsNotLowered() {
        IssueFold x = withOpens(1, 0, 1);
        x.send(0, 1);
        Use.pass(x, 2, 0);
        x.act(0, Use.OPEN, 0, 0, 0);
        x.send(0, 1);
        x.deliver(1);
        views(x, 1, 0, 2, 0, 1);
        Check.due("the earlier one comes late", x.deliver(0), 0);
        views(x, 1, 0, 2, 0, 1);
        x.crash(0);
        Use.pass(x, 0, 1);
        views(x, 1, 0, 2, 0, 1);
    }

    private static void promise8() {
        Check.sentence("send: A place sends a message: how many events it brings", () -> {
            IssueFold x = withOpens(4, 0, 0);
            Check.due("four", x.send(0, 2), 4);
            Check.due("none", x.send(1, 2), 0);
            Check.due("two on their way", x.messages(), 2);
            Check.due("they come to 2", x.deliver(0), 4);
            Check.due("without a workflow too", new IssueFold().send(2, 1), 0);
        });
        Check.sentence("send: Its view of the other one does not change by that", () -> {
            IssueFold x = withOpens(2, 0, 0);
            x.send(0, 1);
            views(x, 0, 1, 0, 0, 0);
            Check.due("the same again", x.send(0, 1), 2);
            x.deliver(0);
            views(x, 0, 1, 0, 0, 0);
            Check.due("and when it has come", x.send(0, 1), 2);
        });
        Check.sentence("send: IllegalArgumentException: there is no such place", () -> {
            IssueFold x = new IssueFold();
            for (int bad : NO_PLACE) {
                Check.illegalArgument("from " + bad, () -> x.send(bad, 0));
                Check.illegalArgument("to " + bad, () -> x.send(0, bad));
                Check.illegalArgument("both " + bad, () -> x.send(bad, bad));
            }
            Check.due("none on its way", x.messages(), 0);
        });
        Check.sentence("send: or both are the same one", () -> {
            IssueFold x = new IssueFold();
            for (int place = 0; place < 3; place++) {
                int p = place;
                Check.illegalArgument("to itself", () -> x.send(p, p));
            }
            Check.due("none on its way", x.messages(), 0);
        });
        Check.sentence("send: IllegalStateException: 6 are on their way", SentencesOfMessagesTest::sixAreOnTheirWay);
        Check.sentence("send: of two exceptions the IllegalArgumentException", () -> {
            IssueFold x = withSixMessages();
            Check.illegalArgument("no such sender", () -> x.send(3, 0));
            Check.illegalArgument("no such receiver", () -> x.send(0, -1));
            Check.illegalArgument("both the same", () -> x.send(1, 1));
            Check.illegalState("neither", () -> x.send(1, 0));
        });
    }

    private static IssueFold withSixMessages() {
        IssueFold x = withOpens(1, 0, 0);
        for (int k = 0; k < 6; k++) {
            x.send(0, 1);
        }
        return x;
    }

    private static void sixAreOnTheirWay() {
        IssueFold x = withSixMessages();
        for (int from = 0; from < 3; from++) {
            int f = from;
            Check.illegalState("the seventh", () -> x.send(f, (f + 1) % 3));
        }
        Check.due("six", x.messages(), 6);
        x.lose(3);
        Check.due("room by a loss", x.send(0, 2), 1);
        Check.illegalState("full again", () -> x.send(0, 2));
        x.deliver(0);
        Check.due("room by a delivery", x.send(0, 2), 1);
        Check.illegalState("full again", () -> x.send(0, 2));
        x.crash(0);
        Check.illegalState("no room by a crash", () -> x.send(0, 2));
    }

    private static void promise9() {
        Check.sentence("deliver: Message k (from 0, in the order in which they were sent) comes", () -> {
            IssueFold x = withOneMoreInEach();
            Check.due("the last", x.deliver(5), 6);
            Check.due("five are left", x.messages(), 5);
            IssueFold y = withOneMoreInEach();
            Check.due("the first", y.deliver(0), 1);
            Check.due("the third then has the index 1", y.deliver(1), 2);
            Check.due("the second has the index 0", y.deliver(0), 0);
            y.act(0, Use.OPEN, 0, 0, 0);
            y.send(0, 1);
            Check.due("one sent later is the last", y.deliver(3), 4);
            Check.due("the others come before it", y.deliver(2), 0);
            knows(y, 1, 7, 0, 0);
        });
        Check.sentence("deliver: each comes to the place that it is for", () -> {
            for (int gone = 0; gone < 6; gone++) {
                IssueFold x = withOpens(1, 0, 0);
                for (int k = 0; k < 6; k++) {
                    x.send(0, 1);
                }
                x.lose(gone);
                x.lose(0);
                x.send(0, 2);
                x.send(2, 1);
                for (int k = 0; k < 4; k++) {
                    Check.due("one to 1", x.deliver(0), k == 0 ? 1 : 0);
                }
                knows(x, 2, 0, 0, 0);
                Check.due("the fifth, to 2", x.deliver(0), 1);
                Check.due("the sixth, sent before that", x.deliver(0), 0);
                views(x, 1, 2, 0, 0, 0);
                views(x, 2, 0, 1, 0, 0);
            }
        });
        Check.sentence("deliver: how many events are new there", () -> {
            IssueFold x = withOpens(3, 2, 0);
            x.send(0, 1);
            x.send(0, 1);
            x.send(1, 0);
            Check.due("three", x.deliver(0), 3);
            Check.due("none the second time", x.deliver(0), 0);
            Check.due("two the other way", x.deliver(0), 2);
            Check.due("of all origins together", Use.pass(x, 0, 2), 5);
            x.act(0, Use.OPEN, 0, 0, 0);
            x.crash(0);
            Check.due("six are brought", x.send(0, 1), 6);
            Check.due("one of them is new", x.deliver(0), 1);
        });
        Check.sentence("deliver: NONE if there is no such message", () -> {
            IssueFold x = withOpens(1, 0, 0);
            Check.due("none on its way", x.deliver(0), -1);
            x.send(0, 1);
            for (int bad : new int[] {-1, 1, 2, 6, Integer.MIN_VALUE, Integer.MAX_VALUE}) {
                Check.due("message " + bad, x.deliver(bad), -1);
            }
            Check.due("it is still on its way", x.messages(), 1);
            knows(x, 1, 0, 0, 0);
            IssueFold six = withSixMessages();
            Check.due("the seventh", six.deliver(6), -1);
            Check.due("one that came", x.deliver(0), 1);
            Check.due("does not come twice", x.deliver(0), -1);
        });
    }

    /** Six messages from 0 to 1, of which each brings one event more than the one before. */
    private static IssueFold withOneMoreInEach() {
        IssueFold x = Use.with("A>B;");
        for (int k = 0; k < 6; k++) {
            x.act(0, Use.OPEN, 0, 0, k);
            x.send(0, 1);
        }
        return x;
    }

    private static void promise10() {
        Check.sentence("lose: Message k is lost", () -> {
            IssueFold x = withOneMoreInEach();
            Check.due("the last", x.lose(5), true);
            Check.due("the second", x.lose(1), true);
            Check.due("four are left", x.messages(), 4);
            Check.due("what was the fifth is the last", x.deliver(3), 5);
            IssueFold y = withOneMoreInEach();
            Check.due("the first", y.lose(0), true);
            Check.due("what was the second is the first", y.deliver(0), 2);
            Check.due("what was the third is the first then", y.deliver(0), 1);
        });
        Check.sentence("lose: it never comes", () -> {
            IssueFold x = withOpens(2, 0, 0);
            x.send(0, 1);
            x.lose(0);
            Check.due("none", x.deliver(0), -1);
            knows(x, 1, 0, 0, 0);
            views(x, 1, 0, 0, 0, 0);
            Check.due("clock", x.clock(1), 0);
            knows(x, 0, 2, 0, 0);
            Check.due("it is sent again", x.send(0, 1), 2);
        });
        Check.sentence("lose: false if there is none", () -> {
            IssueFold x = withOpens(1, 0, 0);
            Check.due("none on its way", x.lose(0), false);
            x.send(0, 1);
            for (int bad : new int[] {-1, 1, 2, 6, Integer.MIN_VALUE, Integer.MAX_VALUE}) {
                Check.due("message " + bad, x.lose(bad), false);
            }
            Check.due("it is still on its way", x.messages(), 1);
            Check.due("the seventh", withSixMessages().lose(6), false);
            Check.due("it comes", x.deliver(0), 1);
        });
    }

    private static void promise11() {
        Check.sentence("crash: it keeps its events", () -> {
            for (int place = 0; place < 3; place++) {
                IssueFold x = withAllHeard();
                x.act(place, Use.OWN, 0, 16, 2);
                Check.due("crash", x.crash(place), true);
                knows(x, place, place == 0 ? 2 : 1, place == 1 ? 2 : 1, place == 2 ? 2 : 1);
                Check.due("done as before", x.skipped(place, 16), 0);
                Use.issueIs(x, place, 16, 0, 0, 2, 2);
                Check.due("the next code", x.act(place, Use.RANK, 0, 16, 1), 16 * place + 2);
            }
        });
        Check.sentence("crash: and its clock", () -> {
            IssueFold x = withOpens(2, 5, 0);
            Use.pass(x, 1, 0);
            x.crash(0);
            Check.due("clock", x.clock(0), 5);
            x.crash(2);
            Check.due("a clock of 0", x.clock(2), 0);
            Check.due("stamp", x.event(x.act(0, Use.OPEN, 0, 0, 0), 1), 6);
        });
        Check.sentence("crash: its views are 0 again", SentencesOfMessagesTest::viewsAreZeroAgain);
        Check.sentence("crash: false if there is no such place", () -> {
            IssueFold x = withAllHeard();
            for (int bad : NO_PLACE) {
                Check.due("crash of " + bad, x.crash(bad), false);
            }
            views(x, 0, 1, 1, 1, 1);
            views(x, 1, 2, 1, 1, 1);
            views(x, 2, 0, 1, 1, 1);
        });
        Check.sentence("crash: messages stay on their way", () -> {
            IssueFold x = withOpens(1, 1, 0);
            x.send(0, 1);
            x.send(1, 0);
            x.crash(0);
            Check.due("two", x.messages(), 2);
            Check.due("what it sent before comes", x.deliver(0), 1);
            Check.due("what was sent to it before comes", x.deliver(0), 1);
            views(x, 0, 1, 0, 1, 0);
        });
    }

    /** Each place has opened an issue and has heard from each other one that it knows all three. */
    private static IssueFold withAllHeard() {
        IssueFold x = withOpens(1, 1, 1);
        for (int round = 0; round < 2; round++) {
            for (int from = 0; from < 3; from++) {
                Use.pass(x, from, (from + 1) % 3);
                Use.pass(x, from, (from + 2) % 3);
            }
        }
        return x;
    }

    private static void viewsAreZeroAgain() {
        for (int place = 0; place < 3; place++) {
            IssueFold x = withAllHeard();
            int next = (place + 1) % 3;
            int third = (place + 2) % 3;
            views(x, place, next, 1, 1, 1);
            x.crash(place);
            views(x, place, next, 0, 0, 0);
            views(x, place, third, 0, 0, 0);
            views(x, next, place, 1, 1, 1);
            views(x, third, place, 1, 1, 1);
            Check.due("all is sent again", x.send(place, next), 3);
            Check.due("others send nothing", x.send(next, place), 0);
            Check.due("nothing is new", x.deliver(0), 0);
            Check.due("a message tells the view anew", x.deliver(0), 0);
            views(x, place, next, 1, 1, 1);
            views(x, place, third, 0, 0, 0);
        }
    }

    private static void promise18() {
        Check.sentence("known: How many events of an origin a place knows, with view NONE", () -> {
            IssueFold x = withOpens(16, 2, 0);
            knows(x, 0, 16, 0, 0);
            knows(x, 1, 0, 2, 0);
            knows(x, 2, 0, 0, 0);
            Use.pass(x, 0, 2);
            knows(x, 2, 16, 0, 0);
        });
        Check.sentence("known: else how many its view of the place 'view' says", () -> {
            IssueFold x = withOpens(16, 2, 0);
            Use.pass(x, 0, 2);
            views(x, 2, 0, 16, 0, 0);
            views(x, 2, 1, 0, 0, 0);
            Use.pass(x, 1, 2);
            views(x, 2, 1, 0, 2, 0);
        });
        Check.sentence("known: NONE if there is no such place", () -> {
            IssueFold x = withAllHeard();
            for (int bad : NO_PLACE) {
                for (int view = -1; view < 3; view++) {
                    Check.due("place " + bad, x.known(bad, 0, view), -1);
                }
            }
        });
        Check.sentence("known: or origin", () -> {
            IssueFold x = withAllHeard();
            for (int bad : NO_PLACE) {
                for (int view = -1; view < 3; view++) {
                    Check.due("origin " + bad, x.known(0, bad, view), -1);
                }
            }
        });
        Check.sentence("known: or view is the place itself", () -> {
            IssueFold x = withAllHeard();
            for (int place = 0; place < 3; place++) {
                for (int origin = 0; origin < 3; origin++) {
                    Check.due("view of itself", x.known(place, origin, place), -1);
                }
            }
        });
        Check.sentence("known: or no place", () -> {
            IssueFold x = withAllHeard();
            for (int bad : new int[] {-2, 3, 4, Integer.MIN_VALUE, Integer.MAX_VALUE}) {
                for (int place = 0; place < 3; place++) {
                    Check.due("view " + bad, x.known(place, 0, bad), -1);
                }
            }
        });
    }

    private static void promise20() {
        Check.sentence("messages: How many messages are on their way", () -> {
            IssueFold x = withOpens(1, 0, 0);
            for (int k = 0; k < 6; k++) {
                Check.due("before the next one", x.messages(), k);
                x.send(k % 3, (k + 2) % 3);
            }
            Check.due("six", x.messages(), 6);
            Check.illegalState("a seventh", () -> x.send(0, 1));
            Check.due("a refused one does not count", x.messages(), 6);
            for (int k = 5; k >= 0; k--) {
                Check.due("one comes or is lost", k % 2 == 0 ? x.deliver(k / 2) >= 0 : x.lose(k / 2), true);
                Check.due("one less", x.messages(), k);
            }
        });
    }
}
