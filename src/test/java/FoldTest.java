/** Promises 15 issue and 17 skipped: the fold of what a place knows, in one order for all. */
public final class FoldTest {
    public static void main(String[] args) {
        ordinaryFold();
        wrongArguments();
        orderIsByStampThenOrigin();
        equalStampsAreOrderedByOrigin();
        lateEventsUndoLaterOnes();
        skippedMovesCanComeBack();
        factsAsTheyWereThen();
        skippedByOthersDoNotCount();
        allPlacesAgree();
        Check.end("FoldTest");
    }

    private static void ordinaryFold() {
        IssueFold x = Use.with("D>E;E>D:o;");
        x.act(1, Use.OPEN, 2, 0, 7);
        Use.issueIs(x, 1, 16, 3, 7, 4, 1);
        x.act(1, Use.MOVE, 2, 16, 4);
        Use.issueIs(x, 1, 16, 4, 7, 4, 2);
        x.act(1, Use.OWN, 2, 16, 3);
        Use.issueIs(x, 1, 16, 4, 7, 3, 3);
        x.act(1, Use.RANK, 2, 16, 0);
        Use.issueIs(x, 1, 16, 4, 0, 3, 4);
        x.act(1, Use.MOVE, 3, 16, 3);
        Use.issueIs(x, 1, 16, 3, 0, 3, 5);
        x.act(1, Use.OWN, 0, 16, 4);
        Use.issueIs(x, 1, 16, 3, 0, 4, 6);
        for (int code = 16; code < 22; code++) {
            Check.due("done", x.skipped(1, code), 0);
            Check.due("not known at 0", x.skipped(0, code), -1);
        }
        Check.due("not made yet", x.skipped(1, 22), -1);
    }

    private static void wrongArguments() {
        IssueFold x = Use.with("A>B;");
        x.act(0, Use.OPEN, 0, 0, 5);
        x.act(0, Use.RANK, 0, 0, 6);
        for (int what = 0; what < 4; what++) {
            Check.due("no place", x.issue(-1, 0, what), -1);
            Check.due("no place", x.issue(3, 0, what), -1);
            Check.due("no code", x.issue(0, -1, what), -1);
            Check.due("no code", x.issue(0, 48, what), -1);
            Check.due("no code", x.issue(0, Integer.MAX_VALUE, what), -1);
            Check.due("no code", x.issue(0, Integer.MIN_VALUE, what), -1);
            Check.due("no OPEN", x.issue(0, 1, what), -1);
            Check.due("no event", x.issue(0, 2, what), -1);
            Check.due("not known there", x.issue(1, 0, what), -1);
        }
        Check.due("no what", x.issue(0, 0, -1), -1);
        Check.due("no what", x.issue(0, 0, 4), -1);
        for (int bad : new int[] {-1, 3, Integer.MIN_VALUE, Integer.MAX_VALUE}) {
            Check.due("no place", x.skipped(bad, 0), -1);
        }
        for (int bad : new int[] {-1, -16, 2, 16, 48, Integer.MIN_VALUE, Integer.MAX_VALUE}) {
            Check.due("no event", x.skipped(0, bad), -1);
        }
    }

    /** An event that comes later but has the lesser stamp is folded first. */
    private static void orderIsByStampThenOrigin() {
        IssueFold x = Use.with("A>B;");
        x.act(2, Use.OPEN, 0, 0, 0);
        Use.pass(x, 2, 0);
        Use.pass(x, 2, 1);
        x.act(0, Use.RANK, 0, 32, 1);
        x.act(0, Use.RANK, 0, 32, 2);
        x.act(1, Use.RANK, 0, 32, 3);
        Use.pass(x, 0, 1);
        Check.due("stamp 3 of 0 is last", x.issue(1, 32, 1), 2);
        Use.pass(x, 1, 0);
        Check.due("at 0 too", x.issue(0, 32, 1), 2);
        Check.due("stamp of the next", x.event(x.act(1, Use.RANK, 0, 32, 9), 1), 4);
        Check.due("and it is last", x.issue(1, 32, 1), 9);
    }

    private static void equalStampsAreOrderedByOrigin() {
        for (int opener = 0; opener < 3; opener++) {
            IssueFold x = Use.with("A>B;");
            int issue = x.act(opener, Use.OPEN, 0, 0, 0);
            int second = (opener + 1) % 3;
            int third = (opener + 2) % 3;
            Use.pass(x, opener, second);
            Use.pass(x, opener, third);
            for (int place = 0; place < 3; place++) {
                x.act(place, Use.OWN, 0, issue, place);
            }
            for (int place = 0; place < 3; place++) {
                Check.due("one's own", x.issue(place, issue, 2), place);
            }
            Use.pass(x, 0, 1);
            Check.due("1 behind 0", x.issue(1, issue, 2), 1);
            Use.pass(x, 1, 0);
            Check.due("1 behind 0 at 0 too", x.issue(0, issue, 2), 1);
            Use.pass(x, 2, 0);
            Check.due("2 behind both", x.issue(0, issue, 2), 2);
            Use.pass(x, 0, 2);
            Check.due("2 behind both at 2 too", x.issue(2, issue, 2), 2);
            Check.due("all four are done", x.issue(2, issue, 3), 4);
        }
    }

    private static void lateEventsUndoLaterOnes() {
        IssueFold x = Use.with("A>B;A>C;B>D;");
        x.act(0, Use.OPEN, 0, 0, 0);
        Use.pass(x, 0, 1);
        x.act(0, Use.MOVE, 0, 0, 2);
        x.act(1, Use.MOVE, 0, 0, 1);
        x.act(1, Use.MOVE, 0, 0, 3);
        Use.issueIs(x, 1, 0, 3, 0, 4, 3);
        Check.due("done before", x.skipped(1, 16), 0);
        Check.due("one new", Use.pass(x, 0, 1), 1);
        Check.due("skipped now", x.skipped(1, 16), 1);
        Check.due("and what went on from it", x.skipped(1, 17), 1);
        Check.due("the earlier one is done", x.skipped(1, 1), 0);
        Use.issueIs(x, 1, 0, 2, 0, 4, 2);
        Check.due("both are new", Use.pass(x, 1, 0), 2);
        Use.issueIs(x, 0, 0, 2, 0, 4, 2);
        Check.due("skipped there too", x.skipped(0, 17), 1);
        Check.unsupported("what it could before", () -> x.act(1, Use.MOVE, 0, 0, 3));
    }

    private static void skippedMovesCanComeBack() {
        IssueFold x = Use.with("A>B:p=5;B>C;");
        x.act(0, Use.OPEN, 0, 0, 5);
        Use.pass(x, 0, 1);
        Use.pass(x, 0, 2);
        x.act(1, Use.RANK, 0, 0, 1);
        x.act(2, Use.OWN, 0, 0, 2);
        x.act(2, Use.MOVE, 0, 0, 1);
        Use.pass(x, 2, 1);
        Check.due("its condition does not hold here", x.skipped(1, 33), 1);
        Check.due("it holds there", x.skipped(2, 33), 0);
        x.act(0, Use.OWN, 0, 0, 0);
        x.act(0, Use.RANK, 0, 0, 5);
        Use.pass(x, 0, 1);
        Check.due("with the rank between it is done again", x.skipped(1, 33), 0);
        Use.issueIs(x, 1, 0, 1, 5, 2, 6);
    }

    private static void factsAsTheyWereThen() {
        IssueFold x = Use.with("A>B:o&p>3;B>C:n|u=3;");
        x.act(0, Use.OPEN, 0, 0, 4);
        x.act(0, Use.OWN, 0, 0, 1);
        x.act(0, Use.MOVE, 1, 0, 1);
        x.act(0, Use.RANK, 0, 0, 0);
        x.act(0, Use.OWN, 0, 0, 4);
        x.act(0, Use.MOVE, 2, 0, 2);
        x.act(0, Use.OWN, 0, 0, 3);
        Use.pass(x, 0, 2);
        for (int code = 0; code < 7; code++) {
            Check.due("done at 2", x.skipped(2, code), 0);
        }
        Use.issueIs(x, 2, 0, 2, 0, 3, 7);
    }

    private static void skippedByOthersDoNotCount() {
        IssueFold x = Use.with("A>B;");
        x.act(2, Use.OPEN, 0, 0, 4);
        Use.pass(x, 2, 0);
        Use.pass(x, 2, 1);
        for (int place = 0; place < 3; place++) {
            x.act(place, Use.MOVE, place, 32, 1);
        }
        Use.pass(x, 0, 2);
        Use.pass(x, 1, 2);
        Use.issueIs(x, 2, 32, 1, 4, 4, 2);
        Check.due("the first is done", x.skipped(2, 0), 0);
        Check.due("the second is skipped", x.skipped(2, 16), 1);
        Check.due("its own is skipped", x.skipped(2, 33), 1);
        Check.due("opened", x.skipped(2, 32), 0);
        Use.issueIs(x, 0, 32, 1, 4, 4, 2);
    }

    private static void allPlacesAgree() {
        IssueFold x = Use.with("A>B;B>C:p>2;C>A:!n;B>A;");
        for (int place = 0; place < 3; place++) {
            x.act(place, Use.OPEN, place, 0, place * 3);
        }
        int[] route = {0, 1, 1, 2, 2, 0, 0, 1};
        for (int k = 0; k + 1 < route.length; k += 2) {
            Use.pass(x, route[k], route[k + 1]);
        }
        Use.pass(x, 0, 2);
        for (int place = 0; place < 3; place++) {
            for (int issue = 0; issue < 48; issue += 16) {
                int p = place;
                int i = issue;
                x.act(p, Use.RANK, p, i, (p * 7 + i) % 10);
                x.act(p, Use.OWN, p, i, (p + i / 16) % 5);
                Check.thrownBy(() -> x.act(p, Use.MOVE, p, i, 1));
                Check.thrownBy(() -> x.act(p, Use.MOVE, p, i, 2 - p));
            }
        }
        for (int k = 0; k + 1 < route.length; k += 2) {
            Use.pass(x, route[k], route[k + 1]);
        }
        Use.pass(x, 0, 2);
        for (int code = 0; code < 48; code++) {
            Check.due("skipped " + code, x.skipped(1, code), x.skipped(0, code));
            Check.due("skipped " + code, x.skipped(2, code), x.skipped(0, code));
        }
        for (int code = 0; code < 48; code += 16) {
            Check.due("it is there", x.issue(0, code, 0) >= 0, true);
            for (int what = 0; what < 4; what++) {
                Check.due("issue " + code, x.issue(1, code, what), x.issue(0, code, what));
                Check.due("issue " + code, x.issue(2, code, what), x.issue(0, code, what));
            }
        }
    }
}
