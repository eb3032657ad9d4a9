/** Promises 13 query and 14 result. */
public final class QueryTest {
    public static void main(String[] args) {
        nothingFindsAll();
        orderOfResults();
        factsOfAQuery();
        joinedFacts();
        eachPlaceHasItsOwn();
        textIsEmptiedInAnyCase();
        failedQueriesFindNothing();
        resultsStayAsTheyWere();
        manyIssues();
        Check.end("QueryTest");
    }

    /** Issues 16 .. 21 at place 1 with a mix of states, priorities and owners. */
    private static IssueFold mixed() {
        IssueFold x = Use.with("B>C;C>D;");
        int[] priorities = {3, 9, 3, 0, 7, 3};
        for (int k = 0; k < 6; k++) {
            x.act(1, Use.OPEN, 0, 0, priorities[k]);
        }
        x.act(1, Use.MOVE, 0, 17, 2);
        x.act(1, Use.MOVE, 0, 18, 2);
        x.act(1, Use.MOVE, 0, 18, 3);
        x.act(1, Use.OWN, 0, 16, 0);
        x.act(1, Use.OWN, 0, 18, 3);
        x.act(1, Use.OWN, 0, 20, 2);
        x.act(1, Use.RANK, 0, 20, 4);
        return x;
    }

    private static void nothingFindsAll() {
        IssueFold x = mixed();
        Use.found(x, 1, "", 17, 20, 16, 18, 21, 19);
        Use.found(x, 1, "  ", 17, 20, 16, 18, 21, 19);
        Use.found(x, 0, "");
        Check.due("before the first", x.result(-1), -1);
        Use.found(x, 1, "", 17, 20, 16, 18, 21, 19);
        Check.due("before the first", x.result(-1), -1);
        Check.due("far", x.result(Integer.MAX_VALUE), -1);
        Check.due("far", x.result(Integer.MIN_VALUE), -1);
    }

    private static void orderOfResults() {
        IssueFold x = Use.with("A>B;");
        x.act(2, Use.OPEN, 0, 0, 5);
        x.act(1, Use.OPEN, 0, 0, 5);
        x.act(0, Use.OPEN, 0, 0, 5);
        x.act(0, Use.OPEN, 0, 0, 0);
        x.act(2, Use.OPEN, 0, 0, 9);
        x.act(1, Use.OPEN, 0, 0, 0);
        Use.pass(x, 2, 1);
        Use.pass(x, 1, 0);
        Use.found(x, 0, "", 33, 0, 16, 32, 1, 17);
        Use.found(x, 0, "p<9", 0, 16, 32, 1, 17);
        x.act(0, Use.RANK, 0, 17, 6);
        Use.found(x, 0, "", 33, 17, 0, 16, 32, 1);
    }

    private static void factsOfAQuery() {
        for (int d = 0; d < 10; d++) {
            IssueFold x = Use.with("A>B;");
            for (int priority = 9; priority >= 0; priority--) {
                x.act(0, Use.OPEN, 0, 0, priority);
            }
            Use.found(x, 0, "p=" + d, 9 - d);
            Use.found(x, 0, "p>" + d, range(0, 9 - d));
            Use.found(x, 0, "p<" + d, range(10 - d, 10));
        }
        IssueFold x = Use.with("A>A;A>B;A>C;A>D;A>E;A>F;");
        for (int k = 0; k < 5; k++) {
            x.act(0, Use.OPEN, 0, 0, 1);
        }
        for (int k = 0; k < 5; k++) {
            x.act(0, Use.OWN, 0, k, k);
            x.act(0, Use.MOVE, 0, k, k + 1);
        }
        Use.found(x, 0, "s=A");
        for (int k = 0; k < 5; k++) {
            Use.found(x, 0, "s=" + (char) ('B' + k), k);
            Use.found(x, 0, "u=" + k, k);
        }
        for (int d = 5; d < 10; d++) {
            Use.found(x, 0, "u=" + d);
        }
        Use.found(x, 0, "n", 4);
        Use.found(x, 0, "!n", 0, 1, 2, 3);
    }

    private static int[] range(int from, int to) {
        int[] codes = new int[to - from];
        for (int k = 0; k < codes.length; k++) {
            codes[k] = from + k;
        }
        return codes;
    }

    private static void joinedFacts() {
        IssueFold x = mixed();
        Use.found(x, 1, "s=B", 20, 16, 21, 19);
        Use.found(x, 1, "s=B&p=3", 16, 21);
        Use.found(x, 1, "s=B&p=3&n", 21);
        Use.found(x, 1, "s=C|s=D", 17, 18);
        Use.found(x, 1, "s=C|s=B&p=3", 17, 16, 21);
        Use.found(x, 1, "s=B&p=3|s=C", 17, 16, 21);
        Use.found(x, 1, "(s=C|s=B)&p=3", 16, 21);
        Use.found(x, 1, "!s=B&!u=3", 17);
        Use.found(x, 1, "!(s=B&n)", 17, 20, 16, 18);
        Use.found(x, 1, "!(s=B|n)", 18);
        Use.found(x, 1, "!!n&!(p>3)", 21, 19);
        Use.found(x, 1, "u=4|u=0", 17, 16, 21, 19);
        Use.found(x, 1, "n&!n");
        Use.found(x, 1, "((((((p=0|p=9))))))", 17, 19);
        Use.found(x, 1, "n|n&(n|n&(n|n&(n|n&(n|n&(n|n&(p=0))))))", 17, 21, 19);
    }

    private static void eachPlaceHasItsOwn() {
        IssueFold x = Use.with("A>B;");
        x.act(0, Use.OPEN, 0, 0, 1);
        x.act(1, Use.OPEN, 0, 0, 2);
        Use.found(x, 0, "", 0);
        Use.found(x, 1, "", 16);
        Use.found(x, 2, "");
        Use.pass(x, 0, 1);
        x.act(1, Use.RANK, 0, 0, 9);
        Use.found(x, 1, "p=9", 0);
        Use.found(x, 0, "p=9");
        Use.found(x, 0, "p=1", 0);
    }

    private static void textIsEmptiedInAnyCase() {
        IssueFold x = mixed();
        Use.found(x, 1, "p=9", 17);
        Use.found(x, 1, "", 17, 20, 16, 18, 21, 19);
        Use.illQuery(x, "p=9&", 4);
        Use.found(x, 1, "p=0", 19);
        Use.ask(x, "p=9&");
        Check.illegalArgument("no such place", () -> x.query(3));
        Use.found(x, 1, "p=0", 19);
        Use.ask(x, "n".repeat(40));
        Check.illegalArgument("ill", () -> x.query(1));
        Use.ask(x, " ".repeat(40));
        Check.illegalArgument("no such place", () -> x.query(-1));
        Use.ask(x, " ".repeat(40));
    }

    private static void failedQueriesFindNothing() {
        IssueFold x = mixed();
        for (int bad : new int[] {-1, 3, Integer.MIN_VALUE, Integer.MAX_VALUE}) {
            Use.found(x, 1, "p=9", 17);
            Use.ask(x, "?");
            Check.illegalArgument("no such place", () -> x.query(bad));
            Check.due("place", x.place(), -1);
            Check.due("result", x.result(0), -1);
        }
        Use.found(x, 1, "p=9", 17);
        Use.ask(x, "p=9?");
        Check.illegalArgument("ill", () -> x.query(1));
        Check.due("place", x.place(), 3);
        Check.due("result", x.result(0), -1);
    }

    private static void resultsStayAsTheyWere() {
        IssueFold x = mixed();
        Use.found(x, 1, "p=3", 16, 18, 21);
        x.act(1, Use.RANK, 0, 21, 8);
        x.act(1, Use.OPEN, 0, 0, 3);
        Use.ask(x, "n");
        Check.illegalState("compile", x::compile);
        Check.due("result 0", x.result(0), 16);
        Check.due("result 1", x.result(1), 18);
        Check.due("result 2", x.result(2), 21);
        Check.due("result 3", x.result(3), -1);
        Check.due("query", x.query(1), 4);
        Check.due("result 1", x.result(1), 21);
    }

    private static void manyIssues() {
        IssueFold x = Use.with("A>B;");
        for (int k = 0; k < 48; k++) {
            x.act(k / 16, Use.OPEN, 0, 0, k % 16 % 10);
        }
        Use.pass(x, 0, 1);
        Use.pass(x, 1, 2);
        int[] due = new int[48];
        int count = 0;
        for (int priority = 9; priority >= 0; priority--) {
            for (int code = 0; code < 48; code++) {
                if (code % 16 % 10 == priority) {
                    due[count] = code;
                    count++;
                }
            }
        }
        Use.found(x, 2, "", due);
    }
}
