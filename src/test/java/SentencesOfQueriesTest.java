/** A test for each sentence on queries: their facts, and promises 13 query and 14 result. */
public final class SentencesOfQueriesTest {
    private static final int[] NO_PLACE = {-1, 3, 4, Integer.MIN_VALUE, Integer.MAX_VALUE};

    public static void main(String[] args) {
        facts();
        promise13();
        promise14();
        Check.end("SentencesOfQueriesTest");
    }

    private static void facts() {
        Check.sentence("p<d, p=d, p>d in a query", SentencesOfQueriesTest::priorities);
        Check.sentence("n (nobody owns it) in a query", () -> Use.found(owned(), 0, "n", 4));
        Check.sentence("s=X (it is in state X)", SentencesOfQueriesTest::states);
        Check.sentence("u=d (the user d owns it; u=4: nobody does)", SentencesOfQueriesTest::owners);
        Check.sentence("then every issue is found", SentencesOfQueriesTest::everyIssue);
        Check.sentence("| & ! ( ) in a query", SentencesOfQueriesTest::joined);
    }

    /** Issues 0 .. 4 at place 0: issue k is owned by k, and 4 by nobody. */
    private static IssueFold owned() {
        IssueFold x = Use.with("A>B;");
        for (int k = 0; k < 5; k++) {
            x.act(0, Use.OPEN, (k + 1) % 4, 0, 1);
        }
        for (int k = 0; k < 5; k++) {
            x.act(0, Use.OWN, (k + 2) % 4, k, k);
        }
        return x;
    }

    /** Issues 0 .. 9 at place 0: issue k has the priority k. */
    private static IssueFold ranked() {
        IssueFold x = Use.with("A>B;");
        for (int k = 0; k < 10; k++) {
            x.act(0, Use.OPEN, 0, 0, k);
        }
        return x;
    }

    private static int[] down(int from, int to) {
        int[] codes = new int[Math.max(0, from - to + 1)];
        for (int k = 0; k < codes.length; k++) {
            codes[k] = from - k;
        }
        return codes;
    }

    private static void priorities() {
        for (int digit = 0; digit < 10; digit++) {
            IssueFold x = ranked();
            Use.found(x, 0, "p<" + digit, down(digit - 1, 0));
            Use.found(x, 0, "p=" + digit, digit);
            Use.found(x, 0, "p>" + digit, down(9, digit + 1));
        }
    }

    private static void states() {
        IssueFold x = Use.with("A>B;A>C;A>D;A>E;A>F;");
        for (int k = 0; k < 6; k++) {
            x.act(0, Use.OPEN, 0, 0, 1);
        }
        for (int k = 1; k < 6; k++) {
            x.act(0, Use.MOVE, 0, k, k);
        }
        for (int k = 0; k < 6; k++) {
            Use.found(x, 0, "s=" + (char) ('A' + k), k);
        }
    }

    private static void owners() {
        IssueFold x = owned();
        for (int digit = 0; digit < 5; digit++) {
            Use.found(x, 0, "u=" + digit, digit);
        }
        for (int digit = 5; digit < 10; digit++) {
            Use.found(x, 0, "u=" + digit);
        }
    }

    private static void everyIssue() {
        Use.found(ranked(), 0, "", down(9, 0));
        Use.found(ranked(), 0, "  ", down(9, 0));
        Use.found(owned(), 0, "", 0, 1, 2, 3, 4);
        Use.found(owned(), 1, "");
    }

    private static void joined() {
        IssueFold x = ranked();
        Use.found(x, 0, "p<2|p>8", 9, 1, 0);
        Use.found(x, 0, "p>2&p<5", 4, 3);
        Use.found(x, 0, "p=1|p>2&p<5", 4, 3, 1);
        Use.found(x, 0, "(p=1|p>2)&p<5", 4, 3, 1);
        Use.found(x, 0, "(p=7|p>2)&p<5", 4, 3);
        Use.found(x, 0, "!p<8", 9, 8);
        Use.found(x, 0, "!p<8&!p=9", 8);
        Use.found(x, 0, "!(p<8|p=9)", 8);
        Use.found(x, 0, "!(p>0&p<9)", 9, 0);
        Use.found(x, 0, "!n");
        Use.found(x, 0, "!!!!!!p=3", 3);
    }

    private static void promise13() {
        Check.sentence("query: Takes the query text and finds: how many", () -> {
            IssueFold x = ranked();
            for (int digit = 0; digit < 10; digit++) {
                Use.ask(x, "p<" + digit);
                Check.due("p<" + digit, x.query(0), digit);
            }
            Check.due("before any workflow", new IssueFold().query(0), 0);
        });
        Check.sentence("query: it is empty then, of a well text", () -> {
            IssueFold x = ranked();
            Use.found(x, 0, "p=3", 3);
            Check.due("the next text is empty", x.query(0), 10);
            Use.ask(x, "p=3");
            x.query(0);
            hasRoom(x);
        });
        Check.sentence("query: it is empty then, of an ill text", () -> {
            IssueFold x = ranked();
            Use.illQuery(x, "p=3&", 4);
            Check.due("the next text is empty", x.query(0), 10);
            Use.illQuery(x, "n".repeat(40), 1);
            hasRoom(x);
        });
        Check.sentence("query: it is empty then, with no such place", () -> {
            IssueFold x = ranked();
            Use.ask(x, "p=3");
            Check.illegalArgument("place 3", () -> x.query(3));
            Check.due("the next text is empty", x.query(0), 10);
            Use.ask(x, "?".repeat(40));
            Check.illegalArgument("place -1", () -> x.query(-1));
            hasRoom(x);
        });
        Check.sentence("query: the issues of a place's fold", SentencesOfQueriesTest::ofAPlacesFold);
        Check.sentence("query: IllegalArgumentException: there is no such place", () -> {
            IssueFold x = ranked();
            for (int bad : NO_PLACE) {
                Check.illegalArgument("place " + bad, () -> x.query(bad));
            }
            for (int place = 0; place < 3; place++) {
                Check.due("place " + place, x.query(place), place == 0 ? 10 : 0);
            }
        });
        Check.sentence("query: IllegalArgumentException: or the text is ILL", () -> {
            IssueFold x = ranked();
            Use.illQuery(x, "?", 0);
            Use.illQuery(x, "p=3?", 3);
            Use.illQuery(x, "p=", 2);
        });
        Check.sentence("query: no such place (this first)", () -> {
            IssueFold x = ranked();
            Use.ask(x, "n&?");
            Check.illegalArgument("both", () -> x.query(3));
            Check.due("place", x.place(), -1);
        });
        Check.sentence("query: nothing is found then, of an ill text", () -> {
            IssueFold x = ranked();
            Use.found(x, 0, "p>7", 9, 8);
            Use.ask(x, "p>7?");
            Check.illegalArgument("ill", () -> x.query(0));
            for (int k = 0; k < 10; k++) {
                Check.due("result " + k, x.result(k), -1);
            }
        });
        Check.sentence("query: nothing is found then, with no such place", () -> {
            IssueFold x = ranked();
            for (int bad : NO_PLACE) {
                Use.found(x, 0, "p>7", 9, 8);
                Use.ask(x, "p>7");
                Check.illegalArgument("no place", () -> x.query(bad));
                Check.due("result 0", x.result(0), -1);
                Check.due("result 1", x.result(1), -1);
            }
        });
        Check.sentence("query: With no such place place() is NONE", () -> {
            IssueFold x = ranked();
            for (int bad : NO_PLACE) {
                Use.illQuery(x, "n&n&", 4);
                Check.illegalArgument("no place", () -> x.query(bad));
                Check.due("place", x.place(), -1);
            }
        });
    }

    private static void hasRoom(IssueFold x) {
        Use.ask(x, " ".repeat(40));
        Check.due("the 41st", x.ask(' '), false);
    }

    private static void ofAPlacesFold() {
        IssueFold x = Use.with("A>B;");
        x.act(0, Use.OPEN, 0, 0, 1);
        x.act(1, Use.OPEN, 0, 0, 2);
        Use.found(x, 0, "", 0);
        Use.found(x, 1, "", 16);
        Use.found(x, 2, "");
        Use.pass(x, 0, 1);
        Use.found(x, 1, "", 16, 0);
        x.act(1, Use.MOVE, 0, 0, 1);
        Use.found(x, 1, "s=B", 0);
        Use.found(x, 0, "s=B");
        x.act(0, Use.RANK, 0, 0, 9);
        Use.found(x, 0, "p=9", 0);
        Use.found(x, 1, "p=9");
        x.crash(1);
        Use.found(x, 1, "", 16, 0);
    }

    private static void promise14() {
        Check.sentence("result: The code of the k-th issue that the latest query found", () -> {
            IssueFold x = ranked();
            Use.found(x, 0, "p<3", 2, 1, 0);
            Use.found(x, 0, "p>8", 9);
            Use.found(x, 0, "", down(9, 0));
        });
        Check.sentence("result: ordered by priority, the greatest first", () -> {
            IssueFold x = Use.with("A>B;");
            int[] priorities = {0, 9, 5, 1, 8};
            for (int priority : priorities) {
                x.act(0, Use.OPEN, 0, 0, priority);
            }
            Use.found(x, 0, "", 1, 4, 2, 3, 0);
            x.act(0, Use.RANK, 0, 0, 6);
            Use.found(x, 0, "", 1, 4, 0, 2, 3);
        });
        Check.sentence("result: with equal ones by code, the least first", () -> {
            IssueFold x = Use.with("A>B;");
            for (int place = 2; place >= 0; place--) {
                x.act(place, Use.OPEN, 0, 0, 4);
                x.act(place, Use.OPEN, 0, 0, 4);
            }
            Use.pass(x, 2, 0);
            Use.pass(x, 1, 0);
            Use.found(x, 0, "", 0, 1, 16, 17, 32, 33);
            x.act(0, Use.RANK, 0, 33, 5);
            x.act(0, Use.RANK, 0, 16, 5);
            Use.found(x, 0, "", 16, 33, 0, 1, 17, 32);
        });
        Check.sentence("result: of all 48", SentencesOfQueriesTest::allThatCanBe);
        Check.sentence("result: NONE if there is none", () -> {
            IssueFold x = ranked();
            Check.due("before a query", x.result(0), -1);
            Use.found(x, 0, "p>7", 9, 8);
            for (int bad : new int[] {-1, 2, 3, 48, Integer.MIN_VALUE, Integer.MAX_VALUE}) {
                Check.due("result " + bad, x.result(bad), -1);
            }
            Use.found(x, 0, "!n");
            Use.found(x, 1, "");
        });
        Check.sentence("result: what the latest query found stays until the next", () -> {
            IssueFold x = ranked();
            Use.found(x, 0, "p>7", 9, 8);
            x.act(0, Use.RANK, 0, 8, 0);
            x.act(0, Use.OPEN, 0, 0, 9);
            Use.ask(x, "p=0");
            Check.due("the first", x.result(0), 9);
            Check.due("the second", x.result(1), 8);
            Check.due("no third", x.result(2), -1);
            Check.due("the next query", x.query(0), 2);
            Check.due("its first", x.result(0), 0);
            Check.due("its second", x.result(1), 8);
        });
    }

    private static void allThatCanBe() {
        IssueFold x = Use.with("A>B;");
        for (int k = 0; k < 48; k++) {
            x.act(k / 16, Use.OPEN, 0, 0, 7);
        }
        Use.pass(x, 0, 1);
        Use.pass(x, 1, 2);
        int[] codes = new int[48];
        for (int k = 0; k < 48; k++) {
            codes[k] = k;
        }
        Use.found(x, 2, "", codes);
    }
}
