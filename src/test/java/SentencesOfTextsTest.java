/** A test for each sentence on texts: their terms, and promises 2 write, 3 compile, 4 place and 12 ask. */
public final class SentencesOfTextsTest {
    public static void main(String[] args) {
        terms();
        promise2();
        promise3();
        promise4();
        promise12();
        Check.end("SentencesOfTextsTest");
    }

    private static void terms() {
        Check.sentence("CONDITIONS: one or more ALTERNATIVES with | between", SentencesOfTextsTest::alternatives);
        Check.sentence("an alternative is one or more TESTS with & between", SentencesOfTextsTest::tests);
        Check.sentence("a test is ! and a test (not)", SentencesOfTextsTest::not);
        Check.sentence("or ( and a condition and )", SentencesOfTextsTest::brackets);
        Check.sentence("or a FACT", SentencesOfTextsTest::facts);
        Check.sentence("Facts: p<d, p=d, p>d", SentencesOfTextsTest::priorityFacts);
        Check.sentence("n", SentencesOfTextsTest::nobodyFact);
        Check.sentence("in the workflow alone: u=d and r=d, o", SentencesOfTextsTest::workflowAlone);
        Check.sentence("in a query alone: s=X, u=d", SentencesOfTextsTest::queryAlone);
        Check.sentence("Digits d are 0 .. 9", SentencesOfTextsTest::digits);
        Check.sentence("states X are A .. F", SentencesOfTextsTest::states);
        Check.sentence("THE WORKFLOW text, at most 120 characters", SentencesOfTextsTest::longestWorkflows);
        Check.sentence("is one or more RULES", SentencesOfTextsTest::rules);
        Check.sentence("a state, > , a state, perhaps : and a condition, and ;", SentencesOfTextsTest::rule);
        Check.sentence("Issues begin in the state that is named first", SentencesOfTextsTest::firstState);
        Check.sentence("A QUERY text, at most 40 characters", SentencesOfTextsTest::longestQueries);
        Check.sentence("is a condition, or nothing", SentencesOfTextsTest::nothingAsText);
        Check.sentence("In both blanks (32) are left out", SentencesOfTextsTest::blanks);
        Check.sentence("places are counted without them", SentencesOfTextsTest::placesWithoutBlanks);
        Check.sentence("ILL at the first place where a character can't stand", SentencesOfTextsTest::firstPlace);
        Check.sentence("or at its length if it ends too early", SentencesOfTextsTest::endsTooEarly);
        Check.sentence("and at a ! that lies in six others of these", SentencesOfTextsTest::deepNot);
        Check.sentence("and at a ( that lies in six others of these", SentencesOfTextsTest::deepBracket);
        Check.sentence("lies in: one beside another does not", SentencesOfTextsTest::besideIsNotIn);
        Check.sentence("a deep one before a later fault, a fault before a deep one", SentencesOfTextsTest::deepOrFault);
    }

    private static void condition(String text) {
        Use.wellWorkflow("A>B:" + text + ";", 1);
        Use.found(new IssueFold(), 0, text);
    }

    /** The place is the one in the query; in the workflow four characters stand before. */
    private static void noCondition(String text, int place) {
        Use.illWorkflow("A>B:" + text + ";", place + 4);
        Use.illQuery(new IssueFold(), text, place);
    }

    private static void alternatives() {
        condition("n");
        condition("n|n");
        condition("n|n|n|n|n|n|n|n|n|n|n|n|n|n|n|n|n|n|n|n");
        noCondition("|n", 0);
        noCondition("n|", 2);
        noCondition("n||n", 2);
        noCondition("(|n)", 1);
        noCondition("(n|)", 3);
    }

    private static void tests() {
        condition("n&n");
        condition("n&n&n&n&n&n&n&n&n&n&n&n&n&n&n&n&n&n&n&n");
        condition("n&n|n&n");
        noCondition("&n", 0);
        noCondition("n&", 2);
        noCondition("n&&n", 2);
        noCondition("n&|n", 2);
        noCondition("n|&n", 2);
        noCondition("nn", 1);
        noCondition("n(n)", 1);
        noCondition("n!n", 1);
    }

    private static void not() {
        condition("!n");
        condition("!!n");
        condition("!(n)");
        condition("!p=1&!n");
        noCondition("!", 1);
        noCondition("!&n", 1);
        noCondition("!|n", 1);
        noCondition("!)", 1);
        noCondition("n!", 1);
    }

    private static void brackets() {
        condition("(n)");
        condition("((n))");
        condition("(n&n|n)");
        condition("(n)&(n)|(!n)");
        noCondition("()", 1);
        noCondition("(n", 2);
        noCondition("n)", 1);
        noCondition("(n))", 3);
        noCondition("((n)", 4);
        noCondition(")", 0);
        noCondition("(n)n", 3);
        noCondition("(n)(n)", 3);
        noCondition("(n)!n", 3);
    }

    private static void facts() {
        for (char c = 33; c <= 126; c++) {
            if ("pnuros!(".indexOf(c) < 0) {
                noCondition(String.valueOf(c), 0);
                noCondition("n&" + c, 2);
                noCondition("!" + c, 1);
                noCondition("(" + c, 1);
            }
        }
    }

    private static void priorityFacts() {
        condition("p<1");
        condition("p=1");
        condition("p>1");
        for (char c = 33; c <= 126; c++) {
            if ("<=>".indexOf(c) < 0) {
                noCondition("p" + c + "1", 1);
            }
        }
        noCondition("p", 1);
        noCondition("p<", 2);
        noCondition("p<=1", 2);
        noCondition("p<11", 3);
    }

    private static void nobodyFact() {
        condition("n");
        noCondition("n=4", 1);
        noCondition("n4", 1);
        noCondition("N", 0);
    }

    private static void workflowAlone() {
        Use.wellWorkflow("A>B:u=1;", 1);
        Use.wellWorkflow("A>B:r=1;", 1);
        Use.wellWorkflow("A>B:o;", 1);
        Use.illQuery(new IssueFold(), "r=1", 0);
        Use.illQuery(new IssueFold(), "o", 0);
        Use.illQuery(new IssueFold(), "n|r=1", 2);
        Use.illQuery(new IssueFold(), "!(o)", 2);
        for (char c = 33; c <= 126; c++) {
            if (c != '=') {
                Use.illWorkflow("A>B:u" + c + "1;", 5);
                Use.illWorkflow("A>B:r" + c + "1;", 5);
            }
        }
        Use.illWorkflow("A>B:o=1;", 5);
    }

    private static void queryAlone() {
        Use.found(new IssueFold(), 0, "s=A");
        Use.found(new IssueFold(), 0, "u=1");
        Use.illWorkflow("A>B:s=A;", 4);
        Use.illWorkflow("A>B:n|s=A;", 6);
        Use.illWorkflow("A>B:!(s=A);", 6);
        for (char c = 33; c <= 126; c++) {
            if (c != '=') {
                Use.illQuery(new IssueFold(), "s" + c + "A", 1);
                Use.illQuery(new IssueFold(), "u" + c + "1", 1);
            }
        }
    }

    private static void digits() {
        for (char c = 33; c <= 126; c++) {
            for (String fact : new String[] {"p<", "p=", "p>", "u="}) {
                if (c >= '0' && c <= '9') {
                    condition(fact + c);
                } else {
                    noCondition(fact + c, 2);
                }
            }
            if (c >= '0' && c <= '9') {
                Use.wellWorkflow("A>B:r=" + c + ";", 1);
            } else {
                Use.illWorkflow("A>B:r=" + c + ";", 6);
            }
        }
    }

    private static void states() {
        for (char c = 33; c <= 126; c++) {
            if (c >= 'A' && c <= 'F') {
                Use.wellWorkflow(c + ">A;", 1);
                Use.wellWorkflow("A>" + c + ";", 1);
                Use.found(new IssueFold(), 0, "s=" + c);
            } else {
                Use.illWorkflow(c + ">A;", 0);
                Use.illWorkflow("A>" + c + ";", 2);
                Use.illWorkflow("A>B;" + c + ">A;", 4);
                Use.illQuery(new IssueFold(), "s=" + c, 2);
            }
        }
    }

    private static void longestWorkflows() {
        Use.wellWorkflow("A>B;".repeat(30), 30);
        Use.wellWorkflow("A>B:" + "n&".repeat(57) + "n;", 1);
        Use.wellWorkflow("A>B:" + "n|".repeat(57) + "n;", 1);
        Use.wellWorkflow("A>B:n;".repeat(20), 20);
        Use.illWorkflow("A>B:" + "n&".repeat(58), 120);
        Use.illWorkflow("A>B;".repeat(29) + "A>B:", 120);
        Use.illWorkflow("A>B;".repeat(29) + "A>B>", 119);
    }

    private static void rules() {
        Use.illWorkflow("", 0);
        Use.illWorkflow("    ", 0);
        Use.illWorkflow(";", 0);
        Use.wellWorkflow("A>B;", 1);
        Use.wellWorkflow("A>B;B>A;", 2);
        Use.wellWorkflow("A>B;A>B;A>B;", 3);
        Use.illWorkflow("A>B;;", 4);
        Use.illWorkflow("A>B;B>A", 7);
    }

    private static void rule() {
        Use.wellWorkflow("A>B;", 1);
        Use.wellWorkflow("A>A;", 1);
        Use.wellWorkflow("A>B:n;", 1);
        Use.illWorkflow("AB;", 1);
        Use.illWorkflow("A>;", 2);
        Use.illWorkflow(">B;", 0);
        Use.illWorkflow("A>BC;", 3);
        Use.illWorkflow("A>B:;", 4);
        Use.illWorkflow("A>Bn;", 3);
        Use.illWorkflow("A>B:n:n;", 5);
        Use.illWorkflow("A>B:nA>B;", 5);
        for (char c = 33; c <= 126; c++) {
            if (c != '>') {
                Use.illWorkflow("A" + c + "B;", 1);
            }
            if (c != ':' && c != ';') {
                Use.illWorkflow("A>B" + c, 3);
            }
            if (c != ';' && c != '&' && c != '|') {
                Use.illWorkflow("A>B:n" + c, 5);
            }
        }
    }

    private static void firstState() {
        for (char c = 'A'; c <= 'F'; c++) {
            IssueFold x = Use.with(c + ">B;A>F;F>A;");
            x.act(0, Use.OPEN, 0, 0, 1);
            Check.due("the first state of " + c + ">B;", x.issue(0, 0, 0), c - 'A');
        }
        IssueFold y = Use.with("  E>B;");
        y.act(0, Use.OPEN, 0, 0, 1);
        Check.due("the first state behind blanks", y.issue(0, 0, 0), 4);
    }

    private static void longestQueries() {
        Use.found(new IssueFold(), 0, "n|".repeat(19) + "!n");
        Use.found(new IssueFold(), 0, "p=1&".repeat(9) + "(!n)");
        Use.illQuery(new IssueFold(), "n|".repeat(20), 40);
        Use.illQuery(new IssueFold(), "n|".repeat(19) + "n?", 39);
    }

    private static void nothingAsText() {
        IssueFold x = Use.with("A>B;");
        x.act(0, Use.OPEN, 0, 0, 1);
        x.act(0, Use.OPEN, 0, 0, 0);
        x.act(0, Use.OWN, 0, 1, 2);
        Use.found(x, 0, "", 0, 1);
        Use.found(x, 0, " ", 0, 1);
        Use.found(x, 0, "n", 0);
        Use.found(x, 1, "");
    }

    private static void blanks() {
        Use.wellWorkflow(" A > B : p < 1 & ! ( r = 2 | o ) ; B > A ; ", 2);
        Use.wellWorkflow("   A>B;", 1);
        Use.wellWorkflow("A>B;   ", 1);
        IssueFold x = Use.with("A>B:p =   7;");
        x.act(0, Use.OPEN, 0, 0, 7);
        x.act(0, Use.OPEN, 0, 0, 8);
        Check.due("a move by a rule with blanks", x.act(0, Use.MOVE, 0, 0, 1), 2);
        Check.unsupported("its condition counts", () -> x.act(0, Use.MOVE, 0, 1, 1));
        Use.found(x, 0, " p = 7 & s = B ", 0);
        Use.found(x, 0, "   u =4 ", 1, 0);
    }

    private static void placesWithoutBlanks() {
        Use.illWorkflow("  ?", 0);
        Use.illWorkflow(" A  >  ? ", 2);
        Use.illWorkflow("A > B : p < 1 2 ;", 7);
        Use.illWorkflow(" A > B ", 3);
        Use.illWorkflow(" ".repeat(118) + "A>", 2);
        Use.illQuery(new IssueFold(), " ?", 0);
        Use.illQuery(new IssueFold(), " p =  x ", 2);
        Use.illQuery(new IssueFold(), " n & ", 2);
        Use.illQuery(new IssueFold(), "! ! ! ! ! ! ! n", 6);
        Use.illQuery(new IssueFold(), " ".repeat(39) + "?", 0);
    }

    private static void firstPlace() {
        Use.illWorkflow("?????", 0);
        Use.illWorkflow("A>B;C>?;?", 6);
        Use.illWorkflow("A>G:?", 2);
        Use.illWorkflow("A>B:p<x|?", 6);
        Use.illQuery(new IssueFold(), "n&?|?", 2);
        Use.illQuery(new IssueFold(), "n?n?", 1);
        Use.illQuery(new IssueFold(), "u=4;", 3);
    }

    private static void endsTooEarly() {
        String rule = "A>B:!(p<1&u=2)|r=3;";
        for (int length = 0; length < rule.length(); length++) {
            Use.illWorkflow(rule.substring(0, length), length);
        }
        Use.wellWorkflow(rule, 1);
        for (int length = 1; length < rule.length(); length++) {
            Use.illWorkflow(rule + rule.substring(0, length), rule.length() + length);
        }
        Use.wellWorkflow(rule + rule, 2);
        for (String text : new String[] {"!", "(", "p", "p<", "p=", "p>", "u", "u=", "s", "s=", "n&", "n|", "(n", "!(n&n",
            "(n|(n)", "p<1&!"}) {
            Use.illQuery(new IssueFold(), text, text.length());
        }
    }

    private static void deepNot() {
        condition("!!!!!!n");
        noCondition("!!!!!!!n", 6);
        noCondition("!!!!!!!!n", 6);
        condition("(((((!n)))))");
        noCondition("((((((!n))))))", 6);
        noCondition("((((((n&!n))))))", 8);
        noCondition("((((((n|n&!n))))))", 10);
        condition("!(!(!(n)))");
        noCondition("!(!(!(!n)))", 6);
        noCondition("!(!(!(n|!n)))", 8);
    }

    private static void deepBracket() {
        condition("((((((n))))))");
        noCondition("(((((((n)))))))", 6);
        noCondition("((((((((n))))))))", 6);
        condition("!!!!!(n)");
        noCondition("!!!!!!(n)", 6);
        noCondition("((((((n&(n)))))))", 8);
        noCondition("!(!(!((n))))", 6);
        condition("(!(!(!n)))");
        noCondition("(!(!(!(n))))", 6);
    }

    private static void besideIsNotIn() {
        condition("!n&!n&!n&!n&!n&!n&!n");
        condition("(n)|(n)|(n)|(n)|(n)|(n)|(n)");
        condition("!!!!!!n&!!!!!!n|!!!!!!n");
        condition("((((((n))))))&((((((n))))))");
        condition("(((((!n&(n)|!n)))))");
        condition("!!!!!n&(n)");
        condition("(!!!!!n|!!!!!n)");
        noCondition("(!!!!!n|!!!!!!n)", 13);
        Use.wellWorkflow("A>B:!!!!!!n;A>C:!!!!!!n;", 2);
    }

    private static void deepOrFault() {
        noCondition("!!!!!!!", 6);
        noCondition("(((((((", 6);
        noCondition("!!!!!!!?", 6);
        noCondition("?!!!!!!!n", 0);
        noCondition("!!!!!!?!n", 6);
        noCondition("!!!?!!!!n", 3);
        noCondition("!!!!!!", 6);
    }

    private static void promise2() {
        Check.sentence("write: Appends a character to the workflow text", SentencesOfTextsTest::writeAppends);
        Check.sentence("write: false if its code isn't 32 .. 126", SentencesOfTextsTest::writeOfCodes);
        Check.sentence("write: or 120 are there", SentencesOfTextsTest::writeWhenFull);
        Check.sentence("write: a refused one is not appended", SentencesOfTextsTest::writeRefused);
    }

    private static void writeAppends() {
        IssueFold x = new IssueFold();
        Use.write(x, "D>E;E>A;");
        Check.due("rules", x.compile(), 2);
        x.act(0, Use.OPEN, 0, 0, 0);
        Check.due("in the order of writing", x.issue(0, 0, 0), 3);
        IssueFold y = new IssueFold();
        Use.write(y, "A>B;");
        Check.due("the query text is another one", y.query(0), 0);
        Check.due("and it stays", y.compile(), 1);
    }

    private static void writeOfCodes() {
        IssueFold x = new IssueFold();
        Check.due("31", x.write((char) 31), false);
        Check.due("127", x.write((char) 127), false);
        Check.due("32", x.write((char) 32), true);
        Check.due("126", x.write((char) 126), true);
        Check.due("0", x.write((char) 0), false);
        Check.due("10", x.write('\n'), false);
        Check.due("128", x.write((char) 128), false);
        Check.due("256 and 65", x.write((char) (256 + 65)), false);
        Check.due("65535", x.write(Character.MAX_VALUE), false);
    }

    private static void writeWhenFull() {
        IssueFold x = new IssueFold();
        Use.write(x, "A>B;".repeat(29) + "A>B");
        Check.due("the 120th", x.write(';'), true);
        Check.due("the 121st", x.write(';'), false);
        Check.due("a blank as the 121st", x.write(' '), false);
        Check.due("a code that is wrong as well", x.write((char) 31), false);
        Check.due("what is there is taken", x.compile(), 30);
        Use.write(x, "x".repeat(120));
        Check.due("the 121st of the next text", x.write('x'), false);
        IssueFold y = new IssueFold();
        Use.write(y, " ".repeat(120));
        Check.due("behind 120 blanks", y.write('A'), false);
    }

    private static void writeRefused() {
        IssueFold x = new IssueFold();
        for (char c : new char[] {31, 'A', 127, '>', 0, 'B', 200, ';', 65535}) {
            x.write(c);
        }
        Check.due("the refused ones are not in the text", x.compile(), 1);
        IssueFold y = new IssueFold();
        for (int k = 0; k < 200; k++) {
            y.write((char) 127);
        }
        Use.write(y, "A>B;".repeat(30));
        Check.due("they take no room", y.compile(), 30);
    }

    private static void promise3() {
        Check.sentence("compile: Takes the text as the workflow: how many rules", SentencesOfTextsTest::compileTakes);
        Check.sentence("compile: it is empty then, of a well text", SentencesOfTextsTest::emptyAfterWell);
        Check.sentence("compile: it is empty then, of an ill text", SentencesOfTextsTest::emptyAfterIll);
        Check.sentence("compile: it is empty then, with a workflow", SentencesOfTextsTest::emptyAfterRefused);
        Check.sentence("compile: IllegalStateException: there is a workflow", SentencesOfTextsTest::secondWorkflow);
        Check.sentence("compile: IllegalArgumentException: it is ILL", SentencesOfTextsTest::illIsNoWorkflow);
        Check.sentence("compile: of two exceptions the IllegalStateException", SentencesOfTextsTest::illSecondWorkflow);
    }

    private static void compileTakes() {
        for (int rules = 1; rules <= 30; rules++) {
            Use.wellWorkflow("A>B;".repeat(rules), rules);
        }
        Use.wellWorkflow("A>B:n|n|n;B>A:n&n;", 2);
    }

    /** Whether 120 characters have room again. */
    private static void isEmptied(IssueFold x) {
        Use.write(x, "x".repeat(120));
        Check.due("the 121st", x.write('x'), false);
    }

    private static void emptyAfterWell() {
        IssueFold x = new IssueFold();
        Use.write(x, "A>B;");
        x.compile();
        isEmptied(x);
    }

    private static void emptyAfterIll() {
        IssueFold x = new IssueFold();
        Use.write(x, "?");
        Check.illegalArgument("compile", x::compile);
        isEmptied(x);
        Check.illegalArgument("compile of a full text", x::compile);
        Use.write(x, "A>B;");
        Check.due("compile of what was written since", x.compile(), 1);
        IssueFold y = new IssueFold();
        Use.write(y, "A>");
        Check.illegalArgument("compile of a part", y::compile);
        Use.write(y, "B;");
        Check.illegalArgument("compile of the other part", y::compile);
        Check.due("its place", y.place(), 1);
    }

    private static void emptyAfterRefused() {
        IssueFold x = Use.with("A>B;");
        Use.write(x, "B>C;");
        Check.illegalState("compile", x::compile);
        isEmptied(x);
    }

    private static void secondWorkflow() {
        IssueFold x = Use.with("A>B;");
        Use.write(x, "C>D;C>E;");
        Check.illegalState("compile of a well text", x::compile);
        x.act(0, Use.OPEN, 0, 0, 0);
        Check.due("the first state is the first workflow's", x.issue(0, 0, 0), 0);
        Check.unsupported("no rule of the second", () -> x.act(0, Use.MOVE, 0, 0, 3));
        Check.due("a rule of the first", x.act(0, Use.MOVE, 0, 0, 1), 1);
        Use.write(x, "C>D;");
        Check.illegalState("and with events", x::compile);
    }

    private static void illIsNoWorkflow() {
        IssueFold x = new IssueFold();
        Check.illegalArgument("compile of nothing", x::compile);
        Use.write(x, "C>D;C>E:p=1;?");
        Check.illegalArgument("compile", x::compile);
        Check.illegalState("there is no workflow", () -> x.act(0, Use.OPEN, 0, 0, 0));
        Use.write(x, "A>B;A>C:n;");
        Check.due("a well one then", x.compile(), 2);
        x.act(0, Use.OPEN, 0, 0, 1);
        Check.due("nothing is left of the ill one", x.issue(0, 0, 0), 0);
        Check.due("nor of its conditions", x.act(0, Use.MOVE, 0, 0, 2), 1);
        Check.unsupported("nor of its rules", () -> x.act(0, Use.MOVE, 0, 0, 3));
        IssueFold y = new IssueFold();
        for (int k = 0; k < 3; k++) {
            Use.write(y, "A>B:" + "n&".repeat(58));
            Check.illegalArgument("a long ill one", y::compile);
        }
        Use.write(y, "A>B:" + "n&".repeat(56) + "!n;");
        Check.due("a long well one then", y.compile(), 1);
        y.act(0, Use.OPEN, 0, 0, 1);
        Check.unsupported("all of its condition counts", () -> y.act(0, Use.MOVE, 0, 0, 1));
    }

    private static void illSecondWorkflow() {
        IssueFold x = Use.with("A>B;");
        Check.illegalState("compile of nothing", x::compile);
        Use.write(x, "?");
        Check.illegalState("compile of an ill text", x::compile);
    }

    private static void promise4() {
        Check.sentence("place: The place at which the text of the latest compile was ILL", SentencesOfTextsTest::placeOfCompile);
        Check.sentence("place: The place at which the text of the latest query was ILL", SentencesOfTextsTest::placeOfQuery);
        Check.sentence("place: NONE if it wasn't", SentencesOfTextsTest::placeOfWell);
        Check.sentence("place: or there was none", SentencesOfTextsTest::placeOfNone);
        Check.sentence("place: compile threw IllegalStateException: as before", SentencesOfTextsTest::placeAsBefore);
        Check.sentence("place: other calls leave it", SentencesOfTextsTest::placeStays);
    }

    private static void placeOfCompile() {
        IssueFold x = new IssueFold();
        Use.write(x, "A>B:");
        Check.illegalArgument("compile", x::compile);
        Check.due("at 4", x.place(), 4);
        Use.write(x, "AB");
        Check.illegalArgument("compile", x::compile);
        Check.due("at 1", x.place(), 1);
        Use.illQuery(x, "p=1&", 4);
        Check.illegalArgument("compile of nothing", x::compile);
        Check.due("the latest was a compile", x.place(), 0);
    }

    private static void placeOfQuery() {
        IssueFold x = new IssueFold();
        Use.illQuery(x, "p=1&", 4);
        Use.illQuery(x, "?", 0);
        Use.write(x, "A>B:n&");
        Check.illegalArgument("compile", x::compile);
        Use.illQuery(x, "n&", 2);
    }

    private static void placeOfWell() {
        IssueFold x = new IssueFold();
        Use.illQuery(x, "n&", 2);
        Use.write(x, "A>B;");
        x.compile();
        Check.due("of a well compile", x.place(), -1);
        Use.illQuery(x, "n&", 2);
        Use.ask(x, "n");
        x.query(0);
        Check.due("of a well query", x.place(), -1);
        Use.illQuery(x, "n&", 2);
        x.query(2);
        Check.due("of a query of nothing", x.place(), -1);
    }

    private static void placeOfNone() {
        IssueFold x = new IssueFold();
        Check.due("of a new object", x.place(), -1);
        Use.write(x, "?");
        Use.ask(x, "?");
        Check.due("an ill text that was not taken yet", x.place(), -1);
    }

    private static void placeAsBefore() {
        IssueFold x = Use.with("A>B;");
        Check.illegalState("compile", x::compile);
        Check.due("none as before", x.place(), -1);
        Use.illQuery(x, "n|n&", 4);
        Check.illegalState("compile of nothing", x::compile);
        Check.due("as the query left it", x.place(), 4);
        Use.write(x, "A?");
        Check.illegalState("compile of an ill text", x::compile);
        Check.due("as the query left it", x.place(), 4);
        Use.write(x, "A>B;");
        Check.illegalState("compile of a well text", x::compile);
        Check.due("as the query left it", x.place(), 4);
    }

    private static void placeStays() {
        IssueFold x = Use.with("A>B;");
        Use.illQuery(x, "n&n&", 4);
        x.write('A');
        x.ask('n');
        x.write((char) 127);
        x.ask((char) 127);
        x.role(0, 1);
        x.needs(0, 1);
        x.act(0, Use.OPEN, 0, 0, 0);
        x.send(0, 1);
        x.deliver(0);
        x.lose(0);
        x.crash(0);
        x.result(0);
        Check.illegalArgument("an act that is refused", () -> x.act(3, 0, 0, 0, 0));
        Check.due("place", x.place(), 4);
        Check.due("asked twice", x.place(), 4);
    }

    private static void promise12() {
        Check.sentence("ask: Appends a character to the query text", SentencesOfTextsTest::askAppends);
        Check.sentence("ask: false if its code isn't 32 .. 126", SentencesOfTextsTest::askOfCodes);
        Check.sentence("ask: or 40 are there", SentencesOfTextsTest::askWhenFull);
        Check.sentence("ask: a refused one is not appended", SentencesOfTextsTest::askRefused);
    }

    private static void askAppends() {
        IssueFold x = Use.with("A>B;");
        x.act(0, Use.OPEN, 0, 0, 5);
        x.act(0, Use.OPEN, 0, 0, 6);
        Use.found(x, 0, "p>5", 1);
        Use.found(x, 0, "p<6", 0);
        IssueFold y = new IssueFold();
        Use.ask(y, "A>B;");
        Check.illegalArgument("the workflow text is another one", y::compile);
        Check.due("which is empty", y.place(), 0);
    }

    private static void askOfCodes() {
        IssueFold x = new IssueFold();
        Check.due("31", x.ask((char) 31), false);
        Check.due("127", x.ask((char) 127), false);
        Check.due("32", x.ask((char) 32), true);
        Check.due("126", x.ask((char) 126), true);
        Check.due("0", x.ask((char) 0), false);
        Check.due("9", x.ask('\t'), false);
        Check.due("128", x.ask((char) 128), false);
        Check.due("256 and 110", x.ask((char) (256 + 110)), false);
        Check.due("65535", x.ask(Character.MAX_VALUE), false);
    }

    private static void askWhenFull() {
        IssueFold x = new IssueFold();
        Use.ask(x, "n|".repeat(19) + "!");
        Check.due("the 40th", x.ask('n'), true);
        Check.due("the 41st", x.ask('|'), false);
        Check.due("a blank as the 41st", x.ask(' '), false);
        Check.due("a code that is wrong as well", x.ask((char) 31), false);
        Check.due("what is there is taken", x.query(0), 0);
        Use.ask(x, "n".repeat(40));
        Check.due("the 41st of the next text", x.ask('n'), false);
        IssueFold y = new IssueFold();
        Use.ask(y, " ".repeat(40));
        Check.due("behind 40 blanks", y.ask('n'), false);
        Use.write(y, "A>B;");
        Check.due("the workflow text has room of its own", y.compile(), 1);
    }

    private static void askRefused() {
        IssueFold x = Use.with("A>B;");
        x.act(0, Use.OPEN, 0, 0, 5);
        for (char c : new char[] {31, 'p', 127, '=', 0, '5', 200}) {
            x.ask(c);
        }
        Check.due("the refused ones are not in the text", x.query(0), 1);
        for (int k = 0; k < 100; k++) {
            x.ask((char) 127);
        }
        Use.found(x, 0, "n|".repeat(19) + "!n", 0);
    }
}
