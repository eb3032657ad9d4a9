/** Promises 2 write, 3 compile, 4 place, 12 ask, and the terms for workflow and query texts. */
public final class TextTest {
    private static final String DIGITS = "0123456789";

    public static void main(String[] args) {
        writeTakesPrintables();
        writeEndsAt120();
        askTakesPrintables();
        askEndsAt40();
        compileCountsRules();
        compileEmptiesTheText();
        compileOnceOnly();
        illWorkflows();
        illQueries();
        nestingInWorkflows();
        nestingInQueries();
        blanksAreLeftOut();
        placeIsThatOfTheLatest();
        everyCharacterAsAFact();
        Check.end("TextTest");
    }

    private static void writeTakesPrintables() {
        for (int c = 0; c < 300; c++) {
            Check.due("write of " + c, new IssueFold().write((char) c), c >= 32 && c <= 126);
        }
        Check.due("write of 65535", new IssueFold().write((char) 65535), false);
    }

    private static void askTakesPrintables() {
        for (int c = 0; c < 300; c++) {
            Check.due("ask of " + c, new IssueFold().ask((char) c), c >= 32 && c <= 126);
        }
        Check.due("ask of 65535", new IssueFold().ask((char) 65535), false);
    }

    private static void writeEndsAt120() {
        IssueFold x = new IssueFold();
        Use.write(x, "A>B;".repeat(30));
        Check.due("the 121st", x.write(';'), false);
        Check.due("the 121st as a blank", x.write(' '), false);
        Check.due("ask has room of its own", x.ask('n'), true);
        Check.due("thirty rules", x.compile(), 30);
        Check.due("room again", x.write('A'), true);

        IssueFold y = new IssueFold();
        Use.write(y, " ".repeat(116));
        Check.due("a refused character takes no room", y.write((char) 31), false);
        Check.due("a refused character takes no room", y.write((char) 127), false);
        Use.write(y, "A>B;");
        Check.due("blanks take room", y.write(' '), false);
        Check.due("compile behind blanks", y.compile(), 1);

        IssueFold z = new IssueFold();
        Use.write(z, "A>B:" + "n&".repeat(57) + "n");
        Check.due("119 are there", z.write(';'), true);
        Check.due("a condition as long as can be", z.compile(), 1);
    }

    private static void askEndsAt40() {
        IssueFold x = new IssueFold();
        Use.ask(x, " ".repeat(39));
        Check.due("a refused character takes no room", x.ask((char) 127), false);
        Check.due("the 40th", x.ask('n'), true);
        Check.due("the 41st", x.ask(' '), false);
        Check.due("the 41st", x.ask('&'), false);
        Check.due("query", x.query(0), 0);
        Check.due("room again", x.ask('n'), true);

        IssueFold y = new IssueFold();
        Use.ask(y, "n|".repeat(19) + "!n");
        Check.due("the 41st", y.ask('|'), false);
        Check.due("query", y.query(0), 0);
        Use.illQuery(y, "n|".repeat(20), 40);
    }

    private static void compileCountsRules() {
        Use.wellWorkflow("A>B;", 1);
        Use.wellWorkflow("A>A;", 1);
        Use.wellWorkflow("F>E;E>F;", 2);
        Use.wellWorkflow("A>B;A>B;A>B:n;", 3);
        Use.wellWorkflow("C>D:p<0&p=5&p>9|n|u=0&r=9|o;D>C:(n);", 2);
        Use.wellWorkflow("A>B:!(!o|(n&n)|u=9);", 1);
    }

    private static void compileEmptiesTheText() {
        IssueFold x = new IssueFold();
        Use.write(x, "A>");
        Check.illegalArgument("compile", x::compile);
        Check.illegalArgument("compile of nothing left", x::compile);
        Check.due("place of nothing left", x.place(), 0);
        Use.write(x, "A>B;");
        Check.due("compile after ill ones", x.compile(), 1);
        x.act(0, Use.OPEN, 0, 0, 1);
        Check.due("first state", x.issue(0, 0, 0), 0);

        IssueFold y = new IssueFold();
        Use.write(y, "C>D:n;E>F:r=1;A>");
        Check.illegalArgument("an ill one with well rules", y::compile);
        Check.illegalState("no workflow from an ill text", () -> y.act(0, 0, 0, 0, 0));
        Use.write(y, "B>C;");
        Check.due("compile after it", y.compile(), 1);
        y.act(0, Use.OPEN, 0, 0, 1);
        Check.due("first state of the second text", y.issue(0, 0, 0), 1);
        Check.due("no condition is left over", y.act(0, Use.MOVE, 0, 0, 2), 1);

        IssueFold z = new IssueFold();
        Use.write(z, "A>B;A>C;A>D:n;A>E;?");
        Check.illegalArgument("an ill one with well rules", z::compile);
        Use.write(z, "A>B;");
        Check.due("compile after it", z.compile(), 1);
        z.act(0, Use.OPEN, 0, 0, 1);
        for (int state = 2; state < 5; state++) {
            int to = state;
            Check.unsupported("no rule is left over", () -> z.act(0, Use.MOVE, 0, 0, to));
        }

        IssueFold w = new IssueFold();
        for (int k = 0; k < 3; k++) {
            Use.write(w, "A>B:" + "n&".repeat(58));
            Check.illegalArgument("a long ill one", w::compile);
            Check.due("its place", w.place(), 120);
        }
        Use.write(w, "A>B:" + "n&".repeat(56) + "!n;");
        Check.due("a long well one", w.compile(), 1);
        w.act(0, Use.OPEN, 0, 0, 1);
        Check.unsupported("all of its condition counts", () -> w.act(0, Use.MOVE, 0, 0, 1));
    }

    private static void compileOnceOnly() {
        IssueFold x = Use.with("A>B;");
        Check.illegalState("compile of nothing with a workflow", x::compile);
        Use.write(x, "C>D;");
        Check.illegalState("compile of a well text", x::compile);
        Use.write(x, "?");
        Check.illegalState("compile of an ill text", x::compile);
        Use.write(x, "x".repeat(120));
        Check.illegalState("compile empties all the same", x::compile);
        Use.write(x, "x".repeat(120));
        x.act(0, Use.OPEN, 0, 0, 1);
        Check.due("the first workflow stays", x.issue(0, 0, 0), 0);
        Check.due("its rules stay", x.act(0, Use.MOVE, 0, 0, 1), 1);
        Check.unsupported("the later one counts nothing", () -> x.act(0, Use.MOVE, 0, 0, 3));
    }

    private static void illWorkflows() {
        Use.illWorkflow("", 0);
        Use.illWorkflow("   ", 0);
        Use.illWorkflow("A", 1);
        Use.illWorkflow("A>", 2);
        Use.illWorkflow("A>B", 3);
        Use.illWorkflow("A>B:", 4);
        Use.illWorkflow("A>B:n", 5);
        Use.illWorkflow("A>B:(n", 6);
        Use.illWorkflow("A>B;A", 5);
        Use.illWorkflow("G>A;", 0);
        Use.illWorkflow("@>A;", 0);
        Use.illWorkflow("a>B;", 0);
        Use.illWorkflow(";", 0);
        Use.illWorkflow("AB;", 1);
        Use.illWorkflow("A<B;", 1);
        Use.illWorkflow("A>G;", 2);
        Use.illWorkflow("A>0;", 2);
        Use.illWorkflow("A>;", 2);
        Use.illWorkflow("A>:n;", 2);
        Use.illWorkflow(">A;", 0);
        Use.illWorkflow("A>B;>A;", 4);
        Use.illWorkflow("A>BB;", 3);
        Use.illWorkflow("A>B,", 3);
        Use.illWorkflow("A>B;;", 4);
        Use.illWorkflow("A>B:;", 4);
        Use.illWorkflow("A>B::n;", 4);
        Use.illWorkflow("A>B:n:n;", 5);
        Use.illWorkflow("A>B:nn;", 5);
        Use.illWorkflow("A>B:n&;", 6);
        Use.illWorkflow("A>B:n&|n;", 6);
        Use.illWorkflow("A>B:n|;", 6);
        Use.illWorkflow("A>B:&n;", 4);
        Use.illWorkflow("A>B:|n;", 4);
        Use.illWorkflow("A>B:!;", 5);
        Use.illWorkflow("A>B:n!n;", 5);
        Use.illWorkflow("A>B:n(n);", 5);
        Use.illWorkflow("A>B:();", 5);
        Use.illWorkflow("A>B:(n;", 6);
        Use.illWorkflow("A>B:n);", 5);
        Use.illWorkflow("A>B:((n);", 8);
        Use.illWorkflow("A>B:p;", 5);
        Use.illWorkflow("A>B:p!1;", 5);
        Use.illWorkflow("A>B:p<;", 6);
        Use.illWorkflow("A>B:p<A;", 6);
        Use.illWorkflow("A>B:p<=1;", 6);
        Use.illWorkflow("A>B:p<12;", 7);
        Use.illWorkflow("A>B:u<1;", 5);
        Use.illWorkflow("A>B:u>1;", 5);
        Use.illWorkflow("A>B:u=A;", 6);
        Use.illWorkflow("A>B:r<1;", 5);
        Use.illWorkflow("A>B:r1;", 5);
        Use.illWorkflow("A>B:r=;", 6);
        Use.illWorkflow("A>B:o=1;", 5);
        Use.illWorkflow("A>B:n=1;", 5);
        Use.illWorkflow("A>B:s=A;", 4);
        Use.illWorkflow("A>B:n;C>D:s=A;", 10);
    }

    private static void illQueries() {
        IssueFold x = new IssueFold();
        Use.illQuery(x, "r=1", 0);
        Use.illQuery(x, "o", 0);
        Use.illQuery(x, "n&o", 2);
        Use.illQuery(x, ";", 0);
        Use.illQuery(x, "n;", 1);
        Use.illQuery(x, "p<5&", 4);
        Use.illQuery(x, "p<5|", 4);
        Use.illQuery(x, "s", 1);
        Use.illQuery(x, "s=", 2);
        Use.illQuery(x, "s=G", 2);
        Use.illQuery(x, "s=0", 2);
        Use.illQuery(x, "s=@", 2);
        Use.illQuery(x, "s<A", 1);
        Use.illQuery(x, "s=AB", 3);
        Use.illQuery(x, "u<1", 1);
        Use.illQuery(x, "u=A", 2);
        Use.illQuery(x, "p=:", 2);
        Use.illQuery(x, "p=/", 2);
        Use.illQuery(x, "p=55", 3);
        Use.illQuery(x, "!", 1);
        Use.illQuery(x, "(", 1);
        Use.illQuery(x, ")", 0);
        Use.illQuery(x, "()", 1);
        Use.illQuery(x, "(n", 2);
        Use.illQuery(x, "n)", 1);
        Use.illQuery(x, "(n))", 3);
        Use.illQuery(x, "n n", 1);
        Use.illQuery(x, "A>B;", 0);
        for (int i = 0; i < DIGITS.length(); i++) {
            Use.found(x, 0, "u=" + DIGITS.charAt(i) + "&p<" + DIGITS.charAt(i));
        }
        Use.found(x, 0, "s=A|s=B|s=C|s=D|s=E|s=F");
    }

    private static void nestingInWorkflows() {
        Use.wellWorkflow("A>B:!!!!!!n;", 1);
        Use.illWorkflow("A>B:!!!!!!!n;", 10);
        Use.wellWorkflow("A>B:((((((n))))));", 1);
        Use.illWorkflow("A>B:(((((((n)))))));", 10);
        Use.wellWorkflow("A>B:!(!(!(n)));", 1);
        Use.illWorkflow("A>B:!(!(!(!n)));", 10);
        Use.illWorkflow("A>B:!(!(!((n))));", 10);
        Use.illWorkflow("A>B:!!!!!!(", 10);
        Use.illWorkflow("A>B:!!!!!!!", 10);
        Use.illWorkflow("A>B:!!!!!!", 10);
        Use.illWorkflow("A>B:((((((n|!n))))));", 12);
        Use.wellWorkflow("A>B:(((((n|!n|(n))))));", 1);
        Use.wellWorkflow("A>B:!!!!!!n&!!!!!!n|!!!!!!n;", 1);
        Use.wellWorkflow("A>B:((((((n))))))&((((((n))))))|!(((((n)))));", 1);
    }

    private static void nestingInQueries() {
        IssueFold x = new IssueFold();
        Use.illQuery(x, "!!!!!!!n", 6);
        Use.illQuery(x, "(((((((n)))))))", 6);
        Use.illQuery(x, "((!((!(n", 6);
        Use.found(x, 0, "((((((n))))))|((((((n))))))");
        Use.found(x, 0, "!!!!!!n&!!!!!!n|!!!!!!s=A&((((((n))))))");
        Use.illQuery(x, "!!!!!n&((((((n&(n", 15);
    }

    private static void blanksAreLeftOut() {
        Use.wellWorkflow("  A > B : p < 1 ; ", 1);
        Use.illWorkflow(" A > B : p < 1 2 ; ", 7);
        Use.illWorkflow(" A > ", 2);
        IssueFold x = Use.with("A>B;");
        x.act(0, Use.OPEN, 0, 0, 7);
        Use.found(x, 0, " p = 7 & s = A ", 0);
        Use.found(x, 0, "     ", 0);
        Use.illQuery(x, "  p  =  7  &  ", 4);
        Use.illQuery(x, "  p  =  x", 2);
    }

    private static void placeIsThatOfTheLatest() {
        IssueFold x = new IssueFold();
        Use.write(x, "A>B:");
        Check.illegalArgument("compile", x::compile);
        Check.due("of compile", x.place(), 4);
        Check.due("asked again", x.place(), 4);
        Use.write(x, "A>B;");
        Check.due("write changes nothing", x.place(), 4);
        Use.illQuery(x, "n&", 2);
        Check.due("compile", x.compile(), 1);
        Check.due("of the well compile", x.place(), -1);
        Use.illQuery(x, "n|n|", 4);
        Check.illegalState("compile with a workflow", x::compile);
        Check.due("as before", x.place(), 4);
        Use.ask(x, "?");
        Check.illegalArgument("query of no place", () -> x.query(-1));
        Check.due("none with no such place", x.place(), -1);
        Check.illegalState("compile with a workflow", x::compile);
        Check.due("none as before", x.place(), -1);
        Use.illQuery(x, "nn", 1);
        Check.due("query of the emptied text", x.query(2), 0);
        Check.due("none after a well query", x.place(), -1);
    }

    /** Of all characters that a text can hold only these begin a test. */
    private static void everyCharacterAsAFact() {
        for (char c = 33; c <= 126; c++) {
            Use.illWorkflow("A>B:" + c, "pnuro!(".indexOf(c) >= 0 ? 5 : 4);
            Use.illQuery(new IssueFold(), c + "&", "n".indexOf(c) >= 0 ? 2 : "pus!(".indexOf(c) >= 0 ? 1 : 0);
        }
    }
}
