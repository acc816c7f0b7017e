import java.util.Arrays;
import java.util.Set;
import java.util.function.IntSupplier;

/** Terms, the tape and its texts: a test of its own for each sentence that names a boundary case. */
public final class TextBoundsTest {
    private static final String GREATEST = "(2147*1000000+483647)";
    private static final String LEAST = "(-2147*1000000-483648)";

    public static void main(String[] args) {
        theTapeHasAtMost1000();
        whatReadsTheTapeLeavesItEmpty();
        placesFromAToZ();
        threadsFrom0To5();
        registersFromAToZ();
        blanks();
        words();
        wordsByTheirLetters();
        oneLetter();
        numbers();
        theLongestSign();
        anythingElse();
        emptyProgramsAndBlocks();
        statementsThatLackSomething();
        expressionsThatLackSomething();
        oneElseAndOneOr();
        oneComparison();
        wrapping();
        fromTheLeft();
        whatIsNot0();
        retryAndQuitStandWithin();
        tenBlocks();
        tenOfAllKinds();
        partsOfASignAreNotCounted();
        mostStatements();
        brokenAtAPlace();
        brokenAtTheLength();
        whatWasCutOff();
        Due.end();
    }

    private static void theTapeHasAtMost1000() {
        Due.sentence("THE TAPE has at most 1000 bytes");
        AsOneHouse h = Due.house(0);
        Due.type(h, "A=1;".repeat(249) + "x=7;");
        Due.is("1000 bytes are there", 1000, () -> h.count(0));
        Due.is("20 more are refused", Due.INDEX, () -> h.feed(0, 0, 0, 0, 0));
        Due.is("1000 bytes are there", 1000, () -> h.count(0));
        Due.is("all of them are read", 250, () -> h.program(0));
        Due.turns(h, "up to the last one", "0:0 0:2");
        Due.is("x", 7, () -> h.has(23));
    }

    private static void whatReadsTheTapeLeavesItEmpty() {
        Due.sentence("a call that reads THE TAPE leaves it empty, whatever comes of it");
        AsOneHouse h = Due.house(0);
        Due.tell(h, 1, "atom{}");
        h.turn(1);
        leavesItEmpty(h, "x=1;", 1, () -> h.program(0));
        leavesItEmpty(h, "", 0, () -> h.program(0));
        leavesItEmpty(h, "x=;", Due.UNSUPPORTED, () -> h.program(0));
        leavesItEmpty(h, "x=1;", Due.STATE, () -> h.program(1));
        leavesItEmpty(h, "x=1;", Due.ARGUMENT, () -> h.program(6));
        leavesItEmpty(h, "x=1;", Due.ARGUMENT, () -> h.program(-1));
        Due.is("nothing is left to read", 0, () -> h.program(0));
        Due.type(h, "x=1;");
        IntSupplier[] others = {h::place, () -> h.put(0, 1), () -> h.turn(0), () -> h.round(1), () -> h.has(0),
            () -> h.had(0, 0), () -> h.register(0, 0), () -> h.said(0, true), () -> h.look(0, 0), h::judge,
            () -> h.order(0), () -> h.record(0, 0), () -> h.end(9)};
        for (int i = 0; i < others.length; i++) {
            Due.answer(others[i]);
            Due.is("call " + i + " does not read it", 4, () -> h.count(0));
        }
        h.start(1);
        Due.is("nor does start", 4, () -> h.count(0));
    }

    private static void leavesItEmpty(AsOneHouse h, String text, int due, IntSupplier program) {
        Due.type(h, text);
        Due.is("program", due, program);
        Due.is("the tape is empty", 0, () -> h.count(0));
    }

    private static void placesFromAToZ() {
        Due.sentence("PLACES a .. z are shared, 0 at first");
        for (int i = 0; i < 26; i++) {
            int p = i;
            String letter = String.valueOf((char) ('a' + p));
            AsOneHouse h = Due.house(0);
            Due.is(letter + " at first", 0, () -> h.has(p));
            Due.tell(h, 0, letter + "=" + letter + "+7;");
            Due.tell(h, 1, "say " + letter + ";");
            Due.turns(h, "0 writes it, 1 sees it", "0:0 0:0 1:0 1:0");
            Due.is(letter + " is shared", 7, () -> h.said(0, false));
            for (int j = 0; j < 26; j++) {
                int q = j;
                Due.is(letter + ", and place " + q, p == q ? 7 : 0, () -> h.has(q));
            }
        }
    }

    private static void threadsFrom0To5() {
        Due.sentence("THREADS 0 .. 5, each with REGISTERS A .. Z (0 when its PROGRAM is told)");
        AsOneHouse h = Due.house(0);
        for (int t = 0; t < 6; t++) {
            int thread = t;
            Due.is("told " + t, 2, () -> Due.tell(h, thread, "A=" + (thread + 1) + ";Z=" + (thread + 11) + ";"));
            Due.is("turn " + t, 2, () -> h.turn(thread));
        }
        for (int t = 0; t < 6; t++) {
            int thread = t;
            Due.is("A of " + t, t + 1, () -> h.register(thread, 0));
            Due.is("B of " + t, 0, () -> h.register(thread, 1));
            Due.is("Z of " + t, t + 11, () -> h.register(thread, 25));
        }
        Due.is("none at -1", Due.ARGUMENT, () -> Due.tell(h, -1, ""));
        Due.is("none at 6", Due.ARGUMENT, () -> Due.tell(h, 6, ""));
        Due.is("5 is told again", 0, () -> Due.tell(h, 5, ""));
        Due.is("A of 5", 0, () -> h.register(5, 0));
        Due.is("Z of 5", 0, () -> h.register(5, 25));
        Due.is("A of 4 stays", 5, () -> h.register(4, 0));
    }

    private static void registersFromAToZ() {
        Due.sentence("REGISTERS A .. Z");
        for (int i = 0; i < 26; i++) {
            AsOneHouse h = Due.house(0);
            int r = i;
            String letter = String.valueOf((char) ('A' + r));
            Due.tell(h, 0, letter + "=" + letter + "+7;");
            Due.turns(h, letter, "0:2");
            for (int j = 0; j < 26; j++) {
                int q = j;
                Due.is(letter + ", and register " + q, r == q ? 7 : 0, () -> h.register(0, q));
            }
        }
    }

    private static void blanks() {
        Due.sentence("TOKENS, blanks (10, 32) between where one likes");
        String close = "atom{try{x=y==-1;}catch A{say(A);fail(A);}}or{quit;}";
        String wide = "\n atom { try\n{\nx = y  == -\n\n1 ; } catch A { say ( A ) ; fail ( A ) ; } } or { quit ; }\n ";
        Due.stands(close, 6);
        Due.stands(wide, 6);
        Due.stands(wide.replace(' ', '\n'), 6);
        Due.stands(wide.replace('\n', ' '), 6);
        for (char c : new char[] {0, 9, 11, 12, 13, 31, 33, 127, 128, 138, 160, 255}) {
            Due.broken("x=" + c + "1;", 2);
        }
        Due.broken("x=1 0;", 4);
        Due.broken("x=1= =1;", 3);
        Due.broken("sa y 1;", 0);
        Due.broken("i f(x){}", 2);
    }

    private static void words() {
        Due.sentence("WORD: letters, as many as there are: one letter: a PLACE or REGISTER; or "
                + "if else while say atom part or retry quit fail try catch");
        Due.stands("say1;", 1);
        Due.stands("fail1;", 1);
        Due.broken("sayx;", 0);
        Due.broken("sayA;", 0);
        Due.broken("failx;", 0);
        Due.broken("xy=1;", 0);
        Due.broken("AB=1;", 0);
        Due.broken("x=yz;", 2);
        Due.broken("x=Ay;", 2);
        Due.broken("atom{}orx{}", 6);
        Due.broken("if(x){}elsex{}", 7);
        Due.broken("try{}catchA{}", 5);
        for (String word : "if else while say atom part or retry quit fail try catch".split(" ")) {
            String less = word.substring(0, word.length() - 1);
            Due.broken(word + "x", 0);
            Due.broken("x" + word, 0);
            Due.broken(word.toUpperCase(), 0);
            // Of if and or one letter is left: a place, behind which something lacks.
            Due.broken(less, less.length() == 1 ? 1 : 0);
        }
    }

    private static void wordsByTheirLetters() {
        Due.sentence("or if else while say atom part or retry quit fail try catch");
        String[] words = {"if", "else", "while", "say", "atom", "part", "or", "or", "retry", "quit", "fail", "try", "catch"};
        String[] texts = {"if(x){}", "if(x){}else{}", "while(x){}", "say 1;", "atom{}", "part{}", "atom{}or{}",
            "part{}or{}", "atom{retry;}", "part{quit;}", "fail 1;", "try{}catch A{}", "try{}catch A{}"};
        for (int i = 0; i < words.length; i++) {
            int at = texts[i].indexOf(words[i]);
            for (int k = 0; k < words[i].length(); k++) {
                char letter = words[i].charAt(k);
                for (char c : new char[] {'z', Character.toUpperCase(letter), (char) (letter + 1), (char) (letter - 1)}) {
                    StringBuilder text = new StringBuilder(texts[i]);
                    text.setCharAt(at + k, c);
                    Due.is(text + " is broken", Due.UNSUPPORTED, () -> Due.tell(new AsOneHouse(), 0, text.toString()));
                }
                StringBuilder text = new StringBuilder(texts[i]);
                text.setCharAt(at + k, 'z');
                Due.broken(text.toString(), at);
                Due.broken(new StringBuilder(texts[i]).insert(at + k, 'z').toString(), at);
            }
        }
    }

    private static void oneLetter() {
        Due.sentence("one letter: a PLACE or REGISTER");
        for (char c : "azAZ".toCharArray()) {
            Due.stands(c + "=" + c + ";", 1);
        }
        for (char c : "@[`{".toCharArray()) {
            Due.broken("x=" + c + ";", 2);
            Due.broken(c + "=1;", 0);
        }
        Due.broken("try{}catch a{}", 11);
        Due.broken("try{}catch z{}", 11);
    }

    private static int valueOf(String expr) {
        AsOneHouse h = Due.house(0);
        Due.tell(h, 0, "C=" + expr + ";");
        h.turn(0);
        return h.register(0, 2);
    }

    private static void value(String expr, int due) {
        Due.is(expr, due, () -> valueOf(expr));
    }

    private static void numbers() {
        Due.sentence("NUMBER: digits, at most 1000000");
        value("0", 0);
        value("00", 0);
        value("9", 9);
        value("0123456789".substring(0, 7), 123456);
        value("999999", 999999);
        value("1000000", 1000000);
        value("0".repeat(900) + "1000000", 1000000);
        String[] tooLarge = {"1000001", "1000010", "2000000", "9999999", "10000000", "2147483647", "2147483648",
            "4294967295", "4294967296", "4294967297", "18446744073709551617", "1" + "0".repeat(900),
            "0".repeat(900) + "1000001"};
        for (String number : tooLarge) {
            Due.broken("x= " + number + ";", 3);
        }
        Due.broken("x=-1000001;", 3);
        Due.broken("x=/;", 2);
        Due.broken("x=:;", 2);
        Due.broken("x=1.5;", 3);
        Due.broken("x=1x;", 3);
    }

    private static void theLongestSign() {
        Due.sentence("SIGNS { } ( ) ; = == < + - * (the longest)");
        Due.stands("A=1==1;", 1);
        Due.stands("A=1--1;", 1);
        Due.stands("A=1<-1;", 1);
        Due.stands("A=1==-1;", 1);
        Due.broken("A==1;", 1);
        Due.broken("A===1;", 1);
        Due.broken("A= =1;", 3);
        Due.broken("A=1===1;", 5);
        Due.broken("A=1====1;", 5);
        Due.broken("A=1=1;", 3);
        Due.broken("A=1<=1;", 4);
        Due.broken("A=1<<1;", 4);
        Due.broken("A=1++1;", 4);
        Due.broken("A=1**1;", 4);
        Due.broken("A=1;;", 4);
    }

    private static void anythingElse() {
        Due.sentence("Anything else can't stand.");
        for (int b = 0; b < 256; b++) {
            String text = "x=1;" + (char) b;
            if (b == 10 || b == 32) {
                Due.stands(text, 1);
            } else {
                // A letter alone may stand there, and something lacks behind it.
                boolean isLetter = b >= 'a' && b <= 'z' || b >= 'A' && b <= 'Z';
                Due.broken(text, isLetter ? 5 : 4);
            }
        }
        for (char c : "!\"#$%&',./:>?@[\\]^_`|~".toCharArray()) {
            Due.broken("x=1" + c + "1;", 3);
        }
    }

    private static void emptyProgramsAndBlocks() {
        Due.sentence("PROGRAM: {STATEMENT}. BLOCK: { {STATEMENT} }.");
        Due.stands("", 0);
        Due.stands(" ", 0);
        Due.stands("\n", 0);
        Due.stands(" ".repeat(1000), 0);
        for (String text : new String[] {"if(x){}", "if(x){}else{}", "while(x){}", "atom{}", "atom{}or{}", "part{}",
            "part{}or{}", "try{}catch A{}"}) {
            Due.stands(text, 1);
            int blocks = text.split("\\{\\}", -1).length - 1;
            Due.stands(text.replace("{}", "{A=1;}"), 1 + blocks);
        }
        Due.broken("{}", 0);
        Due.broken("}", 0);
        Due.broken(";", 0);
    }

    private static void statementsThatLackSomething() {
        Due.sentence("STATEMENT: PLACE = EXPR ; | REGISTER = EXPR ; | if ( EXPR ) BLOCK [else BLOCK] | "
                + "while ( EXPR ) BLOCK | say EXPR ; | atom BLOCK [or BLOCK] | part BLOCK [or BLOCK] | retry ; | "
                + "quit ; | fail EXPR ; | try BLOCK catch REGISTER BLOCK.");
        Set<String> whole = Set.of("if ( x ) { }", "atom { }", "part { }");
        for (String text : new String[] {"x = 1 ;", "A = 1 ;", "if ( x ) { } else { }", "while ( x ) { }", "say x ;",
            "atom { } or { }", "part { } or { }", "atom { retry ; }", "part { quit ; }", "fail x ;",
            "try { } catch A { }", "x = ( 1 + 2 ) * - y == 3 ;", "A = x < 2 - 1 * B ;"}) {
            String[] tokens = text.split(" ");
            for (int n = 1; n < tokens.length; n++) {
                String begin = String.join(" ", Arrays.copyOf(tokens, n));
                String rest = text.substring(begin.length());
                if (!whole.contains(begin)) {
                    Due.broken(begin, begin.length());
                    Due.broken(begin + " \n", begin.length() + 2);
                }
                Due.broken(begin + " %" + rest, begin.length() + 1);
            }
            Due.broken("% " + text, 0);
            Due.broken(text + " %", text.length() + 1);
        }
    }

    private static void expressionsThatLackSomething() {
        Due.sentence("SUM: PRODUCT {+ or - PRODUCT}. PRODUCT: SIMPLE {* SIMPLE}. "
                + "SIMPLE: NUMBER, PLACE, REGISTER, ( EXPR ), - SIMPLE.");
        // Each lacks something just ahead of its last closing sign, which could stand there but for that.
        for (String expr : new String[] {"", "1+", "1-", "1*", "1==", "1<", "-", "--", "1+-", "1*-", "x*y+", "x==-", "x<A*"}) {
            Due.broken("x=" + expr + ";", 2 + expr.length());
            Due.broken("A=" + expr + ";", 2 + expr.length());
            Due.broken("say " + expr + ";", 4 + expr.length());
            Due.broken("fail " + expr + ";", 5 + expr.length());
            Due.broken("x=(" + expr + ");", 3 + expr.length());
            Due.broken("x=1*(" + expr + ")+1;", 5 + expr.length());
            Due.broken("if(" + expr + "){}", 3 + expr.length());
            Due.broken("while(" + expr + "){}", 6 + expr.length());
        }
        for (String expr : new String[] {"+1", "*1", "==1", "<1", "(1", "((1)", "1 1", "1x", "x A", "1(1)", "(1)(1)", "1)"}) {
            Due.is("x=" + expr + ";", Due.UNSUPPORTED, () -> Due.tell(new AsOneHouse(), 0, "x=" + expr + ";"));
        }
    }

    private static void oneElseAndOneOr() {
        Due.sentence("if ( EXPR ) BLOCK [else BLOCK]");
        Due.broken("if(x){}else{}else{}", 13);
        Due.broken("while(x){}else{}", 10);
        Due.sentence("atom BLOCK [or BLOCK] | part BLOCK [or BLOCK]");
        Due.broken("atom{}or{}or{}", 10);
        Due.broken("part{}or{}or{}", 10);
        Due.broken("if(x){}or{}", 7);
        Due.broken("atom{}else{}", 6);
    }

    private static void oneComparison() {
        Due.sentence("EXPR: SUM [== SUM] or SUM [< SUM] (1, 0).");
        value("1==1", 1);
        value("1==2", 0);
        value("1<2", 1);
        value("1<1", 0);
        value("2<1", 0);
        value("-1<0", 1);
        value("0<-1", 0);
        value(LEAST + "<" + GREATEST, 1);
        value(GREATEST + "<" + LEAST, 0);
        value(LEAST + "<1", 1);
        value(GREATEST + "<-1", 0);
        value(LEAST + "==" + LEAST, 1);
        value(LEAST + "==" + GREATEST, 0);
        value("(1==1)==(0<1)", 1);
        Due.broken("A=1==1==1;", 6);
        Due.broken("A=1<1<1;", 5);
        Due.broken("A=1==1<1;", 6);
        Due.broken("A=1<1==1;", 5);
    }

    private static void wrapping() {
        Due.sentence("ints, wrapping, from the left");
        value(GREATEST, Integer.MAX_VALUE);
        value(LEAST, Integer.MIN_VALUE);
        value(GREATEST + "+1", Integer.MIN_VALUE);
        value(LEAST + "-1", Integer.MAX_VALUE);
        value("-" + LEAST, Integer.MIN_VALUE);
        value("-" + GREATEST, -Integer.MAX_VALUE);
        value("0-" + LEAST, Integer.MIN_VALUE);
        value(LEAST + "*-1", Integer.MIN_VALUE);
        value(LEAST + "+" + LEAST, 0);
        value(GREATEST + "*2", -2);
        value(GREATEST + "*" + GREATEST, 1);
        value("65536*65536", 0);
        value("65536*32768", Integer.MIN_VALUE);
        value("1000000*1000000", -727379968);
        value(GREATEST + "+1<" + GREATEST, 1);
        value(GREATEST + "+1==" + LEAST, 1);
        AsOneHouse h = Due.house(0);
        h.put(23, Integer.MAX_VALUE);
        Due.tell(h, 0, "x=x+1;say -x;x=x-1;");
        Due.turns(h, "a place wraps too", "0:0 0:0");
        Due.is("x", Integer.MIN_VALUE, () -> h.has(23));
        Due.turns(h, "and what is said", "0:0 0:0");
        Due.is("said", Integer.MIN_VALUE, () -> h.said(0, false));
        Due.turns(h, "and back", "0:0 0:0");
        Due.is("x", Integer.MAX_VALUE, () -> h.has(23));
    }

    private static void fromTheLeft() {
        Due.sentence("from the left");
        value("10-3-2", 5);
        value("10-3+2", 9);
        value("10-(3-2)", 9);
        value("2-3*4-5", -15);
        value("-2*3+10", 4);
        looksInOrder("x+10*y+100*z+1000*(w+10*v)", 5, 54321);
        looksInOrder("x<y", 2, 1);
        looksInOrder("y<x", 2, 1);
        looksInOrder("x-y*z", 3, 1 - 2 * 3);
        looksInOrder("x*10+y==12", 2, 1);
    }

    /** Ahead of each look all places are given its number, which tells the looks' order. */
    private static void looksInOrder(String expr, int looks, int due) {
        AsOneHouse h = Due.house(0);
        Due.tell(h, 0, "A=" + expr + ";");
        for (int i = 1; i <= looks; i++) {
            for (int p = 21; p < 26; p++) {
                h.put(p, i);
            }
            Due.turns(h, expr + ", look " + i, "0:0");
        }
        Due.turns(h, expr, "0:2");
        Due.is(expr, due, () -> h.register(0, 0));
    }

    private static void whatIsNot0() {
        Due.sentence("if, while: not 0.");
        String[] exprs = {"0", "1", "-1", LEAST, GREATEST, "65536*65536", "65536*32768", "-0", "1-1", "0==0", "0==1"};
        int[] due = {0, 1, 1, 1, 1, 0, 1, 0, 0, 1, 0};
        for (int i = 0; i < exprs.length; i++) {
            AsOneHouse h = Due.house(0);
            Due.tell(h, 0, "if(" + exprs[i] + "){A=1;}else{A=2;}if(" + exprs[i] + "){B=1;}while(" + exprs[i] + "){}");
            Due.turns(h, exprs[i], due[i] == 1 ? "0:0 0:0 0:0" : "0:2");
            Due.is("if " + exprs[i], due[i] == 1 ? 1 : 2, () -> h.register(0, 0));
            Due.is("if without else " + exprs[i], due[i], () -> h.register(0, 1));
        }
    }

    private static void retryAndQuitStandWithin() {
        Due.sentence("retry and quit stand within an atom or part alone (or BLOCKS too)");
        for (String word : new String[] {"retry;", "quit; "}) {
            Due.stands("atom{" + word + "}", 2);
            Due.stands("part{" + word + "}", 2);
            Due.stands("atom{}or{" + word + "}", 2);
            Due.stands("part{}or{" + word + "}", 2);
            Due.stands("atom{if(x){" + word + "}else{" + word + "}}", 4);
            Due.stands("atom{while(x){" + word + "}}", 3);
            Due.stands("part{try{" + word + "}catch A{" + word + "}}", 4);
            Due.stands("part{atom{}or{}part{}or{}" + word + "}", 4);
            Due.stands("if(x){try{while(x){atom{" + word + "}}}catch A{}}", 5);
            Due.broken(word, 0);
            Due.broken("if(x){" + word + "}", 6);
            Due.broken("if(x){}else{" + word + "}", 12);
            Due.broken("while(x){" + word + "}", 9);
            Due.broken("try{" + word + "}catch A{}", 4);
            Due.broken("try{}catch A{" + word + "}", 13);
            Due.broken("atom{}" + word, 6);
            Due.broken("part{}" + word, 6);
            Due.broken("atom{}or{}" + word, 10);
            Due.broken("part{}or{}" + word, 10);
            Due.broken("try{atom{}}catch A{" + word + "}", 19);
            Due.broken("if(x){atom{}" + word + "}", 12);
        }
    }

    private static void tenBlocks() {
        Due.sentence("At most 10 BLOCKS, ( (of if and while, too) and - (as a sign of one part) within one another");
        String[] heads = {"atom{", "part{", "try{", "if(x){", "while(x){"};
        String[] tails = {"}", "}", "}catch A{}", "}", "}"};
        for (int i = 0; i < heads.length; i++) {
            int opening = heads[i].indexOf('(') >= 0 ? heads[i].indexOf('(') : heads[i].indexOf('{');
            Due.stands(heads[i].repeat(10) + tails[i].repeat(10), 10);
            Due.broken(heads[i].repeat(11) + tails[i].repeat(11), 10 * heads[i].length() + opening);
        }
        // Each of these has a block as the tenth, in which there is room for no more.
        for (String last : new String[] {"atom{A=1;}", "part{A=1;}", "if(x){A=1;}", "while(x){A=1;}",
            "try{A=1;}catch A{}", "atom{}or{A=1;}", "part{}or{A=1;}", "if(x){}else{A=1;}", "try{}catch A{A=1;}"}) {
            String nine = "atom{".repeat(9);
            int at = 45 + last.indexOf("A=1") + 2;
            Due.stands(nine + last + "}".repeat(9), 11);
            Due.broken(nine + last.replace("A=1", "A=(1)") + "}".repeat(9), at);
            Due.broken(nine + last.replace("A=1", "A=-1") + "}".repeat(9), at);
            Due.broken(nine + last.replace("A=1", "A=1*(1)") + "}".repeat(9), at + 2);
            Due.broken(nine + last.replace("A=1;", "atom{}") + "}".repeat(9), at + 2);
            Due.broken(nine + last.replace("A=1;", "say(1);") + "}".repeat(9), at + 1);
            Due.stands(nine.substring(5) + last.replace("A=1", "A=(1)*-1+(1)") + "}".repeat(8), 10);
        }
    }

    private static void tenOfAllKinds() {
        Due.sentence("the 11th within one another, the 301st STATEMENT: its first TOKEN");
        Due.stands("A=" + "(".repeat(10) + "1" + ")".repeat(10) + ";", 1);
        Due.broken("A=" + "(".repeat(11) + "1" + ")".repeat(11) + ";", 12);
        Due.stands("A=" + "-".repeat(10) + "1;", 1);
        Due.broken("A=" + "-".repeat(11) + "1;", 12);
        Due.stands("if(" + "(".repeat(9) + "x" + ")".repeat(9) + "){}", 1);
        Due.broken("if(" + "(".repeat(10) + "x" + ")".repeat(10) + "){}", 12);
        Due.stands("while(" + "-".repeat(9) + "x){}", 1);
        Due.broken("while(" + "-".repeat(10) + "x){}", 15);
        Due.stands("atom{".repeat(4) + "if(((---x))){}" + "}".repeat(4), 5);
        Due.broken("atom{".repeat(4) + "if(((----x))){}" + "}".repeat(4), 20 + 2 + 3 + 3);
        Due.stands("atom{".repeat(4) + "say((---(x)));" + "}".repeat(4), 5);
        Due.broken("atom{".repeat(5) + "say((---(x)));" + "}".repeat(5), 25 + 3 + 2 + 3);
        // Its first token is told also where what follows could not stand either.
        Due.broken("A=" + "(".repeat(11), 12);
        Due.broken("A=" + "(".repeat(10) + ")", 12);
        Due.broken("A=" + "(".repeat(10), 12);
        Due.broken("atom{".repeat(10) + "atom%", 54);
        Due.broken("atom{".repeat(10) + "atom", 54);
        Due.broken("atom{".repeat(10) + "retry", 55);
    }

    private static void partsOfASignAreNotCounted() {
        Due.sentence("- (as a sign of one part)");
        Due.stands("A=1" + "-1".repeat(100) + ";", 1);
        Due.stands("atom{".repeat(10) + "A=1-1-1;" + "}".repeat(10), 11);
        Due.broken("atom{".repeat(10) + "A=1--1;" + "}".repeat(10), 54);
        Due.stands("A=1" + "--1".repeat(100) + ";", 1);
        Due.stands("A=-1" + "*-(1)".repeat(100) + ";", 1);
        Due.stands("if(x){}".repeat(100), 100);
        Due.stands("atom{}or{}".repeat(100), 100);
    }

    private static void mostStatements() {
        // No statement is shorter than four bytes, so the tape's 1000 hold 250 at the most.
        Due.sentence("300 STATEMENTS");
        Due.stands("A=1;".repeat(250), 250);
        Due.stands("if(1){" + "x=y;".repeat(248) + "}", 249);
    }

    private static void brokenAtAPlace() {
        Due.sentence("Broken at the PLACE IN THE TEXT (from 0) of the first byte of the TOKEN that can't stand there");
        Due.broken("%", 0);
        Due.broken("1000001", 0);
        Due.broken("x=1;  foo", 6);
        Due.broken("x=1 1000000;", 4);
        Due.broken("x=1+==1;", 4);
        Due.broken("x=;y=;", 2);
        Due.broken(" ".repeat(999) + "%", 999);
        Due.broken("A=1;".repeat(249) + "A=1%", 999);
        Due.broken("A=1;".repeat(249) + "fail", 1000);
        Due.broken("A=1;".repeat(249) + "fair", 996);
    }

    private static void brokenAtTheLength() {
        Due.sentence("the length if something lacks");
        Due.broken("x", 1);
        Due.broken("x\n ", 3);
        Due.broken(" ".repeat(999) + "x", 1000);
        Due.broken("x" + " ".repeat(999), 1000);
        Due.broken("A=1;".repeat(249) + "A=1 ", 1000);
    }

    private static void whatWasCutOff() {
        Due.sentence("the length if something lacks");
        // What the tape had behind its end is never looked at, also if it would go on well.
        String[] texts = {"x=1;", "x=1;y=2;", "x==1;", "x=12;", "sayx;", "say 1;", "atom{}", "A=1000000;"};
        int[] ends = {3, 7, 2, 3, 3, 5, 5, 6};
        for (int i = 0; i < texts.length; i++) {
            AsOneHouse h = new AsOneHouse();
            Due.type(h, texts[i]);
            h.end(ends[i]);
            Due.is(texts[i] + " up to " + ends[i], Due.UNSUPPORTED, () -> h.program(0));
            Due.is(texts[i] + " up to " + ends[i] + " lacks something", ends[i], h::place);
        }
        AsOneHouse h = new AsOneHouse();
        Due.tell(h, 0, "x=1;y=2;z=3;");
        Due.is("a text that was there before", 1, () -> Due.tell(h, 0, "w=1;"));
    }
}
