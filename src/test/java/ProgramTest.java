/** Promises 5 and 6: texts, where they are broken, and who may be told one. */
public final class ProgramTest {
    public static void main(String[] args) {
        textsThatStand();
        textsThatAreBroken();
        nesting();
        whoMayBeTold();
        theThreadIsNew();
        Due.end();
    }

    private static void textsThatStand() {
        Due.stands("", 0);
        Due.stands(" \n ", 0);
        Due.stands("x=1;", 1);
        Due.stands("A = B;", 1);
        Due.stands("a=1000000;", 1);
        Due.stands("a=0000000000000000000001000000;", 1);
        Due.stands("a=-1000000;", 1);
        Due.stands("a=x==y;", 1);
        Due.stands("a=x<y;", 1);
        Due.stands("a=x+y-z*2;", 1);
        Due.stands("if(x){}", 1);
        Due.stands("if(x){}else{x=1;}", 2);
        Due.stands("while(0){say 1;}", 2);
        Due.stands("atom{}", 1);
        Due.stands("atom{}or{}", 1);
        Due.stands("part{quit;}or{retry;}", 3);
        Due.stands("atom{if(x){retry;}else{quit;}}", 4);
        Due.stands("atom{try{retry;}catch Z{quit;}}", 4);
        Due.stands("try{fail 1;}catch A{fail A;}", 3);
        Due.stands("fail 1;", 1);
        Due.stands("say(1);", 1);
        Due.stands("x=12y=1;".replace("y", ";y"), 2);
        StringBuilder most = new StringBuilder();
        for (int i = 0; i < 250; i++) {
            most.append("A=1;");
        }
        Due.stands(most.toString(), 250);
    }

    private static void textsThatAreBroken() {
        Due.broken("x", 1);
        Due.broken("x ", 2);
        Due.broken("x=", 2);
        Due.broken("x= \n", 4);
        Due.broken("x=1", 3);
        Due.broken("x=;", 2);
        Due.broken("x==1;", 1);
        Due.broken("x=1;;", 4);
        Due.broken("x=1 y=2;", 4);
        Due.broken("x=1==2==3;", 6);
        Due.broken("x=1<2<3;", 5);
        Due.broken("x=1<2==3;", 5);
        Due.broken("x=1==2;=", 7);
        Due.broken("x=+1;", 2);
        Due.broken("x=1+;", 4);
        Due.broken("x=1*;", 4);
        Due.broken("x=1*+2;", 4);
        Due.broken("x=(1;", 4);
        Due.broken("x=1);", 3);
        Due.broken("x=();", 3);
        Due.broken("x=1000001;", 2);
        Due.broken("x=99999999999999999999;", 2);
        Due.broken("x=12a;", 4);
        Due.broken("xy=1;", 0);
        Due.broken("x=xy;", 2);
        Due.broken("x=1;foo", 4);
        Due.broken("IF(x){}", 0);
        Due.broken("x\t=1;", 1);
        Due.broken("x=1;\r", 4);
        Due.broken("x=1;\0", 4);
        Due.broken("x=1;\u00e9", 4);
        Due.broken("1=x;", 0);
        Due.broken("}", 0);
        Due.broken("x=1;}", 4);
        Due.broken("{x=1;}", 0);
        Due.broken("if x {}", 3);
        Due.broken("if(){}", 3);
        Due.broken("if(x)y=1;", 5);
        Due.broken("if(x){", 6);
        Due.broken("if(x){}else", 11);
        Due.broken("if(x){}else y=1;", 12);
        Due.broken("else{}", 0);
        Due.broken("while(x)", 8);
        Due.broken("while x", 6);
        Due.broken("say;", 3);
        Due.broken("say 1", 5);
        Due.broken("atom x=1;", 5);
        Due.broken("atom{x=1;", 9);
        Due.broken("atom{}or", 8);
        Due.broken("atom{}or{}or{}", 10);
        Due.broken("or{}", 0);
        Due.broken("retry;", 0);
        Due.broken("quit;", 0);
        Due.broken("atom{}retry;", 6);
        Due.broken("atom{}or{}quit;", 10);
        Due.broken("try{quit;}catch A{}", 4);
        Due.broken("atom{retry}", 10);
        Due.broken("atom{quit 1;}", 10);
        Due.broken("fail;", 4);
        Due.broken("try{}", 5);
        Due.broken("try{}x=1;", 5);
        Due.broken("try{}catch", 10);
        Due.broken("try{}catch x{}", 11);
        Due.broken("try{}catch A", 12);
        Due.broken("try{}catch AB{}", 11);
        Due.broken("catch A{}", 0);
    }

    private static String times(String s, int n) {
        return s.repeat(n);
    }

    private static void nesting() {
        Due.stands("x=" + times("(", 10) + "1" + times(")", 10) + ";", 1);
        Due.broken("x=" + times("(", 11) + "1" + times(")", 11) + ";", 12);
        Due.stands("x=" + times("-", 10) + "1;", 1);
        Due.broken("x=" + times("-", 11) + "1;", 12);
        Due.stands("x=" + times("-(", 5) + "1" + times(")", 5) + ";", 1);
        Due.broken("x=" + times("-(", 5) + "-1" + times(")", 5) + ";", 12);
        Due.stands("x=1" + times("-1", 40) + times("*(1)", 40) + ";", 1);
        Due.stands(times("atom{", 10) + times("}", 10), 10);
        Due.broken(times("atom{", 11) + times("}", 11), 54);
        Due.stands(times("atom{", 9) + "x=(1);y=-1;" + times("}", 9), 11);
        Due.stands(times("atom{", 10) + "x=1;" + times("}", 10), 11);
        Due.broken(times("atom{", 10) + "x=(1);" + times("}", 10), 52);
        Due.broken(times("atom{", 10) + "x=-1;" + times("}", 10), 52);
        Due.broken(times("atom{", 10) + "if(x){}" + times("}", 10), 52);
        Due.broken(times("atom{", 10) + "while(x){}" + times("}", 10), 55);
        Due.stands(times("atom{", 9) + "if(x){}else{}" + times("}", 9), 10);
        Due.broken(times("atom{", 9) + "if((x)){}" + times("}", 9), 48);
        Due.broken(times("atom{", 9) + "if(x){if(x){}}" + times("}", 9), 53);
        Due.stands("if(" + times("(", 9) + "x" + times(")", 9) + "){}", 1);
        Due.broken("if(" + times("(", 10) + "x" + times(")", 10) + "){}", 12);
    }

    private static void whoMayBeTold() {
        AsOneHouse h = new AsOneHouse();
        Due.is("no thread 6", Due.ARGUMENT, () -> Due.tell(h, 6, "x=1;"));
        Due.is("no thread -1", Due.ARGUMENT, () -> Due.tell(h, -1, "x=;"));
        Due.is("place of none", -1, h::place);
        Due.is("thread 5", 1, () -> Due.tell(h, 5, "atom{}"));
        Due.turns(h, "begin", "5:0");
        Due.is("broken, elsewhere", Due.UNSUPPORTED, () -> Due.tell(h, 0, "  x"));
        Due.is("place", 3, h::place);
        Due.is("within a block comes ahead of broken", Due.STATE, () -> Due.tell(h, 5, "x=;"));
        Due.is("place stays", 3, h::place);
        Due.is("a wrong thread too", Due.ARGUMENT, () -> Due.tell(h, 6, "x=;"));
        Due.is("place stays", 3, h::place);
        Due.turns(h, "its program stays", "5:0 5:2");
        Due.is("over may be told", 1, () -> Due.tell(h, 5, "fail 1;"));
        Due.is("place of a good one", -1, h::place);
        Due.turns(h, "dies", "5:5");
        Due.is("dead may be told", 2, () -> Due.tell(h, 5, "atom{retry;}"));
        Due.turns(h, "sleeps", "5:0 5:3");
        Due.is("asleep", 1, () -> h.count(7));
        Due.is("asleep may be told", 1, () -> Due.tell(h, 5, "x=3;"));
        Due.is("none asleep", 0, () -> h.count(7));
        Due.turns(h, "runs", "5:0 5:2");
        Due.is("x", 3, () -> h.has(23));
    }

    private static void theThreadIsNew() {
        AsOneHouse h = Due.house(0);
        Due.tell(h, 0, "A=5; atom { x=x; } fail 9;");
        Due.turns(h, "first", "0:0 0:0");
        h.put(23, 1);
        Due.turns(h, "first", "0:0 0:1 0:0 0:0 0:0 0:5");
        Due.is("restarted", 1, () -> h.look(0, 4));
        Due.is("died with", 9, () -> h.look(0, 6));
        Due.is("ended", 1, () -> h.look(0, 7));
        Due.is("A", 5, () -> h.register(0, 0));
        Due.is("broken", Due.UNSUPPORTED, () -> Due.tell(h, 0, "A=1"));
        Due.is("all stays", 5, () -> h.look(0, 0));
        Due.is("A stays", 5, () -> h.register(0, 0));
        Due.is("told", 1, () -> Due.tell(h, 0, "B=1;"));
        for (int what = 0; what <= 7; what++) {
            int w = what;
            Due.is("look " + w, w == 0 ? 1 : 0, () -> h.look(0, w));
        }
        Due.is("A", 0, () -> h.register(0, 0));
        Due.is("records stay", 1, () -> h.count(5));
    }
}
