import java.util.ArrayList;
import java.util.List;
import java.util.Random;

/** Runs of calls by chance, always the same ones, on the house and on the model: all answers must agree. */
public final class ModelTest {
    private static final String NEARLY = " \n{}();=<+-*xyzABC019@%aZ";

    private final Random random;
    private final AsOneHouse house = new AsOneHouse();
    private final Model model = new Model();
    private final List<String> log = new ArrayList<>();
    private boolean same = true;

    private ModelTest(long seed) {
        random = new Random(seed);
    }

    public static void main(String[] args) {
        int from = args.length > 0 ? Integer.parseInt(args[0]) : 1;
        int runs = args.length > 1 ? Integer.parseInt(args[1]) : 1500;
        int wrong = 0;
        for (int seed = from; seed < from + runs && wrong < 3; seed++) {
            ModelTest test = new ModelTest(seed);
            test.run(seed % 5);
            test.model.stop();
            if (!test.same) {
                wrong++;
                System.out.println("run " + seed + ":");
                test.log.forEach(System.out::println);
            }
        }
        System.out.println(runs + " runs by chance, " + wrong + " in which house and model differ");
        System.exit(wrong == 0 ? 0 : 1);
    }

    // ------------------------------------------------------------------ calls

    private interface Call {
        int ask();
    }

    private void both(String name, Call ofHouse, Call ofModel) {
        int got = Due.answer(ofHouse::ask);
        int due = Due.answer(ofModel::ask);
        log.add("  " + name + " -> " + got + (got == due ? "" : ", the model says " + due));
        same &= got == due;
    }

    private void run(int way) {
        both("start(" + way + ")", () -> started(way), () -> startedModel(way));
        int threads = 2 + random.nextInt(4);
        for (int t = 0; t < threads; t++) {
            tell(t, text());
        }
        for (int i = 0; i < 150 && same; i++) {
            call(threads);
        }
        if (random.nextInt(3) == 0) {
            both("round(300)", () -> house.round(300), () -> model.round(300));
        }
        for (int t = 0; t < threads && same; t++) {
            for (int w = 0; w < 8; w++) {
                lookAt(t, w);
            }
        }
        for (int w = 0; w < 9; w++) {
            counted(w);
        }
        both("judge()", house::judge, model::judge);
        for (int i = 0; i < 15; i++) {
            int at = i;
            both("order(" + at + ")", () -> house.order(at), () -> model.order(at));
        }
    }

    private int started(int way) {
        house.start(way);
        return 0;
    }

    private int startedModel(int way) {
        model.start(way);
        return 0;
    }

    private void lookAt(int t, int w) {
        both("look(" + t + ", " + w + ")", () -> house.look(t, w), () -> model.look(t, w));
    }

    private void counted(int w) {
        both("count(" + w + ")", () -> house.count(w), () -> model.count(w));
    }

    private void tell(int thread, String text) {
        log.add("  thread " + thread + ": " + text.replace('\n', '~'));
        Due.type(house, text);
        typeModel(text);
        both("program(" + thread + ")", () -> house.program(thread), () -> model.program(thread));
        both("place()", house::place, model::place);
    }

    private void typeModel(String text) {
        model.end(0);
        for (int from = 0; from < text.length(); from += 20) {
            int[] w = new int[5];
            for (int j = 0; j < 20; j++) {
                w[j / 4] = w[j / 4] << 8 | (from + j < text.length() ? text.charAt(from + j) & 255 : 0);
            }
            model.feed(w[0], w[1], w[2], w[3], w[4]);
        }
        model.end(text.length());
    }

    private void call(int threads) {
        int kind = random.nextInt(100);
        int t = random.nextInt(threads + (random.nextInt(30) == 0 ? 2 : 0)) - (random.nextInt(60) == 0 ? 1 : 0);
        int p = 23 + random.nextInt(3);
        int v = random.nextInt(4);
        if (kind < 66) {
            both("turn(" + t + ")", () -> house.turn(t), () -> model.turn(t));
        } else if (kind < 71) {
            both("put(" + p + ", " + v + ")", () -> house.put(p, v), () -> model.put(p, v));
        } else if (kind < 73) {
            int n = random.nextInt(9);
            both("round(" + n + ")", () -> house.round(n), () -> model.round(n));
        } else if (kind < 76) {
            both("has(" + p + ")", () -> house.has(p), () -> model.has(p));
        } else if (kind < 80) {
            int c = random.nextInt(2 + Math.max(0, model.count(2)));
            both("had(" + p + ", " + c + ")", () -> house.had(p, c), () -> model.had(p, c));
        } else if (kind < 84) {
            both("register(" + t + ", " + v + ")", () -> house.register(t, v), () -> model.register(t, v));
        } else if (kind < 90) {
            lookAt(t, random.nextInt(9) - (random.nextInt(20) == 0 ? 1 : 0));
        } else if (kind < 93) {
            counted(random.nextInt(10));
        } else if (kind < 95) {
            int i = random.nextInt(6) - 1;
            boolean who = random.nextBoolean();
            both("said(" + i + ", " + who + ")", () -> house.said(i, who), () -> model.said(i, who));
        } else if (kind < 98) {
            int i = random.nextInt(8) - 1;
            int w = random.nextInt(6);
            both("record(" + i + ", " + w + ")", () -> house.record(i, w), () -> model.record(i, w));
        } else if (kind == 98) {
            both("judge()", house::judge, model::judge);
        } else {
            tell(t, text());
        }
    }

    // ------------------------------------------------------------------ texts

    private String text() {
        StringBuilder s = new StringBuilder();
        statements(s, 2 + random.nextInt(3), 0, false, false);
        if (random.nextInt(12) == 0) {
            s.setLength(0);
            soup(s);
        }
        if (s.length() > 990) {
            s.setLength(990);
        }
        if (random.nextInt(12) == 0 && s.length() > 0) {
            int at = random.nextInt(s.length());
            char c = NEARLY.charAt(random.nextInt(NEARLY.length()));
            switch (random.nextInt(3)) {
                case 0: s.setCharAt(at, c); break;
                case 1: s.insert(at, c); break;
                default: s.setLength(at); break;
            }
        }
        return s.toString();
    }

    /** Tokens that mostly may stand where they are, deep within one another. */
    private void soup(StringBuilder s) {
        String[] openings = {"atom {", "part{ ", "if (", "while(", "x = (", "A=-", "try {", "{", "(", "-", "say -("};
        String[] others = {"x", "A", "12", "=", "==", "<", "+", "*", ";", ")", "}", "or {", "else{", "catch C {",
            "retry;", "quit;", "fail 1;", "x = y;", "1000001", "\n", "zz"};
        for (int n = random.nextInt(14); n > 0; n--) {
            s.append(openings[random.nextInt(random.nextBoolean() ? 2 : openings.length)]);
        }
        for (int n = random.nextInt(6); n > 0; n--) {
            s.append(others[random.nextInt(others.length)]);
        }
        for (int n = random.nextInt(14); n > 0; n--) {
            s.append("}");
        }
    }

    private void block(StringBuilder s, int most, int depth, boolean within, boolean tried) {
        s.append("{ ");
        statements(s, 1 + random.nextInt(most), depth + 1, within, tried);
        s.append("} ");
    }

    private void statements(StringBuilder s, int n, int depth, boolean within, boolean tried) {
        for (int i = 0; i < n; i++) {
            statement(s, depth, within, tried);
        }
    }

    private void statement(StringBuilder s, int depth, boolean within, boolean tried) {
        int kind = random.nextInt(depth > 3 ? 50 : 100);
        if (kind < 24) {
            s.append(place()).append(" = ");
            expr(s, 2);
            s.append("; ");
        } else if (kind < 34) {
            s.append(register()).append(" = ");
            expr(s, 2);
            s.append("; ");
        } else if (kind < 40) {
            s.append("say ");
            expr(s, 1);
            s.append("; ");
        } else if (kind < 43) {
            s.append(within ? "quit; " : "say 1; ");
        } else if (kind < 47) {
            guarded(s, within ? "retry; " : "say 2; ");
        } else if (kind < 50) {
            guarded(s, tried || random.nextInt(4) == 0 ? "fail " + place() + " + 1; " : "say 3; ");
        } else if (kind < 58) {
            s.append("if (");
            expr(s, 1);
            s.append(") ");
            block(s, 2, depth, within, tried);
            if (random.nextBoolean()) {
                s.append("else ");
                block(s, 2, depth, within, tried);
            }
        } else if (kind < 64) {
            char a = register();
            s.append("while (").append(a).append(" < 3) { ").append(a).append(" = ").append(a).append(" + 1; ");
            statements(s, 1, depth + 1, within, tried);
            s.append("} ");
        } else if (kind < 72) {
            s.append("try ");
            block(s, 3, depth, within, true);
            s.append("catch ").append(register()).append(' ');
            block(s, 2, depth, within, tried);
        } else {
            s.append(random.nextInt(5) < (within ? 4 : 1) ? "part " : "atom ");
            block(s, 3, depth, true, tried);
            if (random.nextInt(5) < 2) {
                s.append("or ");
                block(s, 2, depth, true, tried);
            }
        }
    }

    private void guarded(StringBuilder s, String what) {
        if (random.nextInt(4) == 0) {
            s.append(what);
        } else {
            s.append("if (").append(place()).append(random.nextBoolean() ? " < " : " == ");
            s.append(random.nextInt(3)).append(") { ").append(what).append("} ");
        }
    }

    private char place() {
        return (char) ('x' + random.nextInt(3));
    }

    private char register() {
        return (char) ('A' + random.nextInt(3));
    }

    private void expr(StringBuilder s, int most) {
        simple(s, most);
        for (int n = random.nextInt(most + 1); n > 0; n--) {
            s.append(random.nextBoolean() ? " + " : random.nextBoolean() ? " - " : " * ");
            simple(s, most);
        }
        if (random.nextInt(6) == 0) {
            s.append(random.nextBoolean() ? " == " : " < ");
            simple(s, most);
        }
    }

    private void simple(StringBuilder s, int most) {
        int kind = random.nextInt(10);
        if (kind < 4) {
            s.append(random.nextInt(4));
        } else if (kind < 7) {
            s.append(place());
        } else if (kind < 9 || most == 0) {
            s.append(register());
        } else if (random.nextBoolean()) {
            s.append("-");
            simple(s, most - 1);
        } else {
            s.append("(");
            expr(s, most - 1);
            s.append(")");
        }
    }
}
