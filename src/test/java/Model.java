import java.util.ArrayList;
import java.util.HashSet;
import java.util.LinkedHashMap;
import java.util.List;
import java.util.Map;
import java.util.Set;
import java.util.TreeMap;
import java.util.concurrent.SynchronousQueue;

/**
 * A second house, written from the document by other means: each thread is a real one that walks the tree of
 * its text, hands over after each act, and leaves levels by exceptions. It is slow, plain, and only for tests.
 */
final class Model {
    // ------------------------------------------------------------------ the text

    record Token(String text, int begin) {
    }

    static final class Broken extends RuntimeException {
        private static final long serialVersionUID = 1;
        final int at;

        Broken(int at) {
            this.at = at;
        }
    }

    /** kind is a sign, a word, or "number", "place", "register". */
    record Expr(String kind, int value, Expr left, Expr right) {
    }

    record Stmt(String kind, int letter, Expr expr, List<Stmt> first, List<Stmt> second) {
    }

    static final class Reading {
        private static final Set<String> WORDS = Set.of("if", "else", "while", "say", "atom", "part", "or", "retry",
                "quit", "fail", "try", "catch");
        private final String text;
        private final List<Token> tokens = new ArrayList<>();
        private int at = 0;
        private int nested = 0;
        private int acting = 0;
        int statements = 0;

        Reading(String text) {
            this.text = text;
            int i = 0;
            while (i < text.length()) {
                int j = i + 1;
                char c = text.charAt(i);
                if (c == ' ' || c == '\n') {
                    i++;
                    continue;
                }
                if (letter(c)) {
                    while (j < text.length() && letter(text.charAt(j))) {
                        j++;
                    }
                } else if (digit(c)) {
                    while (j < text.length() && digit(text.charAt(j))) {
                        j++;
                    }
                } else if (text.startsWith("==", i)) {
                    j = i + 2;
                }
                tokens.add(new Token(text.substring(i, j), i));
                i = j;
            }
        }

        private static boolean letter(char c) {
            return c >= 'a' && c <= 'z' || c >= 'A' && c <= 'Z';
        }

        private static boolean digit(char c) {
            return c >= '0' && c <= '9';
        }

        List<Stmt> all() {
            List<Stmt> list = new ArrayList<>();
            while (at < tokens.size()) {
                list.add(statement());
            }
            return list;
        }

        private String peek() {
            return at < tokens.size() ? tokens.get(at).text() : "";
        }

        private Broken broken() {
            return new Broken(at < tokens.size() ? tokens.get(at).begin() : text.length());
        }

        private void take(String s) {
            if (!peek().equals(s)) {
                throw broken();
            }
            at++;
        }

        private void enter(String s) {
            if (!peek().equals(s) || nested == 10) {
                throw broken();
            }
            nested++;
            at++;
        }

        private void leave(String s) {
            take(s);
            nested--;
        }

        private boolean isPlace() {
            return peek().length() == 1 && peek().charAt(0) >= 'a' && peek().charAt(0) <= 'z';
        }

        private boolean isRegister() {
            return peek().length() == 1 && peek().charAt(0) >= 'A' && peek().charAt(0) <= 'Z';
        }

        private int letterTaken() {
            char c = peek().charAt(0);
            at++;
            return c >= 'a' ? c - 'a' : c - 'A';
        }

        private List<Stmt> block() {
            enter("{");
            List<Stmt> list = new ArrayList<>();
            while (!peek().equals("}")) {
                if (at >= tokens.size()) {
                    throw broken();
                }
                list.add(statement());
            }
            leave("}");
            return list;
        }

        private Expr bracketed() {
            enter("(");
            Expr e = expr();
            leave(")");
            return e;
        }

        private Stmt statement() {
            if (statements == 300) {
                throw broken();
            }
            statements++;
            if (isPlace() || isRegister()) {
                String kind = isPlace() ? "place" : "register";
                int letter = letterTaken();
                take("=");
                Stmt s = new Stmt(kind, letter, expr(), null, null);
                take(";");
                return s;
            }
            String word = peek();
            if (!WORDS.contains(word)) {
                throw broken();
            }
            if ((word.equals("retry") || word.equals("quit")) && acting == 0) {
                throw broken();
            }
            if (Set.of("else", "or", "catch").contains(word)) {
                throw broken();
            }
            at++;
            return worded(word);
        }

        private Stmt worded(String word) {
            Expr e = null;
            List<Stmt> first = null;
            List<Stmt> second = null;
            int letter = 0;
            switch (word) {
                case "if":
                    e = bracketed();
                    first = block();
                    second = peek().equals("else") ? next() : null;
                    break;
                case "while":
                    e = bracketed();
                    first = block();
                    break;
                case "say":
                case "fail":
                    e = expr();
                    take(";");
                    break;
                case "retry":
                case "quit":
                    take(";");
                    break;
                case "try":
                    first = block();
                    take("catch");
                    if (!isRegister()) {
                        throw broken();
                    }
                    letter = letterTaken();
                    second = block();
                    break;
                default:
                    acting++;
                    first = block();
                    second = peek().equals("or") ? next() : null;
                    acting--;
                    break;
            }
            return new Stmt(word, letter, e, first, second);
        }

        private List<Stmt> next() {
            at++;
            return block();
        }

        private Expr expr() {
            Expr left = sum();
            String s = peek();
            if (s.equals("==") || s.equals("<")) {
                at++;
                return new Expr(s, 0, left, sum());
            }
            return left;
        }

        private Expr sum() {
            Expr left = product();
            while (peek().equals("+") || peek().equals("-")) {
                String s = peek();
                at++;
                left = new Expr(s, 0, left, product());
            }
            return left;
        }

        private Expr product() {
            Expr left = simple();
            while (peek().equals("*")) {
                at++;
                left = new Expr("*", 0, left, simple());
            }
            return left;
        }

        private Expr simple() {
            if (isPlace()) {
                return new Expr("place", letterTaken(), null, null);
            }
            if (isRegister()) {
                return new Expr("register", letterTaken(), null, null);
            }
            String s = peek();
            if (s.equals("-")) {
                enter("-");
                Expr e = simple();
                nested--;
                return new Expr("negative", 0, e, null);
            }
            if (s.equals("(")) {
                return bracketed();
            }
            if (s.isEmpty() || !digit(s.charAt(0))) {
                throw broken();
            }
            String digits = s.replaceFirst("^0+(?=.)", "");
            if (digits.length() > 7 || Integer.parseInt(digits) > 1000000) {
                throw broken();
            }
            at++;
            return new Expr("number", Integer.parseInt(digits), null, null);
        }
    }

    // ------------------------------------------------------------------ what is shared

    private final StringBuilder tape = new StringBuilder();
    private int brokenAt = -1;
    private int way = 0;
    private int turns = 0;
    private int now = 0;
    private int[] value = new int[26];
    private int[] version = new int[26];
    private Mind[] taken = new Mind[26];
    private final Map<Integer, Integer> puts = new TreeMap<>();
    /** What the places had at each clock. */
    private final List<int[]> past = new ArrayList<>();
    private final List<int[]> saidAll = new ArrayList<>();
    private final List<Rec> recs = new ArrayList<>();
    private List<Integer> sequence = new ArrayList<>();
    private final Mind[] minds = new Mind[6];
    private final List<List<Stmt>> programs = new ArrayList<>();

    record Rec(int thread, Map<Integer, Integer> reads, Map<Integer, Integer> writes, int from, int to) {
    }

    Model() {
        for (int i = 0; i < 6; i++) {
            programs.add(null);
        }
        start(0);
    }

    private int clock() {
        return past.size() - 1;
    }

    private void tick(Map<Integer, Integer> changes) {
        int[] row = past.get(clock()).clone();
        past.add(row);
        for (Map.Entry<Integer, Integer> e : changes.entrySet()) {
            row[e.getKey()] = e.getValue();
            value[e.getKey()] = e.getValue();
            version[e.getKey()] = clock();
        }
    }

    private boolean atOnce() {
        return way >= 3;
    }

    // ------------------------------------------------------------------ leaving by exceptions

    abstract static class Leaving extends RuntimeException {
        private static final long serialVersionUID = 1;

        Leaving() {
            super(null, null, false, false);
        }
    }

    static final class Restart extends Leaving {
        private static final long serialVersionUID = 1;
        final int level;
        final boolean done;

        Restart(int level, boolean done) {
            this.level = level;
            this.done = done;
        }
    }

    static final class Retry extends Leaving {
        private static final long serialVersionUID = 1;
        final int level;

        Retry(int level) {
            this.level = level;
        }
    }

    static final class Quit extends Leaving {
        private static final long serialVersionUID = 1;
    }

    static final class Fail extends Leaving {
        private static final long serialVersionUID = 1;
        final int v;

        Fail(int v) {
            this.v = v;
        }
    }

    static final class Stop extends Leaving {
        private static final long serialVersionUID = 1;
    }

    // ------------------------------------------------------------------ a thread

    static final class Lev {
        final Map<Integer, int[]> reads = new LinkedHashMap<>();
        final Map<Integer, Integer> writes = new LinkedHashMap<>();
        final Map<Integer, Integer> kept = new LinkedHashMap<>();
        final List<Integer> said = new ArrayList<>();
        int[] regs;
        boolean hasOr;
        boolean inOr;
    }

    final class Mind implements Runnable {
        final int id;
        final List<Stmt> body;
        int state = 1;
        int[] regs = new int[26];
        final List<Lev> levels = new ArrayList<>();
        int startClock;
        int began;
        int from;
        int restarts;
        int ended;
        int died;
        boolean pushed;
        private Thread runner;
        private final SynchronousQueue<Integer> go = new SynchronousQueue<>();
        private final SynchronousQueue<Integer> back = new SynchronousQueue<>();
        private Throwable fault;

        Mind(int id, List<Stmt> body) {
            this.id = id;
            this.body = body;
        }

        // -------------------------------------------------------------- handing over

        int turn() {
            try {
                if (runner == null) {
                    runner = new Thread(this);
                    runner.setDaemon(true);
                    runner.start();
                } else {
                    go.put(0);
                }
                int answer = back.take();
                if (fault != null) {
                    throw new IllegalStateException("the model is wrong", fault);
                }
                return answer;
            } catch (InterruptedException e) {
                throw new IllegalStateException(e);
            }
        }

        void kill() {
            if (runner != null) {
                runner.interrupt();
            }
        }

        private void act(int answer) {
            try {
                back.put(answer);
                go.take();
            } catch (InterruptedException e) {
                throw new Stop();
            }
            if (pushed) {
                pushed = false;
                throw new Restart(0, true);
            }
        }

        @Override
        public void run() {
            int last = 2;
            try {
                try {
                    exec(body);
                    state = 4;
                } catch (Fail f) {
                    state = 5;
                    died = f.v;
                    last = 5;
                } catch (Stop s) {
                    return;
                } catch (Throwable t) {
                    fault = t;
                }
                back.put(last);
            } catch (InterruptedException e) {
                return;
            }
        }

        // -------------------------------------------------------------- statements

        private void exec(List<Stmt> list) {
            for (Stmt s : list) {
                exec(s);
            }
        }

        private void exec(Stmt s) {
            switch (s.kind()) {
                case "place": assign(s.letter(), eval(s.expr())); break;
                case "register": regs[s.letter()] = eval(s.expr()); break;
                case "if":
                    if (eval(s.expr()) != 0) {
                        exec(s.first());
                    } else if (s.second() != null) {
                        exec(s.second());
                    }
                    break;
                case "while":
                    while (eval(s.expr()) != 0) {
                        act(0);
                        exec(s.first());
                    }
                    break;
                case "say":
                    int v = eval(s.expr());
                    if (levels.isEmpty()) {
                        sayNow(id, v);
                    } else {
                        innermost().said.add(v);
                    }
                    act(0);
                    break;
                case "fail": throw new Fail(eval(s.expr()));
                case "quit": throw new Quit();
                case "retry": throw new Retry(target());
                case "try":
                    try {
                        exec(s.first());
                    } catch (Fail f) {
                        regs[s.letter()] = f.v;
                        exec(s.second());
                    }
                    break;
                default:
                    if (!levels.isEmpty() && s.kind().equals("atom") && s.second() == null) {
                        exec(s.first());
                    } else {
                        level(s);
                    }
                    break;
            }
        }

        private int target() {
            for (int k = levels.size() - 1; k >= 0; k--) {
                if (levels.get(k).hasOr && !levels.get(k).inOr) {
                    return k;
                }
            }
            return -1;
        }

        private Lev innermost() {
            return levels.get(levels.size() - 1);
        }

        private boolean busy() {
            if (way == 4) {
                for (Mind m : minds) {
                    if (m != null && m != this && m.state == 2) {
                        return true;
                    }
                }
            }
            return false;
        }

        private void level(Stmt s) {
            int k = levels.size();
            int pending = -1;
            if (k == 0) {
                while (busy()) {
                    act(4);
                }
                state = 2;
                startClock = clock();
                began = now;
                from = now;
                pending = 0;
            }
            Lev lev = new Lev();
            lev.hasOr = s.second() != null;
            lev.regs = regs.clone();
            levels.add(lev);
            for (;;) {
                try {
                    if (pending >= 0) {
                        int answer = pending;
                        pending = -1;
                        act(answer);
                    }
                    while (state == 3) {
                        sleepOn();
                    }
                    exec(lev.inOr ? s.second() : s.first());
                    if (k > 0) {
                        joinAround();
                        return;
                    }
                    close();
                    break;
                } catch (Restart r) {
                    if (r.level != k) {
                        throw r;
                    }
                    if (!r.done) {
                        restart(k);
                        pending = 1;
                    }
                } catch (Retry r) {
                    if (r.level != k && !(r.level < 0 && k == 0)) {
                        leave(k);
                        throw r;
                    }
                    takeBack(k);
                    if (r.level < 0) {
                        release();
                        state = 3;
                        pending = 3;
                    } else {
                        lev.inOr = true;
                        if (k > 0) {
                            readsTo(levels.get(k - 1), lev);
                        }
                        pending = 0;
                    }
                } catch (Quit q) {
                    leave(k);
                    break;
                } catch (Fail f) {
                    leave(k);
                    throw f;
                }
            }
            act(0);
        }

        private void sleepOn() {
            boolean news = false;
            for (Map.Entry<Integer, int[]> e : levels.get(0).reads.entrySet()) {
                int p = e.getKey();
                if (e.getValue()[0] != value[p] && (taken[p] == null || taken[p] == this)) {
                    news = true;
                }
            }
            if (!news) {
                act(3);
            } else if (busy()) {
                act(4);
            } else {
                state = 2;
                restart(0);
                act(6);
            }
        }

        // -------------------------------------------------------------- levels

        private void readsTo(Lev around, Lev lev) {
            for (Map.Entry<Integer, int[]> e : lev.reads.entrySet()) {
                around.reads.putIfAbsent(e.getKey(), e.getValue());
            }
            lev.reads.clear();
        }

        private void joinAround() {
            Lev lev = levels.remove(levels.size() - 1);
            Lev around = innermost();
            readsTo(around, lev);
            around.writes.putAll(lev.writes);
            for (Map.Entry<Integer, Integer> e : lev.kept.entrySet()) {
                around.kept.putIfAbsent(e.getKey(), e.getValue());
            }
            around.said.addAll(lev.said);
        }

        /** The level k is the innermost one. */
        private void takeBack(int k) {
            Lev lev = levels.get(k);
            List<Map.Entry<Integer, Integer>> entries = new ArrayList<>(lev.kept.entrySet());
            for (int i = entries.size() - 1; i >= 0; i--) {
                value[entries.get(i).getKey()] = entries.get(i).getValue();
            }
            lev.kept.clear();
            lev.writes.clear();
            lev.said.clear();
            regs = lev.regs.clone();
        }

        private void release() {
            Map<Integer, Integer> free = new LinkedHashMap<>();
            for (int p = 0; p < 26; p++) {
                if (taken[p] == this) {
                    free.put(p, value[p]);
                    taken[p] = null;
                }
            }
            if (!free.isEmpty()) {
                tick(free);
            }
        }

        private void leave(int k) {
            takeBack(k);
            Lev lev = levels.remove(k);
            if (k > 0) {
                readsTo(levels.get(k - 1), lev);
            } else {
                release();
                state = 1;
            }
        }

        private void restart(int k) {
            for (int i = levels.size() - 1; i >= k; i--) {
                takeBack(i);
                levels.get(i).reads.clear();
                if (i > k) {
                    levels.remove(i);
                }
            }
            levels.get(k).inOr = false;
            if (k == 0) {
                release();
                from = now;
            }
            startClock = clock();
            restarts++;
        }

        private boolean wrong(int p, int[] read) {
            switch (way) {
                case 0:
                case 2: return version[p] > startClock;
                case 1: return value[p] != read[0];
                case 3: return taken[p] != null && taken[p] != this || version[p] != read[1];
                default: return false;
            }
        }

        private int outermostWrong() {
            for (int k = 0; k < levels.size(); k++) {
                for (Map.Entry<Integer, int[]> e : levels.get(k).reads.entrySet()) {
                    if (wrong(e.getKey(), e.getValue())) {
                        return k;
                    }
                }
            }
            return -1;
        }

        private void conflictIfWrong() {
            int k = outermostWrong();
            if (k >= 0) {
                throw new Restart(k, false);
            }
        }

        private void rivals(int p) {
            Mind other = taken[p];
            if (other == null || other == this) {
                return;
            }
            if (other.began > began) {
                other.restart(0);
                other.pushed = true;
            } else {
                throw new Restart(0, false);
            }
        }

        private void close() {
            Lev block = levels.get(0);
            if (way == 3) {
                for (int p : new ArrayList<>(block.reads.keySet())) {
                    rivals(p);
                }
                conflictIfWrong();
            } else if (!block.writes.isEmpty() && !(way == 1 && clock() == startClock)) {
                conflictIfWrong();
            }
            Map<Integer, Integer> wrote = new LinkedHashMap<>();
            if (atOnce()) {
                release();
                for (int p : block.kept.keySet()) {
                    wrote.put(p, value[p]);
                }
            } else {
                wrote.putAll(block.writes);
                if (!wrote.isEmpty()) {
                    tick(wrote);
                }
            }
            Map<Integer, Integer> seen = new LinkedHashMap<>();
            for (Map.Entry<Integer, int[]> e : block.reads.entrySet()) {
                seen.put(e.getKey(), e.getValue()[0]);
            }
            keep(new Rec(id, seen, wrote, from, now));
            for (int v : block.said) {
                sayNow(id, v);
            }
            levels.clear();
            state = 1;
            ended++;
        }

        // -------------------------------------------------------------- places

        private void assign(int p, int v) {
            if (levels.isEmpty()) {
                tick(Map.of(p, v));
                keep(new Rec(id, Map.of(), Map.of(p, v), now, now));
            } else if (atOnce()) {
                if (way == 3) {
                    rivals(p);
                    conflictIfWrong();
                }
                taken[p] = this;
                innermost().kept.putIfAbsent(p, value[p]);
                value[p] = v;
            } else {
                innermost().writes.put(p, v);
            }
            act(0);
        }

        private int see(int p) {
            int v = value[p];
            if (levels.isEmpty()) {
                keep(new Rec(id, Map.of(p, v), Map.of(), now, now));
                act(0);
                return v;
            }
            if (taken[p] == this) {
                act(0);
                return v;
            }
            for (int k = levels.size() - 1; k >= 0; k--) {
                if (levels.get(k).writes.containsKey(p)) {
                    v = levels.get(k).writes.get(p);
                    act(0);
                    return v;
                }
            }
            v = told(p);
            innermost().reads.putIfAbsent(p, new int[] {v, version[p]});
            act(0);
            return v;
        }

        private int told(int p) {
            switch (way) {
                case 0:
                    if (version[p] > startClock) {
                        conflictIfWrong();
                        throw new Restart(levels.size() - 1, false);
                    }
                    return value[p];
                case 1:
                    if (clock() != startClock) {
                        conflictIfWrong();
                        startClock = clock();
                    }
                    return value[p];
                case 2:
                    return past.get(startClock)[p];
                case 3:
                    rivals(p);
                    conflictIfWrong();
                    return value[p];
                default:
                    return value[p];
            }
        }

        private int eval(Expr e) {
            switch (e.kind()) {
                case "number": return e.value();
                case "place": return see(e.value());
                case "register": return regs[e.value()];
                case "negative": return -eval(e.left());
                default:
                    int left = eval(e.left());
                    int right = eval(e.right());
                    switch (e.kind()) {
                        case "+": return left + right;
                        case "-": return left - right;
                        case "*": return left * right;
                        case "<": return left < right ? 1 : 0;
                        default: return left == right ? 1 : 0;
                    }
            }
        }
    }

    private void sayNow(int id, int v) {
        if (saidAll.size() < 200) {
            saidAll.add(new int[] {id, v});
        }
    }

    private void keep(Rec r) {
        if (recs.size() < 300) {
            recs.add(r);
        }
    }

    // ------------------------------------------------------------------ the face

    private static void range(int v, int least, int most) {
        if (v < least || v > most) {
            throw new IllegalArgumentException();
        }
    }

    int feed(int a, int b, int c, int d, int e) {
        if (tape.length() + 20 > 1000) {
            throw new IndexOutOfBoundsException();
        }
        for (int w : new int[] {a, b, c, d, e}) {
            tape.append((char) (w >>> 24)).append((char) (w >>> 16 & 255));
            tape.append((char) (w >>> 8 & 255)).append((char) (w & 255));
        }
        return tape.length();
    }

    int end(int n) {
        range(n, 0, tape.length());
        tape.setLength(n);
        return n;
    }

    void start(int newWay) {
        range(newWay, 0, 4);
        stop();
        way = newWay;
        brokenAt = -1;
        turns = 0;
        value = new int[26];
        version = new int[26];
        taken = new Mind[26];
        puts.clear();
        past.clear();
        past.add(new int[26]);
        saidAll.clear();
        recs.clear();
        sequence.clear();
        for (int i = 0; i < 6; i++) {
            minds[i] = programs.get(i) == null ? null : new Mind(i, programs.get(i));
        }
    }

    /** Its threads end. */
    void stop() {
        for (Mind m : minds) {
            if (m != null) {
                m.kill();
            }
        }
    }

    int program(int thread) {
        String text = tape.toString();
        tape.setLength(0);
        range(thread, 0, 5);
        Mind old = minds[thread];
        if (old != null && old.state == 2) {
            throw new IllegalStateException();
        }
        Reading reading = new Reading(text);
        try {
            programs.set(thread, reading.all());
        } catch (Broken b) {
            brokenAt = b.at;
            throw new UnsupportedOperationException();
        }
        brokenAt = -1;
        if (old != null) {
            old.kill();
        }
        minds[thread] = new Mind(thread, programs.get(thread));
        return reading.statements;
    }

    int place() {
        return brokenAt;
    }

    int put(int place, int v) {
        range(place, 0, 25);
        if (taken[place] != null) {
            throw new IllegalStateException();
        }
        tick(Map.of(place, v));
        puts.put(place, v);
        return clock();
    }

    int turn(int thread) {
        range(thread, 0, 5);
        if (turns == 20000) {
            throw new IllegalStateException();
        }
        now = turns++;
        Mind m = minds[thread];
        return m == null || m.state == 4 ? 2 : m.state == 5 ? 5 : m.turn();
    }

    private boolean left(int i) {
        return minds[i] != null && minds[i].state < 4;
    }

    int round(int n) {
        range(n, 0, 2000);
        int taking = 0;
        int quiet = 0;
        for (int i = 0; quiet < 6 && taking < n && turns < 20000; i = (i + 1) % 6) {
            quiet++;
            if (left(i)) {
                int answer = turn(i);
                taking++;
                if (answer != 3 && answer != 4) {
                    quiet = 0;
                }
            }
        }
        return taking;
    }

    int has(int place) {
        range(place, 0, 25);
        return value[place];
    }

    int had(int place, int clock) {
        range(place, 0, 25);
        range(clock, 0, clock());
        return past.get(clock)[place];
    }

    int register(int thread, int i) {
        range(thread, 0, 5);
        range(i, 0, 25);
        return minds[thread] == null ? 0 : minds[thread].regs[i];
    }

    int said(int i, boolean who) {
        if (i < 0 || i >= saidAll.size()) {
            throw new IndexOutOfBoundsException();
        }
        return saidAll.get(i)[who ? 0 : 1];
    }

    int look(int thread, int what) {
        range(thread, 0, 5);
        range(what, 0, 7);
        Mind m = minds[thread];
        if (m == null) {
            return 0;
        }
        int reads = 0;
        Set<Integer> writes = new HashSet<>();
        for (Lev lev : m.levels) {
            reads += lev.reads.size();
            writes.addAll(lev.writes.keySet());
            writes.addAll(lev.kept.keySet());
        }
        boolean in = m.state == 2;
        return new int[] {m.state, in ? m.levels.size() : 0, reads, in ? writes.size() : 0, m.restarts,
            in ? m.startClock : 0, m.died, m.ended}[what];
    }

    private int tried;

    int judge() {
        sequence = new ArrayList<>();
        if (recs.size() > 14) {
            return -1;
        }
        tried = 0;
        int[] at = new int[26];
        for (Map.Entry<Integer, Integer> e : puts.entrySet()) {
            at[e.getKey()] = e.getValue();
        }
        int answer = search(at);
        if (answer != 1) {
            sequence.clear();
        }
        return answer;
    }

    private int search(int[] at) {
        if (++tried > 20000) {
            return -1;
        }
        if (sequence.size() == recs.size()) {
            for (int p = 0; p < 26; p++) {
                if (taken[p] == null && at[p] != value[p]) {
                    return 0;
                }
            }
            return 1;
        }
        for (int j = 0; j < recs.size(); j++) {
            Rec r = recs.get(j);
            boolean may = !sequence.contains(j);
            for (int i = 0; i < recs.size(); i++) {
                may &= sequence.contains(i) || recs.get(i).to() >= r.from();
            }
            for (Map.Entry<Integer, Integer> e : r.reads().entrySet()) {
                may &= at[e.getKey()] == e.getValue();
            }
            if (may) {
                int[] then = at.clone();
                r.writes().forEach((p, v) -> then[p] = v);
                sequence.add(j);
                int answer = search(then);
                if (answer != 0) {
                    return answer;
                }
                sequence.remove(sequence.size() - 1);
            }
        }
        return 0;
    }

    int order(int i) {
        if (i < 0 || i >= sequence.size()) {
            throw new IndexOutOfBoundsException();
        }
        return sequence.get(i);
    }

    int record(int i, int what) {
        range(what, 0, 4);
        if (i < 0 || i >= recs.size()) {
            throw new IndexOutOfBoundsException();
        }
        Rec r = recs.get(i);
        return new int[] {r.thread(), r.reads().size(), r.writes().size(), r.from(), r.to()}[what];
    }

    int count(int what) {
        range(what, 0, 8);
        int inside = 0;
        int asleep = 0;
        for (Mind m : minds) {
            inside += m != null && m.state == 2 ? 1 : 0;
            asleep += m != null && m.state == 3 ? 1 : 0;
        }
        int takenNow = 0;
        for (Mind m : taken) {
            takenNow += m != null ? 1 : 0;
        }
        return new int[] {tape.length(), way, clock(), turns, saidAll.size(), recs.size(), inside, asleep,
            takenNow}[what];
    }
}
