import java.util.ArrayDeque;
import java.util.ArrayList;
import java.util.Comparator;
import java.util.Deque;
import java.util.List;
import java.util.Map;
import java.util.Random;
import java.util.TreeMap;
import java.util.regex.Matcher;
import java.util.regex.Pattern;

/**
 * Runs of calls (from fixed seeds), every answer against a model written from the document another way.
 * Each object is asked just as many calls as the document speaks of.
 */
public final class SuperStepsModel {
    private static final int BAD = -1, NO = -2, FULL = -3, NONE = -4;
    private static final int MOST_CALLS = 512, MOST_TOLD = 203, LOOKS_EACH = 14;
    private static int wrong = 0;
    private static long asked = 0;

    private record Link(int from, int to, int length) { }

    private record Letter(int to, int value, int worker, int from) { }

    private record Sums(int awake, int changed, int sent, int cross, int total, int elsewhere) {
        int get(int what) {
            return new int[] {awake, changed, sent, cross, total, elsewhere}[what];
        }
    }

    private static final class Graph {
        int n = 4, kind = 0, s = 0, m = 2, d = 0, c = 0;
        final List<Link> links = new ArrayList<>();
        final Map<Integer, Integer> told = new TreeMap<>();
    }

    private static final class Point {
        int value, worker, worked, load;
        boolean fresh = true, sleeps;

        Point copy() {
            Point q = new Point();
            q.value = value;
            q.worker = worker;
            q.worked = worked;
            q.load = load;
            q.fresh = fresh;
            q.sleeps = sleeps;
            return q;
        }
    }

    private static final class World {
        final Graph g;
        final List<Point> points = new ArrayList<>();
        List<Letter> letters = new ArrayList<>();
        List<Sums> sums = new ArrayList<>();
        int[] workerLoads;
        boolean combined;

        World(Graph g) {
            this.g = g;
            workerLoads = new int[g.m];
            combined = g.c == 1;
            for (int p = 0; p < g.n; p++) {
                Point q = new Point();
                q.value = g.told.getOrDefault(p, 10 * p);
                if (g.kind == 1) {
                    q.value = p == g.s ? 0 : 999;
                }
                q.worker = p % g.m;
                points.add(q);
            }
        }

        World copy() {
            World w = new World(g);
            w.points.clear();
            points.forEach(p -> w.points.add(p.copy()));
            w.letters = new ArrayList<>(letters);
            w.sums = new ArrayList<>(sums);
            w.workerLoads = workerLoads.clone();
            w.combined = combined;
            return w;
        }

        List<Letter> of(int p) {
            return letters.stream().filter(l -> l.to == p)
                .sorted(Comparator.comparingInt(Letter::value).thenComparingInt(Letter::worker).thenComparingInt(Letter::from))
                .toList();
        }

        boolean awake(int p) {
            Point q = points.get(p);
            return q.fresh || !q.sleeps || !of(p).isEmpty();
        }

        int awakeCount() {
            int found = 0;
            for (int p = 0; p < g.n; p++) {
                found += awake(p) ? 1 : 0;
            }
            return found;
        }

        int total() {
            return points.stream().mapToInt(p -> p.value).sum();
        }

        void step() {
            boolean[] awake = new boolean[g.n];
            int[] before = new int[g.n];
            List<List<Letter>> had = new ArrayList<>();
            workerLoads = new int[g.m];
            for (int p = 0; p < g.n; p++) {
                awake[p] = awake(p);
                before[p] = points.get(p).value;
                had.add(of(p));
                points.get(p).load = awake[p] ? 1 + had.get(p).size() : 0;
                workerLoads[points.get(p).worker] += points.get(p).load;
            }
            List<Letter> raw = new ArrayList<>();
            for (int p = 0; p < g.n; p++) {
                if (awake[p]) {
                    work(p, had.get(p), raw);
                }
            }
            letters = combined ? combine(raw) : raw;
            int awakeNow = 0, changed = 0, cross = 0;
            for (int p = 0; p < g.n; p++) {
                awakeNow += awake[p] ? 1 : 0;
                changed += before[p] != points.get(p).value ? 1 : 0;
            }
            for (Letter l : letters) {
                cross += points.get(l.to).worker != l.worker ? 1 : 0;
            }
            sums.add(new Sums(awakeNow, changed, letters.size(), cross, total(), sendElsewhere()));
        }

        void work(int p, List<Letter> had, List<Letter> out) {
            Point q = points.get(p);
            q.worked++;
            boolean wasFresh = q.fresh;
            q.fresh = false;
            List<Link> links = g.links.stream().filter(l -> l.from == p).toList();
            if (g.kind == 3) {
                if (!had.isEmpty() || !wasFresh) {
                    int sum = had.stream().mapToInt(Letter::value).sum();
                    q.value = Math.min(999, 15 + sum * 17 / 20);
                }
                q.sleeps = q.worked > g.s;
                if (!q.sleeps) {
                    links.forEach(l -> out.add(new Letter(l.to, q.value / links.size(), q.worker, p)));
                }
                return;
            }
            q.sleeps = true;
            boolean news = false;
            if (!had.isEmpty()) {
                int first = had.get(0).value;
                int last = had.get(had.size() - 1).value;
                if (g.kind == 0 && last > q.value) {
                    q.value = last;
                    news = true;
                } else if (g.kind != 0 && first < q.value) {
                    q.value = first;
                    news = true;
                }
            }
            if (g.kind == 1) {
                if (news || wasFresh && q.value < 999) {
                    links.forEach(l -> out.add(new Letter(l.to, Math.min(999, q.value + l.length), q.worker, p)));
                }
            } else if (news || wasFresh) {
                links.forEach(l -> out.add(new Letter(l.to, q.value, q.worker, p)));
            }
        }

        List<Letter> combine(List<Letter> raw) {
            Map<Integer, Letter> by = new TreeMap<>();
            for (Letter l : raw) {
                by.merge(10 * l.to + l.worker, l, (a, b) -> {
                    int value = g.kind == 0 ? Math.max(a.value, b.value) : g.kind == 3 ? a.value + b.value : Math.min(a.value, b.value);
                    return new Letter(a.to, value, a.worker, Math.min(a.from, b.from));
                });
            }
            return new ArrayList<>(by.values());
        }

        int sendElsewhere() {
            if (g.d == 0) {
                return NONE;
            }
            int a = 0, b = 0;
            for (int w = g.m - 1; w >= 0; w--) {
                a = workerLoads[w] >= workerLoads[a] ? w : a;
                b = workerLoads[w] <= workerLoads[b] ? w : b;
            }
            int most = workerLoads[a], fewest = workerLoads[b];
            int difference = most - fewest;
            if (difference < g.d) {
                return NONE;
            }
            for (int load = difference - 1; load > 0; load--) {
                for (int p = 0; p < g.n; p++) {
                    if (points.get(p).worker == a && points.get(p).load == load) {
                        points.get(p).worker = b;
                        return p;
                    }
                }
            }
            return NONE;
        }
    }

    private static final class Model {
        final StringBuilder text = new StringBuilder();
        World world;
        final Deque<World> past = new ArrayDeque<>();
        private Graph read;

        Model() {
            text.append("n5;l0,1,4;l1,2,3;l0,2,9;l2,3,1;l3,4,2;l4,1,1;k1,0;w2,2;c1;");
            lay();
            text.setLength(0);
        }

        int write(int letter) {
            if (letter < 32 || letter > 126) {
                return BAD;
            }
            if (text.length() == 200) {
                return FULL;
            }
            text.append((char) letter);
            return text.length();
        }

        int wipe() {
            int was = text.length();
            text.setLength(0);
            return was;
        }

        private static final Pattern ITEM = Pattern.compile("(?:([nc])([0-9]{1,3})|([vkw])([0-9]{1,3}),([0-9]{1,3})|(l)([0-9]{1,3}),([0-9]{1,3}),([0-9]{1,3}));");

        int fault() {
            read = new Graph();
            Matcher item = ITEM.matcher(text);
            int at = 0;
            boolean onlyN = true;
            while (at < text.length()) {
                item.region(at, text.length());
                if (!item.lookingAt() || !takes(item, onlyN)) {
                    return at;
                }
                onlyN = onlyN && text.charAt(at) == 'n';
                at = item.end();
            }
            return NONE;
        }

        private boolean takes(Matcher i, boolean onlyN) {
            Graph g = read;
            if (i.group(1) != null) {
                int x = Integer.parseInt(i.group(2));
                if (i.group(1).equals("n")) {
                    g.n = x;
                    return onlyN && x >= 2 && x <= 12;
                }
                g.c = x;
                return x < 2;
            }
            if (i.group(3) != null) {
                int x = Integer.parseInt(i.group(4)), y = Integer.parseInt(i.group(5));
                switch (i.group(3)) {
                    case "v":
                        g.told.put(x, y);
                        return x < g.n;
                    case "k":
                        g.kind = x;
                        g.s = y;
                        return x < 4 && y < 13;
                    default:
                        g.m = x;
                        g.d = y;
                        return x > 0 && x < 5 && y < 100;
                }
            }
            int a = Integer.parseInt(i.group(7)), b = Integer.parseInt(i.group(8)), l = Integer.parseInt(i.group(9));
            g.links.add(new Link(a, b, l));
            return a < g.n && b < g.n && a != b && l > 0 && l < 100 && g.links.size() < 17;
        }

        int lay() {
            if (fault() != NONE || read.links.isEmpty() || read.kind == 1 && read.s >= read.n) {
                return NO;
            }
            world = new World(read);
            past.clear();
            return read.n;
        }

        private void keep() {
            past.push(world.copy());
            if (past.size() > 4) {
                past.removeLast();
            }
        }

        int step(int n) {
            if (n < 1 || n > 20) {
                return BAD;
            }
            if (world.awakeCount() == 0) {
                return NO;
            }
            keep();
            int done = 0;
            for (; done < n && world.awakeCount() > 0; done++) {
                world.step();
            }
            return done;
        }

        private boolean noPoint(int p) {
            return p < 0 || p >= world.g.n;
        }

        private boolean noWorker(int w) {
            return w < 0 || w >= world.g.m;
        }

        int value(int p, int v) {
            if (noPoint(p) || v < 0 || v > 999) {
                return BAD;
            }
            keep();
            Point q = world.points.get(p);
            int was = q.value;
            q.value = v;
            q.fresh = true;
            q.worked = 0;
            return was;
        }

        int move(int p, int w) {
            if (noPoint(p) || noWorker(w)) {
                return BAD;
            }
            int was = world.points.get(p).worker;
            if (was == w) {
                return NO;
            }
            keep();
            world.points.get(p).worker = w;
            return was;
        }

        int combine(int is) {
            if (is != 0 && is != 1) {
                return BAD;
            }
            if (world.combined == (is == 1)) {
                return NO;
            }
            keep();
            world.combined = is == 1;
            return world.letters.size();
        }

        int undo() {
            if (past.isEmpty()) {
                return NO;
            }
            world = past.pop();
            return past.size();
        }

        int point(int p, int what) {
            if (noPoint(p) || what < 0 || what > 6) {
                return BAD;
            }
            Point q = world.points.get(p);
            int links = (int) world.g.links.stream().filter(l -> l.from == p).count();
            return new int[] {q.value, q.worker, world.of(p).size(), world.awake(p) ? 1 : 0, links, q.load, q.worked}[what];
        }

        int letter(int p, int k, int what) {
            if (noPoint(p) || k < 0 || what < 0 || what > 1) {
                return BAD;
            }
            List<Letter> had = world.of(p);
            if (k >= had.size()) {
                return NONE;
            }
            return what == 0 ? had.get(k).value : had.get(k).worker;
        }

        int worker(int w, int what) {
            if (noWorker(w) || what < 0 || what > 2) {
                return BAD;
            }
            int many = 0, bits = 0;
            for (int p = 0; p < world.g.n; p++) {
                if (world.points.get(p).worker == w) {
                    many++;
                    bits += 1 << p;
                }
            }
            return new int[] {many, world.workerLoads[w], bits}[what];
        }

        int sum(int k, int what) {
            if (k < 0 || k > 9 || what < 0 || what > 5) {
                return BAD;
            }
            int at = world.sums.size() - 1 - k;
            return at < 0 ? NONE : world.sums.get(at).get(what);
        }

        int rest(int other, int what) {
            if (other < 0 || other > 1 || what < 0 || what > 2) {
                return BAD;
            }
            World w = world.copy();
            w.combined = world.combined ^ other == 1;
            int steps = 0;
            for (; steps < 60 && w.awakeCount() > 0; steps++) {
                w.step();
            }
            if (w.awakeCount() > 0) {
                return NONE;
            }
            int sent = 0;
            for (Sums s : w.sums.subList(world.sums.size(), w.sums.size())) {
                sent += s.sent;
            }
            return new int[] {steps, sent, w.total()}[what];
        }

        int count(int what) {
            int sent = world.sums.stream().mapToInt(Sums::sent).sum();
            int elsewhere = (int) world.sums.stream().filter(s -> s.elsewhere != NONE).count();
            int[] all = {world.g.n, world.g.links.size(), world.g.m, world.g.kind, world.sums.size(), world.awakeCount(),
                world.letters.size(), sent, elsewhere, world.combined ? 1 : 0, past.size(), text.length()};
            return what < 0 || what >= all.length ? BAD : all[what];
        }
    }

    private static final class Run {
        final SuperSteps real = new SuperSteps();
        final Model model = new Model();
        final Random random;
        final long seed;
        final StringBuilder story = new StringBuilder();
        int calls = 0;

        Run(long seed) {
            this.seed = seed;
            random = new Random(seed);
        }

        int callsLeft() {
            return MOST_CALLS - calls;
        }

        void same(String call, int got, int want) {
            asked++;
            calls++;
            if (got != want) {
                wrong++;
                if (wrong < 20) {
                    System.out.println("seed " + seed + ": " + story + call + " answered " + got + ", due is " + want);
                }
            }
        }

        int below(int bound) {
            return random.nextInt(bound);
        }

        /** Mostly from 0 on and below the bound, sometimes just outside it. */
        int near(int bound) {
            return below(12) == 0 ? new int[] {-1, bound, bound + 1, Integer.MIN_VALUE, Integer.MAX_VALUE}[below(5)] : below(bound);
        }

        String text() {
            StringBuilder t = new StringBuilder();
            int n = 2 + below(below(2) == 0 ? 11 : 4);
            t.append('n').append(n).append(';');
            int most = below(3) == 0 ? 3 : 2 * n;
            int links = Math.min(16, 1 + below(most));
            for (int i = 0; i < links; i++) {
                int a = below(n);
                int b = (a + 1 + below(n - 1)) % n;
                t.append('l').append(a).append(',').append(b).append(',').append(1 + below(99)).append(';');
            }
            int kind = below(4);
            t.append('k').append(kind).append(',').append(kind == 1 ? below(n) : below(13)).append(';');
            t.append('w').append(1 + below(4)).append(',').append(below(3) == 0 ? 0 : 1 + below(5)).append(';');
            t.append('c').append(below(2)).append(';');
            for (int i = 0; i < 3 && t.length() < 190; i++) {
                t.append('v').append(below(n)).append(',').append(below(1000)).append(';');
            }
            if (below(4) == 0) {
                spoil(t);
            }
            return t.substring(0, Math.min(200, t.length()));
        }

        void spoil(StringBuilder t) {
            String signs = "nlvkwc,;0123456789 x";
            int at = below(t.length());
            switch (below(3)) {
                case 0: t.setCharAt(at, signs.charAt(below(signs.length()))); break;
                case 1: t.deleteCharAt(at); break;
                default: t.insert(at, signs.charAt(below(signs.length())));
            }
        }

        void tell() {
            same("wipe", real.wipe(), model.wipe());
            String t = text();
            for (int i = 0; i < t.length(); i++) {
                same("write", real.write(t.charAt(i)), model.write(t.charAt(i)));
            }
            story.append(t).append(" lay, ");
            same("fault", real.fault(), model.fault());
            same("lay", real.lay(), model.lay());
        }

        void change() {
            int p = near(model.world.g.n);
            switch (below(8)) {
                case 0: case 1: case 2: {
                    int n = below(4) == 0 ? near(21) : 1;
                    story.append("step(" + n + "), ");
                    same("", real.step(n), model.step(n));
                    break;
                }
                case 3: case 4: {
                    int v = near(below(2) == 0 ? 1000 : 20);
                    story.append("value(" + p + ", " + v + "), ");
                    same("", real.value(p, v), model.value(p, v));
                    break;
                }
                case 5: {
                    int w = near(model.world.g.m);
                    story.append("move(" + p + ", " + w + "), ");
                    same("", real.move(p, w), model.move(p, w));
                    break;
                }
                case 6: {
                    int is = near(2);
                    story.append("combine(" + is + "), ");
                    same("", real.combine(is), model.combine(is));
                    break;
                }
                default:
                    story.append("undo(), ");
                    same("", real.undo(), model.undo());
            }
        }

        void look() {
            int p = near(model.world.g.n);
            switch (below(7)) {
                case 0: case 1: {
                    int what = near(7);
                    same("point(" + p + ", " + what + ")", real.point(p, what), model.point(p, what));
                    break;
                }
                case 2: {
                    int k = near(3), what = near(2);
                    same("letter(" + p + ", " + k + ", " + what + ")", real.letter(p, k, what), model.letter(p, k, what));
                    break;
                }
                case 3: {
                    int w = near(model.world.g.m), what = near(3);
                    same("worker(" + w + ", " + what + ")", real.worker(w, what), model.worker(w, what));
                    break;
                }
                case 4: {
                    int k = below(2) == 0 ? 0 : near(10), what = near(6);
                    same("sum(" + k + ", " + what + ")", real.sum(k, what), model.sum(k, what));
                    break;
                }
                case 5: {
                    int other = near(2), what = near(3);
                    same("rest(" + other + ", " + what + ")", real.rest(other, what), model.rest(other, what));
                    break;
                }
                default: {
                    int what = near(12);
                    same("count(" + what + ")", real.count(what), model.count(what));
                }
            }
        }

        /** The first graph stays in every fifth run; in others a text is told, and now and then another one behind it. */
        void go() {
            boolean isTold = seed % 5 != 0;
            if (isTold) {
                tell();
            }
            while (callsLeft() > LOOKS_EACH) {
                if (isTold && below(16) == 0 && callsLeft() > MOST_TOLD) {
                    tell();
                }
                change();
                for (int i = 0; i < LOOKS_EACH && callsLeft() > 0; i++) {
                    look();
                }
            }
        }
    }

    public static void main(String[] args) {
        int runs = args.length > 0 ? Integer.parseInt(args[0]) : 8000;
        for (int seed = 1; seed <= runs; seed++) {
            Run run = new Run(seed);
            run.go();
            if (run.callsLeft() < 0) {
                wrong++;
                System.out.println("seed " + seed + ": the test asks more than " + MOST_CALLS + " calls of one object");
            }
        }
        System.out.println(asked + " answers asked, " + wrong + " not as due");
        if (wrong != 0) {
            System.exit(1);
        }
    }
}
