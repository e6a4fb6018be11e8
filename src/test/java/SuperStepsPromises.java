/** Each promise of the document by answers worked out by hand: ordinary inputs, edges, wrong inputs. */
public final class SuperStepsPromises {
    private static final int BAD = -1, NO = -2, FULL = -3, NONE = -4;
    private static final String FIRST = "n5;l0,1,4;l1,2,3;l0,2,9;l2,3,1;l3,4,2;l4,1,1;k1,0;w2,2;c1;";
    private static int wrong = 0;
    private static int asked = 0;

    private static void due(String what, int got, int want) {
        asked++;
        if (got != want) {
            wrong++;
            System.out.println(what + " answered " + got + ", due is " + want);
        }
    }

    private static void tell(SuperSteps x, String text) {
        x.wipe();
        for (int i = 0; i < text.length(); i++) {
            x.write(text.charAt(i));
        }
    }

    private static SuperSteps laid(String text) {
        SuperSteps x = new SuperSteps();
        tell(x, text);
        if (x.lay() < 2) {
            wrong++;
            System.out.println("not laid: " + text);
        }
        return x;
    }

    private static void counts(String what, SuperSteps x, int... want) {
        for (int i = 0; i < want.length; i++) {
            due(what + " count(" + i + ")", x.count(i), want[i]);
        }
    }

    private static void values(String what, SuperSteps x, int... want) {
        points(what, x, 0, want);
    }

    private static void points(String what, SuperSteps x, int asks, int... want) {
        for (int p = 0; p < want.length; p++) {
            due(what + " point(" + p + ", " + asks + ")", x.point(p, asks), want[p]);
        }
    }

    private static void sums(String what, SuperSteps x, int k, int... want) {
        for (int i = 0; i < want.length; i++) {
            due(what + " sum(" + k + ", " + i + ")", x.sum(k, i), want[i]);
        }
    }

    /** Letters of a point as pairs of value and worker, and none behind them. */
    private static void letters(String what, SuperSteps x, int p, int... want) {
        for (int k = 0; 2 * k < want.length; k++) {
            due(what + " letter(" + p + ", " + k + ", 0)", x.letter(p, k, 0), want[2 * k]);
            due(what + " letter(" + p + ", " + k + ", 1)", x.letter(p, k, 1), want[2 * k + 1]);
        }
        due(what + " letters behind", x.letter(p, want.length / 2, 0), NONE);
        due(what + " letters behind", x.letter(p, want.length / 2, 1), NONE);
        due(what + " number of letters", x.point(p, 2), want.length / 2);
    }

    private static void faultOf(String text, int want) {
        SuperSteps x = new SuperSteps();
        tell(x, text);
        due("fault of " + text, x.fault(), want);
        if (want != NONE) {
            due("lay of " + text, x.lay(), NO);
        }
        due("text stays", x.count(11), text.length());
    }

    private static String repeat(String part, int times) {
        return part.repeat(times);
    }

    private static void newObject() {
        SuperSteps x = new SuperSteps();
        counts("new", x, 5, 6, 2, 1, 0, 5, 0, 0, 0, 1, 0, 0);
        values("new", x, 0, 999, 999, 999, 999);
        points("new", x, 1, 0, 1, 0, 1, 0);
        points("new", x, 2, 0, 0, 0, 0, 0);
        points("new", x, 3, 1, 1, 1, 1, 1);
        points("new", x, 4, 2, 1, 1, 1, 1);
        points("new", x, 5, 0, 0, 0, 0, 0);
        points("new", x, 6, 0, 0, 0, 0, 0);
        due("new fault", x.fault(), NONE);
        due("new wipe", x.wipe(), 0);
        due("new lay", x.lay(), NO);
        due("new undo", x.undo(), NO);
        due("new sum", x.sum(0, 0), NONE);
        firstGraph();
        SuperSteps y = laid(FIRST);
        for (int i = 0; i < 11; i++) {
            due("first text count " + i, y.count(i), x.count(i));
        }
        due("first text rest", y.rest(0, 0), 6);
        due("first text rest", y.rest(0, 1), 9);
        due("first text rest", y.rest(0, 2), 29);
    }

    /** Each link of the first graph by the letter that it carries, with a value told to its point alone. */
    private static void firstGraph() {
        int[][] links = {{0, 1, 4}, {1, 2, 3}, {0, 2, 9}, {2, 3, 1}, {3, 4, 2}, {4, 1, 1}};
        for (int[] link : links) {
            SuperSteps x = new SuperSteps();
            x.step(20);
            x.value(link[0], 500);
            x.step(1);
            letters("link of the first graph", x, link[1], 500 + link[2], link[0] % 2);
        }
        SuperSteps x = new SuperSteps();
        x.step(20);
        x.value(0, 0);
        x.step(1);
        due("a difference of 1 sends none", x.sum(0, 5), NONE);
        x.step(1);
        due("nor do like loads", x.sum(0, 5), NONE);
        x.value(0, 0);
        x.value(2, 7);
        x.step(1);
        due("a difference of 2 sends one", x.sum(0, 5), 0);
    }

    private static void write() {
        SuperSteps x = new SuperSteps();
        int[] not = {31, 127, -1, 0, Integer.MIN_VALUE, Integer.MAX_VALUE, 256 + 65};
        for (int letter : not) {
            due("write(" + letter + ")", x.write(letter), BAD);
        }
        due("write(32)", x.write(32), 1);
        due("write(126)", x.write(126), 2);
        for (int i = 3; i <= 200; i++) {
            due("write", x.write('n'), i);
        }
        due("write into a full text", x.write('n'), FULL);
        due("write of a bad one into a full text", x.write(31), BAD);
        due("text", x.count(11), 200);
    }

    private static void wipe() {
        SuperSteps x = new SuperSteps();
        tell(x, "n3;");
        due("wipe", x.wipe(), 3);
        due("wipe again", x.wipe(), 0);
        due("text", x.count(11), 0);
        due("write behind wipe", x.write('n'), 1);
        tell(x, repeat("n", 200));
        due("wipe of a full one", x.wipe(), 200);
        due("write behind it", x.write('n'), 1);
        due("laid stays", x.count(0), 5);
    }

    private static void fault() {
        String[] fine = {"", "n2;", "n12;", "n2;n12;", "n3;n4;l3,0,1;", "l0,1,1;", "l0,1,99;", "l3,2,50;",
            "n012;l011,000,001;", "v3,0;", "v0,999;", "v1,5;v1,6;", "k0,0;", "k3,12;", "k1,12;", "w1,0;", "w4,99;",
            "c0;", "c1;", "c001;c000;", "l0,1,5;l0,1,5;", FIRST, repeat("l0,1,1;", 16), repeat("c1;", 66)};
        for (String text : fine) {
            faultOf(text, NONE);
        }
        String[] notSo = {"n", "n;", "n1;", "n0;", "n13;", "n0012;", "n4", "n4,;", "n,4;", "n4,4;", "n-4;", "n 4;", "N4;",
            " n4;", ";", "x1;", "4;", "l0,1;", "l0,1,1,1;", "l0,1,0;", "l0,1,100;", "l0,0,1;", "l4,0,1;", "l0,4,1;",
            "l0,1,1", "l0,,1;", "l,1,1;", "l0,1,;", "l0;1;1;", "v4,0;", "v0,1000;", "v0;", "v0,0,0;", "v0,0001;", "k4,0;",
            "k0,13;", "k0;", "k0,0,0;", "w0,0;", "w5,0;", "w1,100;", "w1;", "c2;", "c;", "c1", "c1,1;", "c", "l", "~"};
        for (String text : notSo) {
            faultOf(text, 0);
            faultOf("n4;" + text, 3);
            faultOf("n3;n4;c1;" + text + "c1;", 9);
        }
        faultOf("n3;l3,0,1;", 3);
        faultOf("n3;v3,0;", 3);
        faultOf("n3;n5;l4,0,1;v4,9;", NONE);
        faultOf("n5;n3;l4,0,1;", 6);
        String[] others = {"l0,1,1;", "v0,0;", "k0,0;", "w2,0;", "c0;"};
        for (String other : others) {
            faultOf(other + "n4;", other.length());
            faultOf("n4;" + other + "n4;", 3 + other.length());
        }
        faultOf(repeat("l0,1,1;", 17), 112);
        faultOf(repeat("l0,1,1;", 17) + "x", 112);
        faultOf("c1;;", 3);
        faultOf("c1;x;y;", 3);
    }

    private static void lay() {
        SuperSteps x = new SuperSteps();
        x.step(2);
        String[] not = {"", "n5;", "v1,1;c1;", "l0,1,1;x", "k1,4;l0,1,1;", "n2;k1,2;l0,1,1;", "n12;l0,1,1;k1,12;", "l0,1,1"};
        for (String text : not) {
            tell(x, text);
            due("lay of " + text, x.lay(), NO);
            counts("not laid", x, 5, 6, 2, 1, 2, 2, 2, 4, 0, 1, 1, text.length());
        }
        tell(x, "l3,1,7;");
        due("lay", x.lay(), 4);
        counts("laid plainly", x, 4, 1, 2, 0, 0, 4, 0, 0, 0, 0, 0, 7);
        values("laid plainly", x, 0, 10, 20, 30);
        points("laid plainly", x, 1, 0, 1, 0, 1);
        points("laid plainly", x, 4, 0, 0, 0, 1);
        points("laid plainly", x, 5, 0, 0, 0, 0);
        points("laid plainly", x, 6, 0, 0, 0, 0);
        due("worker load at first", x.worker(0, 1), 0);
        due("no undo behind laid", x.undo(), NO);
        due("no sum behind laid", x.sum(0, 0), NONE);
        x.step(1);
        due("lay again", x.lay(), 4);
        counts("laid again", x, 4, 1, 2, 0, 0, 4, 0, 0, 0, 0, 0, 7);
        due("no undo behind laid", x.undo(), NO);
        tell(x, "n7;n12;l0,11,1;k3,2;k2,12;w1,9;w4,7;c0;c1;v3,9;v11,999;v3,0;");
        due("lay of twelve", x.lay(), 12);
        counts("of several the last", x, 12, 1, 4, 2, 0, 12, 0, 0, 0, 1, 0);
        values("of several the last", x, 0, 10, 20, 0, 40, 50, 60, 70, 80, 90, 100, 999);
        points("workers", x, 1, 0, 1, 2, 3, 0, 1, 2, 3, 0, 1, 2, 3);
        tell(x, "n3;v0,5;v2,7;l0,1,1;k1,2;");
        due("lay by nearest", x.lay(), 3);
        values("by nearest", x, 999, 999, 0);
        tell(x, "n3;v0,5;v2,7;l0,1,1;k2,2;");
        due("lay by least", x.lay(), 3);
        values("by least", x, 5, 10, 7);
        tell(x, "n4;l0,1,1;w2,1;v0,9;v2,9;");
        x.lay();
        x.move(2, 1);
        x.step(1);
        due("sent elsewhere", x.count(8), 1);
        x.lay();
        due("none sent elsewhere since laid", x.count(8), 0);
        tell(x, "n4;l0,1,1;v0,9;v2,9;v0,7;");
        x.lay();
        values("of several values the last", x, 7, 10, 9, 30);
        x.move(2, 1);
        x.step(1);
        due("none sent elsewhere without w", x.sum(0, 5), NONE);
        tell(x, "l0,1,1;");
        x.lay();
        values("values told ahead are gone", x, 0, 10, 20, 30);
    }

    private static void greatest() {
        SuperSteps x = laid("n4;l0,1,9;l1,2,9;l3,0,9;v0,5;v1,5;v2,8;v3,1;k0,0;");
        due("step", x.step(1), 1);
        sums("greatest 0", x, 0, 4, 0, 3, 3, 19, NONE);
        letters("greatest 0", x, 0, 1, 1);
        letters("greatest 0", x, 1, 5, 0);
        letters("greatest 0", x, 2, 5, 1);
        letters("greatest 0", x, 3);
        points("greatest 0", x, 3, 1, 1, 1, 0);
        due("step", x.step(20), 1);
        sums("like ones are not above", x, 0, 3, 0, 0, 0, 19, NONE);
        x.value(3, 900);
        due("step", x.step(20), 4);
        values("greatest", x, 900, 900, 900, 900);
        due("over", x.step(1), NO);
    }

    private static void least() {
        SuperSteps x = laid("n4;l0,1,9;l1,2,9;l3,0,9;v0,5;v1,5;v2,8;v3,1;k2,0;");
        due("step", x.step(20), 4);
        values("least", x, 1, 1, 1, 1);
        sums("least 3", x, 0, 1, 1, 0, 0, 4, NONE);
        sums("least 2", x, 1, 1, 1, 1, 1, 8, NONE);
        sums("least 1", x, 2, 3, 2, 1, 1, 12, NONE);
        sums("least 0", x, 3, 4, 0, 3, 3, 19, NONE);
        due("sum of none", x.sum(4, 0), NONE);
        x.value(3, 0);
        due("step", x.step(1), 1);
        letters("a zero", x, 0, 0, 1);
        due("step", x.step(1), 1);
        values("a zero", x, 0, 1, 1, 0);
    }

    private static void nearest() {
        SuperSteps x = laid("n4;l0,1,99;l1,2,50;l2,3,1;l0,2,98;k1,0;w1,0;");
        due("step", x.step(1), 1);
        due("those who are not reached send nothing", x.count(6), 2);
        letters("nearest 0", x, 1, 99, 0);
        letters("nearest 0", x, 2, 98, 0);
        due("step", x.step(20), 2);
        values("nearest", x, 0, 99, 98, 99);
        x.value(1, 990);
        x.step(1);
        letters("no more than 999", x, 2, 999, 0);
        x.value(1, 999);
        x.step(1);
        due("999 sends nothing", x.count(6), 0);
        x.value(1, 998);
        x.step(1);
        due("998 sends", x.letter(2, 0, 0), 999);
        x.step(1);
        values("no better way", x, 0, 998, 98, 99);
        due("over", x.step(1), NO);
    }

    private static void rank() {
        SuperSteps x = laid("n3;l0,1,1;l0,2,1;l1,2,1;v0,301;v1,7;v2,999;k3,1;");
        x.step(1);
        values("fresh without letters", x, 301, 7, 999);
        letters("shares, cut", x, 1, 150, 0);
        letters("shares, cut", x, 2, 7, 1, 150, 0);
        points("none sleeps", x, 3, 1, 1, 1);
        x.step(1);
        values("rank", x, 15, 142, 148);
        due("all sleep", x.count(5), 0);
        points("worked", x, 6, 2, 2, 2);
        due("over", x.step(1), NO);
        x.value(0, 999);
        x.step(1);
        points("only 0 has worked", x, 6, 1, 2, 2);
        points("only 0 had load", x, 5, 1, 0, 0);
        x.step(1);
        values("letters wake", x, 15, 439, 439);
        due("woken ones send no more", x.count(6), 0);
        SuperSteps one = laid("n2;l0,1,1;v0,500;k3,1;");
        one.step(1);
        one.value(1, 700);
        one.step(1);
        due("fresh with one letter", one.point(1, 0), 440);
        SuperSteps z = laid("n2;l0,1,1;v0,500;k3,0;");
        due("none sends", z.step(20), 1);
        values("none sends", z, 500, 10);
        due("none is sent", z.count(7), 0);
        SuperSteps y = laid("n12;l0,1,1;l2,1,1;l3,1,1;v0,999;v2,999;v3,999;k3,12;w1,0;c1;");
        due("twelve times and one", y.rest(0, 0), 13);
        y.step(1);
        letters("a sum may be great", y, 1, 2997, 0);
        y.step(1);
        due("999 at most", y.point(1, 0), 999);
    }

    private static void step() {
        SuperSteps x = new SuperSteps();
        int[] not = {0, -1, 21, Integer.MIN_VALUE, Integer.MAX_VALUE};
        for (int n : not) {
            due("step(" + n + ")", x.step(n), BAD);
        }
        due("nothing changes", x.count(10), 0);
        due("step(2)", x.step(2), 2);
        due("step(20)", x.step(20), 4);
        due("over", x.step(1), NO);
        due("over, but bad", x.step(0), BAD);
        due("changes", x.count(10), 2);
        greatest();
        least();
        nearest();
        rank();
    }

    private static void value() {
        SuperSteps x = new SuperSteps();
        int[][] not = {{-1, 0}, {5, 0}, {0, -1}, {0, 1000}, {Integer.MAX_VALUE, 0}, {0, Integer.MIN_VALUE}, {Integer.MIN_VALUE, 0}};
        for (int[] pair : not) {
            due("value(" + pair[0] + ", " + pair[1] + ")", x.value(pair[0], pair[1]), BAD);
        }
        due("nothing changes", x.count(10), 0);
        due("value", x.value(4, 999), 999);
        due("value", x.value(4, 0), 999);
        due("value", x.value(4, 7), 0);
        due("changes", x.count(10), 3);
        SuperSteps y = laid("n3;l0,1,1;l2,1,1;v0,3;v2,2;k0,0;");
        y.step(1);
        due("value of a like one", y.value(1, 10), 10);
        points("its letters stay", y, 2, 0, 2, 0);
        points("fresh", y, 3, 0, 1, 0);
        points("fresh", y, 6, 1, 0, 1);
        points("load of the last step stays", y, 5, 1, 1, 1);
        y.step(1);
        points("worked", y, 6, 1, 1, 1);
        points("load", y, 5, 0, 3, 0);
        y.value(2, 2);
        due("fresh though it is so", y.point(2, 3), 1);
        due("sums stay", y.sum(0, 4), 15);
        y.step(1);
        letters("it sends", y, 1, 2, 0);
    }

    private static void move() {
        SuperSteps x = new SuperSteps();
        int[][] not = {{-1, 0}, {5, 0}, {0, -1}, {0, 2}, {Integer.MAX_VALUE, 0}, {0, Integer.MAX_VALUE}, {0, Integer.MIN_VALUE}};
        for (int[] pair : not) {
            due("move(" + pair[0] + ", " + pair[1] + ")", x.move(pair[0], pair[1]), BAD);
        }
        due("it is so", x.move(0, 0), NO);
        due("it is so", x.move(3, 1), NO);
        due("nothing changes", x.count(10), 0);
        due("move", x.move(3, 0), 1);
        due("move", x.move(0, 1), 0);
        due("it is so now", x.move(0, 1), NO);
        due("points as bits", x.worker(0, 2), 4 + 8 + 16);
        due("points as bits", x.worker(1, 2), 1 + 2);
        due("not sent elsewhere", x.count(8), 0);
        due("changes", x.count(10), 2);
        x.step(1);
        letters("its worker sends", x, 1, 4, 1);
        x.move(0, 0);
        letters("worker as it was then", x, 1, 4, 1);
        due("load as points were then", x.worker(0, 1), 3);
        due("cross as it was then", x.sum(0, 3), 1);
    }

    private static void combine() {
        SuperSteps x = laid("n4;l0,3,1;l2,3,1;l1,3,1;l0,3,1;v0,6;v1,9;v2,8;v3,1;k0,0;c0;");
        int[] not = {-1, 2, Integer.MIN_VALUE, Integer.MAX_VALUE};
        for (int is : not) {
            due("combine(" + is + ")", x.combine(is), BAD);
        }
        due("it is so", x.combine(0), NO);
        due("combine", x.combine(1), 0);
        due("it is so", x.combine(1), NO);
        due("combined", x.count(9), 1);
        x.step(1);
        letters("greatest of a worker", x, 3, 8, 0, 9, 1);
        sums("sent are as they are then", x, 0, 4, 0, 2, 1, 24, NONE);
        due("load counts them so", x.rest(0, 0), 1);
        due("not combined", x.combine(0), 2);
        letters("letters there are stay", x, 3, 8, 0, 9, 1);
        x.undo();
        x.undo();
        x.undo();
        x.step(1);
        letters("not combined, the least first, then the lower worker", x, 3, 6, 0, 6, 0, 8, 0, 9, 1);
        due("combine", x.combine(1), 4);
        letters("letters there are stay", x, 3, 6, 0, 6, 0, 8, 0, 9, 1);
        SuperSteps least = laid("n4;l0,3,1;l2,3,1;l1,3,1;v0,6;v1,9;v2,3;k2,0;c1;");
        least.step(1);
        letters("least of a worker", least, 3, 3, 0, 9, 1);
        SuperSteps near = laid("n4;l0,3,9;l0,3,5;l0,3,7;k1,0;c1;");
        near.step(1);
        letters("nearest of a worker", near, 3, 5, 0);
        SuperSteps rank = laid("n4;l0,3,1;l2,3,1;l1,3,1;v0,6;v1,9;v2,3;k3,1;c1;");
        rank.step(1);
        letters("sum of a worker", rank, 3, 9, 0, 9, 1);
        due("load", rank.step(1), 1);
        due("load", rank.point(3, 5), 3);
    }

    private static void undo() {
        SuperSteps x = new SuperSteps();
        due("none at first", x.undo(), NO);
        x.step(3);
        values("three steps", x, 0, 4, 7, 10, 999);
        x.value(1, 50);
        x.move(1, 0);
        x.combine(0);
        due("changes", x.count(10), 4);
        due("undo", x.undo(), 3);
        due("combined again", x.count(9), 1);
        due("undo", x.undo(), 2);
        due("worker again", x.point(1, 1), 1);
        due("undo", x.undo(), 1);
        due("value again", x.point(1, 0), 4);
        due("asleep again", x.point(1, 3), 0);
        due("worked again", x.point(1, 6), 2);
        due("undo", x.undo(), 0);
        counts("steps of one call at once", x, 5, 6, 2, 1, 0, 5, 0, 0, 0, 1, 0, 0);
        values("as laid", x, 0, 999, 999, 999, 999);
        points("as laid", x, 5, 0, 0, 0, 0, 0);
        due("no sums", x.sum(0, 0), NONE);
        due("no loads", x.worker(0, 1), 0);
        due("none more", x.undo(), NO);
        for (int v = 1; v <= 6; v++) {
            x.value(0, v);
        }
        due("four at most", x.count(10), 4);
        x.undo();
        due("a new one behind an undone one", x.value(0, 77), 5);
        for (int left = 3; left >= 0; left--) {
            due("undo", x.undo(), left);
            due("value", x.point(0, 0), 2 + left);
        }
        due("undo", x.undo(), NO);
        x.value(0, 9);
        x.value(9, 9);
        x.move(0, 0);
        x.combine(1);
        x.step(0);
        due("what was refused is no change", x.undo(), 0);
        SuperSteps y = laid("n3;l0,1,1;l1,2,1;l2,0,1;k3,12;v0,900;w2,1;");
        y.step(11);
        int[] before = new int[60];
        for (int i = 0; i < 60; i++) {
            before[i] = y.sum(i / 6, i % 6);
        }
        int sent = y.count(7);
        int elsewhere = y.count(8);
        y.step(20);
        y.undo();
        for (int i = 0; i < 60; i++) {
            due("sums undone", y.sum(i / 6, i % 6), before[i]);
        }
        due("sent undone", y.count(7), sent);
        due("elsewhere undone", y.count(8), elsewhere);
        due("steps undone", y.count(4), 11);
    }

    private static void point() {
        SuperSteps x = new SuperSteps();
        int[][] not = {{-1, 0}, {5, 0}, {0, -1}, {0, 7}, {Integer.MAX_VALUE, 0}, {0, Integer.MIN_VALUE}, {12, 0}};
        for (int[] pair : not) {
            due("point(" + pair[0] + ", " + pair[1] + ")", x.point(pair[0], pair[1]), BAD);
        }
        SuperSteps y = laid("n4;l0,3,1;l0,3,1;l1,3,1;l3,1,1;v0,6;v1,9;v2,3;k0,0;w4,0;");
        y.step(1);
        values("value", y, 6, 9, 3, 30);
        points("worker", y, 1, 0, 1, 2, 3);
        points("letters", y, 2, 0, 1, 0, 3);
        points("awake", y, 3, 0, 1, 0, 1);
        points("links that lead from it", y, 4, 2, 1, 0, 1);
        points("load", y, 5, 1, 1, 1, 1);
        points("worked", y, 6, 1, 1, 1, 1);
        y.step(1);
        points("load", y, 5, 0, 2, 0, 4);
        points("worked", y, 6, 1, 2, 1, 2);
    }

    private static void letter() {
        SuperSteps x = laid("n5;l4,0,1;l3,0,1;l2,0,1;l1,0,1;v1,7;v2,7;v3,2;v4,7;k0,0;w3,0;");
        int[][] not = {{-1, 0, 0}, {5, 0, 0}, {0, -1, 0}, {0, 0, -1}, {0, 0, 2}, {0, Integer.MIN_VALUE, 0}, {0, 99, 2}, {9, 99, 0}};
        for (int[] t : not) {
            due("letter(" + t[0] + ", " + t[1] + ", " + t[2] + ")", x.letter(t[0], t[1], t[2]), BAD);
        }
        due("no letters yet", x.letter(0, 0, 0), NONE);
        due("no letters yet", x.letter(0, Integer.MAX_VALUE, 1), NONE);
        x.step(1);
        letters("the least first, then the lower worker", x, 0, 2, 0, 7, 1, 7, 1, 7, 2);
        letters("none", x, 1);
        due("far behind", x.letter(0, Integer.MAX_VALUE, 0), NONE);
        x.step(1);
        letters("worked by", x, 0);
        SuperSteps y = laid("n2;" + repeat("l0,1,1;", 16) + "v0,5;k0,0;");
        y.step(1);
        due("sixteen", y.point(1, 2), 16);
        due("the last of sixteen", y.letter(1, 15, 0), 5);
        due("one behind them", y.letter(1, 16, 0), NONE);
        y.step(1);
        due("load", y.point(1, 5), 17);
    }

    private static void worker() {
        SuperSteps x = new SuperSteps();
        int[][] not = {{-1, 0}, {2, 0}, {0, -1}, {0, 3}, {Integer.MAX_VALUE, 0}, {0, Integer.MIN_VALUE}, {4, 0}};
        for (int[] pair : not) {
            due("worker(" + pair[0] + ", " + pair[1] + ")", x.worker(pair[0], pair[1]), BAD);
        }
        SuperSteps y = laid("n12;l0,1,1;w4,0;");
        for (int w = 0; w < 4; w++) {
            due("points", y.worker(w, 0), 3);
            due("load", y.worker(w, 1), 0);
            due("bits", y.worker(w, 2), (1 + 16 + 256) << w);
        }
        y.step(1);
        due("load", y.worker(3, 1), 3);
        y.move(11, 0);
        due("points", y.worker(0, 0), 4);
        due("points", y.worker(3, 0), 2);
        due("load as points were then", y.worker(3, 1), 3);
        due("load as points were then", y.worker(0, 1), 3);
        SuperSteps z = laid("n2;l0,1,1;w4,0;");
        due("a worker without points", z.worker(3, 0), 0);
        due("a worker without points", z.worker(3, 2), 0);
    }

    /** Point 1 has three letters (load 4), point 3 one (load 2), all of worker 1: that makes 6 against 0. */
    private static SuperSteps uneven(String workers) {
        SuperSteps x = laid("n4;l0,1,1;l0,1,1;l2,1,1;l2,3,1;v1,0;v3,0;v0,5;v2,5;" + workers);
        x.step(2);
        return x;
    }

    private static void sentElsewhere() {
        SuperSteps x = uneven("w2,6;");
        due("load", x.worker(1, 1), 6);
        due("load", x.worker(0, 1), 0);
        due("just the difference", x.sum(0, 5), 1);
        due("it is sent", x.point(1, 1), 0);
        due("how many", x.count(8), 1);
        due("load as points were then", x.worker(1, 1), 6);
        due("none ahead of it", x.sum(1, 5), NONE);
        due("undone", x.undo(), 0);
        due("undone", x.count(8), 0);
        x = uneven("w2,7;");
        due("too little", x.sum(0, 5), NONE);
        due("too little", x.count(8), 0);
        x = uneven("w2,0;");
        due("not sent elsewhere", x.sum(0, 5), NONE);
        x = uneven("w1,1;");
        due("one worker", x.sum(0, 5), NONE);
        x = uneven("w3,1;");
        due("the lowest with least load", x.worker(0, 1) * 100 + x.worker(1, 1) * 10 + x.worker(2, 1), 240);
        due("of point 1 alone, not below the difference", x.sum(0, 5), NONE);
        x = uneven("w4,2;");
        due("likewise with four", x.sum(0, 5), NONE);
        SuperSteps y = laid("n6;l0,1,1;l0,3,1;l0,5,1;v0,99;w2,1;");
        y.step(2);
        due("of several the lowest point", y.sum(0, 5), 1);
        SuperSteps z = laid("n9;l0,1,1;l0,4,1;l0,7,1;l2,1,1;l2,4,1;v0,99;v2,99;w3,1;");
        z.step(1);
        due("all alike", z.sum(0, 5), NONE);
        z.step(1);
        due("the heaviest below", z.sum(0, 5), 1);
        due("to the lowest worker", z.point(1, 1), 0);
        due("cross as it was then", z.sum(1, 3), 5);
        SuperSteps f = laid("n4;l1,0,1;l1,2,1;l3,0,1;v0,0;v1,99;v2,0;v3,99;w2,1;");
        f.step(2);
        due("point 0", f.sum(0, 5), 0);
        due("point 0", f.point(0, 1), 1);
        SuperSteps g = laid("n6;l0,1,1;w3,1;");
        g.step(2);
        g.value(0, 5);
        g.value(3, 5);
        g.value(1, 5);
        g.value(4, 5);
        g.step(1);
        due("of several greatest the lowest", g.sum(0, 5), 0);
        due("to the least", g.point(0, 1), 2);
        SuperSteps h = laid("n4;l0,1,1;w4,1;");
        h.step(2);
        h.move(2, 3);
        h.value(2, 1);
        h.value(3, 1);
        h.step(1);
        due("a load of 1", h.sum(0, 5), 2);
        due("of several least the lowest", h.point(2, 1), 0);
        SuperSteps t = laid("n12;l0,1,1;w2,1;");
        t.step(2);
        t.value(9, 1);
        t.value(11, 1);
        t.value(9, 1);
        t.step(1);
        due("among twelve", t.sum(0, 5), 9);
    }

    private static void sum() {
        SuperSteps x = new SuperSteps();
        int[][] not = {{-1, 0}, {10, 0}, {0, -1}, {0, 6}, {Integer.MAX_VALUE, 0}, {0, Integer.MIN_VALUE}};
        for (int[] pair : not) {
            due("sum(" + pair[0] + ", " + pair[1] + ")", x.sum(pair[0], pair[1]), BAD);
        }
        due("none", x.sum(0, 5), NONE);
        x.step(2);
        sums("step 1", x, 0, 2, 2, 2, 2, 2011, NONE);
        sums("step 0", x, 1, 5, 0, 2, 1, 3996, NONE);
        due("none", x.sum(2, 0), NONE);
        SuperSteps y = laid("n2;l0,1,1;l1,0,1;v0,999;k3,12;w1,0;");
        y.step(13);
        sums("last of thirteen", y, 0, 2, 2, 0, 0, y.point(0, 0) + y.point(1, 0), NONE);
        due("last but nine", y.sum(9, 2), 2);
        due("last but ten", y.sum(10, 2), BAD);
        sentElsewhere();
    }

    private static void rest() {
        SuperSteps x = new SuperSteps();
        int[][] not = {{-1, 0}, {2, 0}, {0, -1}, {0, 3}, {Integer.MAX_VALUE, 0}, {0, Integer.MIN_VALUE}};
        for (int[] pair : not) {
            due("rest(" + pair[0] + ", " + pair[1] + ")", x.rest(pair[0], pair[1]), BAD);
        }
        SuperSteps y = laid("n4;l0,3,1;l2,3,1;l1,3,1;l0,3,1;v0,6;v1,9;v2,8;v3,1;k0,0;c1;");
        due("steps", y.rest(0, 0), 2);
        due("sent", y.rest(0, 1), 2);
        due("values", y.rest(0, 2), 32);
        due("steps the other way", y.rest(1, 0), 2);
        due("sent the other way", y.rest(1, 1), 4);
        due("values the other way", y.rest(1, 2), 32);
        counts("nothing changes", y, 4, 4, 2, 0, 0, 4, 0, 0, 0, 1, 0);
        values("nothing changes", y, 6, 9, 8, 1);
        y.step(1);
        due("from now on", y.rest(0, 0), 1);
        due("from now on", y.rest(1, 1), 0);
        y.step(1);
        due("over", y.rest(0, 0), 0);
        due("over", y.rest(0, 1), 0);
        due("over", y.rest(1, 2), 32);
        SuperSteps z = laid("n4;l0,3,1;l2,3,1;k3,3;c0;v0,500;v2,400;");
        int steps = z.rest(1, 0);
        int sent = z.rest(1, 1);
        int values = z.rest(1, 2);
        z.combine(1);
        due("as it comes", z.step(20), steps);
        due("as it comes", z.count(7), sent);
        due("as it comes", z.sum(0, 4), values);
    }

    private static void count() {
        SuperSteps x = new SuperSteps();
        int[] not = {-1, 12, Integer.MIN_VALUE, Integer.MAX_VALUE};
        for (int what : not) {
            due("count(" + what + ")", x.count(what), BAD);
        }
        x.write('n');
        x.step(2);
        x.step(1);
        counts("three steps", x, 5, 6, 2, 1, 3, 2, 2, 6, 0, 1, 2, 1);
        x.undo();
        counts("two steps", x, 5, 6, 2, 1, 2, 2, 2, 4, 0, 1, 1, 1);
        SuperSteps y = laid("n3;l0,1,1;w3,0;k3,0;");
        counts("another", y, 3, 1, 3, 3, 0, 3, 0, 0, 0, 0, 0, 20);
    }

    /** The example of README.md, call by call. */
    private static void example() {
        SuperSteps x = new SuperSteps();
        for (char c : "n3;l0,1,4;l1,2,3;k1,0;".toCharArray()) {
            x.write(c);
        }
        due("README: fault", x.fault(), NONE);
        due("README: lay", x.lay(), 3);
        due("README: rest", x.rest(0, 0), 3);
        due("README: step", x.step(20), 3);
        due("README: point", x.point(2, 0), 7);
        due("README: sum", x.sum(0, 0), 1);
        due("README: undo", x.undo(), 0);
        due("README: point", x.point(2, 0), 999);
    }

    public static void main(String[] args) {
        example();
        newObject();
        write();
        wipe();
        fault();
        lay();
        step();
        value();
        move();
        combine();
        undo();
        point();
        letter();
        worker();
        sum();
        rest();
        count();
        System.out.println(asked + " answers asked, " + wrong + " not as due");
        if (wrong != 0) {
            System.exit(1);
        }
    }
}
