import java.util.ArrayList;
import java.util.List;

/**
 * The boundary cases of the document, in its order. Above each test stands the sentence that it holds the class to.
 * Calls are told as texts ("value 0 5"), so that a wrong answer can be shown with all calls ahead of it.
 */
public final class SuperStepsEdges {
    private static final int BAD = -1, NO = -2, FULL = -3, NONE = -4;
    private static final int LOWEST = Integer.MIN_VALUE, HIGHEST = Integer.MAX_VALUE;
    private static final int MOST_CALLS = 512;
    private static final String FIRST = "n5;l0,1,4;l1,2,3;l0,2,9;l2,3,1;l3,4,2;l4,1,1;k1,0;w2,2;c1;";
    private static int wrong = 0;
    private static int asked = 0;

    private static void complain(String what) {
        wrong++;
        if (wrong <= 40) {
            System.out.println(what);
        }
    }

    /** One object with the calls that it was told; it takes no more of them than the document speaks of. */
    private static final class Told {
        final SuperSteps x = new SuperSteps();
        final List<String> calls = new ArrayList<>();

        int ask(String call) {
            calls.add(call);
            if (calls.size() > MOST_CALLS) {
                complain("the test asks more than " + MOST_CALLS + " calls of one object");
            }
            String[] part = call.split(" ");
            int[] n = new int[3];
            for (int i = 1; i < part.length; i++) {
                n[i - 1] = Integer.parseInt(part[i]);
            }
            switch (part[0] + "/" + (part.length - 1)) {
                case "write/1": return x.write(n[0]);
                case "wipe/0": return x.wipe();
                case "fault/0": return x.fault();
                case "lay/0": return x.lay();
                case "step/1": return x.step(n[0]);
                case "value/2": return x.value(n[0], n[1]);
                case "move/2": return x.move(n[0], n[1]);
                case "combine/1": return x.combine(n[0]);
                case "undo/0": return x.undo();
                case "point/2": return x.point(n[0], n[1]);
                case "letter/3": return x.letter(n[0], n[1], n[2]);
                case "worker/2": return x.worker(n[0], n[1]);
                case "sum/2": return x.sum(n[0], n[1]);
                case "rest/2": return x.rest(n[0], n[1]);
                case "count/1": return x.count(n[0]);
                default: throw new IllegalArgumentException("no such call: " + call);
            }
        }

        Told due(int want, String call) {
            int got = ask(call);
            asked++;
            if (got != want) {
                complain(story() + " answered " + got + ", due is " + want);
            }
            return this;
        }

        /** The * of the call is 0, 1, .. for each answer that is due. */
        Told row(String call, int... want) {
            for (int i = 0; i < want.length; i++) {
                due(want[i], call.replace("*", Integer.toString(i)));
            }
            return this;
        }

        Told does(String... some) {
            for (String call : some) {
                ask(call);
            }
            return this;
        }

        Told writes(String text) {
            for (char letter : text.toCharArray()) {
                ask("write " + (int) letter);
            }
            return this;
        }

        /** All letters of a point, each as its value and its worker. */
        Told letters(int p, int... want) {
            for (int k = 0; 2 * k < want.length; k++) {
                due(want[2 * k], "letter " + p + " " + k + " 0");
                due(want[2 * k + 1], "letter " + p + " " + k + " 1");
            }
            due(NONE, "letter " + p + " " + want.length / 2 + " 0");
            due(NONE, "letter " + p + " " + want.length / 2 + " 1");
            return due(want.length / 2, "point " + p + " 2");
        }

        String story() {
            StringBuilder all = new StringBuilder();
            for (String call : calls) {
                boolean isSign = call.startsWith("write ") && call.length() <= 9 && call.charAt(6) != '-';
                all.append(isSign ? "" + (char) Integer.parseInt(call.substring(6)) : " " + call + ",");
            }
            return all.toString();
        }
    }

    private static Told fresh() {
        return new Told();
    }

    private static Told told(String text) {
        return fresh().writes(text);
    }

    private static Told laid(String text) {
        Told t = told(text);
        if (t.ask("lay") < 2) {
            complain("not laid: " + text);
        }
        return t;
    }

    private static void faults(int want, String... texts) {
        for (String text : texts) {
            told(text).due(want, "fault").due(text.length(), "count 11");
        }
    }

    /** Such items are not so wherever they stand; what is fine stands ahead of them and behind them. */
    private static void notSo(String... items) {
        for (String item : items) {
            faults(0, item, item + "c1;");
            faults(3, "n4;" + item, "n4;" + item + "x;");
            told("l0,1,1;" + item).due(7, "fault").due(NO, "lay");
        }
    }

    private static void fine(String... items) {
        for (String item : items) {
            faults(NONE, item, item + "l0,1,1;", item + item);
        }
    }

    // ======== 1

    /** "POINTS 0 to n - 1 (n 2 to 12)"; "nN N POINTS". */
    private static void pointsAreTwoToTwelve() {
        fine("n2;", "n12;");
        notSo("n0;", "n1;", "n13;", "n999;");
        for (int n = 2; n <= 12; n++) {
            Told t = laid("n" + n + ";l0,1,1;").due(n, "lay").due(n, "count 0").due(n, "count 5");
            t.due(10 * (n - 1), "point " + (n - 1) + " 0").due(BAD, "point " + n + " 0").due(BAD, "point -1 0");
            t.due(10 * (n - 1), "value " + (n - 1) + " 1").due(BAD, "value " + n + " 1").due(BAD, "value -1 1");
            t.due((n - 1) % 2, "move " + (n - 1) + " " + n % 2).due(BAD, "move " + n + " 0").due(BAD, "move -1 0");
            t.due(NONE, "letter " + (n - 1) + " 0 0").due(BAD, "letter " + n + " 0 0").due(BAD, "letter -1 0 0");
            int last = n - 1;
            faults(NONE, "n" + n + ";v" + last + ",0;", "n" + n + ";l" + last + ",0,1;", "n" + n + ";l0," + last + ",1;");
            faults(n < 10 ? 3 : 4, "n" + n + ";v" + n + ",0;", "n" + n + ";l" + n + ",0,1;", "n" + n + ";l0," + n + ",1;");
        }
    }

    /** "have a VALUE (0 to 999)"; "vP,V"; "VALUE of a POINT is v (0 to 999)". */
    private static void valuesAreZeroTo999() {
        fine("v0,0;", "v0,999;", "v3,0;", "v3,999;");
        notSo("v0,1000;", "v4,0;", "v999,0;", "v0,-1;");
        laid("l0,1,1;v0,0;v1,999;").row("point * 0", 0, 999, 20, 30);
        fresh().due(999, "value 4 0").due(0, "value 4 999").due(999, "value 4 998").due(998, "point 4 0");
        fresh().due(BAD, "value 4 -1").due(BAD, "value 4 1000").due(BAD, "value 4 " + LOWEST).due(BAD, "value 4 " + HIGHEST)
            .due(999, "point 4 0").due(0, "count 10");
    }

    /** "a WORKER (0 to m - 1, m 1 to 4; at first POINT p with p modulo m)"; "wM,D". */
    private static void workersAreOneToFour() {
        fine("w1,0;", "w4,0;");
        notSo("w0,0;", "w5,0;", "w999,0;");
        for (int m = 1; m <= 4; m++) {
            Told t = laid("n12;l0,1,1;w" + m + ",0;").due(m, "count 2");
            for (int p = 0; p < 12; p++) {
                t.due(p % m, "point " + p + " 1");
            }
            t.due(12 / m, "worker " + (m - 1) + " 0").due(BAD, "worker " + m + " 0").due(BAD, "worker -1 0");
            t.due(m == 1 ? NO : 0, "move 0 " + (m - 1)).due(BAD, "move 0 " + m).due(BAD, "move 0 -1");
        }
    }

    /** "An object is used for at most 512 calls after it has been made". */
    private static void theLastCallStillAnswers() {
        Told t = fresh();
        for (int i = 1; i <= MOST_CALLS; i++) {
            t.due(i - 1, "value 0 " + i);
        }
        Told s = fresh();
        for (int i = 1; i < MOST_CALLS / 2; i++) {
            s.does("value 3 7").due(1, "step 1");
        }
        s.does("value 3 7").due(MOST_CALLS / 2 - 1, "count 4");
    }

    /** "LINKS 0, 1, .. (16 at most) lead from a POINT to another one, LONG 1 to 99"; "lA,B,L". */
    private static void linksAreSixteenAtMost() {
        fine("l0,1,1;", "l0,1,99;", "l3,0,1;", "l0,3,1;");
        notSo("l0,1,0;", "l0,1,100;", "l0,0,1;", "l3,3,1;", "l4,0,1;", "l0,4,1;", "l12,0,1;", "l999,0,1;");
        String link = "l0,1,1;";
        laid(link).due(1, "count 1");
        laid(link.repeat(16)).due(16, "count 1").due(16, "point 0 4").due(0, "point 1 4");
        told(link.repeat(17)).due(16 * 7, "fault").due(NO, "lay").due(6, "count 1");
        told(link.repeat(16) + "c1;" + link).due(16 * 7 + 3, "fault");
        told(link.repeat(18)).due(16 * 7, "fault");
        laid("n2;l0,1,1;l1,0,99;k1,1;").does("step 1").letters(0, 99, 1);
        laid("n2;l0,1,1;l1,0,1;k1,1;").does("step 1").letters(0, 1, 1);
    }

    // ======== the text

    /** A text of just 200 letters but for the last four: twelve points, sixteen links. */
    private static String almostFull() {
        return "n12;" + "l10,11,10;".repeat(16) + "v11,999;".repeat(4);
    }

    /** "THE TEXT is letters (200 at most)"; "FULL: it has 200". */
    private static void theTextHas200AtMost() {
        told(almostFull() + "c01").due(199, "count 11").due(200, "write 59").due(NONE, "fault").due(12, "lay")
            .due(1, "count 9").due(FULL, "write 59").due(200, "count 11").due(NONE, "fault");
        told(almostFull() + "c001").due(200, "count 11").due(196, "fault").due(FULL, "write 59").due(196, "fault").due(NO, "lay");
        told(almostFull() + "c01;c").due(200, "count 11").due(NONE, "fault").due(12, "lay");
        told(almostFull() + "c01;").due(200, "wipe").due(0, "count 11").due(1, "write 110").due(0, "fault");
        told("c1;".repeat(66) + "c1").due(200, "count 11").due(198, "fault");
    }

    /** "A TEXT is ITEMS one behind the other, a ; behind each"; no sign stands between. */
    private static void itemsHaveTheirSigns() {
        fine("", "n4;", "v0,0;", "k0,0;", "w2,0;", "c0;");
        notSo(";", " ", " n4;", "n4", "n4,", "n4:", "n4 ;", "n 4;", "n4,4;", "N4;", "c1", "c1,1;", "x1;", "4;", "~", ",", "nn4;");
        notSo("l0,1;", "l0,1,", "l0,1,1", "l0,1,1,", "l0,1,1,1;", "l0;1;1;", "l0 1 1;", "l0,1 ,1;", "L0,1,1;");
        notSo("v0;", "v0,", "v0,0", "v0,0,0;", "v0;0;", "k0;", "k0,", "k0,0", "k0,0,0;", "w2;", "w2,", "w2,0", "w2,0,0;", "w2,0 ;");
        faults(3, "c1;;", "c1; ", "c1;c", "c1;n", "c1;c1", "c1;c1c1;");
        faults(0, "n4l0,1,1;", "c1c1;");
    }

    /** "numbers have one to three figures". */
    private static void numbersHaveOneToThreeFigures() {
        fine("n4;", "n04;", "n004;", "l0,1,1;", "l00,01,01;", "l000,001,001;", "v0,7;", "v00,07;", "v000,007;", "k3,9;",
            "k03,09;", "k003,009;", "w2,9;", "w02,09;", "w002,009;", "c1;", "c01;", "c001;");
        notSo("n;", "n0004;", "l,1,1;", "l0,,1;", "l0,1,;", "l0000,1,1;", "l0,0001,1;", "l0,1,0001;", "v,0;", "v0,;",
            "v0000,0;", "v0,0000;", "k,0;", "k0,;", "k0000,0;", "k0,0000;", "w,0;", "w2,;", "w0002,0;", "w2,0000;", "c;", "c0000;");
        notSo("n+4;", "n-4;", "n4.;", "na;", "n/;", "n:;", "c/;", "c:;", "n1/;", "n1:;");
        laid("n012;l011,000,099;k001,011;").row("point 11 *", 0, 1).does("step 1").letters(0, 99, 1);
    }

    /** "no other ITEM ahead of it but n, of which the last one counts; 4 without". */
    private static void pointsAreToldFirst() {
        for (String other : new String[] {"l0,1,1;", "v0,0;", "k0,0;", "w2,0;", "c0;"}) {
            faults(other.length(), other + "n4;");
            faults(3 + other.length(), "n4;" + other + "n4;");
        }
        faults(NONE, "n2;n12;", "n12;n2;n4;l3,0,1;");
        faults(6, "n2;n3;n1;", "n5;n3;l3,0,1;", "n5;n3;v3,0;");
        laid("n2;n12;l11,0,1;").due(12, "count 0");
        laid("n12;n2;l0,1,1;").due(2, "count 0").due(BAD, "point 2 0");
        laid("l3,0,1;").due(4, "count 0").due(30, "point 3 0").due(BAD, "point 4 0");
        faults(0, "l4,0,1;", "v4,0;");
    }

    /** "POINT P has VALUE V (10 times P without; of several of a POINT the last one counts)". */
    private static void valuesInTheText() {
        laid("n12;l0,1,1;").row("point * 0", 0, 10, 20, 30, 40, 50, 60, 70, 80, 90, 100, 110);
        laid("n3;l0,1,1;v1,5;v2,6;v1,7;").row("point * 0", 0, 7, 6);
        laid("n3;l0,1,1;v1,999;v1,0;").row("point * 0", 0, 0, 20);
        Told t = laid("n3;l0,1,1;v1,5;");
        t.does("wipe").writes("n3;l0,1,1;").due(3, "lay").row("point * 0", 0, 10, 20);
    }

    /** "the TASK: KIND K (0 to 3), S (0 to 12) (0, 0 without; of several the last one counts)". */
    private static void theTask() {
        fine("k0,0;", "k3,0;", "k0,12;", "k3,12;", "k1,12;");
        notSo("k4,0;", "k0,13;", "k3,13;", "k999,0;", "k0,999;");
        for (int kind = 0; kind < 4; kind++) {
            laid("l0,1,1;k" + kind + ",0;").due(kind, "count 3");
        }
        laid("l0,1,1;").due(0, "count 3");
        laid("l0,1,1;k3,5;k2,1;").due(2, "count 3");
        laid("n2;l0,1,1;k3,5;k3,1;").due(2, "rest 0 0");
        laid("n2;l0,1,1;k3,1;k3,5;").due(6, "rest 0 0");
        laid("n2;l0,1,1;k1,0;k1,1;").row("point * 0", 999, 0);
    }

    /** "M WORKERS, D (0 to 99; 0: POINTS are not sent elsewhere) (2, 0 without; of several the last one counts)". */
    private static void workersInTheText() {
        fine("w1,99;", "w4,99;", "w2,0;");
        notSo("w1,100;", "w4,100;", "w2,999;");
        laid("n12;l0,1,1;").due(2, "count 2").due(1, "point 11 1").due(BAD, "worker 2 0");
        laid("n3;l0,1,1;w4,9;w3,0;").due(3, "count 2").due(2, "point 2 1");
        Told zero = laid("n4;l0,1,1;w2,1;w2,0;").does("move 1 0", "move 3 0", "step 1").due(4, "worker 0 1");
        zero.due(NONE, "sum 0 5").due(0, "count 8");
        Told without = laid("n4;l0,1,1;").does("move 1 0", "move 3 0", "step 1");
        without.due(NONE, "sum 0 5").due(0, "count 8");
        Told one = laid("n4;l0,1,1;w2,0;w2,1;").does("move 1 0", "move 3 0", "step 1");
        one.due(0, "sum 0 5").due(1, "count 8");
        Told gone = laid("n4;l0,1,1;w2,1;").does("wipe").writes("n4;l0,1,1;").does("lay", "move 1 0", "move 3 0", "step 1");
        gone.due(NONE, "sum 0 5");
    }

    /** "LETTERS are COMBINED (1) or not (0) (0 without; of several the last one counts)". */
    private static void combinedInTheText() {
        fine("c0;", "c1;");
        notSo("c2;", "c9;", "c10;", "c999;");
        laid("l0,1,1;").due(0, "count 9");
        laid("l0,1,1;c1;").due(1, "count 9");
        laid("l0,1,1;c1;c0;").due(0, "count 9");
        laid("l0,1,1;c0;c1;").due(1, "count 9");
    }

    /** "FAULT: the place (from 0 on) of the first letter of the first ITEM that is not so (or is one too many)". */
    private static void theFirstFault() {
        faults(0, "x", "x;y;", "n1;n13;", "v4,0;v5,0;");
        faults(3, "n4;x;y;", "n4;n13;n1;");
        faults(11, "n4;v0,5;c1;;", "n4;v0,5;c1;x");
        faults(199, "c1;".repeat(65) + "c01;" + "c");
        faults(192, "c1;".repeat(64) + "c" + "0".repeat(7));
        told("c1;x").due(3, "fault").due(4, "wipe").due(NONE, "fault").writes("c1;").due(NONE, "fault");
        told("n4").due(0, "fault").due(3, "write 59").due(NONE, "fault").due(4, "write 59").due(3, "fault").due(3, "fault");
    }

    /** What is "without" an ITEM is so whatever texts were read ahead of it, laid or not, whole or with a fault. */
    private static void aTextForgetsThoseAheadOfIt() {
        String other = "n12;l11,10,9;l0,1,2;v0,500;v3,600;v11,7;k3,7;w4,5;c1;";
        for (String plain : new String[] {"l3,0,1;", "l0,1,1;c1;", "v3,1;l0,1,1;", "l0,1,1;k3,2;", "l0,1,1;w1,0;"}) {
            for (String ahead : new String[] {"fault", "lay"}) {
                for (String spoilt : new String[] {"", "x"}) {
                    Told t = told(other + spoilt).does(ahead, "wipe").writes(plain).does("lay");
                    same(laid(plain), t);
                    Told again = told(other + spoilt).does(ahead, ahead, "wipe").writes(plain).does("lay", "lay", "step 1");
                    same(laid(plain).does("step 1"), again);
                }
            }
        }
    }

    /** "LAID is a TEXT without FAULT with a LINK at least and, by KIND 1, a POINT S (NO else ..)". */
    private static void whatCanBeLaid() {
        told("").due(NO, "lay");
        told("n2;v0,1;k0,0;w1,0;c1;").due(NONE, "fault").due(NO, "lay").due(5, "count 0");
        told("l0,1,1;x").due(7, "fault").due(NO, "lay");
        told("l0,1,1").due(NO, "lay").due(7, "write 59").due(4, "lay");
        for (int n = 2; n <= 12; n++) {
            String ahead = "n" + n + ";l0,1,1;";
            told(ahead + "k1," + (n - 1) + ";").due(n, "lay").due(0, "point " + (n - 1) + " 0").due(999, "point 0 0");
            told(ahead + "k1," + n + ";").due(NONE, "fault").due(NO, "lay").due(5, "count 0");
            for (int kind = 0; kind < 4; kind += kind == 0 ? 2 : 1) {
                told(ahead + "k" + kind + ",12;").due(n, "lay");
            }
        }
        told("n2;l0,1,1;k1,2;k0,2;").due(2, "lay");
        told("n2;l0,1,1;k1,2;k1,1;").due(2, "lay");
        told("n2;l0,1,1;k1,1;k1,2;").due(NO, "lay");
        told("l0,1,1;k1,4;").due(NO, "lay");
        told("l0,1,1;k1,3;").due(4, "lay");
        told("k1,0;l0,1,1;").due(4, "lay");
    }

    /** "no STEP was done, there are no LETTERS, all POINTS are FRESH; by KIND 1 VALUE of S is 0, of all others 999". */
    private static void laidAnew() {
        Told t = laid("n3;l0,1,1;l2,1,1;v1,4;k3,2;w2,1;c1;");
        t.does("value 0 77", "move 2 1", "step 1", "combine 0", "step 1").due(3, "lay");
        t.row("count *", 3, 2, 2, 3, 0, 3, 0, 0, 0, 1, 0, 35);
        t.row("point * 0", 0, 4, 20).row("point * 1", 0, 1, 0).row("point * 2", 0, 0, 0).row("point * 3", 1, 1, 1);
        t.row("point * 4", 1, 0, 1).row("point * 5", 0, 0, 0).row("point * 6", 0, 0, 0);
        t.row("worker * 1", 0, 0).due(NONE, "sum 0 0").due(NONE, "letter 1 0 0").due(NO, "undo");
        t.due(1, "step 1").due(NONE, "sum 1 0").row("point * 0", 0, 4, 20).row("point * 6", 1, 1, 1);
        laid("n3;l0,1,1;k1,1;v0,5;v1,6;v2,7;").row("point * 0", 999, 0, 999);
        laid("n3;v0,5;v1,6;v2,7;l0,1,1;k1,2;").row("point * 0", 999, 999, 0);
        Told over = laid("n2;l0,1,1;").does("step 20").due(NO, "step 1").due(2, "lay").due(2, "step 20");
        over.due(2, "count 4");
    }

    /** "at first n5;l0,1,4;..": a new object is as if that had been told and laid. */
    private static void laidAtFirst() {
        for (String[] calls : new String[][] {{}, {"step 1"}, {"step 3", "value 2 1", "step 1"}, {"move 0 1", "combine 0", "step 20"}}) {
            same(fresh().does(calls), laid(FIRST).does("wipe").does(calls));
        }
    }

    // ======== 2

    /** "those POINTS work that are AWAKE (who is FRESH, did not SLEEP, or has LETTERS)". */
    private static void whoIsAwake() {
        Told t = laid("n3;l0,1,1;v0,5;v1,9;v2,1;").row("point * 3", 1, 1, 1).due(3, "count 5").does("step 1");
        t.row("point * 3", 0, 1, 0).due(1, "count 5").due(1, "step 1").due(1, "sum 0 0").due(3, "sum 1 0");
        t.row("point * 3", 0, 0, 0).due(0, "count 5").row("point * 6", 1, 2, 1).row("point * 5", 0, 2, 0);
        t.due(1, "value 2 1").row("point * 3", 0, 0, 1).due(1, "step 20").row("point * 6", 1, 2, 1);
        laid("n3;l0,1,1;k3,1;").does("step 1").row("point * 2", 0, 1, 0).row("point * 3", 1, 1, 1).due(3, "count 5");
    }

    /** "by LETTERS that were sent in the STEP ahead (and by VALUES of their own alone); what they send comes in the STEP behind it". */
    private static void lettersOfTheStepAheadAlone() {
        Told up = laid("n3;l0,1,1;l1,2,1;v0,9;v1,0;v2,0;").does("step 1").row("point * 0", 9, 0, 0).does("step 1");
        up.row("point * 0", 9, 9, 0).does("step 1").row("point * 0", 9, 9, 9).due(NO, "step 1");
        Told down = laid("n3;l2,1,1;l1,0,1;v0,0;v1,0;v2,9;").does("step 1").row("point * 0", 0, 0, 9).does("step 1");
        down.row("point * 0", 0, 9, 9).does("step 1").row("point * 0", 9, 9, 9).due(NO, "step 1");
        Told both = laid("n2;l0,1,1;l1,0,1;v0,3;v1,8;k3,5;").does("step 1").letters(0, 8, 1).letters(1, 3, 0).does("step 1");
        both.row("point * 0", 21, 17).letters(0, 17, 1).letters(1, 21, 0).due(2, "count 6");
    }

    /** "if the greatest (2: least) of its LETTERS is above (2: below) its VALUE, that is its VALUE." */
    private static void aboveAndBelow() {
        for (int own = 4; own <= 6; own++) {
            String graph = "n3;l0,1,1;l1,2,1;v0,5;v1," + own + ";";
            boolean above = own < 5, below = own > 5;
            laid(graph + "k0,0;").does("step 2").due(above ? 5 : own, "point 1 0").due(above ? 1 : 0, "count 6")
                .due(above ? 1 : 0, "point 2 2");
            laid(graph + "k2,0;").does("step 2").due(below ? 5 : own, "point 1 0").due(below ? 1 : 0, "sum 0 2");
        }
        String three = "n4;l0,3,1;l1,3,1;l2,3,1;v0,6;v1,8;v2,7;v3,7;";
        laid(three + "k0,0;").does("step 2").due(8, "point 3 0");
        laid(three + "k2,0;").does("step 2").due(6, "point 3 0");
        laid("n2;l0,1,1;v0,999;v1,998;k0,0;").does("step 2").due(999, "point 1 0");
        laid("n2;l0,1,1;v0,0;v1,1;k2,0;").does("step 2").due(0, "point 1 0");
        laid("n2;l0,1,1;v0,0;v1,0;k0,0;").does("step 2").due(0, "point 1 0").due(0, "sum 0 1");
    }

    /** "If so, or if it is FRESH, it sends its VALUE by each of its LINKS. It SLEEPS." */
    private static void whoSends() {
        for (int kind = 0; kind <= 2; kind += 2) {
            Told t = laid("n4;l0,1,1;l1,2,9;l1,3,1;l1,2,1;v0,5;v1,5;v2,5;v3,5;k" + kind + ",0;").due(1, "step 1");
            t.due(4, "count 6").letters(1, 5, 0).letters(2, 5, 1, 5, 1).letters(3, 5, 1).due(1, "step 1").due(0, "count 6");
            t.does("value 0 5").due(1, "step 1").letters(1, 5, 0).does("value 1 5").due(1, "step 1");
            t.due(3, "count 6").letters(2, 5, 1, 5, 1).due(1, "step 20").due(0, "count 5");
        }
        laid("n2;l0,1,1;v1,9;").does("step 1").due(0, "point 0 3").due(0, "point 0 2").letters(1, 0, 0);
    }

    /** "it sends VALUE and LONG together (999 at most)". */
    private static void nearestIs999AtMost() {
        int[][] sums = {{0, 1, 1}, {0, 99, 99}, {997, 1, 998}, {998, 1, 999}, {899, 99, 998}, {900, 99, 999}, {901, 99, 999}, {998, 99, 999}};
        for (int[] s : sums) {
            laid("n2;l0,1," + s[1] + ";k1,0;").does("value 0 " + s[0], "step 1").letters(1, s[2], 0).does("step 1")
                .due(s[2], "point 1 0");
        }
    }

    /** "one that is FRESH only sends if its VALUE is below 999". */
    private static void freshAt999SendsNothing() {
        laid("n2;l0,1,1;k1,0;").does("value 0 999", "step 1").due(0, "count 6").due(0, "point 0 3").due(1, "point 0 6");
        laid("n2;l0,1,1;k1,0;").does("value 0 998", "step 1").due(1, "count 6");
        String chain = "n3;l0,1,5;l1,2,5;k1,0;";
        laid(chain).does("step 1").due(1, "count 6").letters(1, 5, 0);
        laid(chain).does("step 1", "value 1 999", "step 1").due(5, "point 1 0").letters(2, 10, 1);
        laid(chain).does("value 0 994", "step 1").letters(1, 999, 0).does("value 1 999", "step 1").due(0, "count 6");
        laid(chain).does("value 0 993", "step 1").letters(1, 998, 0).does("value 1 999", "step 1").letters(2, 999, 1);
        laid(chain).does("value 0 999", "value 1 7", "step 1").due(1, "count 6").letters(2, 12, 1);
    }

    /** "likewise as 2": a way that is as long is not below. */
    private static void nearestTakesWhatIsBelow() {
        for (int longer = 2; longer <= 4; longer++) {
            Told t = laid("n4;l0,2,5;l0,1,2;l1,2," + longer + ";l2,3,1;k1,0;").does("step 2").letters(2, 2 + longer, 1);
            t.letters(3, 6, 0).does("step 1").due(Math.min(5, 2 + longer), "point 2 0").due(longer < 3 ? 1 : 0, "count 6");
        }
    }

    /** "if it has LETTERS or is not FRESH, its VALUE is 15 and 17 times the sum of its LETTERS by 20, cut, together (999 at most)". */
    private static void rankIs999AtMost() {
        int[][] sums = {{0, 0, 15}, {0, 1, 15}, {1, 1, 16}, {10, 9, 31}, {10, 10, 32}, {11, 10, 32}, {999, 157, 997},
            {999, 158, 998}, {999, 159, 999}, {999, 160, 999}, {999, 999, 999}};
        for (int[] s : sums) {
            String graph = "n3;l0,2,1;l1,2,1;v0," + s[0] + ";v1," + s[1] + ";k3,1;c";
            laid(graph + "0;").does("step 2").due(s[2], "point 2 0");
            laid(graph + "1;").does("step 2").due(s[2], "point 2 0");
            laid(graph + "0;").does("step 1", "value 2 500", "step 1").due(s[2], "point 2 0");
        }
        laid("n2;l0,1,1;v0,300;v1,400;k3,1;").does("step 1").row("point * 0", 300, 400).does("step 1").row("point * 0", 15, 270);
        laid("n2;l0,1,1;k3,1;").does("step 20", "value 1 999", "step 1").due(999, "point 1 0").does("step 1").due(15, "point 1 0");
        laid("n2;l0,1,1;v0,500;k3,1;").does("step 1", "value 1 700", "step 1").due(440, "point 1 0");
        laid("n2;l0,1,1;v0,0;k3,1;").does("step 1", "value 1 700", "step 1").due(15, "point 1 0");
    }

    /** "If it has worked S times or less with this one (since it was FRESH last), it sends .. and does not SLEEP; else it SLEEPS." */
    private static void rankWorksSTimes() {
        for (int s = 0; s <= 12; s++) {
            Told t = laid("n3;l0,1,1;l1,0,1;k3," + s + ";").due(s + 1, "rest 0 0").due(2 * s, "rest 0 1");
            if (s > 0) {
                t.due(s, "step " + s).row("point * 6", s, s, s).row("point * 3", 1, 1, 1).due(2, "count 6");
            }
            t.due(1, "step 20").row("point * 6", s + 1, s + 1, s + 1).row("point * 3", 0, 0, 0).due(2 * s, "count 7");
            t.due(NO, "step 1").due(s + 1, "count 4").does("value 2 3").row("point * 6", s + 1, s + 1, 0);
            t.due(s + 1, "step 20").row("point * 6", s + 1, s + 1, s + 1).due(2 * s, "count 7");
        }
        Told woken = laid("n2;l0,1,1;v0,100;v1,200;k3,1;").due(2, "step 20").row("point * 0", 15, 100);
        woken.does("value 0 40", "step 1").letters(1, 40, 0).row("point * 3", 1, 1).does("step 1").row("point * 0", 15, 49);
        woken.row("point * 6", 2, 3).due(0, "count 6").due(NO, "step 1");
    }

    /** "it sends VALUE by the number of its LINKS, cut, by each of them"; without LINKS it sends nothing and does not SLEEP. */
    private static void sharesAreCut() {
        int[][] shares = {{0, 0}, {2, 0}, {3, 1}, {5, 1}, {6, 2}, {998, 332}, {999, 333}};
        for (int[] s : shares) {
            laid("n4;l0,1,1;l0,2,1;l0,3,1;v0," + s[0] + ";k3,1;").does("step 1").letters(1, s[1], 0).letters(3, s[1], 0);
        }
        int[][] sixteenths = {{15, 0}, {16, 1}, {31, 1}, {32, 2}, {999, 62}};
        for (int[] s : sixteenths) {
            laid("n2;" + "l0,1,1;".repeat(16) + "v0," + s[0] + ";k3,1;").does("step 1").due(16, "point 1 2")
                .due(s[1], "letter 1 0 0").due(s[1], "letter 1 15 0");
        }
        laid("n2;l0,1,1;k3,2;").does("step 1").due(1, "count 6").due(1, "point 1 3").does("step 1").due(1, "point 1 3");
        laid("n3;l0,1,1;k3,1;").does("step 1").due(0, "point 2 2").due(1, "point 2 3").does("step 1").due(15, "point 2 0");
    }

    private static final String FIVE_TO_ONE = "n6;l0,5,9;l2,5,1;l4,5,5;l1,5,7;l3,5,2;l0,4,30;v0,3;v1,8;v2,1;v3,2;v4,7;v5,0;w2,0;";

    /** "COMBINED are LETTERS of one STEP from POINTS of one WORKER to one POINT: they are one, the greatest .., the least .., the sum". */
    private static void combinedByWorkerAndPoint() {
        laid(FIVE_TO_ONE + "k0,0;c1;").does("step 1").letters(5, 7, 0, 8, 1).letters(4, 3, 0).due(3, "count 6");
        laid(FIVE_TO_ONE + "k2,0;c1;").does("step 1").letters(5, 1, 0, 2, 1).letters(4, 3, 0);
        laid(FIVE_TO_ONE + "k3,1;c1;").does("step 1").letters(5, 9, 0, 10, 1).letters(4, 1, 0);
        Told near = laid(FIVE_TO_ONE + "k1,0;c1;").does("value 2 20", "value 4 10", "value 1 3", "value 3 9", "step 1");
        near.letters(5, 9, 0, 10, 1).letters(4, 30, 0);
        laid(FIVE_TO_ONE + "k0,0;c0;").does("step 1").letters(5, 1, 0, 2, 1, 3, 0, 7, 0, 8, 1).letters(4, 3, 0);
        laid(FIVE_TO_ONE + "k0,0;c1;").does("move 1 0", "step 1").letters(5, 2, 1, 8, 0);
        laid(FIVE_TO_ONE + "k0,0;c1;").does("move 1 0", "move 3 0", "step 1").letters(5, 8, 0);
        laid("n2;l0,1,1;l0,1,1;v0,9;k3,1;c1;").does("step 1").letters(1, 8, 0);
        laid("n2;l0,1,9;l0,1,4;k1,0;c1;").does("step 1").letters(1, 4, 0);
        laid("n4;l0,3,1;l1,3,1;l2,3,1;v0,999;v1,999;v2,999;k3,1;w1,0;c1;").does("step 1").letters(3, 2997, 0);
        laid("n2;l0,1,1;l0,1,1;v0,0;k0,0;c1;").does("step 1").letters(1, 0, 0);
    }

    /** "SENT are LETTERS as they are then; CROSS those to a POINT of another WORKER." */
    private static void sentAndCross() {
        laid(FIVE_TO_ONE + "k0,0;c1;").does("step 1").row("sum 0 *", 6, 0, 3, 1, 21, NONE).due(3, "count 7");
        laid(FIVE_TO_ONE + "k0,0;c0;").does("step 1").row("sum 0 *", 6, 0, 6, 3, 21, NONE).due(6, "count 7");
        laid("n4;l0,1,1;l1,2,1;l2,3,1;w1,0;").does("step 1").due(3, "sum 0 2").due(0, "sum 0 3");
        laid("n4;l0,1,1;l1,2,1;l2,3,1;w4,0;").does("step 1").due(3, "sum 0 2").due(3, "sum 0 3");
        Told behind = laid("n3;l1,0,1;l0,1,1;v0,5;v1,6;w2,2;").does("move 1 0", "step 1").row("sum 0 *", 3, 0, 2, 0, 31, 0);
        behind.due(1, "point 0 1").letters(0, 6, 0).letters(1, 5, 0).does("move 1 1").due(0, "sum 0 3").letters(0, 6, 0);
    }

    /** "LOAD of a POINT in a STEP: 1 and how many LETTERS it had, if it was AWAKE, else 0; of a WORKER: of its POINTS together." */
    private static void loads() {
        Told t = laid("n4;l0,1,1;l0,1,1;l2,1,1;l2,3,1;v0,5;v1,0;v2,5;v3,0;").row("point * 5", 0, 0, 0, 0).row("worker * 1", 0, 0);
        t.does("step 1").row("point * 5", 1, 1, 1, 1).row("worker * 1", 2, 2);
        t.does("step 1").row("point * 5", 0, 4, 0, 2).row("worker * 1", 0, 6);
        t.does("value 0 5", "step 1").row("point * 5", 1, 0, 0, 0).row("worker * 1", 1, 0);
        laid("n2;" + "l0,1,1;".repeat(16)).does("step 2").row("point * 5", 0, 17);
        laid("n2;" + "l0,1,1;".repeat(16) + "c1;").does("step 2").row("point * 5", 0, 2);
        Told all = laid("n12;" + "l0,11,1;".repeat(16) + "w1,0;").does("step 1").due(12, "worker 0 1");
        for (int p = 0; p < 12; p++) {
            all.does("value " + p + " 0");
        }
        all.does("step 1").due(28, "worker 0 1").due(17, "point 11 5").due(1, "point 10 5");
    }

    /** Two steps are done; in the second, point 1 had three letters and point 3 one, all of worker 1, and others none. */
    private static Told uneven(String workers) {
        return laid("n4;l0,1,1;l0,1,1;l2,1,1;l2,3,1;v0,5;v1,0;v2,5;v3,0;" + workers).does("step 2");
    }

    /** "if D is above 0"; "if LOAD of A is D or more above that of B". */
    private static void dOrMoreAbove() {
        int[][] gaps = {{0, NONE}, {1, 1}, {5, 1}, {6, 1}, {7, NONE}, {99, NONE}};
        for (int[] gap : gaps) {
            Told t = uneven("w2," + gap[0] + ";").row("worker * 1", 0, 6).due(gap[1], "sum 0 5").due(NONE, "sum 1 5");
            t.due(gap[1] == NONE ? 1 : 0, "point 1 1").due(gap[1] == NONE ? 0 : 1, "count 8").due(1, "point 3 1");
        }
        for (int d = 27; d <= 29; d++) {
            Told t = laid("n12;" + "l0,11,1;".repeat(16) + "w2," + d + ";");
            t.does("move 1 0", "move 3 0", "move 5 0", "move 7 0", "move 9 0", "move 11 0", "step 1").due(NONE, "sum 0 5");
            for (int p = 0; p < 12; p++) {
                t.does("value " + p + " 0");
            }
            t.does("step 1").row("worker * 1", 28, 0).due(d < 29 ? 11 : NONE, "sum 0 5").due(d < 29 ? 1 : 0, "point 11 1");
        }
        uneven("w1,1;").due(6, "worker 0 1").due(NONE, "sum 0 5").due(0, "count 8");
        Told alike = laid("n4;l0,1,1;w4,1;").does("step 1").row("worker * 1", 1, 1, 1, 1).due(NONE, "sum 0 5");
        alike.row("point * 1", 0, 1, 2, 3);
    }

    /** All points of this graph sleep, and those that are told anew then have a load of 1. */
    private static Told asleep(String graph) {
        return laid(graph).does("step 2").due(0, "count 5");
    }

    /** "A is the WORKER of the greatest LOAD, B that of the least, of several the lowest". */
    private static void ofSeveralTheLowestWorker() {
        Told greatest = asleep("n8;l0,1,1;w4,2;").does("value 1 5", "value 5 5", "value 2 5", "value 6 5", "step 1");
        greatest.row("worker * 1", 0, 2, 2, 0).due(1, "sum 0 5").due(0, "point 1 1").row("worker * 0", 3, 1, 2, 2);
        Told last = asleep("n8;l0,1,1;w4,2;").does("value 3 5", "value 7 5", "value 0 5", "step 1").row("worker * 1", 1, 0, 0, 2);
        last.due(3, "sum 0 5").due(1, "point 3 1").row("worker * 2", 17, 42, 68, 128);
        Told first = asleep("n8;l0,1,1;w4,1;").does("value 0 5", "value 4 5", "value 1 5", "value 2 5", "step 1");
        first.row("worker * 1", 2, 1, 1, 0).due(0, "sum 0 5").due(3, "point 0 1");
        laid("n2;l0,1,1;w4,1;").does("move 1 0", "step 1").row("worker * 1", 2, 0, 0, 0).due(0, "sum 0 5").due(1, "point 0 1");
    }

    /** "whose LOAD is above 0 and below that difference, the greatest such, of several the lowest POINT; nothing, if there is none". */
    private static void whichPointIsSent() {
        asleep("n4;l0,1,1;w2,1;").does("value 1 5", "step 1").row("worker * 1", 0, 1).due(NONE, "sum 0 5").row("point * 1", 0, 1, 0, 1);
        asleep("n4;l0,1,1;w2,2;").does("value 1 5", "value 3 5", "step 1").row("worker * 1", 0, 2).due(1, "sum 0 5")
            .row("point * 1", 0, 0, 0, 1);
        asleep("n4;l0,1,1;w2,2;").does("value 0 5", "value 2 5", "step 1").row("worker * 1", 2, 0).due(0, "sum 0 5");
        asleep("n12;l0,1,1;w2,2;").does("value 9 5", "value 11 5", "step 1").due(9, "sum 0 5").row("worker * 0", 7, 5);
        String alone = "n4;l0,1,1;l0,3,1;l2,3,1;v0,50;v1,0;v2,50;v3,0;";
        laid(alone + "w2,1;").does("step 2").row("point * 5", 0, 2, 0, 3).due(3, "sum 0 5");
        laid(alone + "w3,1;").does("step 2").row("worker * 1", 3, 2, 0).due(NONE, "sum 0 5");
        laid(alone + "w4,1;").does("step 2").row("worker * 1", 0, 2, 0, 3).due(NONE, "sum 0 5").due(0, "count 8");
        Told equal = laid(alone + "w2,1;").does("step 1", "value 0 50", "step 1").row("worker * 1", 1, 5).due(3, "sum 0 5");
        equal.due(0, "point 3 1");
        Told below = laid(alone + "w2,1;").does("step 1", "value 0 50", "value 2 50", "step 1").row("worker * 1", 2, 5);
        below.row("point * 5", 1, 2, 1, 3).due(1, "sum 0 5").row("point * 1", 0, 0, 0, 1);
    }

    /** "that POINT of A is sent to B (LETTERS that come to it stay)". */
    private static void lettersStayWithThePointSent() {
        Told t = laid("n3;l1,0,1;l2,0,1;v0,0;v1,6;v2,7;w2,2;").does("move 1 0", "step 1").due(0, "sum 0 5").due(1, "point 0 1");
        t.letters(0, 6, 0, 7, 0).due(2, "count 6").due(1, "step 1").due(7, "point 0 0").row("worker * 1", 0, 3);
        t.due(NONE, "sum 0 5").due(1, "count 8").due(0, "sum 1 5");
    }

    /** "POINTS sent elsewhere so far": a point that is sent a second time counts again. */
    private static void sentAgain() {
        Told t = asleep("n4;l0,1,1;w2,2;").does("value 1 5", "value 3 5", "step 1").due(0, "point 1 1").due(1, "count 8");
        t.does("value 1 5", "value 2 5", "step 1").due(1, "sum 0 5").due(1, "sum 1 5").due(1, "point 1 1").due(2, "count 8");
        t.due(3, "undo").due(1, "count 8").due(0, "point 1 1").does("undo", "undo").due(1, "count 8").due(0, "undo").due(0, "count 8");
    }

    /** "OVER is it when no POINT is AWAKE." "fewer if it is OVER ahead of that"; "NO: it is OVER". */
    private static void over() {
        Told t = laid("n2;l0,1,1;v0,9;").due(1, "step 1").due(1, "count 5").due(1, "step 2").due(0, "count 5").due(NO, "step 1");
        t.due(NO, "step 20").due(2, "count 4").due(2, "count 10").due(0, "rest 0 0").does("value 0 9").due(2, "step 3");
        laid("n2;l0,1,1;v0,9;").due(2, "step 2").due(NO, "step 1");
        laid("n2;l0,1,1;v0,9;").due(2, "step 3").due(NO, "step 1").due(0, "undo").due(2, "step 2");
    }

    // ======== 3

    /** Twelve points one behind the other in a ring: the longest way that a value can go. */
    private static String ring() {
        StringBuilder text = new StringBuilder("n12;");
        for (int p = 0; p < 12; p++) {
            text.append('l').append(p).append(',').append((p + 1) % 12).append(",1;");
        }
        return text.toString();
    }

    /** "REST: STEPS from now on until it is OVER (60 at most): how many; LETTERS that are SENT in them, COMBINED or not as told." */
    private static void rests() {
        laid(ring() + "v0,999;").row("rest 0 *", 13, 23, 11988).due(13, "step 20");
        laid(ring() + "v0,0;v1,5;k2,0;").due(13, "rest 0 0").due(0, "rest 0 2");
        laid(ring() + "k1,0;").row("rest 0 *", 13, 12, 66);
        laid(ring() + "k3,12;").row("rest 0 *", 13, 144).due(13, "step 20").due(0, "rest 0 0").due(0, "rest 1 1");
        Told t = laid(FIVE_TO_ONE + "k0,0;c1;").row("rest 0 *", 2, 3, 29).row("rest 1 *", 2, 6, 29).does("step 1");
        t.row("rest 0 *", 1, 0, 29).row("rest 1 *", 1, 0, 29).does("step 1").row("rest 0 *", 0, 0, 29).row("rest 1 *", 0, 0, 29);
        t.does("value 0 500", "value 2 600").row("rest 0 *", 3, 3, 2210).row("rest 1 *", 3, 4, 2210);
        laid(FIVE_TO_ONE + "k0,0;c1;").does("combine 0").due(6, "rest 0 1").due(3, "rest 1 1").due(0, "count 9");
    }

    /** REST tells what comes when the steps are done; "COMBINED or not as told now (other = 0), the other way (1)". */
    private static void restIsWhatComes() {
        for (Start start : STARTS) {
            for (int other = 0; other < 2; other++) {
                Told t = start.make();
                int steps = t.ask("rest " + other + " 0"), sent = t.ask("rest " + other + " 1"), values = t.ask("rest " + other + " 2");
                int sentAhead = t.ask("count 7"), stepsAhead = t.ask("count 4");
                if (other == 1) {
                    t.does("combine " + (1 - t.ask("count 9")));
                }
                t.due(steps == 0 ? NO : steps, "step 20").due(stepsAhead + steps, "count 4").due(sentAhead + sent, "count 7");
                int together = 0;
                for (int p = 0; p < t.ask("count 0"); p++) {
                    together += t.ask("point " + p + " 0");
                }
                t.due(together, "rest 0 2");
                if (together != values) {
                    complain(t.story() + " come to values of " + together + ", rest told " + values);
                }
            }
        }
    }

    /** "STEPS of one call": n steps of one call are as n calls of one step. */
    private static void stepsAreAsOneByOne() {
        for (Start start : STARTS) {
            for (int n = 2; n <= 20; n += 3) {
                Told at = start.make().does("step " + n), one = start.make();
                for (int i = 0; i < n; i++) {
                    one.does("step 1");
                }
                sameButForUndo(at, one);
            }
        }
    }

    /** "UNDONE is the latest change (STEPS of one call at once; the last 4 can be; behind LAID none can be)." */
    private static void theLastFourCanBeUndone() {
        fresh().due(NO, "undo").due(0, "count 10");
        Told t = fresh().does("value 0 1").due(1, "count 10").does("value 0 2").due(2, "count 10").does("value 0 3").due(3, "count 10");
        t.does("value 0 4").due(4, "count 10").does("value 0 5").due(4, "count 10").does("value 0 6").due(4, "count 10");
        t.due(3, "undo").due(5, "point 0 0").due(2, "undo").due(4, "point 0 0").due(1, "undo").due(3, "point 0 0");
        t.due(0, "undo").due(2, "point 0 0").due(NO, "undo").due(2, "point 0 0").due(0, "count 10");
        t.does("value 0 7").due(1, "count 10").due(0, "undo").due(2, "point 0 0").due(NO, "undo");
        Told mixed = fresh().does("value 0 1", "value 0 2", "value 0 3").due(2, "undo").does("value 0 8", "value 0 9").due(4, "count 10");
        mixed.due(3, "undo").due(8, "point 0 0").due(2, "undo").due(2, "point 0 0").due(1, "undo").due(1, "point 0 0").due(0, "undo");
        mixed.due(0, "point 0 0").due(NO, "undo");
        laid("l0,1,1;").does("value 0 1", "value 0 2", "value 0 3", "value 0 4").due(4, "count 10").due(4, "lay").due(0, "count 10")
            .due(NO, "undo").does("value 0 5").due(0, "undo").due(0, "point 0 0");
    }

    /** "A change: STEPS, a VALUE told anew .., a POINT told to be with another WORKER, COMBINED or not." Each brings all back. */
    private static void eachChangeIsUndone() {
        String[] changes = {"step 1", "step 2", "step 20", "value 0 999", "value 11 0", "value 5 50", "move 0 1", "move 11 2", "combine 0"};
        String[][] aheads = {{}, {"step 1"}, {"step 2", "value 3 400"}, {"step 12"}, {"step 20", "value 11 999"},
            {"value 1 1", "step 5", "move 4 3", "combine 0", "combine 1", "step 1"}};
        for (String graph : new String[] {SHARES, GREATEST_OF_TWELVE}) {
            for (String[] ahead : aheads) {
                for (String change : changes) {
                    undoes(graph, ahead, change);
                }
            }
        }
    }

    private static void undoes(String graph, String[] ahead, String change) {
        for (String[] next : new String[][] {{}, {"step 1"}, {"step 20"}}) {
            Told a = laid(graph).does(ahead), b = laid(graph).does(ahead);
            int could = a.ask("count 10");
            if (b.ask(change) < 0) {
                b.due(could, "count 10");
            } else {
                b.due(Math.min(3, could), "undo");
            }
            sameButForUndo(a.does(next), b.does(next));
        }
    }

    private static final String SHARES = "n12;l0,1,1;l1,2,1;l2,0,1;l3,1,1;l4,1,1;l11,1,1;l5,6,1;l6,11,1;v0,999;v3,500;k3,12;w4,3;c1;";
    private static final String GREATEST_OF_TWELVE = "n12;l11,10,1;l10,9,1;l9,8,1;l8,7,1;l7,6,1;l6,5,1;l3,2,1;l1,2,1;l5,2,1;w3,1;c1;";

    /** "(what is UNDONE counts not)"; "STEPS of one call at once". */
    private static void undoneStepsCountNot() {
        Told t = laid(SHARES).does("step 3").due(3, "count 4");
        int sent = t.ask("count 7"), elsewhere = t.ask("count 8");
        t.due(10, "step 20").due(13, "count 4").due(1, "undo").due(3, "count 4");
        t.due(sent, "count 7").due(elsewhere, "count 8").due(0, "undo").row("count *", 12, 8, 4, 3, 0, 12, 0, 0, 0, 1, 0);
        Told letters = laid(FIVE_TO_ONE + "k0,0;").does("step 1", "step 1", "value 0 44", "step 1").letters(5, 44, 0).letters(4, 44, 0);
        letters.does("undo").letters(5).does("undo", "undo").letters(5, 1, 0, 2, 1, 3, 0, 7, 0, 8, 1).letters(4, 3, 0);
        Told workers = laid("n3;l0,2,1;l1,2,1;v0,5;v1,6;").does("step 1", "move 0 1", "value 0 7", "value 1 3", "step 1");
        workers.letters(2, 3, 1, 7, 1).does("undo", "undo", "undo", "undo").letters(2, 5, 0, 6, 1);
    }

    // ======== BAD, NO, NONE, FULL

    /** "Of several the first in this order". */
    private static void theFirstInThisOrder() {
        told("n".repeat(200)).due(FULL, "write 32").due(BAD, "write 31").due(BAD, "write 127");
        laid("n2;l0,1,1;").does("step 20").due(NO, "step 1").due(BAD, "step 0").due(BAD, "step 21");
        fresh().due(NO, "move 0 0").due(BAD, "move 5 0").due(BAD, "move 0 2").due(BAD, "move 5 2");
        fresh().due(NO, "combine 1").due(BAD, "combine 2");
        fresh().due(NONE, "letter 0 0 0").due(BAD, "letter 0 0 2").due(BAD, "letter 5 0 0").due(BAD, "letter 0 -1 0");
        fresh().due(NONE, "sum 9 5").due(BAD, "sum 9 6").due(BAD, "sum 10 5").due(BAD, "sum -1 0").due(BAD, "sum 0 -1");
        told("x").due(NO, "lay").due(0, "fault");
    }

    private record Start(String text, boolean isLaid, String more, String... calls) {
        Told make() {
            Told t = told(text);
            if (isLaid) {
                t.does("lay");
            }
            return t.writes(more).does(calls);
        }
    }

    private static final List<Start> STARTS = List.of(
        new Start("", false, ""),
        new Start("", false, "n3;l0,1,1;x", "step 2", "value 4 3", "move 2 1", "combine 0", "step 1"),
        new Start("n2;l0,1,1;", true, "", "step 20"),
        new Start("n2;v0,1;", false, "", "step 20"),
        new Start("n2;l0,1,1;k1,2;", false, "", "step 1"),
        new Start(SHARES, true, "c1", "step 12", "value 0 7", "step 5", "move 7 0"),
        new Start(GREATEST_OF_TWELVE, true, "", "step 1"),
        new Start(almostFull(), false, "c001", "value 1 5"));

    private static final String[][] FUTURES = {{}, {"undo"}, {"undo", "undo"}, {"undo", "undo", "undo"},
        {"undo", "undo", "undo", "undo"}, {"step 1"}, {"step 20"}, {"value 1 1", "step 1"}, {"lay"}, {"write 59", "lay"}, {"wipe"}};

    /** "nothing changes then": behind a refused call all answers are as without it, and so are all that come later. */
    private static void nothingChangesThen() {
        for (Start start : STARTS) {
            for (String call : refusedAlways(start)) {
                unchanged(start, call, BAD);
            }
            for (String call : new String[] {"fault", "lay", "undo", "write 59", "step 1", "combine 0", "combine 1", "move 0 0", "move 1 1"}) {
                int answer = start.make().ask(call);
                if (answer < 0) {
                    unchanged(start, call, answer);
                }
            }
        }
    }

    /** What is only looked at changes nothing either. */
    private static void looksChangeNothing() {
        String[] looks = {"fault", "point 0 0", "point 1 6", "letter 1 0 0", "letter 1 " + HIGHEST + " 1", "worker 0 2", "sum 0 0",
            "sum 9 5", "rest 0 0", "rest 0 2", "rest 1 0", "rest 1 1", "count 11"};
        for (Start start : STARTS) {
            for (String look : looks) {
                unchanged(start, look, start.make().ask(look));
            }
        }
    }

    private static void unchanged(Start start, String call, int want) {
        for (String[] future : FUTURES) {
            Told a = start.make(), b = start.make().due(want, call);
            for (String next : future) {
                b.due(a.ask(next), next);
            }
            same(a, b);
        }
    }

    private static List<String> refusedAlways(Start start) {
        Told t = start.make();
        int n = t.ask("count 0"), m = t.ask("count 2");
        List<String> all = new ArrayList<>(List.of("write 31", "write 127", "write -1", "write 0", "write " + LOWEST, "write " + HIGHEST,
            "step 0", "step -1", "step 21", "step " + LOWEST, "step " + HIGHEST, "combine -1", "combine 2", "combine " + LOWEST,
            "combine " + HIGHEST, "value 0 -1", "value 0 1000", "value 0 " + LOWEST, "value 0 " + HIGHEST,
            "point 0 -1", "point 0 7", "point 0 " + LOWEST, "point 0 " + HIGHEST, "letter 0 -1 0", "letter 0 " + LOWEST + " 0",
            "letter 0 0 -1", "letter 0 0 2", "letter 0 0 " + HIGHEST, "worker 0 -1", "worker 0 3", "worker 0 " + HIGHEST,
            "sum -1 0", "sum 10 0", "sum " + LOWEST + " 0", "sum " + HIGHEST + " 0", "sum 0 -1", "sum 0 6", "sum 0 " + HIGHEST,
            "rest -1 0", "rest 2 0", "rest " + LOWEST + " 0", "rest " + HIGHEST + " 0", "rest 0 -1", "rest 0 3", "rest 0 " + HIGHEST,
            "count -1", "count 12", "count " + LOWEST, "count " + HIGHEST));
        for (int p : new int[] {-1, n, 12, 13, LOWEST, HIGHEST}) {
            all.addAll(List.of("value " + p + " 0", "move " + p + " 0", "point " + p + " 0", "letter " + p + " 0 0"));
        }
        for (int w : new int[] {-1, m, 4, 5, LOWEST, HIGHEST}) {
            all.addAll(List.of("move 0 " + w, "worker " + w + " 0"));
        }
        return all;
    }

    /** All that can be asked of both objects is answered alike. */
    private static void same(Told a, Told b) {
        sameButForUndo(a, b);
        alike(a, b, "count 10");
    }

    /** Likewise, but how many changes can be undone may differ: an older one may have fallen away. */
    private static void sameButForUndo(Told a, Told b) {
        int n = a.ask("count 0");
        for (int what : new int[] {0, 1, 2, 3, 4, 5, 6, 7, 8, 9, 11}) {
            alike(a, b, "count " + what);
        }
        for (int p = 0; p < n; p++) {
            for (int what = 0; what < 7; what++) {
                alike(a, b, "point " + p + " " + what);
            }
            int many = a.ask("point " + p + " 2");
            for (int k = 0; k <= many; k++) {
                alike(a, b, "letter " + p + " " + k + " 0");
                alike(a, b, "letter " + p + " " + k + " 1");
            }
        }
        for (int w = 0; w < 4; w++) {
            for (int what = 0; what < 3; what++) {
                alike(a, b, "worker " + w + " " + what);
            }
        }
        for (int k = 0; k < 10; k++) {
            for (int what = 0; what < 6; what++) {
                alike(a, b, "sum " + k + " " + what);
            }
        }
        for (int what = 0; what < 6; what++) {
            alike(a, b, "rest " + what % 2 + " " + what / 2);
        }
        alike(a, b, "fault");
    }

    private static void alike(Told a, Told b, String call) {
        b.due(a.ask(call), call);
    }

    /** "LAID, THE TEXT stays." */
    private static void laidTheTextStays() {
        Told t = laid("n3;l0,1,1;").due(10, "count 11").due(NONE, "fault").due(3, "lay").due(3, "lay").due(11, "write 107");
        t.due(10, "fault").due(3, "count 0").writes("3,1;").due(15, "count 11").due(0, "count 3").due(3, "lay").due(3, "count 3");
        t.due(15, "wipe").due(3, "count 0").due(3, "count 3").due(NO, "lay").due(3, "count 0").due(2, "step 20");
    }

    // ======== the promises

    /** Promise 1: "As told; THE TEXT is empty." */
    private static void aNewObject() {
        fresh().row("count *", 5, 6, 2, 1, 0, 5, 0, 0, 0, 1, 0, 0).due(NONE, "fault").due(NO, "lay").due(0, "wipe");
        fresh().row("point * 0", 0, 999, 999, 999, 999, BAD).row("point * 1", 0, 1, 0, 1, 0, BAD).row("point * 4", 2, 1, 1, 1, 1, BAD);
        fresh().row("worker * 0", 3, 2, BAD).row("worker * 2", 21, 10, BAD).due(NO, "undo").due(NONE, "sum 0 0");
        fresh().row("rest 0 *", 6, 9, 29).row("rest 1 *", 6, 9, 29).due(1, "write 110");
    }

    /** Promise 2: "A letter (32 to 126, as in ASCII) comes behind THE TEXT: how long it is. BAD; FULL: it has 200." */
    private static void writes() {
        Told t = fresh().due(BAD, "write 31").due(1, "write 32").due(2, "write 126").due(BAD, "write 127").due(BAD, "write -1");
        t.due(BAD, "write 256").due(BAD, "write " + (256 + 'n')).due(BAD, "write " + (65536 + 'n')).due(2, "count 11");
        Told all = fresh();
        for (int letter = 32; letter <= 126; letter++) {
            all.due(letter - 31, "write " + letter);
        }
        for (int i = 96; i <= 200; i++) {
            all.due(i, "write 59");
        }
        all.due(FULL, "write 59").due(FULL, "write 126").due(200, "count 11").due(200, "wipe").due(1, "write 59");
    }

    /** Promise 3: "THE TEXT is empty: how long it was." */
    private static void wipes() {
        fresh().due(0, "wipe").due(0, "wipe").due(1, "write 99").due(1, "wipe").due(0, "wipe").due(NONE, "fault");
        laid("n2;l0,1,1;").does("step 1").due(10, "wipe").due(2, "count 0").due(1, "count 4").due(1, "count 10").due(NO, "lay");
        told("l0,1,1").does("wipe").due(1, "write 59").due(0, "fault");
    }

    /** Promise 6: "n STEPS (1 to 20), fewer if it is OVER ahead of that: how many." */
    private static void steps() {
        for (int n = 1; n <= 20; n++) {
            laid(ring() + "k3,12;").due(Math.min(13, n), "step " + n).due(Math.min(13, n), "count 4").due(1, "count 10")
                .due(n < 13 ? 13 - n : NO, "step 20");
        }
        fresh().due(BAD, "step 0").due(BAD, "step 21").due(BAD, "step -1").due(0, "count 4").due(0, "count 10").due(1, "step 1");
    }

    /** Promise 7: "what it was (the POINT is FRESH, also if it is so)"; "(its POINT is FRESH then, its LETTERS stay)". */
    private static void valuesToldAnew() {
        Told t = laid("n3;l0,1,1;l2,1,1;v0,3;v1,10;v2,2;").does("step 1").due(10, "value 1 10").due(1, "point 1 3");
        t.letters(1, 2, 0, 3, 0).due(0, "point 1 6").due(1, "point 1 5").due(2, "count 10").does("step 1").due(3, "point 1 5");
        t.due(1, "point 1 6").due(NO, "step 1").due(3, "value 0 3").row("point * 3", 1, 0, 0).due(1, "step 1").letters(1, 3, 0);
        fresh().due(0, "value 0 0").due(1, "count 10").due(0, "value 0 0").due(2, "count 10").due(1, "undo").due(0, "undo").due(NO, "undo");
        Told task = laid("n2;l0,1,1;k3,1;").does("step 20").due(0, "point 0 3").does("value 0 80").due(0, "point 0 6").due(1, "step 1");
        task.letters(1, 80, 0);
    }

    /** Promise 8: "A POINT is with a WORKER: with whom it was. BAD; NO: it is so." */
    private static void moves() {
        Told t = laid("n12;l0,11,1;l1,11,1;w4,0;").due(NO, "move 11 3").due(3, "move 11 0").due(NO, "move 11 0").due(0, "move 11 3");
        t.due(2, "count 10").due(0, "count 8").due(NO, "move 0 0").due(0, "move 0 3").due(3, "point 0 1").row("worker * 0", 2, 3, 3, 4);
        t.does("step 1").letters(11, 0, 3, 10, 1).due(1, "sum 0 3").does("move 0 1").letters(11, 0, 3, 10, 1).row("worker * 1", 2, 3, 3, 4);
        laid("n2;l0,1,1;w1,0;").due(NO, "move 0 0").due(NO, "move 1 0").due(BAD, "move 0 1").due(0, "count 10");
        Told empty = laid("n2;l0,1,1;w2,0;").due(0, "move 0 1").row("worker * 0", 0, 2).row("worker * 2", 0, 3);
        empty.does("step 1").row("worker * 1", 0, 2);
    }

    /** Promise 9: "LETTERS that are sent from now on are COMBINED (is = 1) or not (0): how many there are now. BAD; NO: it is so." */
    private static void combines() {
        Told t = laid(FIVE_TO_ONE + "k0,0;c0;").due(NO, "combine 0").does("step 1").due(6, "combine 1").due(6, "count 6");
        t.letters(5, 1, 0, 2, 1, 3, 0, 7, 0, 8, 1).due(NO, "combine 1").due(1, "count 9").does("value 0 50", "value 2 60", "step 1");
        t.letters(5, 60, 0).due(2, "combine 0").due(NO, "combine 0").letters(5, 60, 0).does("value 0 50", "value 2 60", "step 1");
        t.letters(5, 50, 0, 50, 0, 60, 0).does("step 20").due(0, "combine 1").due(BAD, "combine 2").due(BAD, "combine -1").due(1, "count 9");
        laid("l0,1,1;c1;").due(NO, "combine 1").due(0, "combine 0").due(0, "count 9").due(0, "undo").due(1, "count 9");
    }

    /** Promise 11: "1 if it is AWAKE .., else 0 (3), its LINKS (4), LOAD in the last STEP (5; 0: none was done)". */
    private static void looksAtPoints() {
        laid("n12;l11,0,1;l11,1,1;w4,0;").row("point 11 *", 110, 3, 0, 1, 2, 0, 0, BAD).due(BAD, "point 11 -1").due(BAD, "point 12 0")
            .due(BAD, "point 12 7").row("point 0 *", 0, 0, 0, 1, 0, 0, 0, BAD).does("step 1").row("point 11 *", 110, 3, 0, 0, 2, 1, 1, BAD)
            .row("point 0 *", 0, 0, 1, 1, 0, 1, 1, BAD).does("step 1").row("point 0 *", 110, 0, 0, 0, 0, 2, 2, BAD)
            .row("point 11 *", 110, 3, 0, 0, 2, 0, 1, BAD);
    }

    /** Promise 12: "the least first, of like ones that of the lower WORKER"; "BAD (k below 0); NONE: not so many." */
    private static void looksAtLetters() {
        Told t = laid("n6;l5,0,1;l4,0,1;l3,0,1;l2,0,1;l1,0,1;v1,7;v2,7;v3,0;v4,999;v5,7;w3,0;").due(NONE, "letter 0 0 0").does("step 1");
        t.letters(0, 0, 0, 7, 1, 7, 2, 7, 2, 999, 1).due(NONE, "letter 0 5 0").due(NONE, "letter 0 " + HIGHEST + " 1").letters(1);
        t.due(BAD, "letter 0 -1 0").due(BAD, "letter 0 " + LOWEST + " 1").due(BAD, "letter 6 0 0").due(BAD, "letter 0 0 2");
        t.does("step 1").letters(0);
        laid("n2;" + "l0,1,1;".repeat(16) + "v0,5;").does("step 1").due(5, "letter 1 15 0").due(0, "letter 1 15 1").due(NONE, "letter 1 16 0");
    }

    /** Promise 13: "how many POINTS .., LOAD in the last STEP, as its POINTS were then (1; 0: none was done), POINTS as bits". */
    private static void looksAtWorkers() {
        Told all = laid("n12;l0,1,1;w1,0;").row("worker 0 *", 12, 0, 4095, BAD).due(BAD, "worker 0 -1").due(BAD, "worker 1 0");
        all.does("step 1").row("worker 0 *", 12, 12, 4095).does("step 20").row("worker 0 *", 12, 2, 4095);
        Told four = laid("n12;l0,1,1;w4,0;").row("worker * 2", 273, 546, 1092, 2184, BAD).does("step 1", "move 11 0", "move 7 0", "move 3 0");
        four.row("worker * 2", 2457, 546, 1092, 0).row("worker * 0", 6, 3, 3, 0).row("worker * 1", 3, 3, 3, 3);
        laid("n2;l0,1,1;w4,0;").row("worker * 0", 1, 1, 0, 0, BAD).row("worker * 2", 1, 2, 0, 0).does("step 1").row("worker * 1", 1, 1, 0, 0);
    }

    /** Promise 14: "Of the last STEP but k (k 0 to 9)"; "NONE: not so many were done". The rows of sums are used again and again. */
    private static void sumsOfTheLastTen() {
        Told t = laid(SHARES);
        List<int[]> seen = new ArrayList<>();
        for (int i = 0; i < 26; i++) {
            if (i == 13) {
                t.does("value 2 640");
            }
            t.due(1, "step 1");
            int[] sums = new int[6];
            for (int what = 0; what < 6; what++) {
                sums[what] = t.ask("sum 0 " + what);
            }
            seen.add(sums);
            if (i < 9) {
                t.due(NONE, "sum " + (i + 1) + " 0").due(seen.get(0)[4], "sum " + i + " 4");
            }
        }
        int far = seen.size() - 1;
        for (int k = 0; k < 10; k++) {
            t.row("sum " + k + " *", seen.get(far - k));
        }
        t.due(BAD, "sum 10 0").due(BAD, "sum 0 6").due(NO, "step 1");
        Told back = laid(SHARES).does("step 20", "value 2 640").due(13, "step 20").row("sum 9 *", seen.get(16)).due(2, "undo");
        for (int k = 0; k < 10; k++) {
            back.row("sum " + k + " *", seen.get(12 - k));
        }
        laid("n2;l0,1,1;").does("step 1").due(2, "sum 0 0").due(NONE, "sum 1 0").due(NONE, "sum 9 5").due(BAD, "sum 10 0").does("undo")
            .due(NONE, "sum 0 0");
    }

    /** Promise 14: "whose VALUE became another (1) .. VALUES of all POINTS behind it together (4), .. sent elsewhere behind it (5; NONE)". */
    private static void whatAStepSumsUp() {
        laid("n12;l0,1,1;v0,999;" + "v1,999;v2,999;v3,999;v4,999;v5,999;v6,999;v7,999;v8,999;v9,999;v10,999;v11,999;").does("step 1")
            .row("sum 0 *", 12, 0, 1, 1, 11988, NONE).does("step 1").row("sum 0 *", 1, 0, 0, 0, 11988, NONE);
        laid("n2;l0,1,1;v0,0;v1,0;k2,0;").does("step 1").row("sum 0 *", 2, 0, 1, 1, 0, NONE);
        laid("n2;l0,1,1;v0,0;v1,15;k3,1;").does("step 2").row("sum 0 *", 2, 1, 0, 0, 30, NONE);
        laid("n2;l0,1,1;v0,7;v1,5;").does("step 2").row("sum 0 *", 1, 1, 0, 0, 14, NONE).does("value 0 1", "move 1 0").due(14, "sum 0 4");
    }

    /** Promise 16: each count with its last number; "BAD". */
    private static void counts() {
        laid("n12;" + "l0,1,1;".repeat(16) + "w4,1;k3,3;").row("count *", 12, 16, 4, 3, 0, 12, 0, 0, 0, 0, 0, 126, BAD).due(BAD, "count -1")
            .does("step 1").row("count *", 12, 16, 4, 3, 1, 12, 16, 16, 0, 0, 1, 126)
            .does("step 1").row("count *", 12, 16, 4, 3, 2, 12, 16, 32, 1, 0, 2, 126);
    }

    public static void main(String[] args) {
        pointsAreTwoToTwelve();
        valuesAreZeroTo999();
        workersAreOneToFour();
        theLastCallStillAnswers();
        linksAreSixteenAtMost();
        theTextHas200AtMost();
        itemsHaveTheirSigns();
        numbersHaveOneToThreeFigures();
        pointsAreToldFirst();
        valuesInTheText();
        theTask();
        workersInTheText();
        combinedInTheText();
        theFirstFault();
        aTextForgetsThoseAheadOfIt();
        whatCanBeLaid();
        laidAnew();
        laidAtFirst();
        whoIsAwake();
        lettersOfTheStepAheadAlone();
        aboveAndBelow();
        whoSends();
        nearestIs999AtMost();
        freshAt999SendsNothing();
        nearestTakesWhatIsBelow();
        rankIs999AtMost();
        rankWorksSTimes();
        sharesAreCut();
        combinedByWorkerAndPoint();
        sentAndCross();
        loads();
        dOrMoreAbove();
        ofSeveralTheLowestWorker();
        whichPointIsSent();
        lettersStayWithThePointSent();
        sentAgain();
        over();
        rests();
        restIsWhatComes();
        stepsAreAsOneByOne();
        theLastFourCanBeUndone();
        eachChangeIsUndone();
        undoneStepsCountNot();
        theFirstInThisOrder();
        nothingChangesThen();
        looksChangeNothing();
        laidTheTextStays();
        aNewObject();
        writes();
        wipes();
        steps();
        valuesToldAnew();
        moves();
        combines();
        looksAtPoints();
        looksAtLetters();
        looksAtWorkers();
        sumsOfTheLastTen();
        whatAStepSumsUp();
        counts();
        System.out.println(asked + " answers asked, " + wrong + " not as due");
        if (wrong != 0) {
            System.exit(1);
        }
    }
}
