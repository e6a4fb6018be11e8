/** Supersteps over a graph, as ../shared/DOC.md tells them. */
public final class SuperSteps {
    public static final int BAD = -1, NO = -2, FULL = -3, NONE = -4;

    private static final int MOST_POINTS = 12, MOST_LINKS = 16, MOST_WORKERS = 4;
    private static final int MOST_VALUE = 999, MOST_TEXT = 200, MOST_FIGURES = 3;
    private static final int MOST_UNDONE = 4, MOST_AT_ONCE = 20, MOST_REST = 60;
    private static final int SUMS_KEPT = 10, SUMS_EACH = 6;

    private static final int GREATEST = 0, NEAREST = 1, RANK = 3;
    private static final int FRESH = 0, BUSY = 1, ASLEEP = 2;

    private static final String FIRST_TEXT =
        "n5;l0,1,4;l1,2,3;l0,2,9;l2,3,1;l3,4,2;l4,1,1;k1,0;w2,2;c1;";

    private final Text text;
    private Plan laid;
    private Plan spare;
    private final State now;
    private final State trial;
    private final State[] past;
    private int undoable;

    public SuperSteps() {
        text = new Text();
        laid = new Plan();
        spare = new Plan();
        now = new State();
        trial = new State();
        past = new State[MOST_UNDONE];
        for (int i = 0; i < MOST_UNDONE; i++) {
            past[i] = new State();
        }
        for (int i = 0; i < FIRST_TEXT.length(); i++) {
            text.append(FIRST_TEXT.charAt(i));
        }
        if (text.firstFault(spare) == NONE) {
            layWhatWasRead();
        }
        text.length = 0;
    }

    // ---- told

    public int write(int letter) {
        if (letter < 32 || letter > 126) {
            return BAD;
        }
        if (!text.append(letter)) {
            return FULL;
        }
        return text.length;
    }

    public int wipe() {
        int was = text.length;
        text.length = 0;
        return was;
    }

    public int fault() {
        return text.firstFault(spare);
    }

    public int lay() {
        if (text.firstFault(spare) != NONE || !spare.canBeLaid()) {
            return NO;
        }
        layWhatWasRead();
        return laid.points;
    }

    // ---- done

    public int step(int n) {
        if (n < 1 || n > MOST_AT_ONCE) {
            return BAD;
        }
        if (isOver(now)) {
            return NO;
        }
        keepForUndo();
        return advanceAtMost(now, n);
    }

    public int value(int p, int v) {
        if (!isPoint(p) || v < 0 || v > MOST_VALUE) {
            return BAD;
        }
        keepForUndo();
        int was = now.value[p];
        now.value[p] = v;
        now.mood[p] = FRESH;
        now.worked[p] = 0;
        return was;
    }

    public int move(int p, int w) {
        if (!isPoint(p) || !isWorker(w)) {
            return BAD;
        }
        int was = now.worker[p];
        if (was == w) {
            return NO;
        }
        keepForUndo();
        now.worker[p] = w;
        return was;
    }

    public int combine(int is) {
        if (is < 0 || is > 1) {
            return BAD;
        }
        if (now.combined == is) {
            return NO;
        }
        keepForUndo();
        now.combined = is;
        return now.mail.size;
    }

    public int undo() {
        if (undoable < 1 || undoable > MOST_UNDONE) {
            return NO;
        }
        undoable--;
        now.copyFrom(past[undoable]);
        return undoable;
    }

    // ---- looked at

    public int point(int p, int what) {
        if (!isPoint(p)) {
            return BAD;
        }
        switch (what) {
            case 0: return now.value[p];
            case 1: return now.worker[p];
            case 2: return now.mail.countFor(p);
            case 3: return now.isAwake(p) ? 1 : 0;
            case 4: return laid.linksOf(p);
            case 5: return now.load[p];
            case 6: return now.worked[p];
            default: return BAD;
        }
    }

    public int letter(int p, int k, int what) {
        if (!isPoint(p) || k < 0 || what < 0 || what > 1) {
            return BAD;
        }
        int place = now.mail.placeOfRank(p, k);
        if (place < 0 || place >= MOST_LINKS) {
            return NONE;
        }
        return what == 0 ? now.mail.worth[place] : now.mail.sender[place];
    }

    public int worker(int w, int what) {
        if (!isWorker(w)) {
            return BAD;
        }
        switch (what) {
            case 0: return Integer.bitCount(now.pointsOf(w, laid.points));
            case 1: return now.workerLoad[w];
            case 2: return now.pointsOf(w, laid.points);
            default: return BAD;
        }
    }

    public int sum(int k, int what) {
        if (k < 0 || k >= SUMS_KEPT || what < 0 || what >= SUMS_EACH) {
            return BAD;
        }
        if (k >= now.steps) {
            return NONE;
        }
        return now.sums[rowOfStep(now.steps - 1 - k) + what];
    }

    public int rest(int other, int what) {
        if (other < 0 || other > 1 || what < 0 || what > 2) {
            return BAD;
        }
        trial.copyFrom(now);
        if (other == 1) {
            trial.combined = 1 - now.combined;
        }
        int steps = advanceAtMost(trial, MOST_REST);
        if (!isOver(trial)) {
            return NONE;
        }
        switch (what) {
            case 0: return steps;
            case 1: return trial.sent - now.sent;
            default: return trial.totalValue(laid.points);
        }
    }

    public int count(int what) {
        switch (what) {
            case 0: return laid.points;
            case 1: return laid.links;
            case 2: return laid.workers;
            case 3: return laid.kind;
            case 4: return now.steps;
            case 5: return now.countAwake(laid.points);
            case 6: return now.mail.size;
            case 7: return now.sent;
            case 8: return now.sentElsewhere;
            case 9: return now.combined;
            case 10: return undoable;
            case 11: return text.length;
            default: return BAD;
        }
    }

    // ---- behind the face

    private boolean isPoint(int p) {
        return p >= 0 && p < laid.points;
    }

    private boolean isWorker(int w) {
        return w >= 0 && w < laid.workers;
    }

    private boolean isOver(State state) {
        return state.countAwake(laid.points) == 0;
    }

    private void layWhatWasRead() {
        Plan read = spare;
        spare = laid;
        laid = read;
        now.begin(laid);
        undoable = 0;
    }

    private void keepForUndo() {
        if (undoable >= MOST_UNDONE) {
            dropOldest();
        }
        past[undoable].copyFrom(now);
        undoable++;
    }

    private void dropOldest() {
        State oldest = past[0];
        for (int i = 1; i < MOST_UNDONE; i++) {
            past[i - 1] = past[i];
        }
        past[MOST_UNDONE - 1] = oldest;
        undoable = MOST_UNDONE - 1;
    }

    private int advanceAtMost(State state, int most) {
        int done = 0;
        while (done < most && !isOver(state)) {
            state.advance(laid);
            done++;
        }
        return done;
    }

    private static int rowOfStep(int step) {
        return SUMS_EACH * Math.floorMod(step, SUMS_KEPT);
    }

    /** What the letters of a point come to: what it works by, and what combined letters become. */
    private static int together(int kind, int a, int b) {
        if (kind == RANK) {
            return a + b;
        }
        return (kind == GREATEST ? a > b : a < b) ? a : b;
    }

    /** THE TEXT, and the reading of it item by item. */
    private static final class Text {
        final int[] letters = new int[MOST_TEXT];
        int length;
        int at;
        final int[] numbers = new int[3];

        boolean append(int letter) {
            if (length < 0 || length >= MOST_TEXT) {
                return false;
            }
            letters[length] = letter;
            length++;
            return true;
        }

        int firstFault(Plan plan) {
            plan.reset();
            at = 0;
            for (int items = 0; items < MOST_TEXT && at < length; items++) {
                int start = at;
                if (!readItem(plan)) {
                    return start;
                }
            }
            return NONE;
        }

        boolean readItem(Plan plan) {
            int sign = letterAt(at);
            at++;
            switch (sign) {
                case 'n': return readNumbers(1) && plan.takePoints(numbers[0]);
                case 'l': return readNumbers(3) && plan.takeLink(numbers[0], numbers[1], numbers[2]);
                case 'v': return readNumbers(2) && plan.takeValue(numbers[0], numbers[1]);
                case 'k': return readNumbers(2) && plan.takeTask(numbers[0], numbers[1]);
                case 'w': return readNumbers(2) && plan.takeWorkers(numbers[0], numbers[1]);
                case 'c': return readNumbers(1) && plan.takeCombined(numbers[0]);
                default: return false;
            }
        }

        boolean readNumbers(int howMany) {
            for (int i = 0; i < howMany && i < numbers.length; i++) {
                int number = readNumber();
                if (number < 0 || letterAt(at) != (i == howMany - 1 ? ';' : ',')) {
                    return false;
                }
                numbers[i] = number;
                at++;
            }
            return true;
        }

        int readNumber() {
            int number = 0;
            int figures = 0;
            while (figures < MOST_FIGURES && isFigure(letterAt(at))) {
                number = 10 * number + letterAt(at) - '0';
                figures++;
                at++;
            }
            return figures == 0 ? NONE : number;
        }

        boolean isFigure(int letter) {
            return letter >= '0' && letter <= '9';
        }

        int letterAt(int place) {
            return place >= 0 && place < length && place < MOST_TEXT ? letters[place] : NONE;
        }
    }

    /** What a text tells: points, links, values, task, workers. It stays as it is once laid. */
    private static final class Plan {
        int points;
        int links;
        int kind;
        int taskNumber;
        int workers;
        int gap;
        int combined;
        boolean pointsAreFixed;
        final int[] from = new int[MOST_LINKS];
        final int[] to = new int[MOST_LINKS];
        final int[] length = new int[MOST_LINKS];
        final int[] value = new int[MOST_POINTS];

        void reset() {
            points = 4;
            links = 0;
            kind = 0;
            taskNumber = 0;
            workers = 2;
            gap = 0;
            combined = 0;
            pointsAreFixed = false;
            for (int p = 0; p < MOST_POINTS; p++) {
                value[p] = 10 * p;
            }
        }

        boolean takePoints(int n) {
            points = n;
            return !pointsAreFixed && n >= 2 && n <= MOST_POINTS;
        }

        boolean takeLink(int a, int b, int l) {
            pointsAreFixed = true;
            if (links >= MOST_LINKS || a >= points || b >= points || a == b || l < 1 || l > 99) {
                return false;
            }
            from[links] = a;
            to[links] = b;
            length[links] = l;
            links++;
            return true;
        }

        boolean takeValue(int p, int v) {
            pointsAreFixed = true;
            if (p < 0 || p >= points || p >= MOST_POINTS) {
                return false;
            }
            value[p] = v;
            return v <= MOST_VALUE;
        }

        boolean takeTask(int k, int s) {
            pointsAreFixed = true;
            kind = k;
            taskNumber = s;
            return k <= RANK && s <= 12;
        }

        boolean takeWorkers(int m, int d) {
            pointsAreFixed = true;
            workers = m;
            gap = d;
            return m >= 1 && m <= MOST_WORKERS && d <= 99;
        }

        boolean takeCombined(int c) {
            pointsAreFixed = true;
            combined = c;
            return c <= 1;
        }

        boolean canBeLaid() {
            return links > 0 && (kind != NEAREST || taskNumber < points);
        }

        int firstValue(int p) {
            if (kind != NEAREST) {
                return value[p];
            }
            return p == taskNumber ? 0 : MOST_VALUE;
        }

        int linksOf(int p) {
            int found = 0;
            for (int l = 0; l < links; l++) {
                if (from[l] == p) {
                    found++;
                }
            }
            return found;
        }
    }

    /**
     * The letters of one step. Each link carries one at most, so there are never more than links.
     * The sending point is not kept: letters that are alike in value and worker answer alike.
     */
    private static final class Mail {
        int size;
        final int[] to = new int[MOST_LINKS];
        final int[] worth = new int[MOST_LINKS];
        final int[] sender = new int[MOST_LINKS];

        void copyFrom(Mail other) {
            size = other.size;
            System.arraycopy(other.to, 0, to, 0, MOST_LINKS);
            System.arraycopy(other.worth, 0, worth, 0, MOST_LINKS);
            System.arraycopy(other.sender, 0, sender, 0, MOST_LINKS);
        }

        void post(int point, int letterWorth, int fromWorker) {
            if (size < 0 || size >= MOST_LINKS) {
                return;
            }
            to[size] = point;
            worth[size] = letterWorth;
            sender[size] = fromWorker;
            size++;
        }

        void postCombined(int kind, int point, int letterWorth, int fromWorker) {
            for (int i = 0; i < size; i++) {
                if (to[i] == point && sender[i] == fromWorker) {
                    worth[i] = together(kind, worth[i], letterWorth);
                    return;
                }
            }
            post(point, letterWorth, fromWorker);
        }

        int countFor(int point) {
            int found = 0;
            for (int i = 0; i < size; i++) {
                if (to[i] == point) {
                    found++;
                }
            }
            return found;
        }

        /** All letters of a point as one number; 0 if there are none. */
        int gistFor(int point, int kind) {
            int gist = 0;
            boolean any = false;
            for (int i = 0; i < size; i++) {
                if (to[i] == point) {
                    gist = any ? together(kind, gist, worth[i]) : worth[i];
                    any = true;
                }
            }
            return gist;
        }

        /** Where the letter of a point stands that has just so many of its letters ahead of it. */
        int placeOfRank(int point, int rank) {
            for (int i = 0; i < size; i++) {
                if (to[i] == point && countAhead(i) == rank) {
                    return i;
                }
            }
            return NONE;
        }

        int countAhead(int place) {
            int found = 0;
            for (int i = 0; i < size; i++) {
                if (to[i] == to[place] && isAhead(i, place)) {
                    found++;
                }
            }
            return found;
        }

        boolean isAhead(int a, int b) {
            if (worth[a] != worth[b]) {
                return worth[a] < worth[b];
            }
            if (sender[a] != sender[b]) {
                return sender[a] < sender[b];
            }
            return a < b;
        }

        int countCross(int[] workerOfPoint) {
            int found = 0;
            for (int i = 0; i < size; i++) {
                if (workerOfPoint[to[i]] != sender[i]) {
                    found++;
                }
            }
            return found;
        }
    }

    /** All that changes from step to step, and all that an undo brings back. */
    private static final class State {
        final int[] value = new int[MOST_POINTS];
        final int[] worker = new int[MOST_POINTS];
        final int[] mood = new int[MOST_POINTS];
        final int[] worked = new int[MOST_POINTS];
        final int[] load = new int[MOST_POINTS];
        final int[] workerLoad = new int[MOST_WORKERS];
        final int[] sums = new int[SUMS_KEPT * SUMS_EACH];
        Mail mail = new Mail();
        Mail outgoing = new Mail();
        int steps;
        int sent;
        int sentElsewhere;
        int combined;

        void begin(Plan plan) {
            for (int p = 0; p < MOST_POINTS; p++) {
                value[p] = plan.firstValue(p);
                worker[p] = Math.floorMod(p, Math.max(1, plan.workers));
                mood[p] = FRESH;
                worked[p] = 0;
                load[p] = 0;
            }
            for (int w = 0; w < MOST_WORKERS; w++) {
                workerLoad[w] = 0;
            }
            mail.size = 0;
            steps = 0;
            sent = 0;
            sentElsewhere = 0;
            combined = plan.combined;
        }

        void copyFrom(State other) {
            System.arraycopy(other.value, 0, value, 0, MOST_POINTS);
            System.arraycopy(other.worker, 0, worker, 0, MOST_POINTS);
            System.arraycopy(other.mood, 0, mood, 0, MOST_POINTS);
            System.arraycopy(other.worked, 0, worked, 0, MOST_POINTS);
            System.arraycopy(other.load, 0, load, 0, MOST_POINTS);
            System.arraycopy(other.workerLoad, 0, workerLoad, 0, MOST_WORKERS);
            System.arraycopy(other.sums, 0, sums, 0, SUMS_KEPT * SUMS_EACH);
            mail.copyFrom(other.mail);
            steps = other.steps;
            sent = other.sent;
            sentElsewhere = other.sentElsewhere;
            combined = other.combined;
        }

        boolean isAwake(int p) {
            return mood[p] != ASLEEP || mail.countFor(p) > 0;
        }

        int countAwake(int points) {
            int found = 0;
            for (int p = 0; p < points; p++) {
                if (isAwake(p)) {
                    found++;
                }
            }
            return found;
        }

        int totalValue(int points) {
            int total = 0;
            for (int p = 0; p < points; p++) {
                total += value[p];
            }
            return total;
        }

        int pointsOf(int w, int points) {
            int bits = 0;
            for (int p = 0; p < points; p++) {
                if (worker[p] == w) {
                    bits |= 1 << p;
                }
            }
            return bits;
        }

        void advance(Plan plan) {
            noteLoads(plan.points);
            int awake = countAwake(plan.points);
            int changed = workAll(plan);
            deliver();
            int row = rowOfStep(steps);
            sums[row] = awake;
            sums[row + 1] = changed;
            sums[row + 2] = mail.size;
            sums[row + 3] = mail.countCross(worker);
            sums[row + 4] = totalValue(plan.points);
            sums[row + 5] = balance(plan);
            sent += mail.size;
            steps++;
        }

        void noteLoads(int points) {
            for (int w = 0; w < MOST_WORKERS; w++) {
                workerLoad[w] = 0;
            }
            for (int p = 0; p < points; p++) {
                load[p] = isAwake(p) ? 1 + mail.countFor(p) : 0;
                workerLoad[worker[p]] += load[p];
            }
        }

        /** Every point that is awake works; how many values became others. */
        int workAll(Plan plan) {
            int changed = 0;
            outgoing.size = 0;
            for (int p = 0; p < plan.points; p++) {
                if (isAwake(p)) {
                    int was = value[p];
                    worked[p]++;
                    int worth = plan.kind == RANK ? workForRank(plan, p) : workForBest(plan, p);
                    if (worth != NONE) {
                        sendAll(plan, p, worth);
                    }
                    changed += value[p] == was ? 0 : 1;
                }
            }
            return changed;
        }

        void deliver() {
            Mail read = mail;
            mail = outgoing;
            outgoing = read;
        }

        /** What the point sends then, NONE if nothing. */
        int workForBest(Plan plan, int p) {
            int best = mail.gistFor(p, plan.kind);
            boolean better = mail.countFor(p) > 0 && best != value[p]
                && together(plan.kind, best, value[p]) == best;
            if (better) {
                value[p] = best;
            }
            boolean isReached = plan.kind != NEAREST || value[p] < MOST_VALUE;
            boolean sends = better || mood[p] == FRESH && isReached;
            mood[p] = ASLEEP;
            return sends ? value[p] : NONE;
        }

        /** What the point sends by each link then, NONE if nothing. */
        int workForRank(Plan plan, int p) {
            if (mail.countFor(p) > 0 || mood[p] != FRESH) {
                int shares = mail.gistFor(p, RANK);
                value[p] = Math.min(MOST_VALUE, 15 + 17 * shares / 20);
            }
            if (worked[p] > plan.taskNumber) {
                mood[p] = ASLEEP;
                return NONE;
            }
            mood[p] = BUSY;
            int parts = plan.linksOf(p);
            return parts > 0 ? value[p] / parts : NONE;
        }

        void sendAll(Plan plan, int p, int worth) {
            for (int l = 0; l < plan.links; l++) {
                if (plan.from[l] == p) {
                    int way = plan.kind == NEAREST ? plan.length[l] : 0;
                    int letterWorth = Math.min(MOST_VALUE, worth + way);
                    if (combined == 1) {
                        outgoing.postCombined(plan.kind, plan.to[l], letterWorth, worker[p]);
                    } else {
                        outgoing.post(plan.to[l], letterWorth, worker[p]);
                    }
                }
            }
        }

        /** Sends a point of the busiest worker to the idlest one: which, or NONE. */
        int balance(Plan plan) {
            if (plan.gap < 1) {
                return NONE;
            }
            int busiest = 0;
            int idlest = 0;
            for (int w = 1; w < plan.workers; w++) {
                busiest = workerLoad[w] > workerLoad[busiest] ? w : busiest;
                idlest = workerLoad[w] < workerLoad[idlest] ? w : idlest;
            }
            int difference = workerLoad[busiest] - workerLoad[idlest];
            if (difference < plan.gap) {
                return NONE;
            }
            int chosen = heaviestBelow(plan.points, busiest, difference);
            if (chosen < 0 || chosen >= MOST_POINTS) {
                return NONE;
            }
            worker[chosen] = idlest;
            sentElsewhere++;
            return chosen;
        }

        int heaviestBelow(int points, int w, int bound) {
            int chosen = NONE;
            int most = 0;
            for (int p = 0; p < points; p++) {
                if (worker[p] == w && load[p] < bound && load[p] > most) {
                    chosen = p;
                    most = load[p];
                }
            }
            return chosen;
        }
    }
}
