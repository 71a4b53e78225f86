import java.util.ArrayList;
import java.util.Arrays;
import java.util.HashSet;
import java.util.List;
import java.util.Set;

/**
 * The document a second time, in its plainest form: every state of a run is kept whole, AHEAD is a table that is closed
 * by going through all triples, and each question looks at everything. ModelTest holds ReplayBox against it.
 */
final class PlainBox {
    record Instruction(int op, int a, int b, int c) {
    }

    record Value(boolean isThing, int number) {
        static Value of(int number) {
            return new Value(false, number);
        }
    }

    /** A THING: a ROW has places, a LOCK an owner. */
    static final class Thing {
        final int kind;
        final int[] places;
        Integer owner;

        Thing(int kind, int[] places, Integer owner) {
            this.kind = kind;
            this.places = places;
            this.owner = owner;
        }

        Thing again() {
            return new Thing(kind, places == null ? null : places.clone(), owner);
        }
    }

    /** What one step was. */
    static final class Step {
        int thread;
        int instruction;
        int op;
        int read = -2;
        int wrote = -2;
        int mark;
        int lock = -1;
        int started = -1;
        Set<Integer> woke = new HashSet<>();
        boolean behindWait;
        int failure;
    }

    /** A state, with the program and the INPUTS that it goes by. */
    static final class State {
        List<List<Instruction>> code;
        List<Integer> inputs;
        Value[] cells = new Value[12];
        Value[][] locals = new Value[4][4];
        int[] next = new int[4];
        boolean[] started = {true, false, false, false};
        int[] asleepAt = {-1, -1, -1, -1};
        int[] wokenAt = {-1, -1, -1, -1};
        List<Thing> things = new ArrayList<>();
        int taken;

        State(List<List<Instruction>> code, int[] first, List<Integer> inputs) {
            this.code = new ArrayList<>();
            for (List<Instruction> lines : code) {
                this.code.add(List.copyOf(lines));
            }
            this.inputs = List.copyOf(inputs);
            for (int k = 0; k < 12; k++) {
                cells[k] = Value.of(first[k]);
            }
            for (Value[] row : locals) {
                Arrays.fill(row, Value.of(0));
            }
        }

        State again() {
            State s = new State(code, new int[12], inputs);
            s.cells = cells.clone();
            for (int k = 0; k < 4; k++) {
                s.locals[k] = locals[k].clone();
            }
            s.next = next.clone();
            s.started = started.clone();
            s.asleepAt = asleepAt.clone();
            s.wokenAt = wokenAt.clone();
            for (Thing t : things) {
                s.things.add(t.again());
            }
            s.taken = taken;
            return s;
        }

        boolean ended(int t) {
            return next[t] < 0 || next[t] >= code.get(t).size();
        }

        int kind(Value v) {
            return v.isThing() ? things.get(v.number()).kind : 0;
        }

        boolean can(int t) {
            if (!started[t] || ended(t) || asleepAt[t] >= 0) {
                return false;
            }
            if (wokenAt[t] >= 0) {
                return things.get(wokenAt[t]).owner == null;
            }
            Instruction i = code.get(t).get(next[t]);
            Value a = locals[t][Math.floorMod(i.a(), 4)];
            if (i.op() == 12 && kind(a) >= 2) {
                Integer owner = things.get(a.number()).owner;
                return owner == null || owner == t;
            }
            return true;
        }

        List<Integer> all() {
            List<Integer> list = new ArrayList<>();
            for (int t = 0; t < 4; t++) {
                if (can(t)) {
                    list.add(t);
                }
            }
            return list;
        }

        int byItself(int latest) {
            return can(latest) ? latest : all().isEmpty() ? -1 : all().get(0);
        }

        /** Does the step in this state; a step that FAILS leaves it as it is. */
        Step go(int t) {
            Step step = new Step();
            Instruction i = code.get(t).get(next[t]);
            step.thread = t;
            step.instruction = next[t];
            step.op = i.op();
            if (wokenAt[t] >= 0) {
                step.lock = wokenAt[t];
                step.behindWait = true;
                step.mark = 1;
                things.get(wokenAt[t]).owner = t;
                wokenAt[t] = -1;
                next[t]++;
                return step;
            }
            State trial = again();
            trial.next[t]++;
            step.failure = trial.does(t, i, step);
            if (step.failure != 0) {
                Step failed = new Step();
                failed.thread = t;
                failed.instruction = step.instruction;
                failed.op = step.op;
                failed.failure = step.failure;
                return failed;
            }
            become(trial);
            return step;
        }

        private void become(State s) {
            cells = s.cells;
            locals = s.locals;
            next = s.next;
            started = s.started;
            asleepAt = s.asleepAt;
            wokenAt = s.wokenAt;
            things = s.things;
            taken = s.taken;
        }

        private int does(int t, Instruction i, Step step) {
            Value[] mine = locals[t];
            int x = Math.floorMod(i.a(), 4);
            Value a = mine[x];
            Value b = mine[Math.floorMod(i.b(), 4)];
            Value c = mine[Math.floorMod(i.c(), 4)];
            switch (i.op()) {
                case 0 -> mine[x] = Value.of(i.b());
                case 1 -> {
                    step.read = Math.floorMod(i.b(), 12);
                    mine[x] = cells[step.read];
                }
                case 2 -> {
                    step.wrote = Math.floorMod(i.a(), 12);
                    cells[step.wrote] = b;
                }
                case 3, 4, 5 -> {
                    if (a.isThing() || b.isThing()) {
                        return 1;
                    }
                    int m = a.number();
                    int n = b.number();
                    mine[x] = Value.of(i.op() == 3 ? m + n : i.op() == 4 ? m - n : m * n);
                }
                case 6 -> next[t] = i.a();
                case 7 -> {
                    if (a.isThing()) {
                        return 1;
                    }
                    if (a.number() == 0) {
                        next[t] = i.b();
                    }
                }
                case 8 -> {
                    if (b.isThing()) {
                        return 1;
                    }
                    if (b.number() < 0) {
                        return 2;
                    }
                    if (b.number() > 16 || things.size() == 12) {
                        return 3;
                    }
                    mine[x] = new Value(true, things.size());
                    things.add(new Thing(1, new int[b.number()], null));
                }
                case 9 -> {
                    if (kind(b) != 1 || c.isThing()) {
                        return 1;
                    }
                    int[] row = things.get(b.number()).places;
                    if (c.number() < 0 || c.number() >= row.length) {
                        return 4;
                    }
                    step.read = 100 + 20 * b.number() + c.number();
                    mine[x] = Value.of(row[c.number()]);
                }
                case 10 -> {
                    if (kind(a) != 1 || b.isThing() || c.isThing()) {
                        return 1;
                    }
                    int[] row = things.get(a.number()).places;
                    if (b.number() < 0 || b.number() >= row.length) {
                        return 4;
                    }
                    step.wrote = 100 + 20 * a.number() + b.number();
                    row[b.number()] = c.number();
                }
                case 11 -> {
                    if (things.size() == 12) {
                        return 3;
                    }
                    mine[x] = new Value(true, things.size());
                    things.add(new Thing(i.b() % 2 != 0 ? 3 : 2, null, null));
                }
                case 12, 13, 14, 15 -> {
                    return doesLock(t, i.op(), a, step);
                }
                case 16 -> {
                    if (taken == inputs.size()) {
                        return 7;
                    }
                    mine[x] = Value.of(inputs.get(taken++));
                }
                case 17 -> {
                    int who = Math.floorMod(i.a(), 4);
                    if (started[who]) {
                        return 5;
                    }
                    started[who] = true;
                    step.mark = 4;
                    step.started = who;
                }
                case 18 -> {
                    return 10 + Math.floorMod(i.b(), 10);
                }
                default -> next[t] = 24;
            }
            return 0;
        }

        private int doesLock(int t, int op, Value a, Step step) {
            if (kind(a) < (op >= 14 ? 3 : 2)) {
                return 1;
            }
            Thing lock = things.get(a.number());
            boolean own = lock.owner != null && lock.owner == t;
            if (op == 12 && own) {
                return 5;
            }
            if (op != 12 && !own) {
                return 6;
            }
            step.lock = a.number();
            step.mark = op == 12 ? 1 : op == 15 ? 3 : 2;
            if (op == 12) {
                lock.owner = t;
            } else if (op == 13) {
                lock.owner = null;
            } else if (op == 14) {
                lock.owner = null;
                asleepAt[t] = a.number();
                next[t]--;
            } else {
                for (int k = 0; k < 4; k++) {
                    if (asleepAt[k] == a.number()) {
                        step.woke.add(k);
                        wokenAt[k] = a.number();
                        asleepAt[k] = -1;
                    }
                }
            }
            return 0;
        }
    }

    /** A run that is over: its steps (the first at 0), and the states around them. */
    static final class Run {
        final List<Step> steps = new ArrayList<>();
        final List<State> states = new ArrayList<>();
        int over;

        int failure() {
            return steps.isEmpty() ? 0 : steps.get(steps.size() - 1).failure;
        }

        State end() {
            return states.get(states.size() - 1);
        }

        boolean more() {
            return failure() == 0 && steps.size() < 300;
        }

        void add(int t) {
            State s = end().again();
            steps.add(s.go(t));
            states.add(s);
        }
    }

    private record Turn(int thread, int steps) {
    }

    private record Kept(int what, int kind, int number, int places, int[] row) {
    }

    private final List<List<Instruction>> code = new ArrayList<>();
    private final int[] first = new int[12];
    private final List<Integer> inputs = new ArrayList<>();
    private final List<Turn> turns = new ArrayList<>();
    private final Kept[] shelves = new Kept[8];
    private Run run;
    private boolean[][] before;
    private List<int[]> races;
    private int view;
    private int ended = -2;
    private List<int[]> found;
    private int foundFailure;
    private int runsMade;

    PlainBox() {
        for (int t = 0; t < 4; t++) {
            code.add(new ArrayList<>());
        }
    }

    private static boolean in(int v, int least, int most) {
        return v >= least && v <= most;
    }

    int code(int thread, int op, int a, int b, int c) {
        if (!in(thread, 0, 3) || !in(op, 0, 19)) {
            return -1;
        }
        if (code.get(thread).size() == 24) {
            return -2;
        }
        code.get(thread).add(new Instruction(op, a, b, c));
        return code.get(thread).size() - 1;
    }

    int clear(int thread) {
        if (!in(thread, 0, 3)) {
            return -1;
        }
        int had = code.get(thread).size();
        code.get(thread).clear();
        return had;
    }

    int cell(int cell, int v) {
        if (!in(cell, 0, 11)) {
            return -1;
        }
        first[cell] = v;
        return 0;
    }

    int input(int v) {
        if (inputs.size() == 30) {
            return -2;
        }
        inputs.add(v);
        return inputs.size();
    }

    int turn(int thread, int steps) {
        if (!in(thread, 0, 3) || !in(steps, 1, 100)) {
            return -1;
        }
        if (turns.size() == 40) {
            return -2;
        }
        turns.add(new Turn(thread, steps));
        return turns.size();
    }

    int freely() {
        int had = turns.size();
        turns.clear();
        return had;
    }

    int run() {
        run = new Run();
        run.states.add(new State(code, first, inputs));
        for (Turn turn : turns) {
            for (int n = 0; n < turn.steps() && run.more() && run.end().can(turn.thread()); n++) {
                run.add(turn.thread());
            }
        }
        while (run.more() && !run.end().all().isEmpty()) {
            run.add(run.end().byItself(run.steps.isEmpty() ? 0 : run.steps.get(run.steps.size() - 1).thread));
        }
        State end = run.end();
        boolean allEnded = true;
        for (int t = 0; t < 4; t++) {
            allEnded &= !end.started[t] || end.ended(t);
        }
        run.over = run.failure() != 0 ? 2 : !end.all().isEmpty() ? 3 : allEnded ? 0 : 1;
        view = run.steps.size();
        before = null;
        races = null;
        return run.over;
    }

    private List<int[]> changes() {
        List<int[]> list = new ArrayList<>();
        int was = 0;
        for (int k = 0; k < run.steps.size(); k++) {
            int t = run.steps.get(k).thread;
            if (t != was) {
                list.add(new int[] {k, t});
            }
            was = t;
        }
        return list;
    }

    int told(int what) {
        if (run == null) {
            return -2;
        }
        int changes = changes().size();
        int taken = run.end().taken;
        return switch (what) {
            case 0 -> run.over;
            case 1 -> run.steps.size();
            case 2 -> run.failure();
            case 3 -> run.failure() == 0 ? -1 : run.steps.get(run.steps.size() - 1).thread;
            case 4 -> run.end().things.size();
            case 5 -> changes;
            case 6 -> taken;
            case 7 -> 3 * changes + 4 * taken;
            default -> -1;
        };
    }

    int change(int i, int what) {
        if (run == null || !in(i, 0, changes().size() - 1) || !in(what, 0, 1)) {
            return -1;
        }
        return changes().get(i)[what];
    }

    int step(int s, int what) {
        if (run == null || !in(s, 1, run.steps.size()) || !in(what, 0, 5)) {
            return -1;
        }
        Step step = run.steps.get(s - 1);
        return new int[] {step.thread, step.instruction, step.op, step.read, step.wrote, step.mark}[what];
    }

    int play(int n, int m) {
        if (run == null) {
            return -2;
        }
        List<int[]> changes = changes();
        if (!in(n, 0, changes.size()) || !in(m, 0, run.end().taken)) {
            return -1;
        }
        State s = new State(code, first, run.end().inputs.subList(0, m));
        int done = 0;
        int latest = 0;
        while (true) {
            int who = latest;
            boolean isTold = n > 0 && done <= changes.get(n - 1)[0];
            for (int k = 0; k < n; k++) {
                if (changes.get(k)[0] == done) {
                    who = changes.get(k)[1];
                }
            }
            if (done == 300) {
                ended = s.all().isEmpty() ? 0 : 4;
                return done;
            }
            if (isTold && !s.can(who)) {
                ended = 1;
                return done;
            }
            who = s.byItself(who);
            if (who < 0) {
                ended = 0;
                return done;
            }
            if (s.code.get(who).get(s.next[who]).op() == 16 && s.taken == m) {
                ended = 2;
                return done;
            }
            done++;
            latest = who;
            if (s.go(who).failure != 0) {
                ended = 3;
                return done;
            }
        }
    }

    int ended() {
        return ended;
    }

    int to(int s) {
        if (run == null) {
            return -2;
        }
        if (!in(s, 0, run.steps.size())) {
            return -1;
        }
        view = s;
        return s;
    }

    int back(int n) {
        if (run == null) {
            return -2;
        }
        if (n < 0 || (long) view - n < 0) {
            return -1;
        }
        view -= n;
        return view;
    }

    private State seen() {
        if (run == null) {
            throw new IllegalStateException();
        }
        return run.states.get(view);
    }

    int value(int thread, int k, int what) {
        State s = seen();
        if (!in(thread, -1, 3) || !in(k, 0, thread == -1 ? 11 : 3) || !in(what, 0, 1)) {
            throw new IllegalArgumentException();
        }
        Value v = thread == -1 ? s.cells[k] : s.locals[thread][k];
        return what == 0 ? s.kind(v) : v.number();
    }

    int thing(int x, int what) {
        if (run == null) {
            return -2;
        }
        if (!in(x, 0, seen().things.size() - 1) || !in(what, 0, 1)) {
            return -1;
        }
        Thing t = seen().things.get(x);
        if (what == 0) {
            return t.kind;
        }
        return t.kind == 1 ? t.places.length : t.owner == null ? -2 : t.owner;
    }

    int place(int x, int i) {
        State s = seen();
        if (!in(x, 0, s.things.size() - 1) || s.things.get(x).kind != 1 || !in(i, 0, s.things.get(x).places.length - 1)) {
            throw new IllegalArgumentException();
        }
        return s.things.get(x).places[i];
    }

    int thread(int thread, int what) {
        if (run == null) {
            return -2;
        }
        if (!in(thread, 0, 3) || !in(what, 0, 1)) {
            return -1;
        }
        State s = seen();
        if (what == 0) {
            return s.ended(thread) ? 24 : s.next[thread];
        }
        return !s.started[thread] ? 0 : s.can(thread) ? 1 : s.asleepAt[thread] >= 0 ? 3 : s.ended(thread) ? 4 : 2;
    }

    int last(int place, int s) {
        if (run == null) {
            return -2;
        }
        if (!in(s, 0, run.steps.size())) {
            return -1;
        }
        int latest = 0;
        for (int k = 1; k <= s; k++) {
            if (place >= 0 && run.steps.get(k - 1).wrote == place) {
                latest = k;
            }
        }
        return latest;
    }

    int next(int place, int s) {
        if (run == null) {
            return -2;
        }
        if (!in(s, 0, run.steps.size())) {
            return -1;
        }
        int earliest = 0;
        for (int k = run.steps.size(); k > s; k--) {
            if (place >= 0 && run.steps.get(k - 1).read == place) {
                earliest = k;
            }
        }
        return earliest;
    }

    int when(int cell, int v, int i, int what) {
        if (run == null) {
            return -2;
        }
        if (!in(cell, 0, 11) || !in(what, 0, 2)) {
            return -1;
        }
        List<int[]> spans = new ArrayList<>();
        for (int s = 0; s <= run.steps.size(); s++) {
            if (run.states.get(s).cells[cell].equals(Value.of(v))) {
                if (!spans.isEmpty() && spans.get(spans.size() - 1)[1] == s - 1) {
                    spans.get(spans.size() - 1)[1] = s;
                } else {
                    spans.add(new int[] {s, s});
                }
            }
        }
        if (what == 0) {
            return spans.size();
        }
        return in(i, 0, spans.size() - 1) ? spans.get(i)[what - 1] : -1;
    }

    private static boolean leaves(Step s) {
        return s.mark == 2;
    }

    private boolean[][] order() {
        if (before != null) {
            return before;
        }
        int n = run.steps.size();
        before = new boolean[n][n];
        for (int s = 0; s < n; s++) {
            for (int t = s + 1; t < n; t++) {
                Step p = run.steps.get(s);
                Step q = run.steps.get(t);
                before[s][t] = p.thread == q.thread || leaves(p) && q.mark == 1 && p.lock == q.lock
                        || p.woke.contains(q.thread) && q.behindWait && firstBehindWait(s, t) || p.started == q.thread;
            }
        }
        for (int k = 0; k < n; k++) {
            for (int s = 0; s < k; s++) {
                for (int t = k + 1; t < n && before[s][k]; t++) {
                    before[s][t] |= before[k][t];
                }
            }
        }
        return before;
    }

    private boolean firstBehindWait(int s, int t) {
        for (int k = s + 1; k < t; k++) {
            if (run.steps.get(k).thread == run.steps.get(t).thread) {
                return false;
            }
        }
        return true;
    }

    int ahead(int s, int t) {
        if (run == null) {
            return -2;
        }
        if (s < 1 || s >= t || t > run.steps.size()) {
            return -1;
        }
        return order()[s - 1][t - 1] ? 1 : 0;
    }

    private List<int[]> allRaces() {
        if (races != null) {
            return races;
        }
        races = new ArrayList<>();
        for (int t = 1; t <= run.steps.size(); t++) {
            for (int s = 1; s < t; s++) {
                Step p = run.steps.get(s - 1);
                Step q = run.steps.get(t - 1);
                int place = Math.max(p.read, p.wrote);
                boolean same = place >= 0 && place == Math.max(q.read, q.wrote);
                if (same && p.thread != q.thread && (p.wrote >= 0 || q.wrote >= 0) && !order()[s - 1][t - 1]) {
                    races.add(new int[] {s, t, place});
                }
            }
        }
        return races;
    }

    int race(int i, int what) {
        if (run == null) {
            return -2;
        }
        if (!in(what, 0, 3) || what > 0 && !in(i, 0, allRaces().size() - 1)) {
            return -1;
        }
        return what == 0 ? allRaces().size() : allRaces().get(i)[what - 1];
    }

    int differ(int s, int t) {
        if (run == null) {
            return -2;
        }
        if (!in(s, 0, run.steps.size()) || !in(t, 0, run.steps.size())) {
            return -1;
        }
        State p = run.states.get(s);
        State q = run.states.get(t);
        int count = 0;
        for (int k = 0; k < 12; k++) {
            count += p.cells[k].equals(q.cells[k]) ? 0 : 1;
        }
        for (int k = 0; k < 4; k++) {
            for (int l = 0; l < 4; l++) {
                count += p.locals[k][l].equals(q.locals[k][l]) ? 0 : 1;
            }
            count += (p.ended(k) ? 24 : p.next[k]) == (q.ended(k) ? 24 : q.next[k]) ? 0 : 1;
        }
        return count;
    }

    /** A run without a SCHEDULE, but with these CHANGES. */
    private Run with(List<int[]> changes) {
        Run r = new Run();
        r.states.add(new State(code, first, inputs));
        int latest = 0;
        while (r.more() && !r.end().all().isEmpty()) {
            latest = r.end().byItself(latest);
            for (int[] change : changes) {
                if (change[0] == r.steps.size()) {
                    latest = change[1];
                }
            }
            r.add(latest);
        }
        return r;
    }

    /** These CHANGES, each with one more behind them, in the order told. */
    private List<List<int[]>> further(List<int[]> changes, Run r) {
        List<List<int[]>> list = new ArrayList<>();
        int from = changes.isEmpty() ? 1 : changes.get(changes.size() - 1)[0] + 1;
        for (int k = from; k < r.steps.size(); k++) {
            int byItself = r.steps.get(k).thread;
            for (int t : r.states.get(k).all()) {
                if (t != byItself) {
                    List<int[]> more = new ArrayList<>(changes);
                    more.add(new int[] {k, t});
                    list.add(more);
                }
            }
        }
        return list;
    }

    int find(int changes, int runs) {
        if (!in(changes, 0, 2) || !in(runs, 1, 100)) {
            return -1;
        }
        found = null;
        runsMade = 0;
        List<List<int[]>> level = List.of(List.of());
        for (int n = 0; n <= changes; n++) {
            List<List<int[]>> following = new ArrayList<>();
            for (List<int[]> each : level) {
                if (runsMade == runs) {
                    return 0;
                }
                Run r = with(each);
                runsMade++;
                if (r.failure() != 0) {
                    found = each;
                    foundFailure = r.failure();
                    return runsMade;
                }
                following.addAll(further(each, r));
            }
            level = following;
        }
        return 0;
    }

    int found(int what) {
        if (!in(what, 0, 6)) {
            return -1;
        }
        if (what == 6) {
            return runsMade;
        }
        if (found == null) {
            return -2;
        }
        int[] all = {found.size(), -2, -2, -2, -2, foundFailure};
        for (int k = 0; k < found.size(); k++) {
            all[1 + 2 * k] = found.get(k)[0];
            all[2 + 2 * k] = found.get(k)[1];
        }
        return all[what];
    }

    int keep(int d, int what, int k) {
        if (run == null || !in(d, 0, 7) || !in(what, 0, 3) || what == 1 && !in(k, 0, run.end().things.size() - 1)) {
            return -1;
        }
        if (what == 0) {
            shelves[d] = null;
        } else if (what == 1) {
            Thing t = run.end().things.get(k);
            shelves[d] = new Kept(1, t.kind, k, t.kind == 1 ? t.places.length : 0, null);
        } else if (what == 2) {
            shelves[d] = new Kept(2, 0, 0, 0, run.steps.stream().limit(60).mapToInt(s -> s.thread).toArray());
        } else {
            shelves[d] = new Kept(3, 0, 0, 0,
                    Arrays.stream(run.end().cells).mapToInt(v -> v.isThing() ? 0 : v.number()).toArray());
        }
        return 0;
    }

    int make(int d, int what, int n) {
        if (!in(d, 0, 7) || !in(what, 2, 3) || n > 60) {
            return -1;
        }
        if (n < 0) {
            return -14;
        }
        shelves[d] = new Kept(what, 0, 0, 0, new int[n]);
        return 0;
    }

    int element(int d, int i) {
        if (!in(d, 0, 7)) {
            throw new IllegalArgumentException();
        }
        if (shelves[d] == null || shelves[d].what() == 1 || !in(i, 0, shelves[d].row().length - 1)) {
            throw new IllegalStateException();
        }
        return shelves[d].row()[i];
    }

    int copy(int d, int i, int e, int j, int n) {
        if (!in(d, 0, 7) || !in(e, 0, 7)) {
            return -1;
        }
        Kept from = shelves[d];
        Kept onto = shelves[e];
        if (from == null || onto == null) {
            return -11;
        }
        if (from.what() == 1 || onto.what() != from.what()) {
            return -12;
        }
        boolean beyond = (long) i + n > from.row().length || (long) j + n > onto.row().length;
        if (n < 0 || i < 0 || j < 0 || beyond) {
            return -13;
        }
        int[] were = from.row().clone();
        for (int k = 0; k < n; k++) {
            onto.row()[j + k] = were[i + k];
        }
        return n;
    }

    int weight(int d) {
        int refusal = noThing(d);
        if (refusal != 0) {
            return refusal;
        }
        Kept kept = shelves[d];
        int plain = kept.number() + 1;
        return kept.kind() == 1 ? plain + 10 * kept.places() : kept.kind() == 2 ? plain + 100 : 2 * (plain + 100);
    }

    private int noThing(int d) {
        if (!in(d, 0, 7)) {
            return -1;
        }
        return shelves[d] == null ? -11 : shelves[d].what() != 1 ? -12 : 0;
    }

    int toss(int d) {
        int refusal = noThing(d);
        if (refusal != 0) {
            return refusal;
        }
        return shelves[d].kind() == 1 ? -15 : shelves[d].number();
    }
}
