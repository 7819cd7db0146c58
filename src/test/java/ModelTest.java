import java.util.ArrayList;
import java.util.Collections;
import java.util.Comparator;
import java.util.List;
import java.util.regex.Matcher;
import java.util.regex.Pattern;

/**
 * Long runs of calls against a model that is written another way: lists and records in place of rows, the library's
 * own bits and %, and a pattern of the library for the texts. The calls come from a fixed row of numbers; an object is
 * used for at most 512 of them, as what later calls answer is free.
 */
public final class ModelTest {
    private static final int RUNS = 900;

    record Job(int place, int skill, int part, int many, int from, int to) {
    }

    record Car(int home, int skills, List<Integer> stock) {
    }

    record State(List<Integer> settings, List<Job> jobs, List<Car> cars) {
        State() {
            this(List.of(2, 30, 120), List.of(), List.of());
        }
    }

    record Event(int sort, int begins, int ends, int job) {
    }

    static final class Drive {
        final Car car;
        int free = 0;
        int place;
        final List<Integer> left;
        final List<Integer> jobs = new ArrayList<>();
        final List<Event> events = new ArrayList<>();

        Drive(Car car) {
            this.car = car;
            place = car.home;
            left = new ArrayList<>(car.stock);
        }

        int minutes(int sort) {
            return events.stream().filter(e -> e.sort == sort).mapToInt(e -> e.ends - e.begins).sum();
        }
    }

    /** Promise, van, begin and end of every visit, and the drives of the vans. */
    static final class Planned {
        final int[][] promises;
        final List<Drive> drives = new ArrayList<>();

        Planned(State state) {
            promises = new int[state.jobs.size()][];
            for (Car car : state.cars) {
                drives.add(new Drive(car));
            }
            List<Integer> row = new ArrayList<>();
            for (int i = 0; i < state.jobs.size(); i++) {
                row.add(i);
            }
            row.sort(Comparator.comparingInt(i -> state.jobs.get(i).to));
            List<Integer> again = new ArrayList<>();
            for (int number : row) {
                if (!looked(state, number, 0, 0)) {
                    again.add(number);
                }
            }
            for (int number : again) {
                if (!looked(state, number, state.settings.get(2), 1)) {
                    promises[number] = new int[] {4, -6, -6, -6};
                }
            }
        }

        /** Whether the promise is known then. */
        private boolean looked(State state, int number, int shift, int promise) {
            Job job = state.jobs.get(number);
            List<Drive> able = new ArrayList<>();
            for (Drive drive : drives) {
                if ((drive.car.skills & (1 << job.skill)) != 0) {
                    able.add(drive);
                }
            }
            if (able.isEmpty()) {
                promises[number] = new int[] {2, -6, -6, -6};
                return true;
            }
            able.removeIf(drive -> drive.left.get(job.part) < job.many);
            if (able.isEmpty()) {
                promises[number] = new int[] {3, -6, -6, -6};
                return true;
            }
            able.removeIf(drive -> begin(state, drive, job, shift) > job.to + shift);
            if (able.isEmpty()) {
                return false;
            }
            Drive best = Collections.min(able, Comparator.comparingInt(drive -> begin(state, drive, job, shift)));
            int begins = begin(state, best, job, shift);
            int comes = best.free + Math.abs(best.place - job.place) * state.settings.get(0);
            int ends = begins + state.settings.get(1);
            if (comes > best.free) {
                best.events.add(new Event(0, best.free, comes, number));
            }
            if (begins > comes) {
                best.events.add(new Event(1, comes, begins, number));
            }
            best.events.add(new Event(2, begins, ends, number));
            best.jobs.add(number);
            best.left.set(job.part, best.left.get(job.part) - job.many);
            best.free = ends;
            best.place = job.place;
            promises[number] = new int[] {promise, drives.indexOf(best), begins, ends};
            return true;
        }

        private static int begin(State state, Drive drive, Job job, int shift) {
            int comes = drive.free + Math.abs(drive.place - job.place) * state.settings.get(0);
            return Math.max(comes, job.from + shift);
        }

        int ofPromise(int promise) {
            int sum = 0;
            for (int[] one : promises) {
                sum += one[0] == promise ? 1 : 0;
            }
            return sum;
        }

        int made() {
            return ofPromise(0) + ofPromise(1);
        }

        int minutes(int sort) {
            return drives.stream().mapToInt(drive -> drive.minutes(sort)).sum();
        }
    }

    static final class Model {
        State state = new State();
        final List<State> history = new ArrayList<>();
        final State[] slots = new State[2];
        String pad = "";

        private static final String NUMBER = "(0|[1-9][0-9]{0,2})";
        private static final String ORDER = "(v" + NUMBER + "#[0-9]\\+[0-9]\\*[0-9]:" + NUMBER + "-" + NUMBER
            + "|w" + NUMBER + "/[0-3]+|l[0-9]\\+[0-9]=" + NUMBER + "|x" + NUMBER + ")";
        private static final Pattern TEXT = Pattern.compile(ORDER + "(;" + ORDER + ")*");

        private int change(State next, int answer) {
            history.add(state);
            if (history.size() > 6) {
                history.remove(0);
            }
            state = next;
            return answer;
        }

        private static <T> List<T> with(List<T> list, int at, T value) {
            List<T> copy = new ArrayList<>(list);
            copy.set(at, value);
            return copy;
        }

        private static <T> List<T> and(List<T> list, T value) {
            List<T> copy = new ArrayList<>(list);
            copy.add(value);
            return copy;
        }

        private static boolean in(int value, int least, int most) {
            return least <= value && value <= most;
        }

        private static int jobError(int place, int skill, int part, int many, int from, int to) {
            if (!in(skill, 0, 3) || !in(part, 0, 4)) {
                return -1;
            }
            return in(place, 0, 99) && in(many, 0, 9) && in(from, 0, 999) && in(to, from, 999) ? 0 : -2;
        }

        int[] told(int setting) {
            return new int[][] {{1, 9}, {1, 120}, {0, 300}}[setting];
        }

        int set(int setting, int value) {
            if (!in(setting, 0, 2) || !in(value, told(setting)[0], told(setting)[1])) {
                return -2;
            }
            State next = new State(with(state.settings, setting, value), state.jobs, state.cars);
            return change(next, state.settings.get(setting));
        }

        int visit(int place, int skill, int part, int many, int from, int to) {
            int error = jobError(place, skill, part, many, from, to);
            if (error == 0 && state.jobs.size() == 20) {
                error = -4;
            }
            if (error != 0) {
                return error;
            }
            Job job = new Job(place, skill, part, many, from, to);
            return change(new State(state.settings, and(state.jobs, job), state.cars), state.jobs.size());
        }

        int drop(int visit) {
            if (!in(visit, 0, state.jobs.size() - 1)) {
                return -1;
            }
            List<Job> jobs = new ArrayList<>(state.jobs);
            jobs.remove(visit);
            return change(new State(state.settings, jobs, state.cars), jobs.size());
        }

        int van(int home, int skills) {
            if (!in(home, 0, 99) || !in(skills, 0, 15)) {
                return -2;
            }
            if (state.cars.size() == 4) {
                return -4;
            }
            Car car = new Car(home, skills, List.of(0, 0, 0, 0, 0));
            return change(new State(state.settings, state.jobs, and(state.cars, car)), state.cars.size());
        }

        int load(int van, int part, int many) {
            if (!in(van, 0, state.cars.size() - 1) || !in(part, 0, 4)) {
                return -1;
            }
            if (!in(many, 0, 99)) {
                return -2;
            }
            Car was = state.cars.get(van);
            Car car = new Car(was.home, was.skills, with(was.stock, part, many));
            return change(new State(state.settings, state.jobs, with(state.cars, van, car)), was.stock.get(part));
        }

        int ofVisit(int visit, int what) {
            if (!in(visit, 0, state.jobs.size() - 1)) {
                return -1;
            }
            Job job = state.jobs.get(visit);
            int[] facts = {job.place, job.skill, job.part, job.many, job.from, job.to};
            if (in(what, 0, 5)) {
                return facts[what];
            }
            return in(what, 6, 9) ? new Planned(state).promises[visit][what - 6] : -2;
        }

        int ofVan(int van, int what) {
            if (!in(van, 0, state.cars.size() - 1)) {
                return -1;
            }
            Drive drive = new Planned(state).drives.get(van);
            int set = drive.jobs.stream().mapToInt(job -> 1 << job).sum();
            int[] facts = {drive.car.home, drive.car.skills, set, drive.minutes(0), drive.minutes(1), drive.free,
                drive.place, drive.events.size()};
            return in(what, 0, 7) ? facts[what] : -2;
        }

        int stock(int van, int part, int what) {
            if (!in(van, 0, state.cars.size() - 1) || !in(part, 0, 4)) {
                return -1;
            }
            Drive drive = new Planned(state).drives.get(van);
            int used = drive.jobs.stream().map(state.jobs::get).filter(j -> j.part == part).mapToInt(Job::many).sum();
            int had = drive.car.stock.get(part);
            return in(what, 0, 2) ? new int[] {had, used, had - used}[what] : -2;
        }

        int event(int van, int event, int what) {
            if (!in(van, 0, state.cars.size() - 1)) {
                return -1;
            }
            List<Event> events = new Planned(state).drives.get(van).events;
            if (!in(event, 0, events.size() - 1)) {
                return -1;
            }
            Event one = events.get(event);
            return in(what, 0, 3) ? new int[] {one.sort, one.begins, one.ends, one.job}[what] : -2;
        }

        int count(int what) {
            Planned plan = new Planned(state);
            int last = plan.drives.stream().mapToInt(drive -> drive.free).max().orElse(0);
            int broken = plan.ofPromise(2) + plan.ofPromise(3) + plan.ofPromise(4);
            int[] counts = {state.jobs.size(), state.cars.size(), plan.ofPromise(0), plan.ofPromise(1), broken,
                plan.ofPromise(2), plan.ofPromise(3), plan.ofPromise(4), plan.minutes(0), plan.minutes(1), last,
                state.settings.get(0), state.settings.get(1), state.settings.get(2), pad.length(), history.size()};
            return in(what, 0, 15) ? counts[what] : -2;
        }

        int wanted(int part) {
            if (!in(part, 0, 4)) {
                return -1;
            }
            Planned plan = new Planned(state);
            int sum = 0;
            for (int i = 0; i < state.jobs.size(); i++) {
                boolean lacks = plan.promises[i][0] == 3 && state.jobs.get(i).part == part;
                sum += lacks ? state.jobs.get(i).many : 0;
            }
            return sum;
        }

        int share() {
            int all = state.jobs.size();
            return all == 0 ? -6 : Float.floatToIntBits((float) new Planned(state).made() / (float) all);
        }

        long meanWay(int what) {
            if (!in(what, 0, 1)) {
                return -2;
            }
            Planned plan = new Planned(state);
            if (plan.made() == 0) {
                return 0;
            }
            double mean = (double) plan.minutes(0) / (double) plan.made();
            return Double.doubleToLongBits(what == 0 ? mean : mean % 1.0);
        }

        int would(int place, int skill, int part, int many, int from, int to) {
            int error = jobError(place, skill, part, many, from, to);
            if (error != 0) {
                return error;
            }
            List<Job> jobs = and(state.jobs, new Job(place, skill, part, many, from, to));
            return new Planned(new State(state.settings, jobs, state.cars)).promises[jobs.size() - 1][0];
        }

        int withVan(int home, int skills) {
            if (!in(home, 0, 99) || !in(skills, 0, 15)) {
                return -2;
            }
            if (state.cars.size() == 4) {
                return -4;
            }
            Car car = new Car(home, skills, List.of(99, 99, 99, 99, 99));
            return new Planned(new State(state.settings, state.jobs, and(state.cars, car))).made();
        }

        int slowest() {
            int[] made = new int[10];
            int found = 1;
            for (int pace = 1; pace <= 9; pace++) {
                made[pace] = new Planned(new State(with(state.settings, 0, pace), state.jobs, state.cars)).made();
                found = made[pace] >= made[1] ? pace : found;
            }
            return found;
        }

        int put(long characters) {
            StringBuilder more = new StringBuilder();
            for (int shift = 56; shift >= 0; shift -= 8) {
                int code = (int) (characters >>> shift & 255);
                if (code == 0 && more.length() == 0) {
                    continue;
                }
                if (!in(code, 33, 126)) {
                    return -2;
                }
                more.append((char) code);
            }
            if (more.length() == 0) {
                return -2;
            }
            if (pad.length() + more.length() > 80) {
                return -4;
            }
            pad += more;
            return pad.length();
        }

        int wipe() {
            int length = pad.length();
            pad = "";
            return length;
        }

        int fault() {
            for (int length = 1; length <= pad.length(); length++) {
                Matcher matcher = TEXT.matcher(pad.substring(0, length));
                if (!matcher.matches() && !matcher.hitEnd()) {
                    return length - 1;
                }
            }
            return TEXT.matcher(pad).matches() ? -6 : pad.length();
        }

        int carryOut() {
            if (fault() != -6) {
                return -3;
            }
            List<State> before = new ArrayList<>(history);
            State first = state;
            int done = 0;
            for (String order : pad.split(";")) {
                if (carryOne(order) < 0) {
                    break;
                }
                done++;
            }
            State then = state;
            history.clear();
            history.addAll(before);
            state = first;
            pad = "";
            return change(then, done);
        }

        private int carryOne(String order) {
            String[] told = order.substring(1).split("[-#+*:/=]");
            int[] n = new int[told.length];
            for (int i = 0; i < n.length && (order.charAt(0) != 'w' || i == 0); i++) {
                n[i] = Integer.parseInt(told[i]);
            }
            switch (order.charAt(0)) {
                case 'v':
                    return visit(n[0], n[1], n[2], n[3], n[4], n[5]);
                case 'w':
                    int skills = 0;
                    for (char skill : told[1].toCharArray()) {
                        skills |= 1 << skill - '0';
                    }
                    return van(n[0], skills);
                case 'l':
                    return load(n[0], n[1], n[2]);
                default:
                    return drop(n[0]);
            }
        }

        int undo() {
            if (history.isEmpty()) {
                return -5;
            }
            state = history.remove(history.size() - 1);
            return history.size();
        }

        int save(int slot) {
            if (!in(slot, 0, 1)) {
                return -2;
            }
            slots[slot] = state;
            return state.jobs.size();
        }

        int restore(int slot) {
            if (!in(slot, 0, 1)) {
                return -2;
            }
            return slots[slot] == null ? -5 : change(slots[slot], slots[slot].jobs.size());
        }
    }

    private static long seed;

    /** A number of 0 to below - 1, by a fixed rule. */
    private static int next(int below) {
        seed = seed * 6364136223846793005L + 1442695040888963407L;
        return (int) ((seed >>> 33) % below);
    }

    /** Mostly 0 to most, sometimes just outside of it, seldom far outside. */
    private static int near(int most) {
        int kind = next(40);
        if (kind == 0) {
            return -1;
        }
        if (kind == 1) {
            return most + 1;
        }
        if (kind == 2 && next(4) == 0) {
            return next(2) == 0 ? Integer.MIN_VALUE : Integer.MAX_VALUE;
        }
        return next(most + 1);
    }

    private static int[] job() {
        int from = near(next(3) == 0 ? 999 : 200);
        int to = next(10) == 0 ? near(999) : (int) Math.min(999L, (long) from + next(next(2) == 0 ? 40 : 300));
        return new int[] {near(99), near(next(3) == 0 ? 3 : 1), near(4), near(next(2) == 0 ? 9 : 2), from, to};
    }

    private static String order() {
        String number = "" + (next(12) == 0 ? next(1200) : next(60));
        switch (next(6)) {
            case 0:
            case 1:
                return "v" + number + "#" + next(next(9) == 0 ? 10 : 2) + "+" + next(5) + "*" + next(4) + ":" + next(90)
                    + "-" + (90 + next(300));
            case 2:
                return "w" + number + "/" + next(4) + (next(2) == 0 ? "" : "" + next(next(9) == 0 ? 10 : 4));
            case 3:
                return "l" + next(3) + "+" + next(next(9) == 0 ? 10 : 5) + "=" + number;
            default:
                return "x" + next(14);
        }
    }

    private static String text() {
        StringBuilder text = new StringBuilder(order());
        for (int more = next(4); more > 0; more--) {
            text.append(';').append(order());
        }
        String signs = "vwlx#+*:-/=;0123456789!~";
        if (next(3) == 0) {
            int at = next(text.length());
            char sign = signs.charAt(next(signs.length()));
            if (next(2) == 0) {
                text.setCharAt(at, sign);
            } else {
                text.insert(at, sign);
            }
        }
        if (next(5) == 0) {
            text.setLength(next(text.length() + 1));
        }
        return text.toString();
    }

    private static void changeSomething(int run, VisitVans x, Model m) {
        int[] j = job();
        int a = near(4);
        int b = near(4);
        switch (next(14)) {
            case 0:
                int setting = near(2);
                int value = near(new int[] {9, 120, 300, 9}[Math.floorMod(setting, 4)]);
                Due.due(run + ": set(" + setting + ", " + value + ")", x.set(setting, value), m.set(setting, value));
                break;
            case 1:
            case 2:
            case 3:
            case 4:
            case 5:
                Due.due(run + ": visit()", x.visit(j[0], j[1], j[2], j[3], j[4], j[5]),
                    m.visit(j[0], j[1], j[2], j[3], j[4], j[5]));
                break;
            case 6:
                int visit = near(20);
                Due.due(run + ": drop(" + visit + ")", x.drop(visit), m.drop(visit));
                break;
            case 7:
                int home = near(99);
                int skills = near(15);
                Due.due(run + ": van()", x.van(home, skills), m.van(home, skills));
                break;
            case 8:
            case 9:
                int many = near(next(2) == 0 ? 99 : 9);
                Due.due(run + ": load()", x.load(a, b, many), m.load(a, b, many));
                break;
            case 10:
                Due.due(run + ": undo()", x.undo(), m.undo());
                break;
            case 11:
                Due.due(run + ": save()", x.save(a), m.save(a));
                break;
            case 12:
                int slot = next(6) == 0 ? near(1) : 5;
                Due.due(run + ": restore()", x.restore(slot), m.restore(slot));
                break;
            default:
                long high = (long) next(65536) << 48 | (long) next(65536) << 32;
                long codes = (high | (long) next(65536) << 16 | next(65536)) >>> 8 * next(8);
                Due.due(run + ": put()", x.put(codes), m.put(codes));
        }
    }

    private static void tellSomething(int run, VisitVans x, Model m) {
        int[] j = job();
        int van = near(3);
        int part = near(4);
        int what = near(15);
        int visit = near(20);
        int event = near(next(2) == 0 ? 8 : 40);
        Due.due(run + ": ofVisit()", x.ofVisit(visit, what), m.ofVisit(visit, what));
        Due.due(run + ": ofVan()", x.ofVan(van, what), m.ofVan(van, what));
        Due.due(run + ": stock()", x.stock(van, part, what & 3), m.stock(van, part, what & 3));
        Due.due(run + ": event()", x.event(van, event, what & 3), m.event(van, event, what & 3));
        Due.due(run + ": count(" + what + ")", x.count(what), m.count(what));
        Due.due(run + ": wanted()", x.wanted(part), m.wanted(part));
        Due.due(run + ": share()", x.share(), m.share());
        Due.due(run + ": meanWay()", x.meanWay(what & 1), m.meanWay(what & 1));
        Due.due(run + ": would()", x.would(j[0], j[1], j[2], j[3], j[4], j[5]),
            m.would(j[0], j[1], j[2], j[3], j[4], j[5]));
        Due.due(run + ": withVan()", x.withVan(visit * 4, what), m.withVan(visit * 4, what));
        Due.due(run + ": slowest()", x.slowest(), m.slowest());
    }

    private static void carryTextOut(int run, VisitVans x, Model m) {
        if (next(4) != 0) {
            Due.due(run + ": wipe()", x.wipe(), m.wipe());
        }
        String text = text();
        for (int from = 0; from < text.length(); from += 8) {
            long codes = Due.codes(text.substring(from, Math.min(text.length(), from + 8)));
            Due.due(run + ": put()", x.put(codes), m.put(codes));
        }
        Due.due(run + ": fault() of " + m.pad, x.fault(), m.fault());
        Due.due(run + ": carryOut() of " + m.pad, x.carryOut(), m.carryOut());
    }

    private static void tellVisits(int run, VisitVans x, Model m) {
        for (int what = -1; what <= 16; what++) {
            Due.due(run + ": count(" + what + ")", x.count(what), m.count(what));
        }
        for (int visit = 0; visit < 20; visit++) {
            for (int what = 0; what <= 10; what++) {
                Due.due(run + ": ofVisit(" + visit + ", " + what + ")", x.ofVisit(visit, what), m.ofVisit(visit, what));
            }
        }
    }

    private static void tellVans(int run, VisitVans x, Model m) {
        for (int van = 0; van < 4; van++) {
            for (int what = 0; what <= 8; what++) {
                Due.due(run + ": ofVan(" + van + ", " + what + ")", x.ofVan(van, what), m.ofVan(van, what));
            }
            for (int part = 0; part < 5; part++) {
                for (int what = 0; what < 3; what++) {
                    String call = ": stock(" + van + ", " + part + ", " + what + ")";
                    Due.due(run + call, x.stock(van, part, what), m.stock(van, part, what));
                }
            }
            for (int event = 0; event < 9; event++) {
                for (int what = 0; what < 4; what++) {
                    String call = ": event(" + van + ", " + event + ", " + what + ")";
                    Due.due(run + call, x.event(van, event, what), m.event(van, event, what));
                }
            }
        }
    }

    /** Every third run is long, the others tell all of their visits or of their vans in the end. */
    private static void run(int run) {
        seed = run;
        VisitVans x = new VisitVans();
        Model m = new Model();
        int before = Due.asked();
        for (int round = 0; round < (run % 3 == 0 ? 16 : 8); round++) {
            for (int i = 0; i < 6; i++) {
                changeSomething(run, x, m);
            }
            carryTextOut(run, x, m);
            tellSomething(run, x, m);
        }
        if (run % 3 == 1) {
            tellVisits(run, x, m);
        }
        if (run % 3 == 2) {
            tellVans(run, x, m);
        }
        int calls = Due.asked() - before;
        Due.due(run + ": an object is used for " + calls + " calls, at most 512", calls <= 512);
    }

    public static void main(String[] args) {
        for (int run = 0; run < RUNS; run++) {
            run(run);
        }
        Due.finish();
    }
}
