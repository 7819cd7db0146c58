/** Visits that vans make along a road in promised windows. */
public final class VisitVans {
    public static final int NO_SUCH = -1, BAD_VALUE = -2, BAD_TEXT = -3, TOO_MANY = -4, NOT_POSSIBLE = -5, NONE = -6;
    public static final int PACE = 0, LAST = 1, SHIFT = 2;

    private static final int NO_ERROR = 0;

    private static final int SETTINGS = 3;
    private static final int[] LEAST_SETTING = {1, 1, 0};
    private static final int[] MOST_SETTING = {9, 120, 300};
    private static final int[] FIRST_SETTING = {2, 30, 120};

    private static final int MOST_VISITS = 20;
    // would() tries a visit more, also when there are as many as may come.
    private static final int VISIT_ROWS = MOST_VISITS + 1;
    private static final int MOST_VANS = 4;
    private static final int SKILLS = 4;
    private static final int PARTS = 5;
    private static final int MOST_PLACE = 99;
    private static final int MOST_USED = 9;
    private static final int MOST_STOCK = 99;
    private static final int MOST_MINUTE = 999;

    // The rows below keep the order of the numbers by which ofVisit(), ofVan() and event() are asked.
    private static final int VISIT_FACTS = 6, PLACE = 0, SKILL = 1, PART = 2, MANY = 3, FROM = 4, TO = 5;
    private static final int OUTCOME_FACTS = 4, PROMISE = 0, BY_VAN = 1, BEGINS = 2, ENDS = 3;
    private static final int VAN_FACTS = 2, HOME = 0, SKILL_SET = 1;
    private static final int DRIVE_FACTS = 6, VISIT_SET = 0, ON_WAY = 1, WAITED = 2, FREE = 3, FREE_AT = 4, EVENTS = 5;
    private static final int EVENT_FACTS = 4, SORT = 0, EVENT_BEGINS = 1, EVENT_ENDS = 2, EVENT_VISIT = 3;

    private static final int WAY_EVENT = 0, WAITING_EVENT = 1, VISIT_EVENT = 2;
    private static final int MOST_EVENTS = 3 * VISIT_ROWS;

    private static final int FIRST_LOOK = 0, SECOND_LOOK = 1;
    private static final int KEPT = 0, MOVED = 1, NO_SKILL = 2, NO_PARTS = 3, TOO_LATE = 4;

    private static final int MOST_SIGNS = 80;
    private static final int MOST_PUT = 8;
    private static final int LEAST_CODE = 33, MOST_CODE = 126;
    private static final int MOST_TOLD = 6;
    private static final int MOST_DIGITS = 3;

    private static final int MOST_UNDONE = 6;
    private static final int SLOTS = 2;

    private final Road road = new Road();
    // Always the plan of the road as it is: every change makes it anew.
    private final Plan plan = new Plan();
    private final Road trialRoad = new Road();
    private final Plan trialPlan = new Plan();
    private final History history = new History();
    private final Road[] slots = new Road[SLOTS];
    private final boolean[] saved = new boolean[SLOTS];
    private final Pad pad = new Pad();

    public VisitVans() {
        for (int slot = 0; slot < SLOTS; slot++) {
            slots[slot] = new Road();
        }
    }

    // ---- changes

    public int set(int setting, int value) {
        history.note(road);
        return changed(road.changeSetting(setting, value));
    }

    public int visit(int place, int skill, int part, int many, int from, int to) {
        history.note(road);
        return changed(road.addVisit(place, skill, part, many, from, to));
    }

    public int drop(int visit) {
        history.note(road);
        return changed(road.removeVisit(visit));
    }

    public int van(int home, int skills) {
        history.note(road);
        return changed(road.addVan(home, skills));
    }

    public int load(int van, int part, int many) {
        history.note(road);
        return changed(road.changeStock(van, part, many));
    }

    // ---- what there is

    public int ofVisit(int visit, int what) {
        if (!road.hasVisit(visit)) {
            return NO_SUCH;
        }
        if (!within(what, 0, VISIT_FACTS + OUTCOME_FACTS - 1)) {
            return BAD_VALUE;
        }
        if (what < VISIT_FACTS) {
            return road.visitFact(visit, what);
        }
        return plan.outcome(visit, what - VISIT_FACTS);
    }

    public int ofVan(int van, int what) {
        if (!road.hasVan(van)) {
            return NO_SUCH;
        }
        if (!within(what, 0, VAN_FACTS + DRIVE_FACTS - 1)) {
            return BAD_VALUE;
        }
        if (what < VAN_FACTS) {
            return road.vanFact(van, what);
        }
        return plan.driveFact(van, what - VAN_FACTS);
    }

    public int stock(int van, int part, int what) {
        if (!road.hasVan(van) || !isPart(part)) {
            return NO_SUCH;
        }
        switch (what) {
            case 0:
                return road.partsOf(van, part);
            case 1:
                return road.partsOf(van, part) - plan.partsLeft(van, part);
            case 2:
                return plan.partsLeft(van, part);
            default:
                return BAD_VALUE;
        }
    }

    public int event(int van, int event, int what) {
        if (!road.hasVan(van) || event < 0 || event >= plan.driveFact(van, EVENTS)) {
            return NO_SUCH;
        }
        if (!within(what, 0, EVENT_FACTS - 1)) {
            return BAD_VALUE;
        }
        return plan.eventFact(van, event, what);
    }

    public int count(int what) {
        switch (what) {
            case 0:
                return road.visitCount;
            case 1:
                return road.vanCount;
            case 2:
                return plan.promisesThatAre(KEPT);
            case 3:
                return plan.promisesThatAre(MOVED);
            case 4:
                return road.visitCount - plan.visitsMade();
            case 5:
                return plan.promisesThatAre(NO_SKILL);
            case 6:
                return plan.promisesThatAre(NO_PARTS);
            case 7:
                return plan.promisesThatAre(TOO_LATE);
            case 8:
                return plan.sumOverVans(ON_WAY);
            case 9:
                return plan.sumOverVans(WAITED);
            case 10:
                return plan.lastFree();
            case 11:
                return road.settings[PACE];
            case 12:
                return road.settings[LAST];
            case 13:
                return road.settings[SHIFT];
            case 14:
                return pad.length;
            case 15:
                return history.many;
            default:
                return BAD_VALUE;
        }
    }

    public int wanted(int part) {
        if (!isPart(part)) {
            return NO_SUCH;
        }
        int sum = 0;
        for (int visit = 0; visit < road.visitCount; visit++) {
            if (plan.outcome(visit, PROMISE) == NO_PARTS && road.visitFact(visit, PART) == part) {
                sum += road.visitFact(visit, MANY);
            }
        }
        return sum;
    }

    public int share() {
        if (road.visitCount == 0) {
            return NONE;
        }
        float part = (float) plan.visitsMade() / (float) road.visitCount;
        return (int) bitsOf((double) part, 23, 127);
    }

    public long meanWay(int what) {
        if (what != 0 && what != 1) {
            return BAD_VALUE;
        }
        int made = plan.visitsMade();
        if (made == 0) {
            return 0L;
        }
        double mean = (double) plan.sumOverVans(ON_WAY) / (double) made;
        // The language rules leave no % on doubles; for a mean, which is 0 or more, this is the same, and exact.
        double told = what == 0 ? mean : mean - (double) (long) mean;
        return bitsOf(told, 52, 1023);
    }

    // ---- what if; nothing changes

    public int would(int place, int skill, int part, int many, int from, int to) {
        int error = visitError(place, skill, part, many, from, to);
        if (error != NO_ERROR) {
            return error;
        }
        trialRoad.copyFrom(road);
        int visit = trialRoad.putVisit(place, skill, part, many, from, to);
        trialPlan.make(trialRoad);
        return trialPlan.outcome(visit, PROMISE);
    }

    public int withVan(int home, int skills) {
        trialRoad.copyFrom(road);
        int van = trialRoad.addVan(home, skills);
        if (van < 0) {
            return van;
        }
        for (int part = 0; part < PARTS; part++) {
            trialRoad.changeStock(van, part, MOST_STOCK);
        }
        trialPlan.make(trialRoad);
        return trialPlan.visitsMade();
    }

    public int slowest() {
        int least = LEAST_SETTING[PACE];
        int most = madeAtPace(least);
        // A slower pace may make more visits than a faster one, so no pace between tells about the others.
        for (int pace = MOST_SETTING[PACE]; pace > least; pace--) {
            if (madeAtPace(pace) >= most) {
                return pace;
            }
        }
        return least;
    }

    // ---- texts

    public int put(long characters) {
        return pad.append(characters);
    }

    public int wipe() {
        int length = pad.length;
        pad.length = 0;
        return length;
    }

    public int fault() {
        return pad.firstFault();
    }

    public int carryOut() {
        if (pad.firstFault() != NONE) {
            return BAD_TEXT;
        }
        history.note(road);
        int done = carryOrders();
        pad.length = 0;
        return changed(done);
    }

    // ---- undo, saving

    public int undo() {
        if (history.many == 0) {
            return NOT_POSSIBLE;
        }
        history.takeBack(road);
        plan.make(road);
        return history.many;
    }

    public int save(int slot) {
        if (!within(slot, 0, SLOTS - 1)) {
            return BAD_VALUE;
        }
        slots[slot].copyFrom(road);
        saved[slot] = true;
        return road.visitCount;
    }

    public int restore(int slot) {
        if (!within(slot, 0, SLOTS - 1)) {
            return BAD_VALUE;
        }
        if (!saved[slot]) {
            return NOT_POSSIBLE;
        }
        history.note(road);
        road.copyFrom(slots[slot]);
        return changed(road.visitCount);
    }

    // ---- helpers

    /** Ends a change that was noted: one that answers an error has changed nothing and is not kept. */
    private int changed(int answer) {
        if (answer >= 0) {
            history.keep();
            plan.make(road);
        }
        return answer;
    }

    private int madeAtPace(int pace) {
        trialRoad.copyFrom(road);
        trialRoad.changeSetting(PACE, pace);
        trialPlan.make(trialRoad);
        return trialPlan.visitsMade();
    }

    private int carryOrders() {
        pad.start();
        int done = 0;
        while (done < MOST_SIGNS && pad.hasMore() && pad.readOrder() && carryOne() >= 0) {
            done++;
        }
        return done;
    }

    private int carryOne() {
        int[] told = pad.told;
        switch (pad.kind) {
            case 'v':
                return road.addVisit(told[0], told[1], told[2], told[3], told[4], told[5]);
            case 'w':
                return road.addVan(told[0], told[1]);
            case 'l':
                return road.changeStock(told[0], told[1], told[2]);
            default:
                return road.removeVisit(told[0]);
        }
    }

    private static boolean within(int value, int least, int most) {
        return value >= least && value <= most;
    }

    private static boolean isPart(int part) {
        return within(part, 0, PARTS - 1);
    }

    private static int visitError(int place, int skill, int part, int many, int from, int to) {
        if (!within(skill, 0, SKILLS - 1) || !isPart(part)) {
            return NO_SUCH;
        }
        if (!within(place, 0, MOST_PLACE) || !within(many, 0, MOST_USED)) {
            return BAD_VALUE;
        }
        if (!within(from, 0, MOST_MINUTE) || !within(to, from, MOST_MINUTE)) {
            return BAD_VALUE;
        }
        return NO_ERROR;
    }

    /**
     * The bits of a number that is 0 or more, by arithmetic alone, as the library's own way to them may not be used.
     * All steps are exact: halving, doubling, and what stays behind the point.
     */
    private static long bitsOf(double value, int fractionBits, int bias) {
        if (value <= 0.0) {
            return 0L;
        }
        double part = value;
        int exponent = bias;
        while (part >= 2.0 && exponent < 2 * bias) {
            part = part / 2.0;
            exponent++;
        }
        while (part < 1.0 && exponent > 1) {
            part = part * 2.0;
            exponent--;
        }
        long fraction = (long) ((part - 1.0) * (double) (1L << fractionBits));
        return ((long) exponent << fractionBits) | fraction;
    }

    /** All that changes change, and that is undone, saved and restored. */
    private static final class Road {
        final int[] settings = FIRST_SETTING.clone();
        private final int[] visits = new int[VISIT_ROWS * VISIT_FACTS];
        private final int[] vans = new int[MOST_VANS * VAN_FACTS];
        private final int[] parts = new int[MOST_VANS * PARTS];
        int visitCount;
        int vanCount;

        void copyFrom(Road other) {
            System.arraycopy(other.settings, 0, settings, 0, SETTINGS);
            System.arraycopy(other.visits, 0, visits, 0, visits.length);
            System.arraycopy(other.vans, 0, vans, 0, vans.length);
            System.arraycopy(other.parts, 0, parts, 0, parts.length);
            visitCount = other.visitCount;
            vanCount = other.vanCount;
        }

        boolean hasVisit(int visit) {
            return visit >= 0 && visit < visitCount;
        }

        boolean hasVan(int van) {
            return van >= 0 && van < vanCount;
        }

        int visitFact(int visit, int fact) {
            return visits[visit * VISIT_FACTS + fact];
        }

        int vanFact(int van, int fact) {
            return vans[van * VAN_FACTS + fact];
        }

        int partsOf(int van, int part) {
            return parts[van * PARTS + part];
        }

        int changeSetting(int setting, int value) {
            if (!within(setting, 0, SETTINGS - 1)) {
                return BAD_VALUE;
            }
            if (!within(value, LEAST_SETTING[setting], MOST_SETTING[setting])) {
                return BAD_VALUE;
            }
            int previous = settings[setting];
            settings[setting] = value;
            return previous;
        }

        int addVisit(int place, int skill, int part, int many, int from, int to) {
            int error = visitError(place, skill, part, many, from, to);
            if (error != NO_ERROR) {
                return error;
            }
            if (visitCount >= MOST_VISITS) {
                return TOO_MANY;
            }
            return putVisit(place, skill, part, many, from, to);
        }

        /** Also puts the visit that is one too many, which would() tries. */
        int putVisit(int place, int skill, int part, int many, int from, int to) {
            if (visitCount >= VISIT_ROWS) {
                return TOO_MANY;
            }
            int row = visitCount * VISIT_FACTS;
            visits[row + PLACE] = place;
            visits[row + SKILL] = skill;
            visits[row + PART] = part;
            visits[row + MANY] = many;
            visits[row + FROM] = from;
            visits[row + TO] = to;
            visitCount++;
            return visitCount - 1;
        }

        int removeVisit(int visit) {
            if (!hasVisit(visit)) {
                return NO_SUCH;
            }
            int row = visit * VISIT_FACTS;
            int behind = (visitCount - 1 - visit) * VISIT_FACTS;
            System.arraycopy(visits, row + VISIT_FACTS, visits, row, behind);
            visitCount--;
            return visitCount;
        }

        int addVan(int home, int skills) {
            if (!within(home, 0, MOST_PLACE) || !within(skills, 0, (1 << SKILLS) - 1)) {
                return BAD_VALUE;
            }
            if (vanCount >= MOST_VANS) {
                return TOO_MANY;
            }
            // Its parts are 0 already: no van ever leaves, and a road is copied whole.
            vans[vanCount * VAN_FACTS + HOME] = home;
            vans[vanCount * VAN_FACTS + SKILL_SET] = skills;
            vanCount++;
            return vanCount - 1;
        }

        int changeStock(int van, int part, int many) {
            if (!hasVan(van) || !isPart(part)) {
                return NO_SUCH;
            }
            if (!within(many, 0, MOST_STOCK)) {
                return BAD_VALUE;
            }
            int previous = parts[van * PARTS + part];
            parts[van * PARTS + part] = many;
            return previous;
        }
    }

    /** What comes of a road by the rule: of its visits, its vans, their stock and their events. */
    private static final class Plan {
        private final int[] order = new int[VISIT_ROWS];
        private final int[] outcomes = new int[VISIT_ROWS * OUTCOME_FACTS];
        private final int[] drives = new int[MOST_VANS * DRIVE_FACTS];
        private final int[] left = new int[MOST_VANS * PARTS];
        private final int[] events = new int[MOST_VANS * MOST_EVENTS * EVENT_FACTS];
        private int visitCount;
        private int vanCount;

        void make(Road road) {
            visitCount = road.visitCount;
            vanCount = road.vanCount;
            sendVansHome(road);
            orderByEnds(road);
            for (int i = 0; i < visitCount; i++) {
                look(road, order[i], FIRST_LOOK);
            }
            for (int i = 0; i < visitCount; i++) {
                if (outcome(order[i], PROMISE) == TOO_LATE) {
                    look(road, order[i], SECOND_LOOK);
                }
            }
        }

        int outcome(int visit, int fact) {
            return outcomes[visit * OUTCOME_FACTS + fact];
        }

        int driveFact(int van, int fact) {
            return drives[van * DRIVE_FACTS + fact];
        }

        int partsLeft(int van, int part) {
            return left[van * PARTS + part];
        }

        int eventFact(int van, int event, int fact) {
            return events[(van * MOST_EVENTS + event) * EVENT_FACTS + fact];
        }

        int promisesThatAre(int promise) {
            int sum = 0;
            for (int visit = 0; visit < visitCount; visit++) {
                if (outcome(visit, PROMISE) == promise) {
                    sum++;
                }
            }
            return sum;
        }

        int visitsMade() {
            return promisesThatAre(KEPT) + promisesThatAre(MOVED);
        }

        int sumOverVans(int fact) {
            int sum = 0;
            for (int van = 0; van < vanCount; van++) {
                sum += driveFact(van, fact);
            }
            return sum;
        }

        int lastFree() {
            int last = 0;
            for (int van = 0; van < vanCount; van++) {
                last = Math.max(last, driveFact(van, FREE));
            }
            return last;
        }

        private void sendVansHome(Road road) {
            for (int van = 0; van < vanCount; van++) {
                int row = van * DRIVE_FACTS;
                for (int fact = 0; fact < DRIVE_FACTS; fact++) {
                    drives[row + fact] = 0;
                }
                drives[row + FREE_AT] = road.vanFact(van, HOME);
                for (int part = 0; part < PARTS; part++) {
                    left[van * PARTS + part] = road.partsOf(van, part);
                }
            }
        }

        private void orderByEnds(Road road) {
            for (int visit = 0; visit < visitCount; visit++) {
                int end = road.visitFact(visit, TO);
                int at = visit;
                while (at > 0 && road.visitFact(order[at - 1], TO) > end) {
                    order[at] = order[at - 1];
                    at--;
                }
                order[at] = visit;
            }
        }

        private void look(Road road, int visit, int look) {
            int shift = look * road.settings[SHIFT];
            int van = firstToBegin(road, visit, shift);
            if (van == NONE) {
                putOutcome(visit, reason(road, visit), NONE, NONE, NONE);
                return;
            }
            int begins = Math.max(comes(road, van, visit), road.visitFact(visit, FROM) + shift);
            int ends = begins + road.settings[LAST];
            putOutcome(visit, look == FIRST_LOOK ? KEPT : MOVED, van, begins, ends);
            drive(road, van, visit);
        }

        private int firstToBegin(Road road, int visit, int shift) {
            int opens = road.visitFact(visit, FROM) + shift;
            int latest = road.visitFact(visit, TO) + shift;
            int first = NONE;
            int earliest = 0;
            for (int van = 0; van < vanCount; van++) {
                if (hasSkill(road, van, visit) && hasParts(road, van, visit)) {
                    int begins = Math.max(comes(road, van, visit), opens);
                    if (begins <= latest && (first == NONE || begins < earliest)) {
                        first = van;
                        earliest = begins;
                    }
                }
            }
            return first;
        }

        private boolean hasSkill(Road road, int van, int visit) {
            return ((road.vanFact(van, SKILL_SET) >> road.visitFact(visit, SKILL)) & 1) == 1;
        }

        private boolean hasParts(Road road, int van, int visit) {
            return partsLeft(van, road.visitFact(visit, PART)) >= road.visitFact(visit, MANY);
        }

        private int comes(Road road, int van, int visit) {
            int units = Math.abs(road.visitFact(visit, PLACE) - driveFact(van, FREE_AT));
            return driveFact(van, FREE) + units * road.settings[PACE];
        }

        /** Why no van makes a visit. At the first look, one that is too late is moved. */
        private int reason(Road road, int visit) {
            int reason = NO_SKILL;
            for (int van = 0; van < vanCount; van++) {
                if (hasSkill(road, van, visit)) {
                    if (hasParts(road, van, visit)) {
                        return TOO_LATE;
                    }
                    reason = NO_PARTS;
                }
            }
            return reason;
        }

        private void putOutcome(int visit, int promise, int van, int begins, int ends) {
            int row = visit * OUTCOME_FACTS;
            outcomes[row + PROMISE] = promise;
            outcomes[row + BY_VAN] = van;
            outcomes[row + BEGINS] = begins;
            outcomes[row + ENDS] = ends;
        }

        /** Takes a van to a visit whose outcome is put already. */
        private void drive(Road road, int van, int visit) {
            int row = van * DRIVE_FACTS;
            int leaves = drives[row + FREE];
            int comes = comes(road, van, visit);
            int begins = outcome(visit, BEGINS);
            int ends = outcome(visit, ENDS);
            addEvent(van, WAY_EVENT, leaves, comes, visit);
            addEvent(van, WAITING_EVENT, comes, begins, visit);
            addEvent(van, VISIT_EVENT, begins, ends, visit);
            drives[row + VISIT_SET] |= 1 << visit;
            drives[row + ON_WAY] += comes - leaves;
            drives[row + WAITED] += begins - comes;
            drives[row + FREE] = ends;
            drives[row + FREE_AT] = road.visitFact(visit, PLACE);
            left[van * PARTS + road.visitFact(visit, PART)] -= road.visitFact(visit, MANY);
        }

        private void addEvent(int van, int sort, int begins, int ends, int visit) {
            int event = driveFact(van, EVENTS);
            if (begins == ends || event >= MOST_EVENTS) {
                return;
            }
            int row = (van * MOST_EVENTS + event) * EVENT_FACTS;
            events[row + SORT] = sort;
            events[row + EVENT_BEGINS] = begins;
            events[row + EVENT_ENDS] = ends;
            events[row + EVENT_VISIT] = visit;
            drives[van * DRIVE_FACTS + EVENTS] = event + 1;
        }
    }

    /** The states ahead of the latest changes. */
    private static final class History {
        // One more than can be undone: the state ahead of a change that may yet answer an error.
        private static final int RING = MOST_UNDONE + 1;
        private final Road[] states = new Road[RING];
        private int oldest;
        int many;

        History() {
            for (int i = 0; i < RING; i++) {
                states[i] = new Road();
            }
        }

        void note(Road road) {
            states[(oldest + many) % RING].copyFrom(road);
        }

        void keep() {
            if (many < MOST_UNDONE) {
                many++;
            } else {
                oldest = (oldest + 1) % RING;
            }
        }

        void takeBack(Road road) {
            if (many > 0) {
                many--;
                road.copyFrom(states[(oldest + many) % RING]);
            }
        }
    }

    /** A text, and the reading of its orders from left to right: in front of a sign that cannot stand it stops. */
    private static final class Pad {
        private final char[] signs = new char[MOST_SIGNS];
        int length;
        private int at;
        private int toldCount;
        final int[] told = new int[MOST_TOLD];
        char kind;

        int append(long characters) {
            int many = 0;
            // A code that is 0 with something above it is refused like any other code that is no sign.
            for (long rest = characters; rest != 0 && many < MOST_PUT; rest >>>= 8) {
                if (!within((int) (rest & 255), LEAST_CODE, MOST_CODE)) {
                    return BAD_VALUE;
                }
                many++;
            }
            if (many == 0) {
                return BAD_VALUE;
            }
            if (length + many > MOST_SIGNS) {
                return TOO_MANY;
            }
            for (int i = 0; i < many; i++) {
                signs[length + many - 1 - i] = (char) ((characters >>> (8 * i)) & 255);
            }
            length += many;
            return length;
        }

        void start() {
            at = 0;
        }

        boolean hasMore() {
            return at < length;
        }

        int firstFault() {
            start();
            boolean fits = readOrder();
            for (int orders = 1; fits && hasMore() && orders < MOST_SIGNS; orders++) {
                fits = readOrder();
            }
            return fits ? NONE : at;
        }

        /** Reads an order, and the ";" ahead of it, if it is not the first one. */
        boolean readOrder() {
            if (at > 0 && !readSign(';')) {
                return false;
            }
            kind = nextSign();
            String form = formOf(kind);
            boolean fits = !form.isEmpty() && readSign(kind);
            toldCount = 0;
            for (int i = 0; fits && i < form.length(); i++) {
                fits = readPiece(form.charAt(i));
            }
            return fits;
        }

        /** What stands behind the first sign of an order: n is a number, d a digit, s skills; others are signs. */
        private static String formOf(char kind) {
            switch (kind) {
                case 'v':
                    return "n#d+d*d:n-n";
                case 'w':
                    return "n/s";
                case 'l':
                    return "d+d=n";
                case 'x':
                    return "n";
                default:
                    return "";
            }
        }

        private boolean readPiece(char piece) {
            switch (piece) {
                case 'n':
                    return readNumber();
                case 'd':
                    return readDigit();
                case 's':
                    return readSkills();
                default:
                    return readSign(piece);
            }
        }

        /** The sign that stands next; behind the text 0, which no sign is. */
        private char nextSign() {
            return at >= 0 && at < length ? signs[at] : (char) 0;
        }

        private boolean readSign(char sign) {
            if (nextSign() != sign) {
                return false;
            }
            at++;
            return true;
        }

        /** The digit that stands next, NONE if there is none. */
        private int nextDigit() {
            int digit = nextSign() - '0';
            return within(digit, 0, 9) ? digit : NONE;
        }

        private boolean readDigit() {
            int digit = nextDigit();
            if (digit == NONE) {
                return false;
            }
            at++;
            tell(digit);
            return true;
        }

        // A digit too many is left for the next piece to refuse: none begins with a digit where a number ends.
        private boolean readNumber() {
            int value = nextDigit();
            if (value == NONE) {
                return false;
            }
            at++;
            for (int digits = 1; digits < MOST_DIGITS && value > 0 && nextDigit() != NONE; digits++) {
                value = value * 10 + nextDigit();
                at++;
            }
            tell(value);
            return true;
        }

        private boolean readSkills() {
            int skills = 0;
            for (int read = 0; read < MOST_SIGNS && within(nextDigit(), 0, SKILLS - 1); read++) {
                skills |= 1 << nextDigit();
                at++;
            }
            tell(skills);
            return skills != 0;
        }

        private void tell(int value) {
            if (toldCount < MOST_TOLD) {
                told[toldCount] = value;
                toldCount++;
            }
        }
    }
}
