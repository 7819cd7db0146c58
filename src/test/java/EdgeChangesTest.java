/** Boundary cases of the promises 1 to 6: a new object, set, visit, drop, van, load. */
public final class EdgeChangesTest {
    private static final int NO_SUCH = -1, BAD_VALUE = -2, TOO_MANY = -4, NOT_POSSIBLE = -5, NONE = -6;
    private static final int PACE = 0, LAST = 1, SHIFT = 2;

    public static void main(String[] args) {
        aNewRoadIsEmpty();
        aNewRoadIsItsOwn();
        setReturnsThePrevious();
        setWithoutSuchASetting();
        setOutOfItsRange();
        setIsAChange();
        visitPlace();
        visitSkill();
        visitPart();
        visitMany();
        visitFrom();
        visitTo();
        visitReturnsItsNumber();
        visitNoSuch();
        visitBadValue();
        visitTooMany();
        visitIsAChange();
        dropReturnsHowMany();
        dropNoSuch();
        dropIsAChange();
        vanComesWithoutStock();
        vanHome();
        vanSkills();
        vanReturnsItsNumber();
        vanBadValue();
        vanTooMany();
        loadMany();
        loadReturnsWhatItHad();
        loadNoSuch();
        loadBadValue();
        loadIsAChange();
        Due.finish();
    }

    /** Promise 1: "Creates a road without visits and vans." */
    private static void aNewRoadIsEmpty() {
        VisitVans vans = new VisitVans();
        int[] counts = {0, 0, 0, 0, 0, 0, 0, 0, 0, 0, 0, 2, 30, 120, 0, 0};
        for (int what = 0; what < 16; what++) {
            Due.due("new: count(" + what + ")", vans.count(what), counts[what]);
        }
        for (int number : new int[] {-1, 0, 1, 3, 4, 19, 20}) {
            Due.due("new: ofVisit(" + number + ", 0)", vans.ofVisit(number, 0), NO_SUCH);
            Due.due("new: ofVan(" + number + ", 0)", vans.ofVan(number, 0), NO_SUCH);
            Due.due("new: stock(" + number + ", 0, 0)", vans.stock(number, 0, 0), NO_SUCH);
            Due.due("new: event(" + number + ", 0, 0)", vans.event(number, 0, 0), NO_SUCH);
            Due.due("new: drop(" + number + ")", vans.drop(number), NO_SUCH);
            Due.due("new: load(" + number + ", 0, 0)", vans.load(number, 0, 0), NO_SUCH);
        }
        for (int part = 0; part < 5; part++) {
            Due.due("new: wanted(" + part + ")", vans.wanted(part), 0);
        }
        Due.due("new: share()", vans.share(), NONE);
        Due.due("new: meanWay(0)", vans.meanWay(0), 0L);
        Due.due("new: would()", vans.would(0, 0, 0, 0, 0, 999), 2);
        Due.due("new: withVan()", vans.withVan(0, 15), 0);
        Due.due("new: slowest()", vans.slowest(), 9);
        Due.due("new: fault()", vans.fault(), 0);
        Due.due("new: wipe()", vans.wipe(), 0);
        Due.due("new: undo()", vans.undo(), NOT_POSSIBLE);
        Due.due("new: restore(0)", vans.restore(0), NOT_POSSIBLE);
        Due.due("new: restore(1)", vans.restore(1), NOT_POSSIBLE);
    }

    /** Promise 1: "Creates a road" - of its own, also beside a full one. */
    private static void aNewRoadIsItsOwn() {
        VisitVans full = Edges.full();
        full.set(PACE, 9);
        VisitVans vans = new VisitVans();
        Due.due("beside a full one: count(0)", vans.count(0), 0);
        Due.due("beside a full one: count(1)", vans.count(1), 0);
        Due.due("beside a full one: count(11)", vans.count(11), 2);
        Due.due("beside a full one: count(14)", vans.count(14), 0);
        Due.due("beside a full one: restore(0)", vans.restore(0), NOT_POSSIBLE);
        Due.due("beside a full one: undo()", vans.undo(), NOT_POSSIBLE);
        Due.due("beside a full one: van()", vans.van(1, 1), 0);
        Due.due("the full one: count(1)", full.count(1), 4);
        Due.due("the full one: count(0)", full.count(0), 20);
    }

    /** Promise 2: "Returns the previous value" - at first, at both ends of each range, and of the same value. */
    private static void setReturnsThePrevious() {
        int[][] range = {{1, 9, 2}, {1, 120, 30}, {0, 300, 120}};
        for (int setting = 0; setting < 3; setting++) {
            VisitVans vans = new VisitVans();
            int previous = range[setting][2];
            for (int value : new int[] {range[setting][0], range[setting][1], range[setting][1], range[setting][0],
                range[setting][0], range[setting][2], range[setting][2]}) {
                Due.due("set(" + setting + ", " + value + ")", vans.set(setting, value), previous);
                Due.due("count(" + (11 + setting) + ")", vans.count(11 + setting), value);
                previous = value;
            }
            for (int other = 0; other < 3; other++) {
                Due.due("count(" + (11 + other) + ") in the end", vans.count(11 + other), range[other][2]);
            }
        }
    }

    /** Promise 2: "BAD_VALUE if there is no such setting". */
    private static void setWithoutSuchASetting() {
        VisitVans vans = new VisitVans();
        for (int setting : Edges.outside(0, 2)) {
            for (int value : new int[] {1, 0, 9, 10, 120, 300}) {
                Due.due("set(" + setting + ", " + value + ")", vans.set(setting, value), BAD_VALUE);
            }
        }
        Due.due("count(11)", vans.count(11), 2);
        Due.due("count(12)", vans.count(12), 30);
        Due.due("count(13)", vans.count(13), 120);
        Due.due("count(15)", vans.count(15), 0);
        Due.due("set(0, 1)", vans.set(0, 1), 2);
        Due.due("set(2, 1)", vans.set(2, 1), 120);
    }

    /** Promise 2: "or the value is out of its range" - each setting has its own range. */
    private static void setOutOfItsRange() {
        int[][] due = {{0, BAD_VALUE, BAD_VALUE, 120}, {1, 2, 30, 0}, {9, 1, 1, 1}, {10, BAD_VALUE, 9, 9},
            {120, BAD_VALUE, 10, 10}, {121, BAD_VALUE, BAD_VALUE, 120}, {300, BAD_VALUE, BAD_VALUE, 121},
            {301, BAD_VALUE, BAD_VALUE, BAD_VALUE}, {-1, BAD_VALUE, BAD_VALUE, BAD_VALUE}};
        VisitVans vans = new VisitVans();
        for (int[] row : due) {
            for (int setting = 0; setting < 3; setting++) {
                Due.due("set(" + setting + ", " + row[0] + ")", vans.set(setting, row[0]), row[1 + setting]);
            }
        }
        Due.due("count(11)", vans.count(11), 9);
        Due.due("count(12)", vans.count(12), 120);
        Due.due("count(13)", vans.count(13), 300);
    }

    /** Promise 2: "Changes a setting. This is a change." - also to the same value; not if it is refused. */
    private static void setIsAChange() {
        VisitVans vans = new VisitVans();
        vans.set(PACE, 10);
        Due.due("count(15) behind a refused one", vans.count(15), 0);
        vans.set(PACE, 2);
        Due.due("count(15) behind the same value", vans.count(15), 1);
        vans.set(LAST, 120);
        vans.set(SHIFT, 0);
        Due.due("count(15) behind three", vans.count(15), 3);
        Due.due("undo()", vans.undo(), 2);
        Due.due("count(13)", vans.count(13), 120);
        Due.due("undo()", vans.undo(), 1);
        Due.due("count(12)", vans.count(12), 30);
    }

    private static void accepted(String name, int at, int... values) {
        for (int value : values) {
            int[] told = {0, 0, 0, 0, 0, 999};
            told[at] = value;
            VisitVans vans = new VisitVans();
            int answer = vans.visit(told[0], told[1], told[2], told[3], told[4], told[5]);
            Due.due("visit() with " + name + " " + value, answer, 0);
            for (int what = 0; what < 6; what++) {
                String call = name + " " + value + ": ofVisit(0, " + what + ")";
                Due.due(call, vans.ofVisit(0, what), told[what]);
            }
        }
    }

    private static void refused(String name, int at, int error, int... values) {
        for (int value : values) {
            int[] told = {0, 0, 0, 0, 0, 999};
            told[at] = value;
            String call = "visit() with " + name + " " + value;
            Edges.changesNothing(call, Edges::some,
                vans -> vans.visit(told[0], told[1], told[2], told[3], told[4], told[5]), error);
        }
    }

    /** Promise 3: "`place`: 0 to 99". */
    private static void visitPlace() {
        accepted("place", 0, 0, 1, 98, 99);
        refused("place", 0, BAD_VALUE, -1, 100);
    }

    /** Promise 3: "`skill`: 0 to 3". */
    private static void visitSkill() {
        accepted("skill", 1, 0, 1, 2, 3);
        refused("skill", 1, NO_SUCH, -1, 4);
    }

    /** Promise 3: "`part`: 0 to 4". */
    private static void visitPart() {
        accepted("part", 2, 0, 1, 3, 4);
        refused("part", 2, NO_SUCH, -1, 5);
    }

    /** Promise 3: "`many`: 0 to 9". */
    private static void visitMany() {
        accepted("many", 3, 0, 1, 8, 9);
        refused("many", 3, BAD_VALUE, -1, 10);
    }

    /** Promise 3: "`from`: 0 to 999". */
    private static void visitFrom() {
        accepted("from", 4, 0, 1, 998, 999);
        refused("from", 4, BAD_VALUE, -1, 1000);
    }

    /** Promise 3: "`to`: from to 999". */
    private static void visitTo() {
        accepted("to", 5, 0, 1, 998, 999);
        refused("to", 5, BAD_VALUE, -1, 1000);
        for (int from : new int[] {0, 1, 500, 998, 999}) {
            VisitVans vans = new VisitVans();
            String call = "visit() from " + from + " to ";
            Due.due(call + "the minute before", vans.visit(0, 0, 0, 0, from, from - 1), BAD_VALUE);
            Due.due(call + "the same", vans.visit(0, 0, 0, 0, from, from), 0);
            Due.due(call + "the next", vans.visit(0, 0, 0, 0, from, from + 1), from < 999 ? 1 : BAD_VALUE);
            Due.due(call + "999", vans.visit(0, 0, 0, 0, from, 999), from < 999 ? 2 : 1);
            Due.due(call + "1000", vans.visit(0, 0, 0, 0, from, 1000), BAD_VALUE);
            Due.due(call + "the least", vans.visit(0, 0, 0, 0, from, Integer.MIN_VALUE), BAD_VALUE);
            Due.due(call + "the greatest", vans.visit(0, 0, 0, 0, from, Integer.MAX_VALUE), BAD_VALUE);
        }
    }

    /** Promise 3: "Returns its number" - of the first and of the last one. */
    private static void visitReturnsItsNumber() {
        VisitVans vans = new VisitVans();
        for (int visit = 0; visit < 20; visit++) {
            Due.due("visit() " + visit, vans.visit(99 - visit, 3, 4, 9, visit, 999 - visit), visit);
            Due.due("ofVisit(" + visit + ", 0)", vans.ofVisit(visit, 0), 99 - visit);
            Due.due("ofVisit(" + visit + ", 4)", vans.ofVisit(visit, 4), visit);
            Due.due("ofVisit(" + visit + ", 5)", vans.ofVisit(visit, 5), 999 - visit);
        }
    }

    /** Promise 3: "NO_SUCH if there is no such skill or part" - whatever else is wrong. */
    private static void visitNoSuch() {
        VisitVans vans = Edges.visits(19);
        for (int skill : Edges.outside(0, 3)) {
            Due.due("visit() with skill " + skill, vans.visit(0, skill, 0, 0, 0, 0), NO_SUCH);
            int all = vans.visit(skill, skill, skill, skill, skill, skill);
            Due.due("visit() with all " + skill, all, NO_SUCH);
        }
        for (int part : Edges.outside(0, 4)) {
            Due.due("visit() with part " + part, vans.visit(0, 0, part, 0, 0, 0), NO_SUCH);
            Due.due("visit() with part and place wrong", vans.visit(100, 0, part, 0, 0, 0), NO_SUCH);
        }
        Due.due("count(0)", vans.count(0), 19);
        Due.due("visit() with both right", vans.visit(0, 3, 4, 0, 0, 0), 19);
        Due.due("visit() with skill wrong, full", vans.visit(0, 4, 0, 0, 0, 0), NO_SUCH);
        Due.due("visit() with part wrong, full", vans.visit(0, 0, 5, 0, 0, 0), NO_SUCH);
    }

    /** Promise 3: "BAD_VALUE if another argument is out of range" - also if there are 20 visits. */
    private static void visitBadValue() {
        for (int many : new int[] {0, 19, 20}) {
            VisitVans vans = Edges.visits(many);
            String of = "beside " + many + ": visit() with ";
            for (int place : Edges.outside(0, 99)) {
                Due.due(of + "place " + place, vans.visit(place, 0, 0, 0, 0, 0), BAD_VALUE);
            }
            for (int number : Edges.outside(0, 9)) {
                Due.due(of + "many " + number, vans.visit(0, 0, 0, number, 0, 0), BAD_VALUE);
            }
            for (int minute : Edges.outside(0, 999)) {
                Due.due(of + "from " + minute, vans.visit(0, 0, 0, 0, minute, 999), BAD_VALUE);
                Due.due(of + "to " + minute, vans.visit(0, 0, 0, 0, 0, minute), BAD_VALUE);
                Due.due(of + "both " + minute, vans.visit(0, 0, 0, 0, minute, minute), BAD_VALUE);
            }
            Due.due(of + "to ahead of from", vans.visit(0, 0, 0, 0, 999, 998), BAD_VALUE);
            Due.due("count(0)", vans.count(0), many);
        }
    }

    /** Promise 3: "TOO_MANY if there are 20 visits". */
    private static void visitTooMany() {
        VisitVans vans = Edges.visits(19);
        Due.due("visit() beside 19", vans.visit(99, 3, 4, 9, 0, 999), 19);
        Due.due("visit() beside 20", vans.visit(99, 3, 4, 9, 0, 999), TOO_MANY);
        Due.due("count(0) behind it", vans.count(0), 20);
        Edges.changesNothing("visit() of a full one", Edges::full, x -> x.visit(1, 1, 1, 1, 1, 1), TOO_MANY);
        Due.due("drop(0)", vans.drop(0), 19);
        Due.due("visit() beside 19 again", vans.visit(98, 3, 4, 9, 0, 999), 19);
        Due.due("visit() beside 20 again", vans.visit(98, 3, 4, 9, 0, 999), TOO_MANY);
        Due.due("undo()", vans.undo(), 5);
        Due.due("visit() beside 19 behind undo()", vans.visit(97, 3, 4, 9, 0, 999), 19);
        Due.due("ofVisit(19, 0)", vans.ofVisit(19, 0), 97);
    }

    /** Promise 3: "A visit comes. This is a change." - not if it is refused. */
    private static void visitIsAChange() {
        VisitVans vans = new VisitVans();
        vans.visit(0, 4, 0, 0, 0, 0);
        vans.visit(100, 0, 0, 0, 0, 0);
        Due.due("count(15) behind refused ones", vans.count(15), 0);
        vans.visit(0, 0, 0, 0, 0, 0);
        Due.due("count(15)", vans.count(15), 1);
        Due.due("undo()", vans.undo(), 0);
        Due.due("count(0)", vans.count(0), 0);
        Due.due("undo() of nothing", vans.undo(), NOT_POSSIBLE);
    }

    /** Promise 4: "Returns how many visits there are then" - from 20 down to none, from the front and from the end. */
    private static void dropReturnsHowMany() {
        VisitVans front = Edges.visits(20);
        VisitVans end = Edges.visits(20);
        for (int left = 19; left >= 0; left--) {
            Due.due("drop(0) of " + (left + 1), front.drop(0), left);
            Due.due("drop() of the last of " + (left + 1), end.drop(left), left);
            Due.due("count(0) from the front", front.count(0), left);
            Due.due("count(0) from the end", end.count(0), left);
        }
        Due.due("drop(0) of none", front.drop(0), NO_SUCH);
        Due.due("drop(0) of none", end.drop(0), NO_SUCH);
        Due.due("visit() behind all that", front.visit(0, 0, 0, 0, 0, 0), 0);
    }

    /** Promise 4: "NO_SUCH if there is no such visit". */
    private static void dropNoSuch() {
        for (int many : new int[] {0, 1, 2, 19, 20}) {
            VisitVans vans = Edges.visits(many);
            for (int visit : Edges.outside(0, many - 1)) {
                Due.due("drop(" + visit + ") of " + many, vans.drop(visit), NO_SUCH);
            }
            Due.due("count(0)", vans.count(0), many);
            Due.due("count(15)", vans.count(15), Math.min(many, 6));
            if (many > 0) {
                Due.due("drop() of the last of " + many, vans.drop(many - 1), many - 1);
                Due.due("drop() of it again", vans.drop(many - 1), NO_SUCH);
            }
        }
        Edges.changesNothing("drop(6) of six", Edges::some, vans -> vans.drop(6), NO_SUCH);
    }

    /** Promise 4: "Drops a visit. This is a change." - also of the only one; not if it is refused. */
    private static void dropIsAChange() {
        VisitVans vans = Edges.visits(1);
        vans.drop(1);
        Due.due("count(15) behind a refused one", vans.count(15), 1);
        vans.drop(0);
        Due.due("count(15)", vans.count(15), 2);
        Due.due("undo()", vans.undo(), 1);
        Due.due("count(0)", vans.count(0), 1);
        Due.due("ofVisit(0, 5)", vans.ofVisit(0, 5), 999);
    }

    /** Promise 5: "A van comes, without stock. This is a change." - also where one with stock has been. */
    private static void vanComesWithoutStock() {
        for (int van = 0; van < 4; van++) {
            VisitVans vans = Edges.vans(van);
            for (int time = 0; time < 2; time++) {
                Due.due("van() " + van, vans.van(5, 5), van);
                Due.due("count(15)", vans.count(15), van + 1);
                for (int part = 0; part < 5; part++) {
                    for (int what = 0; what < 3; what++) {
                        Due.due("stock(" + van + ", " + part + ", .)", vans.stock(van, part, what), 0);
                    }
                }
                vans.load(van, 2, 99);
                vans.undo();
                vans.load(van, 0, 99);
                vans.undo();
                vans.undo();
            }
            Due.due("count(1) in the end", vans.count(1), van);
        }
    }

    /** Promise 5: "`home`: 0 to 99". */
    private static void vanHome() {
        VisitVans vans = new VisitVans();
        int[] homes = {0, 1, 98, 99};
        for (int van = 0; van < 4; van++) {
            Due.due("van(-1, 0) beside " + van, vans.van(-1, 0), BAD_VALUE);
            Due.due("van(100, 0) beside " + van, vans.van(100, 0), BAD_VALUE);
            Due.due("van(" + homes[van] + ", 0)", vans.van(homes[van], 0), van);
            Due.due("ofVan(" + van + ", 0)", vans.ofVan(van, 0), homes[van]);
            Due.due("ofVan(" + van + ", 6)", vans.ofVan(van, 6), homes[van]);
        }
    }

    /** Promise 5: "`skills`: 0 to 15, a set". */
    private static void vanSkills() {
        VisitVans vans = new VisitVans();
        int[] skills = {0, 1, 14, 15};
        for (int van = 0; van < 4; van++) {
            Due.due("van(0, -1) beside " + van, vans.van(0, -1), BAD_VALUE);
            Due.due("van(0, 16) beside " + van, vans.van(0, 16), BAD_VALUE);
            Due.due("van(0, " + skills[van] + ")", vans.van(0, skills[van]), van);
            Due.due("ofVan(" + van + ", 1)", vans.ofVan(van, 1), skills[van]);
        }
    }

    /** Promise 5: "Returns its number" - of the first and of the last one. */
    private static void vanReturnsItsNumber() {
        VisitVans vans = new VisitVans();
        for (int van = 0; van < 4; van++) {
            Due.due("van() " + van, vans.van(99 - van, 15 - van), van);
            Due.due("ofVan(" + van + ", 0)", vans.ofVan(van, 0), 99 - van);
            Due.due("ofVan(" + van + ", 1)", vans.ofVan(van, 1), 15 - van);
        }
    }

    /** Promise 5: "BAD_VALUE if an argument is out of range" - also if there are 4 vans. */
    private static void vanBadValue() {
        for (int many : new int[] {0, 3, 4}) {
            VisitVans vans = Edges.vans(many);
            for (int home : Edges.outside(0, 99)) {
                Due.due("van(" + home + ", 0) beside " + many, vans.van(home, 0), BAD_VALUE);
            }
            for (int skills : Edges.outside(0, 15)) {
                Due.due("van(0, " + skills + ") beside " + many, vans.van(0, skills), BAD_VALUE);
            }
            Due.due("count(1)", vans.count(1), many);
            Due.due("count(15)", vans.count(15), many);
        }
    }

    /** Promise 5: "TOO_MANY if there are 4 vans". */
    private static void vanTooMany() {
        VisitVans vans = Edges.vans(3);
        Due.due("van() beside 3", vans.van(7, 7), 3);
        Due.due("van() beside 4", vans.van(8, 8), TOO_MANY);
        Due.due("count(1)", vans.count(1), 4);
        Due.due("count(15)", vans.count(15), 4);
        Due.due("ofVan(3, 0)", vans.ofVan(3, 0), 7);
        Edges.changesNothing("van() of a full one", Edges::full, x -> x.van(0, 15), TOO_MANY);
        Due.due("undo()", vans.undo(), 3);
        Due.due("van() beside 3 again", vans.van(8, 8), 3);
        Due.due("van() beside 4 again", vans.van(9, 9), TOO_MANY);
    }

    /** Promise 6: "`many`: 0 to 99". */
    private static void loadMany() {
        VisitVans vans = Edges.vans(1);
        int had = 0;
        for (int many : new int[] {0, 1, 98, 99, 0}) {
            Due.due("load(0, 0, " + many + ")", vans.load(0, 0, many), had);
            Due.due("load(0, 0, -1)", vans.load(0, 0, -1), BAD_VALUE);
            Due.due("load(0, 0, 100)", vans.load(0, 0, 100), BAD_VALUE);
            Due.due("stock(0, 0, 0)", vans.stock(0, 0, 0), many);
            had = many;
        }
    }

    /** Promise 6: "Returns how many parts of the kind it had" - as it drives off, also if visits use them. */
    private static void loadReturnsWhatItHad() {
        VisitVans vans = Edges.vans(4);
        for (int van = 0; van < 4; van++) {
            for (int part = 0; part < 5; part++) {
                int many = 99 - van * 5 - part;
                String call = "load(" + van + ", " + part + ", " + many + ")";
                Due.due(call + " of none", vans.load(van, part, many), 0);
                Due.due(call + " of as many", vans.load(van, part, many), many);
            }
        }
        vans.visit(0, 0, 0, 9, 0, 0);
        Due.due("stock(0, 0, 2)", vans.stock(0, 0, 2), 90);
        Due.due("load(0, 0, 0) while 9 are used", vans.load(0, 0, 0), 99);
        Due.due("load(0, 0, 9)", vans.load(0, 0, 9), 0);
        Due.due("stock(0, 0, 2) of all used", vans.stock(0, 0, 2), 0);
    }

    /** Promise 6: "NO_SUCH if there is no such van or part" - also if many is out of range. */
    private static void loadNoSuch() {
        for (int many = 0; many <= 4; many++) {
            VisitVans vans = Edges.vans(many);
            for (int van : Edges.outside(0, many - 1)) {
                Due.due("load(" + van + ", 0, 1) of " + many, vans.load(van, 0, 1), NO_SUCH);
                Due.due("load(" + van + ", 4, 100) of " + many, vans.load(van, 4, 100), NO_SUCH);
            }
            for (int part : Edges.outside(0, 4)) {
                Due.due("load(0, " + part + ", 1) of " + many, vans.load(0, part, 1), NO_SUCH);
                Due.due("load(0, " + part + ", -1) of " + many, vans.load(0, part, -1), NO_SUCH);
            }
            Due.due("count(15)", vans.count(15), many);
            for (int van = 0; van < many; van++) {
                Due.due("load(" + van + ", 4, 1) of " + many, vans.load(van, 4, 1), 0);
            }
        }
        Edges.changesNothing("load(2, 0, 1) of two", Edges::some, vans -> vans.load(2, 0, 1), NO_SUCH);
        Edges.changesNothing("load(1, 5, 1)", Edges::some, vans -> vans.load(1, 5, 1), NO_SUCH);
    }

    /** Promise 6: "BAD_VALUE if many is out of range". */
    private static void loadBadValue() {
        VisitVans vans = Edges.vans(4);
        for (int many : Edges.outside(0, 99)) {
            Due.due("load(0, 0, " + many + ")", vans.load(0, 0, many), BAD_VALUE);
            Due.due("load(3, 4, " + many + ")", vans.load(3, 4, many), BAD_VALUE);
        }
        Due.due("stock(0, 0, 0)", vans.stock(0, 0, 0), 0);
        Due.due("stock(3, 4, 0)", vans.stock(3, 4, 0), 0);
        Due.due("count(15)", vans.count(15), 4);
        Edges.changesNothing("load(0, 1, 100)", Edges::some, x -> x.load(0, 1, 100), BAD_VALUE);
    }

    /** Promise 6: "Changes the stock of a van. This is a change." - also to as many; not if it is refused. */
    private static void loadIsAChange() {
        VisitVans vans = Edges.vans(1);
        vans.load(0, 0, 100);
        vans.load(1, 0, 1);
        Due.due("count(15) behind refused ones", vans.count(15), 1);
        vans.load(0, 0, 0);
        Due.due("count(15) behind as many", vans.count(15), 2);
        vans.load(0, 0, 99);
        Due.due("undo()", vans.undo(), 2);
        Due.due("stock(0, 0, 0)", vans.stock(0, 0, 0), 0);
    }
}
