/** Boundary cases of the promises 15 to 17: would, withVan, slowest. */
public final class EdgeWhatIfTest {
    private static final int NO_SUCH = -1, BAD_VALUE = -2, TOO_MANY = -4;
    private static final int PACE = 0, LAST = 1, SHIFT = 2;

    public static void main(String[] args) {
        wouldReturns0To4();
        wouldComesLast();
        wouldNoSuch();
        wouldBadValue();
        wouldButTooMany();
        wouldAtTheEndsOfItsArguments();
        withVanCountsThoseNotBroken();
        withVanOfNoneAndAllVisits();
        withVanHas99PartsOfEachKind();
        withVanComesLast();
        withVanBadValue();
        withVanTooMany();
        slowestOfEachPace();
        slowestWithoutVisitsOrVans();
        slowestNoMoreThanWith1();
        slowestLooksBeyondAPaceThatBreaksMore();
        slowestIsNotThePaceThatIsSet();
        whatIfChangesNothing();
        Due.finish();
    }

    private static VisitVans road(int last, int shift) {
        VisitVans vans = new VisitVans();
        vans.set(PACE, 1);
        vans.set(LAST, last);
        vans.set(SHIFT, shift);
        return vans;
    }

    /** Promise 15: "Returns 0 to 4" - each at the last minute or part for it, and at the next one. */
    private static void wouldReturns0To4() {
        VisitVans vans = road(30, 60);
        Due.due("without vans", vans.would(0, 0, 0, 0, 0, 999), 2);
        vans.van(0, 3);
        vans.load(0, 4, 5);
        Due.due("at home at 0", vans.would(0, 0, 0, 0, 0, 0), 0);
        Due.due("in time", vans.would(70, 0, 4, 5, 0, 70), 0);
        Due.due("a minute late", vans.would(70, 0, 4, 5, 0, 69), 1);
        Due.due("in time if it is moved", vans.would(70, 0, 4, 5, 0, 10), 1);
        Due.due("a minute late if it is moved", vans.would(70, 0, 4, 5, 0, 9), 4);
        Due.due("a part short", vans.would(70, 0, 4, 6, 0, 9), 3);
        Due.due("of a kind that it has not", vans.would(0, 0, 3, 1, 0, 0), 3);
        Due.due("none of a kind that it has not", vans.would(0, 0, 3, 0, 0, 0), 0);
        Due.due("its last skill", vans.would(0, 1, 4, 5, 0, 0), 0);
        Due.due("a skill beside its last", vans.would(0, 2, 4, 5, 0, 0), 2);
        Due.due("the last skill", vans.would(0, 3, 4, 6, 0, 0), 2);
        vans.set(SHIFT, 0);
        Due.due("a minute late, moved by 0", vans.would(70, 0, 4, 5, 0, 69), 4);
    }

    /**
     * Promise 15: "Tells what the promise of a visit more would be." - it has the greatest number of those of like
     * ends.
     */
    private static void wouldComesLast() {
        VisitVans vans = road(30, 0);
        vans.van(0, 1);
        vans.load(0, 0, 5);
        vans.visit(0, 0, 0, 3, 0, 50);
        Due.due("ends a minute ahead", vans.would(0, 0, 0, 5, 0, 49), 0);
        Due.due("ends with it", vans.would(0, 0, 0, 5, 0, 50), 3);
        Due.due("ends with it, and takes what is left", vans.would(0, 0, 0, 2, 0, 50), 0);
        Due.due("ends a minute behind", vans.would(0, 0, 0, 3, 0, 51), 3);
        Due.due("ends with it, too late", vans.would(21, 0, 0, 0, 0, 50), 4);
        Due.due("ends behind it, in time", vans.would(20, 0, 0, 0, 0, 50), 0);
        vans.set(SHIFT, 78);
        Due.due("comes behind it, in time if it is moved", vans.would(99, 0, 0, 0, 0, 51), 1);
        Due.due("comes behind it, a minute late if it is moved", vans.would(99, 0, 0, 0, 0, 50), 4);
    }

    private static int wouldWith(VisitVans vans, int at, int value) {
        int[] told = {0, 0, 0, 0, 0, 999};
        told[at] = value;
        return vans.would(told[0], told[1], told[2], told[3], told[4], told[5]);
    }

    /** Promise 15: "errors as for visit()" - NO_SUCH for a skill or a part, whatever else is wrong. */
    private static void wouldNoSuch() {
        VisitVans vans = Edges.twoVans();
        for (int skill : Edges.outside(0, 3)) {
            Due.due("would() with skill " + skill, wouldWith(vans, 1, skill), NO_SUCH);
            Due.due("would() with all " + skill, vans.would(skill, skill, skill, skill, skill, skill), NO_SUCH);
        }
        for (int part : Edges.outside(0, 4)) {
            Due.due("would() with part " + part, wouldWith(vans, 2, part), NO_SUCH);
            Due.due("would() with part and place wrong", vans.would(-1, 0, part, 0, 0, 0), NO_SUCH);
        }
        Due.due("count(0)", vans.count(0), 0);
        Due.due("count(15)", vans.count(15), 2);
    }

    /** Promise 15: "errors as for visit()" - BAD_VALUE for another argument. */
    private static void wouldBadValue() {
        VisitVans vans = Edges.twoVans();
        for (int place : Edges.outside(0, 99)) {
            Due.due("would() with place " + place, wouldWith(vans, 0, place), BAD_VALUE);
        }
        for (int many : Edges.outside(0, 9)) {
            Due.due("would() with many " + many, wouldWith(vans, 3, many), BAD_VALUE);
        }
        for (int minute : Edges.outside(0, 999)) {
            Due.due("would() with from " + minute, wouldWith(vans, 4, minute), BAD_VALUE);
            Due.due("would() with to " + minute, wouldWith(vans, 5, minute), BAD_VALUE);
            Due.due("would() with both " + minute, vans.would(0, 0, 0, 0, minute, minute), BAD_VALUE);
        }
        for (int from : new int[] {0, 1, 500, 999}) {
            Due.due("would() to the minute before", vans.would(0, 0, 0, 0, from, from - 1), BAD_VALUE);
            Due.due("would() to the same minute", vans.would(0, 0, 0, 0, from, from), 0);
        }
    }

    /** Promise 15: "errors as for visit(), but TOO_MANY" - beside 19 visits, and beside 20. */
    private static void wouldButTooMany() {
        for (int many : new int[] {0, 18, 19, 20}) {
            VisitVans vans = new VisitVans();
            vans.set(LAST, 1);
            vans.van(0, 1);
            vans.load(0, 0, 99);
            for (int visit = 0; visit < many; visit++) {
                vans.visit(0, 0, 0, 1, 0, 999);
            }
            String of = "beside " + many + ": would() ";
            Due.due(of + "be kept", vans.would(0, 0, 0, 9, many, many), 0);
            Due.due(of + "be moved", vans.would(1, 0, 0, 9, 0, 1), 1);
            Due.due(of + "lack the skill", vans.would(0, 1, 0, 9, 0, 999), 2);
            Due.due(of + "lack the parts", vans.would(0, 0, 1, 1, 0, 999), 3);
            Due.due(of + "be too late", vans.would(99, 0, 0, 0, 0, 0), 4);
            Due.due(of + "have no such skill", vans.would(0, 4, 0, 0, 0, 0), NO_SUCH);
            Due.due(of + "have no such place", vans.would(100, 0, 0, 0, 0, 0), BAD_VALUE);
            Due.due("count(0)", vans.count(0), many);
            Due.due("count(2)", vans.count(2), many);
        }
        VisitVans full = Edges.visits(20);
        Due.due("beside 20: visit()", full.visit(0, 0, 0, 0, 0, 0), TOO_MANY);
        Due.due("beside 20 and without vans: would()", full.would(0, 0, 0, 0, 0, 0), 2);
    }

    /** Promise 15: "errors as for visit()" - none at the ends of the ranges. */
    private static void wouldAtTheEndsOfItsArguments() {
        VisitVans vans = Edges.twoVans();
        for (int part = 0; part < 5; part++) {
            vans.load(0, part, 9);
            vans.load(1, part, 9);
        }
        int[][] ends = {{0, 99}, {0, 3}, {0, 4}, {0, 9}, {0, 999}, {0, 999}};
        for (int at = 0; at < 6; at++) {
            for (int value : ends[at]) {
                Due.due("would() with " + value + " at " + at, wouldWith(vans, at, value), 0);
            }
        }
        Due.due("would() with all the least", vans.would(0, 0, 0, 0, 0, 0), 0);
        Due.due("would() with all the greatest", vans.would(99, 3, 4, 9, 999, 999), 0);
    }

    /**
     * Promise 16: "Tells how many promises would not be broken with another van" - kept and moved ones, a minute
     * beside.
     */
    private static void withVanCountsThoseNotBroken() {
        VisitVans vans = road(30, 20);
        vans.visit(50, 0, 0, 0, 0, 10);
        Due.due("a home in time", vans.withVan(40, 1), 1);
        Due.due("a home in time if it is moved", vans.withVan(39, 1), 1);
        Due.due("a home just in time if it is moved", vans.withVan(20, 1), 1);
        Due.due("a home a minute too far", vans.withVan(19, 1), 0);
        Due.due("a home in time on the other side", vans.withVan(80, 1), 1);
        Due.due("a home a minute too far on the other side", vans.withVan(81, 1), 0);
        Due.due("without the skill", vans.withVan(50, 14), 0);
        Due.due("with it alone", vans.withVan(50, 1), 1);
        Due.due("with all", vans.withVan(50, 15), 1);
        Due.due("with none", vans.withVan(50, 0), 0);
    }

    /** Promise 16: "Returns how many" - of no visit, and of 20. */
    private static void withVanOfNoneAndAllVisits() {
        VisitVans vans = new VisitVans();
        Due.due("without visits", vans.withVan(0, 15), 0);
        for (int visit = 0; visit < 20; visit++) {
            vans.visit(0, visit % 4, 0, 0, 0, 999);
            Due.due("of " + (visit + 1), vans.withVan(0, 15), visit + 1);
            Due.due("of " + (visit + 1) + ", none with no skill", vans.withVan(0, 0), 0);
        }
        Due.due("of 20, those of a skill", vans.withVan(0, 8), 5);
        vans.van(0, 7);
        Due.due("of 20, all but those of a skill by another van", vans.withVan(0, 0), 15);
        Due.due("of 20, those of a skill by this one", vans.withVan(99, 8), 20);
    }

    /** Promise 16: "with 99 parts of each kind" - 99 are enough for 99, not for 100. */
    private static void withVanHas99PartsOfEachKind() {
        for (int part = 0; part < 5; part++) {
            VisitVans vans = new VisitVans();
            for (int visit = 1; visit <= 11; visit++) {
                vans.visit(0, 0, part, 9, 0, 998);
                Due.due(visit * 9 + " of the kind " + part, vans.withVan(0, 1), visit);
            }
            vans.visit(0, 0, part, 1, 0, 999);
            Due.due("100 of the kind " + part, vans.withVan(0, 1), 11);
            vans.drop(11);
            vans.visit(0, 0, part, 0, 0, 999);
            Due.due("99 and none of the kind " + part, vans.withVan(0, 1), 12);
            vans.visit(0, 0, (part + 1) % 5, 9, 0, 999);
            Due.due("99, and 9 of another kind", vans.withVan(0, 1), 13);
            Due.due("of all kinds: withVan() loads no van", vans.wanted(part), 0);
        }
    }

    /**
     * Promise 16: "another van" - it has the greatest number: of vans that begin alike, those there take a visit first.
     */
    private static void withVanComesLast() {
        VisitVans vans = road(30, 0);
        vans.van(50, 3);
        vans.visit(50, 0, 0, 0, 0, 0);
        vans.visit(50, 1, 0, 0, 0, 0);
        Due.due("it has the second one's skill", vans.withVan(50, 2), 2);
        Due.due("it has the first one's skill, and is not asked", vans.withVan(50, 1), 1);
        Due.due("it has both", vans.withVan(50, 3), 2);
        vans.drop(0);
        vans.visit(50, 0, 0, 0, 0, 0);
        Due.due("it has the skill of the one that is first now", vans.withVan(50, 2), 1);
        Due.due("it has both", vans.withVan(50, 3), 2);
        vans.drop(0);
        vans.drop(0);
        vans.visit(50, 0, 0, 0, 0, 0);
        vans.visit(50, 0, 0, 0, 0, 1);
        Due.due("a unit away, it takes the second", vans.withVan(51, 1), 2);
        Due.due("two units away, it is too late", vans.withVan(52, 1), 1);
    }

    /** Promise 16: "BAD_VALUE if home or skills is out of range" - also if there are 4 vans. */
    private static void withVanBadValue() {
        for (int many : new int[] {0, 3, 4}) {
            VisitVans vans = Edges.vans(many);
            for (int home : Edges.outside(0, 99)) {
                Due.due(many + ": withVan(" + home + ", 0)", vans.withVan(home, 0), BAD_VALUE);
            }
            for (int skills : Edges.outside(0, 15)) {
                Due.due(many + ": withVan(0, " + skills + ")", vans.withVan(0, skills), BAD_VALUE);
            }
            int due = many == 4 ? TOO_MANY : 0;
            for (int home : new int[] {0, 99}) {
                Due.due(many + ": withVan(" + home + ", 0)", vans.withVan(home, 0), due);
                Due.due(many + ": withVan(" + home + ", 15)", vans.withVan(home, 15), due);
            }
            Due.due("count(1)", vans.count(1), many);
        }
    }

    /** Promise 16: "TOO_MANY if there are 4 vans". */
    private static void withVanTooMany() {
        VisitVans vans = Edges.visits(1);
        for (int many = 0; many < 4; many++) {
            Due.due("beside " + many, vans.withVan(0, 1), 1);
            vans.van(99, 0);
        }
        Due.due("beside 4", vans.withVan(0, 1), TOO_MANY);
        vans.undo();
        Due.due("beside 3 behind undo()", vans.withVan(0, 1), 1);
        Due.due("count(1)", vans.count(1), 3);
    }

    /**
     * Promise 17: "Finds the greatest PACE, 1 to 9, by which no more promises are broken than with 1." - each, a minute
     * beside.
     */
    private static void slowestOfEachPace() {
        for (int pace = 1; pace <= 9; pace++) {
            for (int minute : new int[] {pace * 10 - 1, pace * 10, pace * 10 + 1, pace * 10 + 9}) {
                VisitVans vans = road(30, 0);
                vans.van(0, 1);
                vans.visit(10, 0, 0, 0, 0, minute);
                // Until 9 the visit is broken with each pace, and so no more with 9.
                int due = minute < 10 ? 9 : Math.min(9, minute / 10);
                Due.due("10 units by " + minute, vans.slowest(), due);
            }
        }
        VisitVans far = road(30, 0);
        far.van(0, 1);
        far.visit(99, 0, 0, 0, 0, 891);
        Due.due("99 units by 891", far.slowest(), 9);
        far.drop(0);
        far.visit(99, 0, 0, 0, 0, 890);
        Due.due("99 units by 890", far.slowest(), 8);
        far.drop(0);
        far.visit(99, 0, 0, 0, 0, 99);
        Due.due("99 units by 99", far.slowest(), 1);
        far.drop(0);
        far.visit(99, 0, 0, 0, 0, 98);
        Due.due("99 units by 98", far.slowest(), 9);
    }

    /** Promise 17: "1 to 9" - 9 if nothing can be broken more. */
    private static void slowestWithoutVisitsOrVans() {
        VisitVans vans = new VisitVans();
        Due.due("of a new one", vans.slowest(), 9);
        vans.van(0, 1);
        Due.due("without visits", vans.slowest(), 9);
        vans.undo();
        for (int visit = 0; visit < 20; visit++) {
            vans.visit(99, 0, 0, 0, 0, 99);
        }
        Due.due("without vans, of 20", vans.slowest(), 9);
        vans.van(0, 14);
        Due.due("without the skill, of 20", vans.slowest(), 9);
    }

    /**
     * Promise 17: "by which no more promises are broken than with 1" - one more is too many, also beside a broken one;
     * a moved one is not broken.
     */
    private static void slowestNoMoreThanWith1() {
        VisitVans vans = road(1, 0);
        vans.van(0, 1);
        vans.visit(10, 0, 0, 0, 0, 30);
        vans.visit(10, 1, 0, 0, 0, 30);
        vans.visit(99, 0, 0, 0, 0, 0);
        Due.due("two are broken with 1", vans.slowest(), 3);
        vans.visit(10, 0, 0, 0, 0, 24);
        Due.due("one more until 24", vans.slowest(), 2);
        vans.visit(11, 0, 0, 0, 0, 12);
        Due.due("one more until 12", vans.slowest(), 1);
        VisitVans moved = road(1, 60);
        moved.van(0, 1);
        moved.visit(10, 0, 0, 0, 0, 29);
        Due.due("89 if it is moved", moved.slowest(), 8);
        moved.set(SHIFT, 61);
        Due.due("90 if it is moved", moved.slowest(), 9);
        moved.set(SHIFT, 0);
        Due.due("29 if it is not", moved.slowest(), 2);
    }

    /** Promise 17: "Finds the greatest PACE" - also if more are broken by one between. */
    private static void slowestLooksBeyondAPaceThatBreaksMore() {
        VisitVans vans = road(30, 0);
        vans.van(0, 1);
        vans.visit(50, 0, 0, 0, 0, 110);
        vans.visit(0, 0, 0, 0, 0, 135);
        vans.visit(0, 0, 0, 0, 0, 136);
        int[] broken = {0, 1, 2, 1, 1, 1, 1, 1, 1, 1};
        for (int pace = 1; pace <= 9; pace++) {
            vans.set(PACE, pace);
            Due.due("broken with " + pace, vans.count(4), broken[pace]);
            Due.due("slowest() with " + pace, vans.slowest(), 9);
        }
    }

    /** Promise 17: "than with 1" - whichever pace is set, which stays. */
    private static void slowestIsNotThePaceThatIsSet() {
        for (int pace = 1; pace <= 9; pace++) {
            VisitVans vans = road(30, 0);
            vans.set(PACE, pace);
            vans.van(0, 1);
            vans.visit(10, 0, 0, 0, 0, 45);
            Due.due("slowest() with " + pace, vans.slowest(), 4);
            Due.due("count(11)", vans.count(11), pace);
            Due.due("count(4)", vans.count(4), pace <= 4 ? 0 : 1);
            Due.due("count(15)", vans.count(15), 6);
        }
    }

    /** Terms: "---- what if; nothing changes." - of an empty one, one with some, and a full one. */
    private static void whatIfChangesNothing() {
        Edges.changesNothing("empty: would()", Edges::empty, vans -> vans.would(9, 0, 0, 0, 0, 9), 2);
        Edges.changesNothing("some: would()", Edges::some, vans -> vans.would(10, 0, 0, 0, 0, 9), 0);
        Edges.changesNothing("full: would()", Edges::full, vans -> vans.would(50, 0, 0, 0, 0, 0), 0);
        Edges.changesNothing("empty: withVan()", Edges::empty, vans -> vans.withVan(9, 15), 0);
        Edges.changesNothing("some: withVan()", Edges::some, vans -> vans.withVan(30, 4), 4);
        Edges.changesNothing("full: withVan()", Edges::full, vans -> vans.withVan(30, 4), TOO_MANY);
        Edges.changesNothing("empty: slowest()", Edges::empty, VisitVans::slowest, 9);
        Edges.changesNothing("some: slowest()", Edges::some, VisitVans::slowest, Edges.some().slowest());
        Edges.changesNothing("full: slowest()", Edges::full, VisitVans::slowest, Edges.full().slowest());
    }
}
