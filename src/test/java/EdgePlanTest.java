/** Boundary cases of the plan: its rule, its promises and its events, a minute, a unit and a part at a time. */
public final class EdgePlanTest {
    private static final int PACE = 0, LAST = 1, SHIFT = 2;
    private static final int WAY = 0, WAITING = 1, VISIT = 2;

    public static void main(String[] args) {
        eachVanBeginsAtHomeFreeWithItsStock();
        endsThatDifferByAMinute();
        twentyLikeEnds();
        movedOnesBehindAll();
        movedOnesInTheSameOrder();
        bothMinutesOfTheWindowAreMoved();
        aWindowMovedByNothing();
        movedOnesAreLookedAtOnce();
        theSkill();
        thePartsLeft();
        beginsNoLaterThanTheEnd();
        beginsNoLaterThanTheMovedEnd();
        beginsWhenItComesOrWhenTheWindowBegins();
        theWayFromWhereItIsFree();
        paceMinutesForEachUnit();
        theVanThatBeginsFirst();
        ofSeveralTheLowest();
        waitingVansBeginAlike();
        waitingVansBeginAlikeIfItIsMoved();
        lastsAndIsFreeThenAtItsPlace();
        itsPartsAreOut();
        aVisitNotMadeTakesNothing();
        noVanHasTheSkill();
        noVanWithTheSkillHasTheParts();
        movedIfLookedAtForTheFirstTime();
        brokenIfItWasMoved();
        reasonsAreAskedAnew();
        keptOrMoved();
        theWayIfItTakesTime();
        waitingIfItTakesTime();
        theVisitItself();
        eventsInTheOrderInWhichItMakesThem();
        asManyEventsAsThereCanBe();
        Due.finish();
    }

    /** A road with a pace of 1, and the settings LAST and SHIFT. */
    private static VisitVans road(int last, int shift) {
        VisitVans vans = new VisitVans();
        vans.set(PACE, 1);
        vans.set(LAST, last);
        vans.set(SHIFT, shift);
        return vans;
    }

    /** Plan: "at the minute 0 each van is at its home, free, with its stock." */
    private static void eachVanBeginsAtHomeFreeWithItsStock() {
        int[] homes = {0, 1, 98, 99};
        VisitVans vans = new VisitVans();
        for (int van = 0; van < 4; van++) {
            vans.van(homes[van], 1 << van);
            vans.load(van, van, 9);
            vans.visit(homes[van], van, van, 9, 0, 0);
        }
        for (int van = 0; van < 4; van++) {
            Edges.promise("at home " + homes[van], vans, van, 0, van, 0, 30);
            Due.due("all of its stock is used", vans.stock(van, van, 2), 0);
        }
        VisitVans away = road(30, 0);
        away.van(50, 1);
        away.visit(51, 0, 0, 0, 0, 0);
        Edges.broken("a unit from home at 0", away, 0, 4);
        away.set(SHIFT, 1);
        Edges.promise("a unit from home at 1", away, 0, 1, 0, 1, 31);
    }

    /** Plan: "The visits are looked at in the order of the ends of their windows". */
    private static void endsThatDifferByAMinute() {
        for (int end : new int[] {499, 500, 501}) {
            VisitVans vans = road(30, 0);
            vans.van(0, 1);
            vans.visit(0, 0, 0, 0, 0, 500);
            vans.visit(0, 0, 0, 0, 0, end);
            boolean second = end < 500;
            Edges.promise("500 beside " + end, vans, 0, 0, 0, second ? 30 : 0, second ? 60 : 30);
            Edges.promise("500 beside " + end, vans, 1, 0, 0, second ? 0 : 30, second ? 30 : 60);
        }
        // Neither the beginning of a window nor its length tells the order.
        VisitVans vans = road(10, 0);
        vans.van(0, 1);
        vans.visit(0, 0, 0, 0, 0, 999);
        vans.visit(0, 0, 0, 0, 100, 998);
        Edges.promise("998 ahead of 999", vans, 1, 0, 0, 100, 110);
        Edges.promise("999 behind 998", vans, 0, 0, 0, 110, 120);
    }

    /** Plan: "of like ones in that of their numbers". */
    private static void twentyLikeEnds() {
        VisitVans vans = new VisitVans();
        vans.van(0, 1);
        for (int visit = 0; visit < 20; visit++) {
            vans.visit(0, 0, 0, 0, 19 - visit, 999);
        }
        for (int visit = 0; visit < 20; visit++) {
            Edges.promise("like ends", vans, visit, 0, 0, 19 + visit * 30, 49 + visit * 30);
        }
        VisitVans falling = road(1, 0);
        falling.van(0, 1);
        for (int visit = 0; visit < 20; visit++) {
            falling.visit(0, 0, 0, 0, 0, 500 - visit / 2);
        }
        for (int visit = 0; visit < 20; visit++) {
            int begins = (9 - visit / 2) * 2 + visit % 2;
            Edges.promise("two of each end", falling, visit, 0, 0, begins, begins + 1);
        }
    }

    /** Plan: "those that are moved are looked at once more, behind all". */
    private static void movedOnesBehindAll() {
        for (int shift : new int[] {0, 10, 11, 12}) {
            VisitVans vans = road(10, shift);
            vans.van(0, 1);
            vans.visit(50, 0, 0, 0, 0, 49);
            vans.visit(0, 0, 0, 0, 0, 999);
            // The other one is made from 0 to 10, and the way to 50 ends at 60.
            Edges.promise("behind all, by " + shift, vans, 1, 0, 0, 0, 10);
            if (shift < 11) {
                Edges.broken("behind all, by " + shift, vans, 0, 4);
            } else {
                Edges.promise("behind all, by " + shift, vans, 0, 1, 0, 60, 70);
            }
        }
    }

    /** Plan: "those that are moved are looked at once more, behind all, in the same order". */
    private static void movedOnesInTheSameOrder() {
        for (int end : new int[] {8, 9, 10}) {
            VisitVans vans = road(20, 300);
            vans.van(0, 1);
            vans.visit(99, 0, 0, 0, 0, 9);
            vans.visit(99, 0, 0, 0, 0, end);
            boolean second = end < 9;
            // Only the one that is looked at first begins in time; the other would begin at 320.
            Edges.promise("moved, 9 beside " + end, vans, second ? 1 : 0, 1, 0, 300, 320);
            Edges.broken("moved, 9 beside " + end, vans, second ? 0 : 1, 4);
        }
    }

    /** Plan: "each with its window moved by SHIFT (both of its minutes)". */
    private static void bothMinutesOfTheWindowAreMoved() {
        int[][] due = {{0, -1}, {1, 50}, {39, 50}, {40, 50}, {41, 51}, {42, 52}, {120, 130}, {299, 309}, {300, 310}};
        for (int[] row : due) {
            VisitVans vans = road(30, row[0]);
            vans.van(0, 1);
            vans.visit(50, 0, 0, 0, 10, 49);
            String of = "10 to 49, moved by " + row[0];
            if (row[1] < 0) {
                Edges.broken(of, vans, 0, 4);
            } else {
                Edges.promise(of, vans, 0, 1, 0, row[1], row[1] + 30);
                Due.due(of + ": waits", vans.ofVan(0, 4), row[1] - 50);
            }
        }
        VisitVans late = road(120, 300);
        late.van(0, 1);
        late.visit(0, 0, 0, 0, 999, 999);
        late.visit(0, 0, 0, 0, 999, 999);
        Edges.promise("999, moved by 300", late, 1, 1, 0, 1299, 1419);
    }

    /** Plan: "each with its window moved by SHIFT" - by 0, then nothing can be made that was too late. */
    private static void aWindowMovedByNothing() {
        VisitVans vans = road(1, 0);
        vans.van(0, 1);
        vans.visit(99, 0, 0, 0, 0, 98);
        vans.visit(99, 0, 0, 0, 0, 99);
        Edges.broken("98, moved by 0", vans, 0, 4);
        Edges.promise("99 in time", vans, 1, 0, 0, 99, 100);
        vans.set(SHIFT, 1);
        Edges.broken("98, moved by 1", vans, 0, 4);
        vans.set(SHIFT, 2);
        Edges.promise("98, moved by 2", vans, 0, 1, 0, 100, 101);
    }

    /** Plan: "are looked at once more" - not twice: one that was moved is broken, however late it would be. */
    private static void movedOnesAreLookedAtOnce() {
        VisitVans vans = road(100, 49);
        vans.van(0, 1);
        vans.visit(0, 0, 0, 0, 0, 0);
        vans.visit(0, 0, 0, 0, 0, 1);
        Edges.broken("1, moved by 49", vans, 1, 4);
        vans.set(SHIFT, 98);
        Edges.broken("1, moved by 98", vans, 1, 4);
        vans.set(SHIFT, 99);
        Edges.promise("1, moved by 99", vans, 1, 1, 0, 100, 200);
        Due.due("the way of one that is broken", vans.count(8), 0);
    }

    /** Plan: "A van can make a visit if it has the skill" - each skill with each set. */
    private static void theSkill() {
        for (int skills = 0; skills <= 15; skills++) {
            VisitVans vans = new VisitVans();
            vans.van(0, skills);
            for (int skill = 0; skill < 4; skill++) {
                vans.visit(0, skill, 0, 0, 0, 999);
            }
            int made = 0;
            for (int skill = 0; skill < 4; skill++) {
                if ((skills & (1 << skill)) != 0) {
                    Edges.promise("set " + skills, vans, skill, 0, 0, made * 30, made * 30 + 30);
                    made++;
                } else {
                    Edges.broken("set " + skills, vans, skill, 2);
                }
            }
        }
    }

    /** Plan: "and the parts are left in its stock" - one fewer, as many, and one more than it uses. */
    private static void thePartsLeft() {
        for (int part = 0; part < 5; part++) {
            for (int many = 0; many <= 9; many++) {
                for (int had = Math.max(0, many - 1); had <= many + 1; had++) {
                    VisitVans vans = new VisitVans();
                    vans.van(0, 1);
                    for (int other = 0; other < 5; other++) {
                        vans.load(0, other, other == part ? had : 99 * ((other + part) % 2));
                    }
                    vans.visit(0, 0, part, many, 0, 0);
                    String of = many + " of " + had;
                    if (had < many) {
                        Edges.broken(of, vans, 0, 3);
                    } else {
                        Edges.promise(of, vans, 0, 0, 0, 0, 30);
                    }
                    Due.due(of + " left", vans.stock(0, part, 2), had < many ? had : had - many);
                }
            }
        }
    }

    /** Plan: "and it can begin no later than the window ends". */
    private static void beginsNoLaterThanTheEnd() {
        for (int end = 48; end <= 52; end++) {
            VisitVans vans = road(30, 0);
            vans.van(0, 1);
            vans.visit(50, 0, 0, 0, 0, end);
            if (end < 50) {
                Edges.broken("50 by " + end, vans, 0, 4);
            } else {
                Edges.promise("50 by " + end, vans, 0, 0, 0, 50, 80);
            }
        }
        VisitVans ends = road(30, 0);
        ends.van(0, 1);
        ends.visit(0, 0, 0, 0, 999, 999);
        ends.visit(0, 0, 0, 0, 0, 968);
        Edges.promise("it may end behind the window", ends, 0, 0, 0, 999, 1029);
    }

    /** Plan: "no later than the window ends" - of a window that was moved. */
    private static void beginsNoLaterThanTheMovedEnd() {
        for (int end = 18; end <= 22; end++) {
            VisitVans vans = road(30, 30);
            vans.van(0, 1);
            vans.visit(50, 0, 0, 0, 0, end);
            if (end < 20) {
                Edges.broken("50 by " + end + " and 30", vans, 0, 4);
            } else {
                Edges.promise("50 by " + end + " and 30", vans, 0, 1, 0, 50, 80);
            }
        }
    }

    /**
     * Plan: "it begins when it comes there from where it is free (the way takes PACE minutes for each unit), or when
     * the window begins, if that is later."
     */
    private static void beginsWhenItComesOrWhenTheWindowBegins() {
        for (int from : new int[] {0, 49, 50, 51, 52, 999}) {
            VisitVans vans = road(30, 0);
            vans.van(0, 1);
            vans.visit(50, 0, 0, 0, from, 999);
            int begins = Math.max(50, from);
            Edges.promise("comes at 50, from " + from, vans, 0, 0, 0, begins, begins + 30);
            Due.due("waits from 50 to " + from, vans.ofVan(0, 4), begins - 50);
            Due.due("on the way, from " + from, vans.ofVan(0, 3), 50);
        }
    }

    /** Plan: "from where it is free" - from its home, then from the place of its last visit. */
    private static void theWayFromWhereItIsFree() {
        for (int place : new int[] {0, 48, 49, 50, 51, 52, 99}) {
            VisitVans home = road(10, 0);
            home.van(50, 1);
            home.visit(place, 0, 0, 0, 0, 999);
            Due.due("from 50 to " + place, home.ofVisit(0, 8), Math.abs(place - 50));
            VisitVans next = road(10, 0);
            next.van(0, 1);
            next.visit(50, 0, 0, 0, 0, 50);
            next.visit(place, 0, 0, 0, 0, 999);
            Due.due("from a visit at 50 to " + place, next.ofVisit(1, 8), 60 + Math.abs(place - 50));
            Due.due("all ways to " + place, next.ofVan(0, 3), 50 + Math.abs(place - 50));
        }
    }

    /**
     * Plan: "(the way takes PACE minutes for each unit)" - no unit, one and all, at the least pace and the greatest.
     */
    private static void paceMinutesForEachUnit() {
        for (int pace = 1; pace <= 9; pace++) {
            for (int units : new int[] {0, 1, 2, 98, 99}) {
                VisitVans vans = road(30, 0);
                vans.set(PACE, pace);
                vans.van(99, 1);
                vans.visit(99 - units, 0, 0, 0, 0, units * pace);
                String of = units + " units, pace " + pace;
                Edges.promise(of, vans, 0, 0, 0, units * pace, units * pace + 30);
                if (units > 0) {
                    vans.drop(0);
                    vans.visit(99 - units, 0, 0, 0, 0, units * pace - 1);
                    Edges.broken(of + ", a minute less", vans, 0, 4);
                }
            }
        }
    }

    /** Plan: "Of the vans that can make it, the one that begins first makes it" - a minute is enough. */
    private static void theVanThatBeginsFirst() {
        for (int near = 0; near < 4; near++) {
            VisitVans vans = road(30, 0);
            for (int van = 0; van < 4; van++) {
                vans.van(van == near ? 11 : 10, 1);
            }
            vans.visit(50, 0, 0, 0, 0, 999);
            Edges.promise("van " + near + " is a unit nearer", vans, 0, 0, near, 39, 69);
        }
        // The nearest one that cannot make it does not count.
        VisitVans vans = road(30, 0);
        vans.van(50, 14);
        vans.van(40, 1);
        vans.van(41, 1);
        vans.load(1, 0, 9);
        vans.load(2, 0, 8);
        vans.visit(50, 0, 0, 9, 0, 999);
        Edges.promise("the only one that can", vans, 0, 0, 1, 10, 40);
        vans.load(2, 0, 9);
        Edges.promise("the first of two that can", vans, 0, 0, 2, 9, 39);
    }

    /** Plan: "of several the lowest one" - of two, of all, and without the lowest. */
    private static void ofSeveralTheLowest() {
        for (int first = 0; first < 4; first++) {
            VisitVans vans = road(30, 0);
            for (int van = 0; van < 4; van++) {
                vans.van(van % 2 == 0 ? 40 : 60, van >= first ? 1 : 2);
            }
            vans.visit(50, 0, 0, 0, 0, 999);
            Edges.promise("the lowest from " + first, vans, 0, 0, first, 10, 40);
        }
    }

    /**
     * Plan: "or when the window begins, if that is later" and the lowest of those that begin alike - a minute beside.
     */
    private static void waitingVansBeginAlike() {
        int[][] due = {{49, 1, 49}, {50, 0, 50}, {51, 0, 51}};
        for (int[] row : due) {
            VisitVans vans = road(30, 0);
            vans.van(0, 1);
            vans.van(49, 1);
            vans.visit(50, 0, 0, 0, row[0], 999);
            Edges.promise("from " + row[0], vans, 0, 0, row[1], row[2], row[2] + 30);
        }
    }

    /**
     * Plan: "each with its window moved by SHIFT" - vans that wait for the moved window begin alike, a minute beside.
     */
    private static void waitingVansBeginAlikeIfItIsMoved() {
        int[][] due = {{49, 1, 50}, {50, 1, 50}, {68, 1, 68}, {69, 1, 69}, {70, 0, 70}, {71, 0, 71}};
        for (int[] row : due) {
            VisitVans vans = road(30, row[0]);
            vans.van(0, 1);
            vans.van(20, 1);
            vans.visit(70, 0, 0, 0, 0, 1);
            // Van 0 comes at 70, van 1 at 50; the window is moved to SHIFT, and ends a minute later.
            Edges.promise("moved by " + row[0], vans, 0, 1, row[1], row[2], row[2] + 30);
        }
    }

    /** Plan: "the visit lasts LAST minutes, its parts are out of the stock, and the van is free then, at its place." */
    private static void lastsAndIsFreeThenAtItsPlace() {
        for (int last : new int[] {1, 2, 119, 120}) {
            for (int beside = -1; beside <= 1; beside++) {
                VisitVans vans = road(last, 0);
                vans.van(0, 1);
                vans.visit(0, 0, 0, 0, 0, 0);
                vans.visit(0, 0, 0, 0, 0, last + beside);
                String of = "LAST " + last + ", by " + (last + beside);
                if (beside < 0) {
                    Edges.broken(of, vans, 1, 4);
                } else {
                    Edges.promise(of, vans, 1, 0, 0, last, 2 * last);
                }
                Due.due(of + ": free", vans.ofVan(0, 5), beside < 0 ? last : 2 * last);
            }
        }
        VisitVans place = road(10, 0);
        place.van(0, 1);
        place.visit(99, 0, 0, 0, 0, 99);
        Due.due("free at 99", place.ofVan(0, 6), 99);
        place.visit(98, 0, 0, 0, 0, 110);
        Edges.promise("a unit back", place, 1, 0, 0, 110, 120);
        Due.due("free at 98", place.ofVan(0, 6), 98);
    }

    /** Plan: "its parts are out of the stock" - down to none, of this kind alone. */
    private static void itsPartsAreOut() {
        VisitVans vans = road(1, 0);
        vans.van(0, 1);
        vans.load(0, 2, 99);
        vans.load(0, 3, 1);
        for (int visit = 0; visit < 12; visit++) {
            vans.visit(0, 0, 2, 9, 0, 999);
        }
        for (int visit = 0; visit < 11; visit++) {
            Due.due("9 of 99, the visit " + visit, vans.ofVisit(visit, 6), 0);
        }
        Edges.broken("9 of none", vans, 11, 3);
        Due.due("left of 99", vans.stock(0, 2, 2), 0);
        Due.due("used of 99", vans.stock(0, 2, 1), 99);
        vans.visit(0, 0, 2, 1, 0, 999);
        Edges.broken("1 of none", vans, 12, 3);
        vans.visit(0, 0, 2, 0, 0, 999);
        Due.due("0 of none", vans.ofVisit(13, 6), 0);
        vans.visit(0, 0, 3, 1, 0, 999);
        Due.due("1 of another kind", vans.ofVisit(14, 6), 0);
        Due.due("left of another kind", vans.stock(0, 3, 2), 0);
    }

    /** Plan: "If none can" - then no van drives, and no stock is used. */
    private static void aVisitNotMadeTakesNothing() {
        VisitVans vans = road(30, 0);
        vans.van(50, 1);
        vans.load(0, 0, 8);
        vans.visit(50, 0, 0, 9, 0, 999);
        vans.visit(50, 1, 0, 1, 0, 999);
        vans.visit(60, 0, 0, 1, 0, 9);
        int[] due = {50, 1, 0, 0, 0, 0, 50, 0};
        for (int what = 0; what < 8; what++) {
            Due.due("a van that makes none: ofVan(0, " + what + ")", vans.ofVan(0, what), due[what]);
        }
        Due.due("a van that makes none: used", vans.stock(0, 0, 1), 0);
        Due.due("a van that makes none: left", vans.stock(0, 0, 2), 8);
        Due.due("a van that makes none: no event", vans.event(0, 0, 0), -1);
    }

    /** Plan: "if no van has the skill, the promise is broken, reason 2" - whatever else it lacks. */
    private static void noVanHasTheSkill() {
        VisitVans vans = road(30, 0);
        vans.visit(99, 3, 4, 9, 0, 0);
        Edges.broken("without vans", vans, 0, 2);
        for (int van = 0; van < 4; van++) {
            vans.van(99, 7);
            vans.load(van, 4, 99);
            Edges.broken("with " + (van + 1) + " without the skill", vans, 0, 2);
        }
        vans.undo();
        vans.undo();
        vans.van(0, 8);
        Edges.broken("the last one has it, without parts", vans, 0, 3);
        vans.load(3, 4, 9);
        Edges.broken("the last one has it, too far", vans, 0, 4);
    }

    /** Plan: "otherwise, if no van with the skill has the parts left, reason 3" - however late it would be. */
    private static void noVanWithTheSkillHasTheParts() {
        VisitVans vans = road(30, 300);
        vans.visit(50, 0, 1, 5, 0, 49);
        vans.van(0, 1);
        vans.van(50, 14);
        vans.load(1, 1, 99);
        vans.load(0, 1, 4);
        Edges.broken("one with the skill, one with the parts", vans, 0, 3);
        vans.van(50, 1);
        vans.load(2, 1, 4);
        Edges.broken("two with the skill, a part short", vans, 0, 3);
        Due.due("wanted(1)", vans.wanted(1), 5);
        vans.load(0, 1, 5);
        Edges.promise("the far one has them", vans, 0, 1, 0, 300, 330);
        vans.load(2, 1, 5);
        Edges.promise("the near one has them", vans, 0, 0, 2, 0, 30);
    }

    /** Plan: "otherwise the visit is moved, if it is looked at for the first time". */
    private static void movedIfLookedAtForTheFirstTime() {
        VisitVans vans = road(30, 120);
        vans.van(0, 1);
        vans.visit(50, 0, 0, 0, 0, 50);
        Edges.promise("in time", vans, 0, 0, 0, 50, 80);
        vans.drop(0);
        vans.visit(50, 0, 0, 0, 0, 49);
        Edges.promise("a minute late", vans, 0, 1, 0, 120, 150);
        Due.due("as told: ofVisit(0, 4)", vans.ofVisit(0, 4), 0);
        Due.due("as told: ofVisit(0, 5)", vans.ofVisit(0, 5), 49);
    }

    /** Plan: "or broken, reason 4, if it was moved" - a minute beside. */
    private static void brokenIfItWasMoved() {
        for (int shift = 40; shift <= 42; shift++) {
            VisitVans vans = road(30, shift);
            vans.van(0, 1);
            vans.visit(50, 0, 0, 0, 0, 9);
            if (shift < 41) {
                Edges.broken("9, moved by " + shift, vans, 0, 4);
                Due.due("count(7)", vans.count(7), 1);
            } else {
                Edges.promise("9, moved by " + shift, vans, 0, 1, 0, 50, 80);
                Due.due("count(7)", vans.count(7), 0);
            }
        }
    }

    /**
     * Plan: "(So for one that was moved the reasons 2 to 4 are asked anew.)" - the last part may be gone then, or not.
     */
    private static void reasonsAreAskedAnew() {
        for (int had = 8; had <= 10; had++) {
            VisitVans vans = road(30, 300);
            vans.van(0, 1);
            vans.load(0, 3, had);
            vans.visit(99, 0, 3, 4, 0, 98);
            vans.visit(0, 0, 3, 5, 0, 999);
            Edges.promise("5 of " + had, vans, 1, 0, 0, 0, 30);
            if (had < 9) {
                Edges.broken("4 of what is left of " + had, vans, 0, 3);
                Due.due("wanted(3)", vans.wanted(3), 4);
                Due.due("count(6)", vans.count(6), 1);
            } else {
                Edges.promise("4 of what is left of " + had, vans, 0, 1, 0, 300, 330);
                Due.due("wanted(3)", vans.wanted(3), 0);
            }
        }
        // Another van with the skill still has them, but is too late: reason 4, not 3.
        VisitVans vans = road(30, 1);
        vans.van(50, 1);
        vans.van(99, 1);
        vans.load(0, 0, 1);
        vans.load(1, 0, 1);
        vans.visit(0, 0, 0, 1, 0, 48);
        vans.visit(50, 0, 0, 1, 0, 60);
        Edges.promise("made by the near one", vans, 1, 0, 0, 0, 30);
        Edges.broken("too late for the other", vans, 0, 4);
        vans.load(1, 0, 0);
        Edges.broken("the other has none", vans, 0, 3);
    }

    /**
     * Plan: "A promise is kept (0) if the visit is made at the first look, moved (1) if it is made at the second one."
     */
    private static void keptOrMoved() {
        VisitVans vans = road(30, 300);
        vans.van(0, 1);
        for (int visit = 0; visit < 20; visit++) {
            vans.visit(0, 0, 0, 0, 0, visit < 10 ? 299 : 29);
        }
        // One of those until 29 is made at 0; of the others one each 30 minutes until 299 is made from 30 on.
        Edges.promise("the first", vans, 10, 0, 0, 0, 30);
        for (int visit = 0; visit < 9; visit++) {
            Edges.promise("until 299", vans, visit, 0, 0, 30 + visit * 30, 60 + visit * 30);
        }
        Edges.promise("the last of those until 299", vans, 9, 1, 0, 330, 360);
        Edges.promise("the first of those until 29", vans, 11, 1, 0, 300, 330);
        for (int visit = 12; visit < 20; visit++) {
            Edges.broken("the others until 29", vans, visit, 4);
        }
        Due.due("kept", vans.count(2), 10);
        Due.due("moved", vans.count(3), 2);
        Due.due("broken", vans.count(4), 8);
    }

    /** Plan: "the way there (0), if it takes time" - no unit and one. */
    private static void theWayIfItTakesTime() {
        VisitVans none = road(1, 0);
        none.van(50, 1);
        none.visit(50, 0, 0, 0, 0, 0);
        Edges.events("no way", none, 0, new int[] {VISIT, 0, 1, 0});
        for (int place : new int[] {49, 51}) {
            VisitVans one = road(1, 0);
            one.van(50, 1);
            one.visit(place, 0, 0, 0, 0, 1);
            Edges.events("a way of a minute", one, 0, new int[] {WAY, 0, 1, 0}, new int[] {VISIT, 1, 2, 0});
        }
    }

    /** Plan: "waiting for the window (1), if it takes time" - none and a minute, with and without a way. */
    private static void waitingIfItTakesTime() {
        VisitVans home = road(1, 0);
        home.van(50, 1);
        home.visit(50, 0, 0, 0, 1, 1);
        Edges.events("a minute at home", home, 0, new int[] {WAITING, 0, 1, 0}, new int[] {VISIT, 1, 2, 0});
        for (int from = 9; from <= 11; from++) {
            VisitVans vans = road(1, 0);
            vans.van(50, 1);
            vans.visit(60, 0, 0, 0, from, 11);
            if (from <= 10) {
                Edges.events("from " + from, vans, 0, new int[] {WAY, 0, 10, 0}, new int[] {VISIT, 10, 11, 0});
            } else {
                Edges.events("from " + from, vans, 0, new int[] {WAY, 0, 10, 0}, new int[] {WAITING, 10, 11, 0},
                    new int[] {VISIT, 11, 12, 0});
            }
        }
    }

    /** Plan: "and the visit (2)" - always, also if it lasts a minute, and at the minutes 0 and 999. */
    private static void theVisitItself() {
        for (int last : new int[] {1, 120}) {
            for (int from : new int[] {0, 999}) {
                VisitVans vans = road(last, 0);
                vans.van(50, 1);
                vans.visit(50, 0, 0, 0, from, from);
                int[] visit = {VISIT, from, from + last, 0};
                if (from == 0) {
                    Edges.events("at 0", vans, 0, visit);
                } else {
                    Edges.events("at 999", vans, 0, new int[] {WAITING, 0, 999, 0}, visit);
                }
            }
        }
    }

    /** Plan: "The events of a van are, for each of its visits in the order in which it makes them". */
    private static void eventsInTheOrderInWhichItMakesThem() {
        VisitVans vans = road(10, 100);
        vans.van(0, 1);
        vans.van(90, 2);
        vans.visit(30, 0, 0, 0, 0, 200);
        vans.visit(40, 0, 0, 0, 5, 39);
        vans.visit(0, 0, 0, 0, 0, 0);
        vans.visit(90, 1, 0, 0, 0, 0);
        vans.visit(0, 3, 0, 0, 0, 0);
        // Visit 1 would begin at 50, is moved to 105 to 139, and comes last; nobody makes visit 4.
        Edges.events("van 0", vans, 0, new int[] {VISIT, 0, 10, 2}, new int[] {WAY, 10, 40, 0},
            new int[] {VISIT, 40, 50, 0}, new int[] {WAY, 50, 60, 1}, new int[] {WAITING, 60, 105, 1},
            new int[] {VISIT, 105, 115, 1});
        Edges.events("van 1", vans, 1, new int[] {VISIT, 0, 10, 3});
        vans.drop(3);
        Edges.events("van 1 without visits", vans, 1);
    }

    /** Plan: "for each of its visits" - three events for each of 20 visits, by the last van. */
    private static void asManyEventsAsThereCanBe() {
        VisitVans vans = road(1, 0);
        for (int van = 0; van < 4; van++) {
            vans.van(1, van == 3 ? 1 : 0);
        }
        int[][] due = new int[60][];
        for (int visit = 0; visit < 20; visit++) {
            vans.visit(visit % 2, 0, 0, 0, visit * 50 + 49, visit * 50 + 49);
            int free = visit == 0 ? 0 : visit * 50;
            due[3 * visit] = new int[] {WAY, free, free + 1, visit};
            due[3 * visit + 1] = new int[] {WAITING, free + 1, visit * 50 + 49, visit};
            due[3 * visit + 2] = new int[] {VISIT, visit * 50 + 49, visit * 50 + 50, visit};
        }
        Edges.events("60 events", vans, 3, due);
        for (int van = 0; van < 3; van++) {
            Edges.events("no event", vans, van);
        }
    }
}
