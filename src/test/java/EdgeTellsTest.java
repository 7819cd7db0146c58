/** Boundary cases of the promises 7 to 14: ofVisit, ofVan, stock, event, count, wanted, share, meanWay. */
public final class EdgeTellsTest {
    private static final int NO_SUCH = -1, BAD_VALUE = -2, NONE = -6;
    private static final int PACE = 0, LAST = 1, SHIFT = 2;

    public static void main(String[] args) {
        ofVisitTells0To9();
        theWindowAsTold();
        itsPromise0To4();
        noneIfItIsBroken();
        ofVisitNoSuch();
        ofVisitBadValue();
        ofVanTells0To7();
        ofVanWithoutVisits();
        ofVanWithAllVisits();
        ofVanNoSuch();
        ofVanBadValue();
        stockTells0To2();
        stockAllUsedAndNoneUsed();
        stockNoSuch();
        stockBadValue();
        eventFirstAndLast();
        eventTells0To3();
        eventOfAWayOrWaiting();
        eventNoSuch();
        eventBadValue();
        countTells0To15();
        countWithoutVans();
        countOfAFullOne();
        countOfTheSettings();
        countOfThePad();
        countOfChanges();
        countBadValue();
        wantedByReason3Alone();
        wantedAtMost();
        wantedNoSuch();
        shareNoneAndAll();
        shareWithoutVisits();
        meanWayOfNoneMade();
        meanWayOfNoWay();
        meanWayOfThoseThatAreMade();
        meanWayAndItsRest();
        meanWayWithoutSuchAWhat();
        askingChangesNothing();
        Due.finish();
    }

    private static VisitVans road(int last, int shift) {
        VisitVans vans = new VisitVans();
        vans.set(PACE, 1);
        vans.set(LAST, last);
        vans.set(SHIFT, shift);
        return vans;
    }

    /** Promise 7: "0 its place, 1 its skill, 2 its kind of parts, 3 how many, 4, 5 its window". */
    private static void ofVisitTells0To9() {
        VisitVans vans = Edges.some();
        int[] due = {50, 1, 4, 9, 10, 60, 0, 1, 10, 50};
        for (int what = 0; what < 10; what++) {
            Due.due("ofVisit(1, " + what + ")", vans.ofVisit(1, what), due[what]);
        }
        Due.due("ofVisit(1, -1)", vans.ofVisit(1, -1), BAD_VALUE);
        Due.due("ofVisit(1, 10)", vans.ofVisit(1, 10), BAD_VALUE);
        int[][] told = {{0, 0, 0, 0, 0, 0}, {99, 3, 4, 9, 999, 999}};
        VisitVans ends = new VisitVans();
        for (int[] row : told) {
            ends.visit(row[0], row[1], row[2], row[3], row[4], row[5]);
        }
        for (int visit = 0; visit < 2; visit++) {
            for (int what = 0; what < 6; what++) {
                Due.due("ends: ofVisit(" + visit + ", " + what + ")", ends.ofVisit(visit, what), told[visit][what]);
            }
        }
    }

    /** Promise 7: "its window (as told, also if it is moved)" - also by the most, and if it is broken then. */
    private static void theWindowAsTold() {
        for (int shift : new int[] {0, 1, 49, 50, 300}) {
            VisitVans vans = road(30, shift);
            vans.van(0, 1);
            vans.visit(99, 0, 0, 0, 0, 50);
            Due.due("moved by " + shift + ": ofVisit(0, 4)", vans.ofVisit(0, 4), 0);
            Due.due("moved by " + shift + ": ofVisit(0, 5)", vans.ofVisit(0, 5), 50);
            Due.due("moved by " + shift + ": ofVisit(0, 6)", vans.ofVisit(0, 6), shift < 49 ? 4 : 1);
        }
    }

    /** Promise 7: "6 its promise: 0 kept, 1 moved, 2 to 4 broken by this reason". */
    private static void itsPromise0To4() {
        VisitVans vans = road(30, 60);
        vans.van(0, 1);
        vans.load(0, 0, 1);
        vans.visit(10, 0, 0, 1, 0, 10);
        vans.visit(10, 0, 0, 0, 0, 11);
        vans.visit(10, 1, 0, 0, 0, 999);
        vans.visit(10, 0, 0, 2, 0, 999);
        vans.visit(99, 0, 0, 0, 0, 12);
        Edges.promise("kept", vans, 0, 0, 0, 10, 40);
        Edges.promise("moved", vans, 1, 1, 0, 60, 90);
        Edges.broken("no skill", vans, 2, 2);
        Edges.broken("no parts", vans, 3, 3);
        Edges.broken("too late", vans, 4, 4);
    }

    /**
     * Promise 7: "7 its van, 8 when it begins, 9 when it ends (7 to 9: NONE if it is broken)" - the least, and NONE.
     */
    private static void noneIfItIsBroken() {
        VisitVans vans = road(1, 0);
        vans.visit(0, 0, 0, 0, 0, 0);
        Edges.broken("without vans", vans, 0, 2);
        vans.van(0, 1);
        Edges.promise("with a van", vans, 0, 0, 0, 0, 1);
        vans.drop(0);
        vans.visit(0, 0, 0, 1, 0, 0);
        Edges.broken("behind one that was kept", vans, 0, 3);
        vans.drop(0);
        vans.visit(1, 0, 0, 0, 0, 0);
        Edges.broken("a minute late", vans, 0, 4);
        for (int van = 1; van < 4; van++) {
            vans.van(1, van == 3 ? 1 : 2);
        }
        Edges.promise("by the last van", vans, 0, 0, 3, 0, 1);
    }

    /** Promise 7: "NO_SUCH if there is no such visit" - whatever is asked of it. */
    private static void ofVisitNoSuch() {
        for (int many : new int[] {0, 1, 19, 20}) {
            VisitVans vans = Edges.visits(many);
            for (int visit : Edges.outside(0, many - 1)) {
                for (int what : new int[] {-1, 0, 5, 6, 9, 10}) {
                    String call = many + ": ofVisit(" + visit + ", " + what + ")";
                    Due.due(call, vans.ofVisit(visit, what), NO_SUCH);
                }
            }
            if (many > 0) {
                Due.due(many + ": ofVisit() of the first", vans.ofVisit(0, 5), 999);
                Due.due(many + ": ofVisit() of the last", vans.ofVisit(many - 1, 5), 999);
            }
        }
        VisitVans dropped = Edges.visits(2);
        dropped.drop(0);
        Due.due("ofVisit(1, 0) behind drop(0)", dropped.ofVisit(1, 0), NO_SUCH);
        dropped.drop(0);
        Due.due("ofVisit(0, 0) behind both", dropped.ofVisit(0, 0), NO_SUCH);
    }

    /** Promise 7: "BAD_VALUE if what is out of range". */
    private static void ofVisitBadValue() {
        VisitVans vans = Edges.full();
        for (int what : Edges.outside(0, 9)) {
            Due.due("ofVisit(0, " + what + ")", vans.ofVisit(0, what), BAD_VALUE);
            Due.due("ofVisit(19, " + what + ")", vans.ofVisit(19, what), BAD_VALUE);
        }
    }

    /**
     * Promise 8: "0 its home, 1 its skills, 2 its visits, as a set, 3 minutes on the way, 4 minutes of waiting, 5 when
     * it is free in the end, 6 its place then, 7 how many events it has".
     */
    private static void ofVanTells0To7() {
        VisitVans vans = road(10, 0);
        vans.van(10, 5);
        vans.visit(9, 0, 0, 0, 0, 1);
        vans.visit(12, 2, 0, 0, 15, 15);
        vans.visit(12, 1, 0, 0, 0, 999);
        // A way of 1, a visit from 1 to 11, a way of 3, waiting for 1, a visit from 15 to 25.
        int[] due = {10, 5, 3, 4, 1, 25, 12, 5};
        for (int what = 0; what < 8; what++) {
            Due.due("ofVan(0, " + what + ")", vans.ofVan(0, what), due[what]);
        }
        Due.due("ofVan(0, -1)", vans.ofVan(0, -1), BAD_VALUE);
        Due.due("ofVan(0, 8)", vans.ofVan(0, 8), BAD_VALUE);
    }

    /** Promise 8: "5 when it is free in the end, 6 its place then" - of a van that makes no visit: 0, and its home. */
    private static void ofVanWithoutVisits() {
        int[] homes = {0, 99, 1, 98};
        VisitVans vans = new VisitVans();
        vans.visit(50, 0, 0, 0, 0, 0);
        for (int van = 0; van < 4; van++) {
            vans.van(homes[van], van == 0 ? 0 : 15);
            int[] due = {homes[van], van == 0 ? 0 : 15, 0, 0, 0, 0, homes[van], 0};
            vans.drop(0);
            for (int what = 0; what < 8; what++) {
                Due.due("ofVan(" + van + ", " + what + ")", vans.ofVan(van, what), due[what]);
            }
            vans.undo();
        }
        Due.due("one has no skill: ofVan(0, 2)", vans.ofVan(0, 2), 0);
    }

    /** Promise 8: "2 its visits, as a set" - none, one, and all 20, with the longest ways. */
    private static void ofVanWithAllVisits() {
        VisitVans vans = new VisitVans();
        vans.set(PACE, 9);
        vans.set(LAST, 120);
        vans.set(SHIFT, 300);
        vans.van(0, 15);
        Due.due("none: ofVan(0, 2)", vans.ofVan(0, 2), 0);
        vans.visit(99, 0, 0, 0, 0, 999);
        vans.visit(0, 0, 0, 0, 999, 999);
        // Ends at 1011, so that the next one comes at 1902 and is too late, also moved.
        int[] far = {0, 15, 1, 891, 0, 1011, 99, 2};
        for (int what = 0; what < 8; what++) {
            Due.due("far: ofVan(0, " + what + ")", vans.ofVan(0, what), far[what]);
        }
        VisitVans all = road(1, 0);
        all.van(0, 15);
        for (int visit = 0; visit < 20; visit++) {
            all.visit(visit % 2 == 0 ? 5 : 0, visit % 4, 0, 0, 0, 999);
        }
        // 20 ways of 5 and 20 visits of 1.
        int[] due = {0, 15, (1 << 20) - 1, 100, 0, 120, 0, 40};
        for (int what = 0; what < 8; what++) {
            Due.due("all: ofVan(0, " + what + ")", all.ofVan(0, what), due[what]);
        }
    }

    /** Promise 8: "NO_SUCH if there is no such van". */
    private static void ofVanNoSuch() {
        for (int many = 0; many <= 4; many++) {
            VisitVans vans = Edges.vans(many);
            for (int van : Edges.outside(0, many - 1)) {
                for (int what : new int[] {-1, 0, 7, 8}) {
                    Due.due(many + ": ofVan(" + van + ", " + what + ")", vans.ofVan(van, what), NO_SUCH);
                }
            }
            for (int van = 0; van < many; van++) {
                Due.due(many + ": ofVan(" + van + ", 0)", vans.ofVan(van, 0), van);
            }
        }
        VisitVans undone = Edges.vans(4);
        undone.undo();
        Due.due("ofVan(3, 0) behind undo()", undone.ofVan(3, 0), NO_SUCH);
        Due.due("ofVan(2, 0) behind undo()", undone.ofVan(2, 0), 2);
    }

    /** Promise 8: "BAD_VALUE if what is out of range". */
    private static void ofVanBadValue() {
        VisitVans vans = Edges.full();
        for (int what : Edges.outside(0, 7)) {
            Due.due("ofVan(0, " + what + ")", vans.ofVan(0, what), BAD_VALUE);
            Due.due("ofVan(3, " + what + ")", vans.ofVan(3, what), BAD_VALUE);
        }
    }

    /** Promise 9: "0 how many parts of the kind it has as it drives off, 1 how many are used, 2 how many are left". */
    private static void stockTells0To2() {
        VisitVans vans = Edges.vans(4);
        vans.load(3, 4, 9);
        vans.visit(3, 0, 4, 8, 0, 0);
        int[] due = {9, 8, 1};
        for (int what = 0; what < 3; what++) {
            Due.due("stock(3, 4, " + what + ")", vans.stock(3, 4, what), due[what]);
            Due.due("stock(3, 3, " + what + ")", vans.stock(3, 3, what), 0);
            Due.due("stock(2, 4, " + what + ")", vans.stock(2, 4, what), 0);
        }
        Due.due("stock(3, 4, -1)", vans.stock(3, 4, -1), BAD_VALUE);
        Due.due("stock(3, 4, 3)", vans.stock(3, 4, 3), BAD_VALUE);
    }

    /** Promise 9: "1 how many are used, 2 how many are left" - none, all but one, and all. */
    private static void stockAllUsedAndNoneUsed() {
        for (int had : new int[] {0, 1, 8, 9, 10, 98, 99}) {
            VisitVans vans = road(1, 0);
            vans.van(0, 1);
            vans.load(0, 0, had);
            int used = 0;
            for (int visit = 0; visit < 12; visit++) {
                vans.visit(0, 0, 0, 9, 0, 999);
                used = used + 9 <= had ? used + 9 : used;
                Due.due("of " + had + ": had", vans.stock(0, 0, 0), had);
                Due.due("of " + had + ": used", vans.stock(0, 0, 1), used);
                Due.due("of " + had + ": left", vans.stock(0, 0, 2), had - used);
            }
            vans.visit(0, 0, 0, had - used, 0, 999);
            Due.due("of " + had + ": all used", vans.stock(0, 0, 1), had);
            Due.due("of " + had + ": none left", vans.stock(0, 0, 2), 0);
        }
    }

    /** Promise 9: "NO_SUCH if there is no such van or part". */
    private static void stockNoSuch() {
        for (int many = 0; many <= 4; many++) {
            VisitVans vans = Edges.vans(many);
            for (int van : Edges.outside(0, many - 1)) {
                Due.due(many + ": stock(" + van + ", 0, 0)", vans.stock(van, 0, 0), NO_SUCH);
                Due.due(many + ": stock(" + van + ", 4, 3)", vans.stock(van, 4, 3), NO_SUCH);
            }
            for (int part : Edges.outside(0, 4)) {
                Due.due(many + ": stock(0, " + part + ", 0)", vans.stock(0, part, 0), NO_SUCH);
                Due.due(many + ": stock(3, " + part + ", 3)", vans.stock(3, part, 3), NO_SUCH);
            }
        }
    }

    /** Promise 9: "BAD_VALUE if what is out of range". */
    private static void stockBadValue() {
        VisitVans vans = Edges.full();
        for (int what : Edges.outside(0, 2)) {
            Due.due("stock(0, 0, " + what + ")", vans.stock(0, 0, what), BAD_VALUE);
            Due.due("stock(3, 4, " + what + ")", vans.stock(3, 4, what), BAD_VALUE);
        }
    }

    /** Promise 10: "`event`: 0 for the first one" - the first, the last, and beside them. */
    private static void eventFirstAndLast() {
        VisitVans vans = road(1, 0);
        vans.van(0, 1);
        for (int events = 0; events <= 20; events++) {
            Due.due(events + " events: ahead of the first", vans.event(0, -1, 0), NO_SUCH);
            Due.due(events + " events: behind the last", vans.event(0, events, 0), NO_SUCH);
            if (events > 0) {
                Due.due("the first of " + events + " begins", vans.event(0, 0, 1), 0);
                Due.due("the last of " + events + " begins", vans.event(0, events - 1, 1), events - 1);
            }
            vans.visit(0, 0, 0, 0, 0, 999);
        }
    }

    /** Promise 10: "0 its sort, 0 to 2, 1 when it begins, 2 when it ends, 3 its visit". */
    private static void eventTells0To3() {
        VisitVans vans = road(10, 0);
        vans.van(0, 1);
        vans.visit(0, 0, 0, 0, 0, 0);
        vans.visit(1, 0, 0, 0, 12, 12);
        int[][] due = {{2, 0, 10, 0}, {0, 10, 11, 1}, {1, 11, 12, 1}, {2, 12, 22, 1}};
        for (int event = 0; event < 4; event++) {
            for (int what = 0; what < 4; what++) {
                Due.due("event(0, " + event + ", " + what + ")", vans.event(0, event, what), due[event][what]);
            }
            Due.due("event(0, " + event + ", -1)", vans.event(0, event, -1), BAD_VALUE);
            Due.due("event(0, " + event + ", 4)", vans.event(0, event, 4), BAD_VALUE);
        }
    }

    /**
     * Promise 10: "(of a way or waiting: the visit for which it is)" - the first and the last of 20, not the one
     * before.
     */
    private static void eventOfAWayOrWaiting() {
        for (int visit : new int[] {0, 1, 18, 19}) {
            VisitVans vans = new VisitVans();
            vans.van(0, 1);
            for (int of = 0; of < 20; of++) {
                vans.visit(of == visit ? 50 : 0, of == visit ? 0 : 1, 0, 0, 101, 101);
            }
            for (int event = 0; event < 3; event++) {
                Due.due("event(0, " + event + ", 0)", vans.event(0, event, 0), event);
                Due.due("event(0, " + event + ", 3)", vans.event(0, event, 3), visit);
            }
        }
        Edges.events("the next one's way", twoWays(), 0, new int[] {0, 0, 1, 0}, new int[] {2, 1, 2, 0},
            new int[] {0, 2, 3, 1}, new int[] {1, 3, 4, 1}, new int[] {2, 4, 5, 1});
    }

    private static VisitVans twoWays() {
        VisitVans vans = road(1, 0);
        vans.van(0, 1);
        vans.visit(1, 0, 0, 0, 0, 1);
        vans.visit(2, 0, 0, 0, 4, 4);
        return vans;
    }

    /** Promise 10: "NO_SUCH if there is no such van or event". */
    private static void eventNoSuch() {
        VisitVans none = new VisitVans();
        Due.due("event(0, 0, 0) without vans", none.event(0, 0, 0), NO_SUCH);
        VisitVans vans = twoWays();
        for (int van : Edges.outside(0, 0)) {
            Due.due("event(" + van + ", 0, 0)", vans.event(van, 0, 0), NO_SUCH);
            Due.due("event(" + van + ", 0, 4)", vans.event(van, 0, 4), NO_SUCH);
        }
        for (int event : Edges.outside(0, 4)) {
            Due.due("event(0, " + event + ", 0)", vans.event(0, event, 0), NO_SUCH);
            Due.due("event(0, " + event + ", -1)", vans.event(0, event, -1), NO_SUCH);
        }
        vans.van(50, 15);
        Due.due("event(1, 0, 0) without events", vans.event(1, 0, 0), NO_SUCH);
        vans.drop(1);
        Due.due("event(0, 1, 0) behind drop()", vans.event(0, 1, 0), 2);
        Due.due("event(0, 2, 0) behind drop()", vans.event(0, 2, 0), NO_SUCH);
        vans.drop(0);
        Due.due("event(0, 0, 0) behind both", vans.event(0, 0, 0), NO_SUCH);
    }

    /** Promise 10: "BAD_VALUE if what is out of range". */
    private static void eventBadValue() {
        VisitVans vans = twoWays();
        for (int what : Edges.outside(0, 3)) {
            Due.due("event(0, 0, " + what + ")", vans.event(0, 0, what), BAD_VALUE);
            Due.due("event(0, 4, " + what + ")", vans.event(0, 4, what), BAD_VALUE);
        }
    }

    /**
     * Promise 11: "0 visits, 1 vans, 2 promises that are kept, 3 moved, 4 broken, 5 to 7 broken by the reasons 2 to 4,
     * 8 minutes on the way of all vans, 9 minutes of waiting of all vans".
     */
    private static void countTells0To15() {
        VisitVans vans = road(10, 20);
        vans.van(0, 1);
        vans.van(50, 3);
        vans.visit(0, 0, 0, 0, 1, 1);
        vans.visit(51, 1, 0, 0, 5, 5);
        vans.visit(0, 0, 0, 0, 2, 2);
        vans.visit(0, 2, 0, 0, 0, 999);
        vans.visit(0, 2, 0, 0, 0, 999);
        vans.visit(0, 2, 0, 0, 0, 999);
        vans.visit(0, 0, 0, 1, 0, 999);
        vans.visit(0, 0, 1, 1, 0, 999);
        vans.visit(99, 0, 0, 0, 0, 0);
        // Van 0 waits 1, is free at 11, waits 11 for the moved visit 2, from 22 to 32. Van 1: way 1, waits 4, to 15.
        int[] due = {9, 2, 2, 1, 6, 3, 2, 1, 1, 16, 32, 1, 10, 20, 0, 6};
        for (int what = 0; what < 16; what++) {
            Due.due("count(" + what + ")", vans.count(what), due[what]);
        }
        Due.due("count(-1)", vans.count(-1), BAD_VALUE);
        Due.due("count(16)", vans.count(16), BAD_VALUE);
    }

    /** Promise 11: "10 when the last van is free (0 without vans)" - also 0 with vans that make no visit. */
    private static void countWithoutVans() {
        VisitVans vans = Edges.visits(20);
        Due.due("without vans: count(10)", vans.count(10), 0);
        Due.due("without vans: count(8)", vans.count(8), 0);
        Due.due("without vans: count(9)", vans.count(9), 0);
        Due.due("without vans: count(5)", vans.count(5), 20);
        vans.van(0, 0);
        Due.due("with one that makes none: count(10)", vans.count(10), 0);
        vans.van(0, 1);
        Due.due("with one that makes all: count(10)", vans.count(10), 600);
        vans.undo();
        Due.due("without it: count(10)", vans.count(10), 0);
        for (int last = 0; last < 4; last++) {
            VisitVans four = new VisitVans();
            for (int van = 0; van < 4; van++) {
                four.van(0, 1 << van);
                four.visit(0, van, 0, 0, van == last ? 51 : 50, 999);
            }
            Due.due("the last is van " + last + ": count(10)", four.count(10), 81);
        }
        VisitVans most = new VisitVans();
        most.set(LAST, 120);
        most.set(SHIFT, 300);
        most.van(0, 1);
        most.visit(0, 0, 0, 0, 999, 999);
        Due.due("one until 999: count(10)", most.count(10), 1119);
        most.visit(0, 0, 0, 0, 999, 999);
        Due.due("a moved one until 1299: count(10)", most.count(10), 1419);
    }

    /** Promise 11: "0 visits, 1 vans, 2 promises that are kept, 3 moved, 4 broken" - none, and all of 20. */
    private static void countOfAFullOne() {
        VisitVans kept = Edges.visits(20);
        kept.van(0, 1);
        VisitVans moved = new VisitVans();
        moved.set(LAST, 1);
        moved.van(1, 1);
        VisitVans late = new VisitVans();
        late.set(SHIFT, 0);
        late.van(1, 1);
        VisitVans short1 = new VisitVans();
        short1.van(0, 1);
        for (int visit = 0; visit < 20; visit++) {
            moved.visit(0, 0, 0, 0, 0, visit < 2 ? visit : 1);
            late.visit(0, 0, 0, 0, 0, 1);
            short1.visit(0, 0, 4, 9, 0, 999);
        }
        int[][] due = {{20, 1, 20, 0, 0, 0, 0, 0}, {20, 1, 0, 2, 18, 0, 0, 18}, {20, 1, 0, 0, 20, 0, 0, 20},
            {20, 1, 0, 0, 20, 0, 20, 0}};
        VisitVans[] all = {kept, moved, late, short1};
        for (int i = 0; i < all.length; i++) {
            for (int what = 0; what < 8; what++) {
                Due.due("full " + i + ": count(" + what + ")", all[i].count(what), due[i][what]);
            }
        }
        VisitVans four = Edges.vans(4);
        Due.due("four vans: count(1)", four.count(1), 4);
    }

    /** Promise 11: "11 to 13 the settings" - at first, the least and the most; 10 and 14 are none. */
    private static void countOfTheSettings() {
        int[][] rows = {{2, 30, 120}, {1, 1, 0}, {9, 120, 300}};
        VisitVans vans = new VisitVans();
        for (int row = 0; row < 3; row++) {
            for (int setting = 0; setting < 3 && row > 0; setting++) {
                vans.set(setting, rows[row][setting]);
            }
            for (int setting = 0; setting < 3; setting++) {
                Due.due("count(" + (11 + setting) + ")", vans.count(11 + setting), rows[row][setting]);
            }
            Due.due("count(10)", vans.count(10), 0);
            Due.due("count(14)", vans.count(14), 0);
        }
    }

    /** Promise 11: "14 the length of the pad" - from 0 to 80. */
    private static void countOfThePad() {
        VisitVans vans = new VisitVans();
        for (int length = 0; length <= 80; length++) {
            Due.due("count(14)", vans.count(14), length);
            Due.due("put(!)", vans.put('!'), length < 80 ? length + 1 : -4);
        }
        Due.due("count(14) behind a refused one", vans.count(14), 80);
        vans.wipe();
        Due.due("count(14) behind wipe()", vans.count(14), 0);
    }

    /** Promise 11: "15 how many changes can be undone" - from 0 to 6, and back. */
    private static void countOfChanges() {
        VisitVans vans = new VisitVans();
        for (int changes = 0; changes <= 14; changes++) {
            Due.due("count(15) behind " + changes, vans.count(15), Math.min(6, changes));
            vans.set(LAST, 1 + changes);
        }
        for (int left = 6; left >= 0; left--) {
            Due.due("count(15) on the way back", vans.count(15), left);
            vans.undo();
        }
        Due.due("count(15) behind all", vans.count(15), 0);
        vans.set(LAST, 1);
        Due.due("count(15) behind one more", vans.count(15), 1);
    }

    /** Promise 11: "BAD_VALUE if what is out of range". */
    private static void countBadValue() {
        VisitVans empty = new VisitVans();
        VisitVans full = Edges.full();
        for (int what : Edges.outside(0, 15)) {
            Due.due("count(" + what + ")", empty.count(what), BAD_VALUE);
            Due.due("full: count(" + what + ")", full.count(what), BAD_VALUE);
        }
    }

    /** Promise 12: "how many parts of a kind are wanted: those of visits that are broken by the reason 3". */
    private static void wantedByReason3Alone() {
        for (int part = 0; part < 5; part++) {
            VisitVans vans = road(30, 0);
            vans.visit(0, 0, part, 9, 0, 0);
            Due.due("reason 2: wanted(" + part + ")", vans.wanted(part), 0);
            vans.van(0, 1);
            Due.due("reason 3: wanted(" + part + ")", vans.wanted(part), 9);
            Due.due("reason 3: wanted() of another", vans.wanted((part + 1) % 5), 0);
            vans.load(0, part, 8);
            Due.due("one short: wanted(" + part + ")", vans.wanted(part), 9);
            vans.load(0, part, 9);
            Due.due("kept: wanted(" + part + ")", vans.wanted(part), 0);
            vans.load(0, part, 99);
            vans.visit(0, 0, part, 9, 0, 0);
            Due.due("reason 4: wanted(" + part + ")", vans.wanted(part), 0);
            Due.due("reason 4: count(7)", vans.count(7), 1);
        }
        for (int many : new int[] {1, 2, 19, 20}) {
            VisitVans vans = Edges.visits(many - 1);
            vans.van(0, 1);
            vans.visit(0, 0, 2, 7, 0, 999);
            Due.due("the last of " + many + ": wanted(2)", vans.wanted(2), 7);
            vans.drop(many - 1);
            Due.due("behind drop() of the last of " + many + ": wanted(2)", vans.wanted(2), 0);
            vans.undo();
            Due.due("behind undo() of that: wanted(2)", vans.wanted(2), 7);
            vans.undo();
            Due.due("behind undo() of its visit(): wanted(2)", vans.wanted(2), 0);
        }
    }

    /** Promise 12: "Returns how many" - none without visits, and all of 20 visits. */
    private static void wantedAtMost() {
        for (int part = 0; part < 5; part++) {
            VisitVans vans = new VisitVans();
            vans.van(0, 1);
            Due.due("without visits: wanted(" + part + ")", vans.wanted(part), 0);
            for (int visit = 0; visit < 20; visit++) {
                vans.visit(0, 0, part, 9, 0, 999);
                Due.due("wanted(" + part + ") of " + (visit + 1), vans.wanted(part), 9 * (visit + 1));
            }
            vans.load(0, part, 99);
            Due.due("wanted(" + part + ") with 99", vans.wanted(part), 81);
            for (int other = 0; other < 5; other++) {
                Due.due("wanted(" + other + ")", vans.wanted(other), other == part ? 81 : 0);
            }
        }
    }

    /** Promise 12: "NO_SUCH if there is no such part". */
    private static void wantedNoSuch() {
        VisitVans empty = new VisitVans();
        VisitVans some = Edges.some();
        for (int part : Edges.outside(0, 4)) {
            Due.due("wanted(" + part + ")", empty.wanted(part), NO_SUCH);
            Due.due("some: wanted(" + part + ")", some.wanted(part), NO_SUCH);
        }
        Due.due("wanted(0)", empty.wanted(0), 0);
        Due.due("wanted(4)", empty.wanted(4), 0);
    }

    /**
     * Promise 13: "of how many these are, as a float, divided by all, as a float" - none, one, all but one, and all.
     */
    private static void shareNoneAndAll() {
        for (int all : new int[] {1, 2, 3, 19, 20}) {
            for (int made : new int[] {0, 1, all - 1, all}) {
                VisitVans vans = new VisitVans();
                vans.van(0, 1);
                for (int visit = 0; visit < all; visit++) {
                    vans.visit(0, visit < made ? 0 : 3, 0, 0, 0, 999);
                }
                int due = Float.floatToIntBits((float) made / (float) all);
                Due.due("share() of " + made + " of " + all, vans.share(), due);
            }
        }
        VisitVans vans = Edges.visits(1);
        Due.due("share() of none", vans.share(), 0);
        vans.van(0, 1);
        Due.due("share() of all, kept", vans.share(), 0x3f800000);
        vans.drop(0);
        vans.visit(1, 0, 0, 0, 0, 0);
        Due.due("share() of all, moved", vans.share(), 0x3f800000);
        vans.set(SHIFT, 0);
        Due.due("share() of all, too late", vans.share(), 0);
    }

    /** Promise 13: "NONE without visits". */
    private static void shareWithoutVisits() {
        VisitVans vans = new VisitVans();
        Due.due("share() of a new one", vans.share(), NONE);
        vans.van(0, 15);
        Due.due("share() with a van", vans.share(), NONE);
        vans.visit(0, 0, 0, 0, 0, 0);
        Due.due("share() with a visit", vans.share(), 0x3f800000);
        vans.drop(0);
        Due.due("share() behind drop()", vans.share(), NONE);
        vans.undo();
        vans.undo();
        Due.due("share() behind undo()", vans.share(), NONE);
    }

    /** Promise 14: "Returns the bits (0 if no visit is made)". */
    private static void meanWayOfNoneMade() {
        for (int what = 0; what <= 1; what++) {
            String call = "meanWay(" + what + ") ";
            VisitVans vans = new VisitVans();
            Due.due(call + "of a new one", vans.meanWay(what), 0L);
            vans.visit(9, 0, 0, 0, 0, 999);
            Due.due(call + "without vans", vans.meanWay(what), 0L);
            vans.van(0, 2);
            Due.due(call + "without the skill", vans.meanWay(what), 0L);
            vans.van(0, 1);
            Due.due(call + "of one", vans.meanWay(what), what == 0 ? Double.doubleToLongBits(18.0) : 0L);
            vans.drop(0);
            Due.due(call + "behind drop()", vans.meanWay(what), 0L);
        }
    }

    /**
     * Promise 14: "of all minutes on the way, as a double, divided by the visits that are made, as a double" - no
     * minute, one, and the most.
     */
    private static void meanWayOfNoWay() {
        VisitVans vans = road(30, 0);
        vans.van(0, 1);
        vans.visit(0, 0, 0, 0, 0, 0);
        Due.due("no minute", vans.meanWay(0), 0L);
        Due.due("no minute's rest", vans.meanWay(1), 0L);
        vans.visit(1, 0, 0, 0, 0, 999);
        Due.due("a minute by two", vans.meanWay(0), Double.doubleToLongBits(0.5));
        Due.due("the rest of a minute by two", vans.meanWay(1), Double.doubleToLongBits(0.5));
        vans.visit(1, 1, 0, 0, 0, 999);
        Due.due("one that is broken does not count", vans.meanWay(0), Double.doubleToLongBits(0.5));
        for (int visit = 3; visit < 20; visit++) {
            vans.visit(1, 0, 0, 0, 0, 999);
        }
        Due.due("a minute by 19", vans.meanWay(0), Double.doubleToLongBits(1.0 / 19.0));
        Due.due("the rest of a minute by 19", vans.meanWay(1), Double.doubleToLongBits(1.0 / 19.0));
        VisitVans far = new VisitVans();
        far.set(PACE, 9);
        far.van(0, 1);
        far.visit(99, 0, 0, 0, 0, 999);
        Due.due("the longest way", far.meanWay(0), Double.doubleToLongBits(891.0));
        Due.due("the rest of the longest way", far.meanWay(1), 0L);
    }

    /** Promise 14: "divided by the visits that are made" - kept and moved ones, no broken one. */
    private static void meanWayOfThoseThatAreMade() {
        VisitVans vans = road(10, 100);
        vans.van(0, 1);
        vans.visit(0, 0, 0, 0, 0, 999);
        vans.visit(50, 0, 0, 0, 0, 49);
        Edges.promise("moved", vans, 1, 1, 0, 100, 110);
        Due.due("one kept and one moved", vans.meanWay(0), Double.doubleToLongBits(25.0));
        vans.set(SHIFT, 10);
        Edges.broken("moved by 10", vans, 1, 4);
        Due.due("one kept and one broken", vans.meanWay(0), 0L);
        vans.set(SHIFT, 11);
        Due.due("one kept and one moved by 11", vans.meanWay(0), Double.doubleToLongBits(25.0));
        vans.drop(0);
        vans.set(SHIFT, 1);
        Due.due("one moved alone", vans.meanWay(0), Double.doubleToLongBits(50.0));
    }

    /**
     * Promise 14: "0 that, 1 the rest of it by 1.0 (as % tells it)" - just below a whole number, at it, and just above.
     */
    private static void meanWayAndItsRest() {
        for (int made = 1; made <= 20; made++) {
            for (int minutes : new int[] {made - 1, made, made + 1, 4 * made - 1, 4 * made, 4 * made + 1}) {
                VisitVans vans = road(1, 0);
                vans.van(0, 1);
                for (int visit = 0; visit < made; visit++) {
                    vans.visit(minutes, 0, 0, 0, 0, 999);
                }
                double mean = (double) minutes / (double) made;
                String of = minutes + " by " + made;
                Due.due(of, vans.meanWay(0), Double.doubleToLongBits(mean));
                Due.due("the rest of " + of, vans.meanWay(1), Double.doubleToLongBits(mean % 1.0));
            }
        }
    }

    /** Promise 14: "-2 if what is neither 0 nor 1". */
    private static void meanWayWithoutSuchAWhat() {
        VisitVans empty = new VisitVans();
        VisitVans some = Edges.some();
        for (int what : Edges.outside(0, 1)) {
            Due.due("meanWay(" + what + ")", empty.meanWay(what), -2L);
            Due.due("some: meanWay(" + what + ")", some.meanWay(what), -2L);
        }
    }

    /** Conventions: "NONE (-6) is not an error" - and what only tells something changes nothing. */
    private static void askingChangesNothing() {
        Edges.changesNothing("ofVisit(3, 7)", Edges::some, vans -> vans.ofVisit(3, 7), NONE);
        Edges.changesNothing("ofVan(1, 7)", Edges::some, vans -> vans.ofVan(1, 7), 2);
        Edges.changesNothing("stock(1, 4, 2)", Edges::some, vans -> vans.stock(1, 4, 2), 90);
        Edges.changesNothing("event(1, 1, 2)", Edges::some, vans -> vans.event(1, 1, 2), 50);
        Edges.changesNothing("count(1)", Edges::some, vans -> vans.count(1), 2);
        Edges.changesNothing("wanted(1)", Edges::some, vans -> vans.wanted(1), 9);
        Edges.changesNothing("share()", Edges::empty, VisitVans::share, NONE);
        Edges.changesNothing("meanWay(0)", Edges::empty, vans -> vans.meanWay(0), 0L);
        Edges.changesNothing("fault()", Edges::some, VisitVans::fault, NONE);
        Edges.changesNothing("fault()", Edges::empty, VisitVans::fault, 0);
    }
}
