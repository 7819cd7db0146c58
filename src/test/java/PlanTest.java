/** The rule of the plan, and promises 7 to 10: ofVisit, ofVan, stock, event. */
public final class PlanTest {
    private static final int MIN = Integer.MIN_VALUE;
    private static final int MAX = Integer.MAX_VALUE;
    private static final int NONE = VisitVans.NONE;

    public static void main(String[] args) {
        looksInTheOrderOfEnds();
        likeEndsInTheOrderOfNumbers();
        theVanThatBeginsFirst();
        theLowestOfSeveral();
        waitingMakesVansEqual();
        beginsNoLaterThanTheEnd();
        aWindowMayEndAtItsBeginning();
        needsTheSkill();
        needsTheParts();
        movedVisitsComeLast();
        movedVisitsKeepTheirOrder();
        movedVisitsCanLackParts();
        movedVisitsCanBeTooLate();
        movedVisitsWaitForTheMovedWindow();
        movedVisitsGoToTheLowestThatWaits();
        moreSkillsThanParts();
        ofVisitRefuses();
        ofVanTells();
        ofVanRefuses();
        stockAgreesWithUse();
        stockRefuses();
        eventsOfAVan();
        aVanWithAllEvents();
        eventRefuses();
        Due.finish();
    }

    /** What there is about a visit's promise: 6 to 9. */
    private static void promise(VisitVans vans, int visit, int promise, int van, int begins, int ends) {
        int[] due = {promise, van, begins, ends};
        for (int what = 6; what < 10; what++) {
            Due.due("ofVisit(" + visit + ", " + what + ")", vans.ofVisit(visit, what), due[what - 6]);
        }
    }

    private static void looksInTheOrderOfEnds() {
        VisitVans vans = new VisitVans();
        vans.van(0, 1);
        vans.visit(0, 0, 0, 0, 0, 200);
        vans.visit(0, 0, 0, 0, 0, 100);
        vans.visit(0, 0, 0, 0, 0, 150);
        promise(vans, 1, 0, 0, 0, 30);
        promise(vans, 2, 0, 0, 30, 60);
        promise(vans, 0, 0, 0, 60, 90);
    }

    private static void likeEndsInTheOrderOfNumbers() {
        VisitVans vans = new VisitVans();
        vans.van(0, 1);
        for (int visit = 0; visit < 4; visit++) {
            vans.visit(0, 0, 0, 0, 3 - visit, 500);
        }
        promise(vans, 0, 0, 0, 3, 33);
        promise(vans, 1, 0, 0, 33, 63);
        promise(vans, 2, 0, 0, 63, 93);
        promise(vans, 3, 0, 0, 93, 123);
        vans.drop(0);
        promise(vans, 0, 0, 0, 2, 32);
    }

    private static void theVanThatBeginsFirst() {
        VisitVans vans = new VisitVans();
        vans.van(0, 1);
        vans.van(60, 1);
        vans.visit(50, 0, 0, 0, 0, 999);
        promise(vans, 0, 0, 1, 20, 50);
        vans.visit(50, 0, 0, 0, 0, 999);
        promise(vans, 1, 0, 1, 50, 80);
        vans.set(VisitVans.LAST, 100);
        promise(vans, 1, 0, 0, 100, 200);
    }

    private static void theLowestOfSeveral() {
        VisitVans vans = new VisitVans();
        vans.van(99, 0);
        vans.van(40, 1);
        vans.van(60, 1);
        vans.visit(50, 0, 0, 0, 0, 999);
        promise(vans, 0, 0, 1, 20, 50);
    }

    private static void waitingMakesVansEqual() {
        VisitVans vans = new VisitVans();
        vans.van(0, 1);
        vans.van(50, 1);
        vans.visit(50, 0, 0, 0, 100, 999);
        promise(vans, 0, 0, 0, 100, 130);
        vans.undo();
        vans.visit(50, 0, 0, 0, 99, 999);
        promise(vans, 0, 0, 1, 99, 129);
    }

    private static void beginsNoLaterThanTheEnd() {
        VisitVans vans = new VisitVans();
        vans.van(10, 1);
        vans.visit(60, 0, 0, 0, 0, 100);
        promise(vans, 0, 0, 0, 100, 130);
        vans.undo();
        vans.visit(60, 0, 0, 0, 0, 99);
        promise(vans, 0, 1, 0, 120, 150);
        vans.set(VisitVans.SHIFT, 0);
        promise(vans, 0, 4, NONE, NONE, NONE);
        vans.set(VisitVans.SHIFT, 1);
        promise(vans, 0, 1, 0, 100, 130);
        vans.set(VisitVans.PACE, 1);
        promise(vans, 0, 0, 0, 50, 80);
    }

    private static void aWindowMayEndAtItsBeginning() {
        VisitVans vans = new VisitVans();
        vans.van(0, 1);
        vans.visit(0, 0, 0, 0, 0, 0);
        promise(vans, 0, 0, 0, 0, 30);
        vans.visit(99, 0, 0, 0, 999, 999);
        promise(vans, 1, 0, 0, 999, 1029);
        vans.visit(99, 0, 0, 0, 999, 999);
        promise(vans, 2, 1, 0, 1119, 1149);
        vans.set(VisitVans.SHIFT, 29);
        promise(vans, 2, 4, NONE, NONE, NONE);
    }

    private static void needsTheSkill() {
        for (int skill = 0; skill < 4; skill++) {
            VisitVans vans = new VisitVans();
            vans.visit(5, skill, 0, 0, 0, 999);
            promise(vans, 0, 2, NONE, NONE, NONE);
            vans.van(5, 15 - (1 << skill));
            promise(vans, 0, 2, NONE, NONE, NONE);
            vans.van(50, 1 << skill);
            promise(vans, 0, 0, 1, 90, 120);
        }
    }

    private static void needsTheParts() {
        VisitVans vans = new VisitVans();
        vans.van(5, 1);
        vans.van(50, 1);
        vans.visit(5, 0, 3, 4, 0, 999);
        promise(vans, 0, 3, NONE, NONE, NONE);
        vans.load(0, 3, 3);
        vans.load(0, 2, 99);
        promise(vans, 0, 3, NONE, NONE, NONE);
        vans.load(1, 3, 4);
        promise(vans, 0, 0, 1, 90, 120);
        vans.visit(5, 0, 3, 3, 0, 999);
        promise(vans, 1, 0, 0, 0, 30);
        vans.visit(5, 0, 3, 1, 0, 999);
        promise(vans, 2, 3, NONE, NONE, NONE);
        vans.visit(5, 0, 3, 0, 0, 999);
        promise(vans, 3, 0, 0, 30, 60);
    }

    private static void movedVisitsComeLast() {
        VisitVans vans = new VisitVans();
        vans.van(0, 1);
        vans.visit(99, 0, 0, 0, 0, 10);
        vans.visit(0, 0, 0, 0, 0, 900);
        promise(vans, 1, 0, 0, 0, 30);
        promise(vans, 0, 4, NONE, NONE, NONE);
        vans.set(VisitVans.SHIFT, 300);
        promise(vans, 0, 1, 0, 300, 330);
        Due.due("ofVisit(0, 4)", vans.ofVisit(0, 4), 0);
        Due.due("ofVisit(0, 5)", vans.ofVisit(0, 5), 10);
    }

    private static void movedVisitsKeepTheirOrder() {
        VisitVans vans = new VisitVans();
        vans.set(VisitVans.SHIFT, 300);
        vans.van(0, 1);
        vans.visit(90, 0, 0, 0, 0, 50);
        vans.visit(80, 0, 0, 0, 0, 40);
        vans.visit(70, 0, 0, 0, 0, 50);
        promise(vans, 1, 1, 0, 300, 330);
        promise(vans, 0, 1, 0, 350, 380);
        promise(vans, 2, 4, NONE, NONE, NONE);
        vans.set(VisitVans.LAST, 1);
        promise(vans, 1, 1, 0, 300, 301);
        promise(vans, 0, 1, 0, 321, 322);
        promise(vans, 2, 4, NONE, NONE, NONE);
    }

    private static void movedVisitsCanLackParts() {
        VisitVans vans = new VisitVans();
        vans.set(VisitVans.SHIFT, 300);
        vans.van(0, 1);
        vans.load(0, 1, 5);
        vans.visit(99, 0, 1, 3, 0, 10);
        promise(vans, 0, 1, 0, 300, 330);
        vans.visit(0, 0, 1, 3, 0, 20);
        promise(vans, 0, 3, NONE, NONE, NONE);
        promise(vans, 1, 0, 0, 0, 30);
        Due.due("wanted(1)", vans.wanted(1), 3);
    }

    private static void movedVisitsCanBeTooLate() {
        VisitVans vans = new VisitVans();
        vans.set(VisitVans.SHIFT, 10);
        vans.van(0, 1);
        vans.visit(99, 0, 0, 0, 0, 10);
        promise(vans, 0, 4, NONE, NONE, NONE);
        vans.set(VisitVans.SHIFT, 187);
        promise(vans, 0, 4, NONE, NONE, NONE);
        vans.set(VisitVans.SHIFT, 188);
        promise(vans, 0, 1, 0, 198, 228);
    }

    private static void movedVisitsWaitForTheMovedWindow() {
        VisitVans vans = new VisitVans();
        vans.van(0, 1);
        vans.visit(50, 0, 0, 0, 40, 60);
        promise(vans, 0, 1, 0, 160, 190);
        Due.due("ofVan(0, 4)", vans.ofVan(0, 4), 60);
        Due.due("ofVisit(0, 4)", vans.ofVisit(0, 4), 40);
        Due.due("ofVisit(0, 5)", vans.ofVisit(0, 5), 60);
    }

    private static void movedVisitsGoToTheLowestThatWaits() {
        VisitVans vans = new VisitVans();
        vans.set(VisitVans.SHIFT, 300);
        vans.van(0, 1);
        vans.van(30, 1);
        vans.visit(99, 0, 0, 0, 0, 10);
        promise(vans, 0, 1, 0, 300, 330);
    }

    /** The reason asks for one van with the skill and the parts, not for one of each. */
    private static void moreSkillsThanParts() {
        VisitVans vans = new VisitVans();
        vans.van(0, 1);
        vans.van(0, 2);
        vans.load(1, 0, 9);
        vans.visit(0, 0, 0, 5, 0, 999);
        promise(vans, 0, 3, NONE, NONE, NONE);
        vans.van(99, 1);
        vans.load(2, 0, 5);
        vans.set(VisitVans.SHIFT, 0);
        vans.drop(0);
        vans.visit(0, 0, 0, 5, 0, 197);
        promise(vans, 0, 4, NONE, NONE, NONE);
    }

    private static void ofVisitRefuses() {
        VisitVans vans = new VisitVans();
        vans.visit(0, 0, 0, 0, 0, 0);
        for (int visit : new int[] {-1, 1, 20, MIN, MAX}) {
            Due.due("ofVisit(" + visit + ", 0)", vans.ofVisit(visit, 0), VisitVans.NO_SUCH);
            Due.due("ofVisit(" + visit + ", 10)", vans.ofVisit(visit, 10), VisitVans.NO_SUCH);
        }
        for (int what : new int[] {-1, 10, MIN, MAX}) {
            Due.due("ofVisit(0, " + what + ")", vans.ofVisit(0, what), VisitVans.BAD_VALUE);
        }
    }

    private static void ofVanTells() {
        VisitVans vans = new VisitVans();
        vans.van(10, 3);
        vans.van(80, 4);
        vans.visit(20, 0, 0, 0, 50, 60);
        vans.visit(99, 3, 0, 0, 0, 60);
        vans.visit(5, 1, 0, 0, 0, 200);
        vans.visit(5, 1, 0, 0, 0, 201);
        int[][] due = {{10, 3, 13, 50, 30, 170, 5, 6}, {80, 4, 0, 0, 0, 0, 80, 0}};
        for (int van = 0; van < 2; van++) {
            for (int what = 0; what < 8; what++) {
                Due.due("ofVan(" + van + ", " + what + ")", vans.ofVan(van, what), due[van][what]);
            }
        }
    }

    private static void ofVanRefuses() {
        VisitVans vans = new VisitVans();
        Due.due("ofVan(0, 0) without vans", vans.ofVan(0, 0), VisitVans.NO_SUCH);
        vans.van(0, 1);
        for (int van : new int[] {-1, 1, 4, MIN, MAX}) {
            Due.due("ofVan(" + van + ", 0)", vans.ofVan(van, 0), VisitVans.NO_SUCH);
            Due.due("ofVan(" + van + ", 8)", vans.ofVan(van, 8), VisitVans.NO_SUCH);
        }
        for (int what : new int[] {-1, 8, MIN, MAX}) {
            Due.due("ofVan(0, " + what + ")", vans.ofVan(0, what), VisitVans.BAD_VALUE);
        }
    }

    private static void stockAgreesWithUse() {
        VisitVans vans = new VisitVans();
        vans.van(0, 1);
        vans.van(0, 2);
        vans.load(0, 2, 10);
        vans.load(0, 4, 1);
        vans.load(1, 2, 99);
        vans.visit(0, 0, 2, 9, 0, 999);
        vans.visit(0, 0, 2, 1, 0, 999);
        vans.visit(0, 0, 2, 1, 0, 999);
        vans.visit(0, 1, 2, 7, 0, 999);
        int[][][] due = {{{0, 0, 0}, {0, 0, 0}, {10, 10, 0}, {0, 0, 0}, {1, 0, 1}},
            {{0, 0, 0}, {0, 0, 0}, {99, 7, 92}, {0, 0, 0}, {0, 0, 0}}};
        for (int van = 0; van < 2; van++) {
            for (int part = 0; part < 5; part++) {
                for (int what = 0; what < 3; what++) {
                    String call = "stock(" + van + ", " + part + ", " + what + ")";
                    Due.due(call, vans.stock(van, part, what), due[van][part][what]);
                }
            }
        }
    }

    private static void stockRefuses() {
        VisitVans vans = new VisitVans();
        Due.due("stock(0, 0, 0) without vans", vans.stock(0, 0, 0), VisitVans.NO_SUCH);
        vans.van(0, 1);
        for (int van : new int[] {-1, 1, 4, MIN, MAX}) {
            Due.due("stock(" + van + ", 0, 0)", vans.stock(van, 0, 0), VisitVans.NO_SUCH);
            Due.due("stock(" + van + ", 0, 3)", vans.stock(van, 0, 3), VisitVans.NO_SUCH);
        }
        for (int part : new int[] {-1, 5, MIN, MAX}) {
            Due.due("stock(0, " + part + ", 0)", vans.stock(0, part, 0), VisitVans.NO_SUCH);
            Due.due("stock(0, " + part + ", 3)", vans.stock(0, part, 3), VisitVans.NO_SUCH);
        }
        for (int what : new int[] {-1, 3, MIN, MAX}) {
            Due.due("stock(0, 0, " + what + ")", vans.stock(0, 0, what), VisitVans.BAD_VALUE);
        }
    }

    private static void eventsOfAVan() {
        VisitVans vans = new VisitVans();
        vans.van(10, 1);
        vans.visit(10, 0, 0, 0, 0, 300);
        vans.visit(20, 0, 0, 0, 0, 10);
        vans.visit(20, 0, 0, 0, 100, 200);
        // Visit 1 is moved to 120 to 130 and comes last; visit 0 comes behind visit 2.
        int[][] due = {{0, 0, 20, 2}, {1, 20, 100, 2}, {2, 100, 130, 2}, {0, 130, 150, 0}, {2, 150, 180, 0}};
        Due.due("ofVan(0, 7)", vans.ofVan(0, 7), due.length);
        for (int event = 0; event < due.length; event++) {
            for (int what = 0; what < 4; what++) {
                Due.due("event(0, " + event + ", " + what + ")", vans.event(0, event, what), due[event][what]);
            }
        }
        vans.set(VisitVans.SHIFT, 300);
        int[][] more = {{0, 180, 200, 1}, {1, 200, 300, 1}, {2, 300, 330, 1}};
        for (int event = 0; event < more.length; event++) {
            for (int what = 0; what < 4; what++) {
                String call = "event(0, " + (5 + event) + ", " + what + ")";
                Due.due(call, vans.event(0, 5 + event, what), more[event][what]);
            }
        }
    }

    private static void aVanWithAllEvents() {
        VisitVans vans = new VisitVans();
        vans.set(VisitVans.PACE, 1);
        vans.set(VisitVans.LAST, 1);
        for (int van = 0; van < 4; van++) {
            vans.van(0, van == 3 ? 1 : 0);
        }
        for (int visit = 0; visit < 20; visit++) {
            vans.visit(1 - visit % 2, 0, 0, 0, visit * 10 + 5, visit * 10 + 5);
        }
        Due.due("ofVan(3, 7)", vans.ofVan(3, 7), 60);
        Due.due("ofVan(3, 2)", vans.ofVan(3, 2), (1 << 20) - 1);
        for (int event = 0; event < 60; event++) {
            Due.due("event(3, " + event + ", 0)", vans.event(3, event, 0), event % 3);
            Due.due("event(3, " + event + ", 3)", vans.event(3, event, 3), event / 3);
        }
        Due.due("event(3, 60, 0)", vans.event(3, 60, 0), VisitVans.NO_SUCH);
        Due.due("event(3, 59, 1)", vans.event(3, 59, 1), 195);
        Due.due("event(3, 59, 2)", vans.event(3, 59, 2), 196);
    }

    private static void eventRefuses() {
        VisitVans vans = new VisitVans();
        Due.due("event(0, 0, 0) without vans", vans.event(0, 0, 0), VisitVans.NO_SUCH);
        vans.van(0, 1);
        Due.due("event(0, 0, 0) without events", vans.event(0, 0, 0), VisitVans.NO_SUCH);
        vans.visit(0, 0, 0, 0, 0, 0);
        for (int van : new int[] {-1, 1, 4, MIN, MAX}) {
            Due.due("event(" + van + ", 0, 0)", vans.event(van, 0, 0), VisitVans.NO_SUCH);
            Due.due("event(" + van + ", 0, 4)", vans.event(van, 0, 4), VisitVans.NO_SUCH);
        }
        for (int event : new int[] {-1, 1, 60, MIN, MAX}) {
            Due.due("event(0, " + event + ", 0)", vans.event(0, event, 0), VisitVans.NO_SUCH);
            Due.due("event(0, " + event + ", 4)", vans.event(0, event, 4), VisitVans.NO_SUCH);
        }
        for (int what : new int[] {-1, 4, MIN, MAX}) {
            Due.due("event(0, 0, " + what + ")", vans.event(0, 0, what), VisitVans.BAD_VALUE);
        }
    }
}
