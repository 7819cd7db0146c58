/** Promises 11 to 17: count, wanted, share, meanWay, would, withVan, slowest. */
public final class NumbersTest {
    private static final int MIN = Integer.MIN_VALUE;
    private static final int MAX = Integer.MAX_VALUE;

    public static void main(String[] args) {
        countTells();
        countOfFourVans();
        countForgetsVans();
        countRefuses();
        wantedSums();
        wantedRefuses();
        shareForAllNumbers();
        shareCountsMovedOnes();
        meanWayTells();
        meanWayForManyMeans();
        meanWayEdges();
        wouldTells();
        wouldRefuses();
        wouldBesideTwenty();
        withVanTells();
        withVanRefuses();
        slowestTells();
        slowestLooksAtAllPaces();
        whatIfChangesNothing();
        Due.finish();
    }

    private static void countTells() {
        VisitVans vans = new VisitVans();
        vans.set(VisitVans.PACE, 3);
        vans.set(VisitVans.LAST, 40);
        vans.set(VisitVans.SHIFT, 100);
        vans.van(10, 1);
        vans.van(50, 2);
        vans.visit(20, 0, 0, 0, 50, 60);
        vans.visit(50, 1, 0, 0, 10, 60);
        vans.visit(30, 0, 0, 0, 70, 80);
        vans.visit(30, 2, 0, 0, 70, 80);
        vans.visit(30, 3, 0, 0, 70, 80);
        vans.visit(30, 2, 0, 0, 70, 80);
        vans.visit(30, 1, 1, 1, 70, 80);
        vans.visit(30, 0, 1, 1, 70, 80);
        vans.visit(99, 1, 0, 0, 0, 5);
        vans.put('x');
        // Van 0: way 30, waits 20, visit 0 at 50 to 90, way 30, waits 50, visit 2, moved, at 170.
        // Van 1: waits 10, visit 1 at 10 to 50; visit 8 would begin at 197, its moved window ends at 105.
        int[] due = {9, 2, 2, 1, 6, 3, 2, 1, 60, 80, 210, 3, 40, 100, 1, 6};
        for (int what = 0; what < due.length; what++) {
            Due.due("count(" + what + ")", vans.count(what), due[what]);
        }
        VisitVans free = new VisitVans();
        free.van(0, 1);
        Due.due("count(10) without visits", free.count(10), 0);
        free.van(0, 2);
        free.visit(0, 0, 0, 0, 50, 60);
        Due.due("count(10) of the first van", free.count(10), 80);
    }

    private static void countOfFourVans() {
        VisitVans vans = new VisitVans();
        for (int van = 0; van < 4; van++) {
            vans.van(10, 1 << van);
            vans.visit(20, van, 0, 0, 50 + van, 999);
        }
        Due.due("count(8) of four vans", vans.count(8), 80);
        Due.due("count(9) of four vans", vans.count(9), 126);
        Due.due("count(10) of four vans", vans.count(10), 83);
    }

    private static void countForgetsVans() {
        VisitVans vans = new VisitVans();
        vans.visit(20, 0, 0, 0, 50, 999);
        vans.van(10, 1);
        Due.due("count(8)", vans.count(8), 20);
        vans.undo();
        Due.due("count(8) without the van", vans.count(8), 0);
        Due.due("count(9) without the van", vans.count(9), 0);
        Due.due("count(10) without the van", vans.count(10), 0);
    }

    private static void countRefuses() {
        VisitVans vans = new VisitVans();
        for (int what : new int[] {-1, 16, MIN, MAX}) {
            Due.due("count(" + what + ")", vans.count(what), VisitVans.BAD_VALUE);
        }
    }

    private static void wantedSums() {
        VisitVans vans = new VisitVans();
        vans.visit(0, 0, 2, 9, 0, 999);
        Due.due("wanted(2), reason 2", vans.wanted(2), 0);
        vans.van(0, 1);
        Due.due("wanted(2)", vans.wanted(2), 9);
        vans.visit(0, 0, 2, 8, 0, 999);
        vans.visit(0, 0, 3, 4, 0, 999);
        vans.visit(0, 1, 2, 1, 0, 999);
        int[] due = {0, 0, 17, 4, 0};
        for (int part = 0; part < 5; part++) {
            Due.due("wanted(" + part + ")", vans.wanted(part), due[part]);
        }
        vans.load(0, 2, 16);
        Due.due("wanted(2) with 16", vans.wanted(2), 8);
        vans.load(0, 2, 8);
        Due.due("wanted(2) with 8", vans.wanted(2), 9);
        vans.load(0, 2, 17);
        Due.due("wanted(2) with 17", vans.wanted(2), 0);
        vans.visit(99, 0, 2, 9, 0, 0);
        vans.load(0, 2, 99);
        Due.due("wanted(2), reason 4", vans.wanted(2), 0);
        Due.due("count(7)", vans.count(7), 1);
        VisitVans dropped = new VisitVans();
        dropped.van(0, 1);
        dropped.visit(0, 0, 0, 9, 0, 0);
        dropped.drop(0);
        Due.due("wanted(0) behind drop()", dropped.wanted(0), 0);
    }

    private static void wantedRefuses() {
        VisitVans vans = new VisitVans();
        Due.due("wanted(0) without visits", vans.wanted(0), 0);
        Due.due("wanted(4) without visits", vans.wanted(4), 0);
        for (int part : new int[] {-1, 5, MIN, MAX}) {
            Due.due("wanted(" + part + ")", vans.wanted(part), VisitVans.NO_SUCH);
        }
    }

    private static void shareForAllNumbers() {
        Due.due("share() without visits", new VisitVans().share(), VisitVans.NONE);
        for (int all = 1; all <= 20; all++) {
            for (int made = 0; made <= all; made++) {
                VisitVans vans = new VisitVans();
                vans.van(0, 1);
                for (int visit = 0; visit < all; visit++) {
                    vans.visit(0, visit < made ? 0 : 1, 0, 0, 0, 999);
                }
                int due = Float.floatToIntBits((float) made / (float) all);
                Due.due("share() of " + made + " of " + all, vans.share(), due);
            }
        }
    }

    private static void shareCountsMovedOnes() {
        VisitVans vans = new VisitVans();
        vans.van(0, 1);
        vans.visit(10, 0, 0, 0, 0, 0);
        vans.visit(10, 1, 0, 0, 0, 0);
        vans.visit(10, 1, 0, 0, 0, 0);
        Due.due("count(3)", vans.count(3), 1);
        Due.due("share() with a moved one", vans.share(), Float.floatToIntBits(1.0f / 3.0f));
    }

    private static void meanWayTells() {
        VisitVans vans = new VisitVans();
        vans.van(10, 1);
        vans.visit(20, 0, 0, 0, 0, 999);
        vans.visit(40, 0, 0, 0, 0, 999);
        vans.visit(90, 0, 0, 0, 0, 999);
        vans.visit(90, 1, 0, 0, 0, 999);
        Due.due("meanWay(0)", vans.meanWay(0), Double.doubleToLongBits(160.0 / 3.0));
        Due.due("meanWay(1)", vans.meanWay(1), Double.doubleToLongBits(160.0 / 3.0 % 1.0));
    }

    private static void meanWayForManyMeans() {
        for (int visits = 1; visits <= 20; visits++) {
            for (int far = 0; far <= 99; far += 7) {
                VisitVans vans = new VisitVans();
                vans.set(VisitVans.PACE, 1 + far % 9);
                vans.van(0, 1);
                for (int visit = 0; visit < visits; visit++) {
                    vans.visit(far, 0, 0, 0, 0, 999);
                }
                double mean = (double) vans.count(8) / (double) (vans.count(2) + vans.count(3));
                Due.due("meanWay(0)", vans.meanWay(0), Double.doubleToLongBits(mean));
                Due.due("meanWay(1)", vans.meanWay(1), Double.doubleToLongBits(mean % 1.0));
            }
        }
    }

    private static void meanWayEdges() {
        VisitVans vans = new VisitVans();
        for (int what : new int[] {-1, 2, MIN, MAX}) {
            Due.due("meanWay(" + what + ") without visits", vans.meanWay(what), -2L);
        }
        Due.due("meanWay(0) without visits", vans.meanWay(0), 0L);
        Due.due("meanWay(1) without visits", vans.meanWay(1), 0L);
        vans.visit(10, 0, 0, 0, 0, 999);
        Due.due("meanWay(0) if none is made", vans.meanWay(0), 0L);
        vans.van(10, 1);
        Due.due("meanWay(0) without a way", vans.meanWay(0), 0L);
        Due.due("meanWay(1) without a way", vans.meanWay(1), 0L);
        vans.drop(0);
        vans.visit(12, 0, 0, 0, 0, 999);
        Due.due("meanWay(0) of 4", vans.meanWay(0), Double.doubleToLongBits(4.0));
        Due.due("meanWay(1) of 4", vans.meanWay(1), 0L);
        for (int what : new int[] {-1, 2, MIN, MAX}) {
            Due.due("meanWay(" + what + ")", vans.meanWay(what), -2L);
        }
    }

    private static void wouldTells() {
        VisitVans vans = new VisitVans();
        Due.due("would() without vans", vans.would(0, 0, 0, 0, 0, 0), 2);
        vans.van(0, 1);
        vans.load(0, 1, 4);
        Due.due("would() be kept", vans.would(0, 0, 1, 4, 0, 0), 0);
        Due.due("would() be moved", vans.would(60, 0, 1, 4, 0, 119), 1);
        Due.due("would() lack the skill", vans.would(0, 3, 1, 4, 0, 0), 2);
        Due.due("would() lack the parts", vans.would(0, 0, 1, 5, 0, 0), 3);
        Due.due("would() be too late", vans.would(99, 0, 1, 4, 0, 77), 4);
        Due.due("would() not quite be too late", vans.would(99, 0, 1, 4, 0, 78), 1);
        vans.visit(0, 0, 1, 4, 0, 50);
        Due.due("would() come behind", vans.would(0, 0, 1, 1, 0, 50), 3);
        Due.due("would() come ahead", vans.would(0, 0, 1, 1, 0, 49), 0);
    }

    private static void wouldRefuses() {
        VisitVans vans = new VisitVans();
        Due.due("would() all wrong", vans.would(-1, 4, 5, 10, 5, 4), VisitVans.NO_SUCH);
        for (int wrong : new int[] {-1, 4, MIN, MAX}) {
            Due.due("would() skill " + wrong, vans.would(0, wrong, 0, 0, 0, 0), VisitVans.NO_SUCH);
        }
        for (int wrong : new int[] {-1, 5, MIN, MAX}) {
            Due.due("would() part " + wrong, vans.would(0, 0, wrong, 0, 0, 0), VisitVans.NO_SUCH);
        }
        for (int wrong : new int[] {-1, 1000, MIN, MAX}) {
            Due.due("would() place " + wrong, vans.would(wrong, 0, 0, 0, 0, 0), VisitVans.BAD_VALUE);
            Due.due("would() many " + wrong, vans.would(0, 0, 0, wrong, 0, 0), VisitVans.BAD_VALUE);
            Due.due("would() from " + wrong, vans.would(0, 0, 0, 0, wrong, 999), VisitVans.BAD_VALUE);
            Due.due("would() to " + wrong, vans.would(0, 0, 0, 0, 0, wrong), VisitVans.BAD_VALUE);
        }
        Due.due("would() place 100", vans.would(100, 0, 0, 0, 0, 0), VisitVans.BAD_VALUE);
        Due.due("would() many 10", vans.would(0, 0, 0, 10, 0, 0), VisitVans.BAD_VALUE);
        Due.due("would() from 5 to 4", vans.would(0, 0, 0, 0, 5, 4), VisitVans.BAD_VALUE);
    }

    private static void wouldBesideTwenty() {
        VisitVans vans = new VisitVans();
        vans.set(VisitVans.LAST, 1);
        vans.van(0, 1);
        for (int visit = 0; visit < 20; visit++) {
            vans.visit(visit % 2, 0, 0, 0, visit * 5, visit * 5 + 3);
        }
        Due.due("would() be the 21st", vans.would(0, 0, 0, 0, 500, 500), 0);
        Due.due("would() be the 21st, moved", vans.would(99, 0, 0, 0, 0, 180), 1);
        Due.due("would() be the 21st, wrong", vans.would(0, 0, 0, 0, 5, 4), VisitVans.BAD_VALUE);
        Due.due("count(0)", vans.count(0), 20);
        Due.due("ofVan(0, 2)", vans.ofVan(0, 2), (1 << 20) - 1);
    }

    private static void withVanTells() {
        VisitVans vans = new VisitVans();
        Due.due("withVan() without visits", vans.withVan(0, 15), 0);
        for (int visit = 0; visit < 13; visit++) {
            vans.visit(10, visit % 4, 2, 9, 0, 999);
        }
        Due.due("withVan() of no skill", vans.withVan(10, 0), 0);
        Due.due("withVan() of one skill", vans.withVan(10, 1), 4);
        Due.due("withVan() of two skills", vans.withVan(10, 6), 6);
        Due.due("withVan() of all skills", vans.withVan(10, 15), 11);
        vans.van(10, 1);
        vans.load(0, 2, 18);
        Due.due("withVan() beside a van", vans.withVan(10, 15), 13);
        // The van 0 is free first, and takes one that the other van would take otherwise.
        vans.drop(12);
        vans.van(99, 8);
        Due.due("withVan() counts moved ones", vans.withVan(10, 15), 12);
        for (int part = 0; part < 5; part++) {
            VisitVans one = new VisitVans();
            for (int visit = 0; visit < 12; visit++) {
                one.visit(10, 0, part, 9, 0, 999);
            }
            Due.due("withVan() has 99 of " + part, one.withVan(10, 1), 11);
        }
        VisitVans late = new VisitVans();
        late.visit(50, 0, 0, 0, 0, 50);
        Due.due("withVan() moved", late.withVan(0, 1), 1);
        late.set(VisitVans.SHIFT, 0);
        Due.due("withVan() too late", late.withVan(0, 1), 0);
    }

    private static void withVanRefuses() {
        VisitVans vans = new VisitVans();
        for (int home : new int[] {-1, 100, MIN, MAX}) {
            Due.due("withVan() home " + home, vans.withVan(home, 0), VisitVans.BAD_VALUE);
        }
        for (int skills : new int[] {-1, 16, MIN, MAX}) {
            Due.due("withVan() skills " + skills, vans.withVan(0, skills), VisitVans.BAD_VALUE);
        }
        for (int van = 0; van < 3; van++) {
            vans.van(0, 0);
        }
        vans.visit(0, 0, 0, 0, 0, 0);
        Due.due("withVan() a fourth one", vans.withVan(99, 15), 0);
        Due.due("withVan() a fourth one at home", vans.withVan(0, 15), 1);
        vans.van(0, 0);
        Due.due("withVan() a fifth one", vans.withVan(0, 15), VisitVans.TOO_MANY);
        Due.due("withVan() wrong, a fifth one", vans.withVan(0, 16), VisitVans.BAD_VALUE);
    }

    private static void slowestTells() {
        VisitVans vans = new VisitVans();
        Due.due("slowest() without visits", vans.slowest(), 9);
        vans.set(VisitVans.SHIFT, 0);
        vans.van(0, 1);
        vans.visit(50, 0, 0, 0, 0, 299);
        Due.due("slowest() by 299", vans.slowest(), 5);
        vans.visit(0, 1, 0, 0, 0, 0);
        Due.due("slowest() with one broken always", vans.slowest(), 5);
        vans.drop(1);
        vans.drop(0);
        vans.visit(50, 0, 0, 0, 0, 99);
        Due.due("slowest() by 99", vans.slowest(), 1);
        vans.drop(0);
        vans.visit(50, 0, 0, 0, 0, 450);
        Due.due("slowest() by 450", vans.slowest(), 9);
        vans.set(VisitVans.PACE, 7);
        Due.due("slowest() at another pace", vans.slowest(), 9);
        Due.due("count(11) after slowest()", vans.count(11), 7);
        vans.drop(0);
        vans.visit(50, 0, 0, 0, 0, 40);
        Due.due("slowest() with none to keep", vans.slowest(), 9);
    }

    /** At a pace between, more can be broken than at a slower one: looking has to begin with the slowest. */
    private static void slowestLooksAtAllPaces() {
        VisitVans vans = new VisitVans();
        vans.set(VisitVans.SHIFT, 0);
        vans.van(0, 1);
        vans.visit(50, 0, 0, 0, 0, 110);
        vans.visit(0, 0, 0, 0, 0, 135);
        vans.visit(0, 0, 0, 0, 0, 136);
        // With 1 the van comes back in time for one of two, with 2 for none; from 3 on it does not drive to 50.
        int[] broken = {0, 1, 2, 1, 1, 1, 1, 1, 1, 1};
        for (int pace = 1; pace <= 9; pace++) {
            vans.set(VisitVans.PACE, pace);
            Due.due("count(4) with the pace " + pace, vans.count(4), broken[pace]);
        }
        Due.due("slowest()", vans.slowest(), 9);
    }

    private static void whatIfChangesNothing() {
        VisitVans vans = new VisitVans();
        vans.van(0, 1);
        vans.visit(10, 0, 0, 0, 0, 999);
        vans.would(0, 0, 0, 0, 0, 0);
        vans.withVan(10, 15);
        vans.slowest();
        Due.due("count(0)", vans.count(0), 1);
        Due.due("count(1)", vans.count(1), 1);
        Due.due("count(11)", vans.count(11), 2);
        Due.due("count(15)", vans.count(15), 2);
        Due.due("ofVisit(0, 7)", vans.ofVisit(0, 7), 0);
        Due.due("ofVisit(0, 8)", vans.ofVisit(0, 8), 20);
        Due.due("ofVan(0, 7)", vans.ofVan(0, 7), 2);
    }
}
