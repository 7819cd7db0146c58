/** Promises 1 to 6: a new object, set, visit, drop, van, load. */
public final class ChangesTest {
    private static final int MIN = Integer.MIN_VALUE;
    private static final int MAX = Integer.MAX_VALUE;

    public static void main(String[] args) {
        aNewObjectIsEmpty();
        objectsShareNothing();
        setChangesASetting();
        setRefuses();
        visitComes();
        visitRefuses();
        visitRefusesInOrder();
        visitRefusesOneMore();
        dropMovesThoseBehindUp();
        dropRefuses();
        vanComes();
        vanRefuses();
        loadChangesTheStock();
        loadRefuses();
        errorsChangeNothing();
        Due.finish();
    }

    private static void aNewObjectIsEmpty() {
        VisitVans vans = new VisitVans();
        int[] first = {0, 0, 0, 0, 0, 0, 0, 0, 0, 0, 0, 2, 30, 120, 0, 0};
        for (int what = 0; what < first.length; what++) {
            Due.due("new: count(" + what + ")", vans.count(what), first[what]);
        }
        Due.due("new: undo()", vans.undo(), VisitVans.NOT_POSSIBLE);
        Due.due("new: restore(0)", vans.restore(0), VisitVans.NOT_POSSIBLE);
        Due.due("new: restore(1)", vans.restore(1), VisitVans.NOT_POSSIBLE);
        Due.due("new: ofVisit(0, 0)", vans.ofVisit(0, 0), VisitVans.NO_SUCH);
        Due.due("new: ofVan(0, 0)", vans.ofVan(0, 0), VisitVans.NO_SUCH);
        Due.due("new: wipe()", vans.wipe(), 0);
    }

    private static void objectsShareNothing() {
        VisitVans one = new VisitVans();
        VisitVans other = new VisitVans();
        one.set(VisitVans.PACE, 9);
        one.visit(1, 1, 1, 1, 1, 1);
        one.van(1, 1);
        one.save(0);
        one.put('x');
        Due.due("the other object: count(0)", other.count(0), 0);
        Due.due("the other object: count(1)", other.count(1), 0);
        Due.due("the other object: count(11)", other.count(11), 2);
        Due.due("the other object: count(14)", other.count(14), 0);
        Due.due("the other object: restore(0)", other.restore(0), VisitVans.NOT_POSSIBLE);
        Due.due("a third object: count(11)", new VisitVans().count(11), 2);
    }

    private static void setChangesASetting() {
        int[] least = {1, 1, 0};
        int[] most = {9, 120, 300};
        int[] first = {2, 30, 120};
        for (int setting = 0; setting < 3; setting++) {
            VisitVans vans = new VisitVans();
            Due.due("set() to the least", vans.set(setting, least[setting]), first[setting]);
            Due.due("set() to the most", vans.set(setting, most[setting]), least[setting]);
            Due.due("set() to the same", vans.set(setting, most[setting]), most[setting]);
            Due.due("set() records each", vans.count(15), 3);
            for (int other = 0; other < 3; other++) {
                int due = other == setting ? most[other] : first[other];
                Due.due("count(" + (11 + other) + ") after set()", vans.count(11 + other), due);
            }
        }
    }

    private static void setRefuses() {
        VisitVans vans = new VisitVans();
        int[][] wrong = {{-1, 1}, {3, 1}, {MIN, 1}, {MAX, 1}, {0, 0}, {0, 10}, {0, -1}, {0, MAX}, {0, MIN},
            {1, 0}, {1, 121}, {2, -1}, {2, 301}};
        for (int[] row : wrong) {
            String call = "set(" + row[0] + ", " + row[1] + ")";
            Due.due(call, vans.set(row[0], row[1]), VisitVans.BAD_VALUE);
        }
        Due.due("count(11)", vans.count(11), 2);
        Due.due("count(12)", vans.count(12), 30);
        Due.due("count(13)", vans.count(13), 120);
        Due.due("count(15)", vans.count(15), 0);
    }

    private static void visitComes() {
        VisitVans vans = new VisitVans();
        Due.due("visit() least", vans.visit(0, 0, 0, 0, 0, 0), 0);
        Due.due("visit() most", vans.visit(99, 3, 4, 9, 999, 999), 1);
        Due.due("visit() widest window", vans.visit(7, 1, 2, 3, 0, 999), 2);
        int[][] due = {{0, 0, 0, 0, 0, 0}, {99, 3, 4, 9, 999, 999}, {7, 1, 2, 3, 0, 999}};
        for (int visit = 0; visit < 3; visit++) {
            for (int what = 0; what < 6; what++) {
                Due.due("ofVisit(" + visit + ", " + what + ")", vans.ofVisit(visit, what), due[visit][what]);
            }
        }
        Due.due("count(0)", vans.count(0), 3);
        Due.due("count(15)", vans.count(15), 3);
    }

    private static void visitRefuses() {
        VisitVans vans = new VisitVans();
        for (int skill : new int[] {-1, 4, MIN, MAX}) {
            Due.due("visit() skill " + skill, vans.visit(0, skill, 0, 0, 0, 0), VisitVans.NO_SUCH);
        }
        for (int part : new int[] {-1, 5, MIN, MAX}) {
            Due.due("visit() part " + part, vans.visit(0, 0, part, 0, 0, 0), VisitVans.NO_SUCH);
        }
        for (int place : new int[] {-1, 100, MIN, MAX}) {
            Due.due("visit() place " + place, vans.visit(place, 0, 0, 0, 0, 0), VisitVans.BAD_VALUE);
        }
        for (int many : new int[] {-1, 10, MIN, MAX}) {
            Due.due("visit() many " + many, vans.visit(0, 0, 0, many, 0, 0), VisitVans.BAD_VALUE);
        }
        for (int from : new int[] {-1, 1000, MIN, MAX}) {
            Due.due("visit() from " + from, vans.visit(0, 0, 0, 0, from, 999), VisitVans.BAD_VALUE);
            Due.due("visit() from and to " + from, vans.visit(0, 0, 0, 0, from, from), VisitVans.BAD_VALUE);
        }
        for (int to : new int[] {4, -1, 1000, MIN, MAX}) {
            Due.due("visit() from 5 to " + to, vans.visit(0, 0, 0, 0, 5, to), VisitVans.BAD_VALUE);
        }
        Due.due("count(0)", vans.count(0), 0);
        Due.due("count(15)", vans.count(15), 0);
    }

    private static void visitRefusesInOrder() {
        VisitVans vans = full();
        Due.due("visit() all wrong", vans.visit(-1, 4, 5, 10, 5, 4), VisitVans.NO_SUCH);
        Due.due("visit() skill right", vans.visit(-1, 3, 5, 10, 5, 4), VisitVans.NO_SUCH);
        Due.due("visit() part right", vans.visit(-1, 4, 4, 10, 5, 4), VisitVans.NO_SUCH);
        Due.due("visit() both right", vans.visit(0, 3, 4, 9, 5, 4), VisitVans.BAD_VALUE);
        Due.due("visit() one too many", vans.visit(0, 3, 4, 9, 4, 4), VisitVans.TOO_MANY);
    }

    private static void visitRefusesOneMore() {
        VisitVans vans = new VisitVans();
        for (int visit = 0; visit < 20; visit++) {
            Due.due("visit() " + visit, vans.visit(visit, 0, 0, 0, 0, 0), visit);
        }
        Due.due("visit() 20", vans.visit(50, 0, 0, 0, 0, 0), VisitVans.TOO_MANY);
        Due.due("count(0)", vans.count(0), 20);
        Due.due("ofVisit(19, 0)", vans.ofVisit(19, 0), 19);
        Due.due("ofVisit(20, 0)", vans.ofVisit(20, 0), VisitVans.NO_SUCH);
        Due.due("drop(0)", vans.drop(0), 19);
        Due.due("visit() again", vans.visit(50, 0, 0, 0, 0, 0), 19);
    }

    private static void dropMovesThoseBehindUp() {
        VisitVans vans = full();
        Due.due("drop(19)", vans.drop(19), 19);
        Due.due("drop(5)", vans.drop(5), 18);
        Due.due("drop(0)", vans.drop(0), 17);
        for (int visit = 0; visit < 17; visit++) {
            int was = visit < 4 ? visit + 1 : visit + 2;
            int[] due = {was * 4, was % 4, was % 5, was % 10, was * 10, was * 11};
            for (int what = 0; what < 6; what++) {
                Due.due("ofVisit(" + visit + ", " + what + ")", vans.ofVisit(visit, what), due[what]);
            }
        }
        Due.due("ofVisit(17, 0)", vans.ofVisit(17, 0), VisitVans.NO_SUCH);
        VisitVans one = new VisitVans();
        one.visit(0, 0, 0, 0, 0, 0);
        Due.due("drop(0) of one", one.drop(0), 0);
        Due.due("count(15)", one.count(15), 2);
    }

    private static void dropRefuses() {
        VisitVans vans = new VisitVans();
        Due.due("drop(0) of none", vans.drop(0), VisitVans.NO_SUCH);
        vans.visit(0, 0, 0, 0, 0, 0);
        for (int visit : new int[] {-1, 1, 20, MIN, MAX}) {
            Due.due("drop(" + visit + ")", vans.drop(visit), VisitVans.NO_SUCH);
        }
        Due.due("count(0)", vans.count(0), 1);
        Due.due("count(15)", vans.count(15), 1);
    }

    private static void vanComes() {
        VisitVans vans = new VisitVans();
        int[][] told = {{0, 0}, {99, 15}, {50, 5}, {50, 5}};
        for (int van = 0; van < 4; van++) {
            Due.due("van() " + van, vans.van(told[van][0], told[van][1]), van);
        }
        for (int van = 0; van < 4; van++) {
            Due.due("ofVan(" + van + ", 0)", vans.ofVan(van, 0), told[van][0]);
            Due.due("ofVan(" + van + ", 1)", vans.ofVan(van, 1), told[van][1]);
            for (int part = 0; part < 5; part++) {
                Due.due("stock(" + van + ", " + part + ", 0)", vans.stock(van, part, 0), 0);
            }
        }
        Due.due("count(1)", vans.count(1), 4);
        Due.due("count(15)", vans.count(15), 4);
        // A van that comes where one with stock has been has none.
        for (int part = 0; part < 5; part++) {
            vans.load(3, part, 9);
            vans.undo();
            vans.undo();
            vans.van(1, 1);
            Due.due("stock(3, " + part + ", 0)", vans.stock(3, part, 0), 0);
        }
    }

    private static void vanRefuses() {
        VisitVans vans = new VisitVans();
        for (int home : new int[] {-1, 100, MIN, MAX}) {
            Due.due("van() home " + home, vans.van(home, 0), VisitVans.BAD_VALUE);
        }
        for (int skills : new int[] {-1, 16, MIN, MAX}) {
            Due.due("van() skills " + skills, vans.van(0, skills), VisitVans.BAD_VALUE);
        }
        Due.due("count(1)", vans.count(1), 0);
        Due.due("count(15)", vans.count(15), 0);
        for (int van = 0; van < 4; van++) {
            vans.van(van, van);
        }
        Due.due("van() one too many", vans.van(0, 0), VisitVans.TOO_MANY);
        Due.due("van() wrong and one too many", vans.van(100, 0), VisitVans.BAD_VALUE);
        Due.due("count(1)", vans.count(1), 4);
        Due.due("count(15)", vans.count(15), 4);
    }

    private static void loadChangesTheStock() {
        VisitVans vans = new VisitVans();
        vans.van(0, 1);
        vans.van(0, 1);
        Due.due("load(1, 4, 99)", vans.load(1, 4, 99), 0);
        Due.due("load(1, 4, 7)", vans.load(1, 4, 7), 99);
        Due.due("load(1, 4, 7)", vans.load(1, 4, 7), 7);
        Due.due("load(0, 0, 3)", vans.load(0, 0, 3), 0);
        for (int part = 0; part < 5; part++) {
            Due.due("stock(0, " + part + ", 0)", vans.stock(0, part, 0), part == 0 ? 3 : 0);
            Due.due("stock(1, " + part + ", 0)", vans.stock(1, part, 0), part == 4 ? 7 : 0);
        }
        Due.due("load(1, 4, 0)", vans.load(1, 4, 0), 7);
        Due.due("stock(1, 4, 0)", vans.stock(1, 4, 0), 0);
        Due.due("count(15)", vans.count(15), 6);
    }

    private static void loadRefuses() {
        VisitVans vans = new VisitVans();
        Due.due("load(0, 0, 0) without vans", vans.load(0, 0, 0), VisitVans.NO_SUCH);
        vans.van(0, 1);
        for (int van : new int[] {-1, 1, 4, MIN, MAX}) {
            Due.due("load() van " + van, vans.load(van, 0, 0), VisitVans.NO_SUCH);
            Due.due("load() many wrong too", vans.load(van, 0, 100), VisitVans.NO_SUCH);
        }
        for (int part : new int[] {-1, 5, MIN, MAX}) {
            Due.due("load() part " + part, vans.load(0, part, 0), VisitVans.NO_SUCH);
            Due.due("load() many wrong too", vans.load(0, part, -1), VisitVans.NO_SUCH);
        }
        for (int many : new int[] {-1, 100, MIN, MAX}) {
            Due.due("load() many " + many, vans.load(0, 0, many), VisitVans.BAD_VALUE);
        }
        Due.due("stock(0, 0, 0)", vans.stock(0, 0, 0), 0);
        Due.due("count(15)", vans.count(15), 1);
    }

    private static void errorsChangeNothing() {
        VisitVans vans = new VisitVans();
        vans.set(VisitVans.PACE, 3);
        vans.van(5, 1);
        vans.visit(-1, 0, 0, 0, 0, 0);
        vans.drop(0);
        vans.load(0, 5, 1);
        vans.set(0, 0);
        Due.due("count(15)", vans.count(15), 2);
        Due.due("undo()", vans.undo(), 1);
        Due.due("count(1)", vans.count(1), 0);
        Due.due("count(11)", vans.count(11), 3);
        Due.due("undo()", vans.undo(), 0);
        Due.due("count(11)", vans.count(11), 2);
    }

    private static VisitVans full() {
        VisitVans vans = new VisitVans();
        for (int visit = 0; visit < 20; visit++) {
            vans.visit(visit * 4, visit % 4, visit % 5, visit % 10, visit * 10, visit * 11);
        }
        return vans;
    }
}
