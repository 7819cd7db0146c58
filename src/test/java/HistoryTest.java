/** Promises 22 to 24: undo, save, restore. */
public final class HistoryTest {
    private static final int MIN = Integer.MIN_VALUE;
    private static final int MAX = Integer.MAX_VALUE;

    public static void main(String[] args) {
        undoTakesEachChangeBack();
        undoKeepsSix();
        undoGoesOnBehindUndo();
        anErrorCostsNoState();
        undoLeavesPadAndSlots();
        undoMakesThePlanAnew();
        whatIsNoChangeIsNotRecorded();
        whatIsTheSameIsRecorded();
        saveTells();
        saveRefuses();
        saveOverwrites();
        restoreBringsAllBack();
        restoreIsAChange();
        restoreRefuses();
        slotsAreTwo();
        aSlotKeepsWhatWasSaved();
        Due.finish();
    }

    private static void undoTakesEachChangeBack() {
        VisitVans vans = new VisitVans();
        vans.set(VisitVans.PACE, 5);
        vans.van(10, 1);
        vans.load(0, 1, 7);
        vans.visit(20, 0, 1, 2, 3, 4);
        vans.drop(0);
        Due.due("undo() of drop()", vans.undo(), 4);
        Due.due("ofVisit(0, 0)", vans.ofVisit(0, 0), 20);
        Due.due("undo() of visit()", vans.undo(), 3);
        Due.due("count(0)", vans.count(0), 0);
        Due.due("stock(0, 1, 0)", vans.stock(0, 1, 0), 7);
        Due.due("undo() of load()", vans.undo(), 2);
        Due.due("stock(0, 1, 0)", vans.stock(0, 1, 0), 0);
        Due.due("undo() of van()", vans.undo(), 1);
        Due.due("count(1)", vans.count(1), 0);
        Due.due("count(11)", vans.count(11), 5);
        Due.due("undo() of set()", vans.undo(), 0);
        Due.due("count(11)", vans.count(11), 2);
        Due.due("undo() of nothing", vans.undo(), VisitVans.NOT_POSSIBLE);
        Due.due("count(11)", vans.count(11), 2);
        Due.due("count(15)", vans.count(15), 0);
    }

    private static void undoKeepsSix() {
        VisitVans vans = new VisitVans();
        for (int last = 1; last <= 20; last++) {
            vans.set(VisitVans.LAST, last);
            Due.due("count(15)", vans.count(15), Math.min(last, 6));
        }
        for (int undone = 1; undone <= 6; undone++) {
            Due.due("undo()", vans.undo(), 6 - undone);
            Due.due("count(12)", vans.count(12), 20 - undone);
        }
        Due.due("undo() of nothing", vans.undo(), VisitVans.NOT_POSSIBLE);
        Due.due("count(12)", vans.count(12), 14);
    }

    private static void undoGoesOnBehindUndo() {
        VisitVans vans = new VisitVans();
        for (int last = 1; last <= 9; last++) {
            vans.set(VisitVans.LAST, last);
        }
        vans.undo();
        vans.undo();
        vans.undo();
        Due.due("set() behind undo()", vans.set(VisitVans.LAST, 50), 6);
        Due.due("count(15)", vans.count(15), 4);
        int[] due = {6, 5, 4, 3};
        for (int undone = 0; undone < 4; undone++) {
            Due.due("undo()", vans.undo(), 3 - undone);
            Due.due("count(12)", vans.count(12), due[undone]);
        }
        Due.due("undo() of nothing", vans.undo(), VisitVans.NOT_POSSIBLE);
        for (int last = 60; last <= 70; last++) {
            vans.set(VisitVans.LAST, last);
        }
        Due.due("undo()", vans.undo(), 5);
        Due.due("count(12)", vans.count(12), 69);
    }

    private static void anErrorCostsNoState() {
        VisitVans vans = new VisitVans();
        for (int last = 1; last <= 6; last++) {
            vans.set(VisitVans.LAST, last);
        }
        vans.set(VisitVans.LAST, 0);
        vans.drop(0);
        vans.van(100, 0);
        Due.due("count(15)", vans.count(15), 6);
        for (int undone = 1; undone <= 6; undone++) {
            Due.due("undo()", vans.undo(), 6 - undone);
            Due.due("count(12)", vans.count(12), undone == 6 ? 30 : 6 - undone);
        }
    }

    private static void undoLeavesPadAndSlots() {
        VisitVans vans = new VisitVans();
        vans.van(1, 1);
        vans.save(0);
        vans.put('x');
        vans.save(1);
        Due.due("undo()", vans.undo(), 0);
        Due.due("count(14)", vans.count(14), 1);
        Due.due("count(1)", vans.count(1), 0);
        Due.due("restore(0)", vans.restore(0), 0);
        Due.due("count(1)", vans.count(1), 1);
        Due.due("undo()", vans.undo(), 0);
        Due.due("restore(1)", vans.restore(1), 0);
        Due.due("count(1)", vans.count(1), 1);
    }

    private static void undoMakesThePlanAnew() {
        VisitVans vans = new VisitVans();
        vans.van(10, 1);
        vans.visit(20, 0, 0, 0, 0, 50);
        vans.set(VisitVans.PACE, 9);
        Due.due("ofVisit(0, 6)", vans.ofVisit(0, 6), 1);
        vans.undo();
        Due.due("ofVisit(0, 6)", vans.ofVisit(0, 6), 0);
        Due.due("ofVisit(0, 8)", vans.ofVisit(0, 8), 20);
        Due.due("count(8)", vans.count(8), 20);
        vans.undo();
        Due.due("ofVan(0, 7)", vans.ofVan(0, 7), 0);
        Due.due("ofVan(0, 2)", vans.ofVan(0, 2), 0);
    }

    private static void whatIsNoChangeIsNotRecorded() {
        VisitVans vans = new VisitVans();
        vans.put('x');
        vans.wipe();
        vans.save(0);
        vans.fault();
        vans.carryOut();
        vans.would(0, 0, 0, 0, 0, 0);
        vans.withVan(0, 0);
        vans.slowest();
        vans.restore(1);
        Due.due("count(15)", vans.count(15), 0);
        vans.set(VisitVans.PACE, 3);
        vans.undo();
        Due.due("count(15)", vans.count(15), 0);
    }

    private static void whatIsTheSameIsRecorded() {
        VisitVans vans = new VisitVans();
        vans.van(0, 0);
        vans.save(1);
        vans.set(VisitVans.PACE, 2);
        vans.load(0, 0, 0);
        vans.restore(1);
        Due.putText(vans, "x5");
        vans.carryOut();
        Due.due("count(15)", vans.count(15), 5);
        Due.due("undo()", vans.undo(), 4);
        Due.due("undo()", vans.undo(), 3);
        Due.due("undo()", vans.undo(), 2);
        Due.due("undo()", vans.undo(), 1);
        Due.due("count(1)", vans.count(1), 1);
        Due.due("undo()", vans.undo(), 0);
        Due.due("count(1)", vans.count(1), 0);
    }

    private static void saveTells() {
        VisitVans vans = new VisitVans();
        Due.due("save(0) of nothing", vans.save(0), 0);
        vans.visit(0, 0, 0, 0, 0, 0);
        vans.visit(0, 0, 0, 0, 0, 0);
        vans.van(0, 0);
        Due.due("save(1) of two", vans.save(1), 2);
        Due.due("save(0) of two", vans.save(0), 2);
        Due.due("count(15)", vans.count(15), 3);
    }

    private static void saveRefuses() {
        VisitVans vans = new VisitVans();
        for (int slot : new int[] {-1, 2, MIN, MAX}) {
            Due.due("save(" + slot + ")", vans.save(slot), VisitVans.BAD_VALUE);
        }
        Due.due("restore(0)", vans.restore(0), VisitVans.NOT_POSSIBLE);
        Due.due("restore(1)", vans.restore(1), VisitVans.NOT_POSSIBLE);
    }

    private static void saveOverwrites() {
        VisitVans vans = new VisitVans();
        vans.set(VisitVans.PACE, 3);
        vans.save(0);
        vans.set(VisitVans.PACE, 4);
        vans.save(0);
        vans.set(VisitVans.PACE, 5);
        Due.due("restore(0)", vans.restore(0), 0);
        Due.due("count(11)", vans.count(11), 4);
    }

    private static void restoreBringsAllBack() {
        VisitVans vans = new VisitVans();
        vans.set(VisitVans.PACE, 3);
        vans.set(VisitVans.LAST, 31);
        vans.set(VisitVans.SHIFT, 32);
        vans.van(10, 1);
        vans.load(0, 4, 44);
        vans.visit(20, 0, 4, 9, 5, 50);
        vans.save(1);
        vans.put('x');
        vans.set(VisitVans.PACE, 9);
        vans.set(VisitVans.LAST, 9);
        vans.set(VisitVans.SHIFT, 9);
        vans.van(11, 11);
        vans.load(0, 4, 11);
        vans.visit(11, 1, 1, 1, 11, 11);
        vans.drop(0);
        Due.due("restore(1)", vans.restore(1), 1);
        int[] counts = {1, 1, 1, 0, 0, 0, 0, 0, 30, 0, 61, 3, 31, 32, 1, 6};
        for (int what = 0; what < counts.length; what++) {
            Due.due("count(" + what + ")", vans.count(what), counts[what]);
        }
        int[] visit = {20, 0, 4, 9, 5, 50, 0, 0, 30, 61};
        for (int what = 0; what < visit.length; what++) {
            Due.due("ofVisit(0, " + what + ")", vans.ofVisit(0, what), visit[what]);
        }
        Due.due("stock(0, 4, 0)", vans.stock(0, 4, 0), 44);
        Due.due("stock(0, 4, 2)", vans.stock(0, 4, 2), 35);
        Due.due("ofVan(0, 0)", vans.ofVan(0, 0), 10);
    }

    private static void restoreIsAChange() {
        VisitVans vans = new VisitVans();
        vans.save(0);
        vans.visit(1, 0, 0, 0, 0, 0);
        vans.visit(2, 0, 0, 0, 0, 0);
        Due.due("restore(0)", vans.restore(0), 0);
        Due.due("count(15)", vans.count(15), 3);
        Due.due("undo()", vans.undo(), 2);
        Due.due("count(0)", vans.count(0), 2);
        Due.due("ofVisit(1, 0)", vans.ofVisit(1, 0), 2);
    }

    private static void restoreRefuses() {
        VisitVans vans = new VisitVans();
        vans.van(1, 1);
        for (int slot : new int[] {-1, 2, MIN, MAX}) {
            Due.due("restore(" + slot + ")", vans.restore(slot), VisitVans.BAD_VALUE);
        }
        Due.due("restore(0)", vans.restore(0), VisitVans.NOT_POSSIBLE);
        Due.due("restore(1)", vans.restore(1), VisitVans.NOT_POSSIBLE);
        vans.save(1);
        Due.due("restore(0) with 1 saved", vans.restore(0), VisitVans.NOT_POSSIBLE);
        Due.due("count(1)", vans.count(1), 1);
        Due.due("count(15)", vans.count(15), 1);
    }

    private static void slotsAreTwo() {
        VisitVans vans = new VisitVans();
        vans.set(VisitVans.SHIFT, 10);
        vans.save(0);
        vans.set(VisitVans.SHIFT, 11);
        vans.save(1);
        vans.restore(0);
        Due.due("count(13) of slot 0", vans.count(13), 10);
        vans.restore(1);
        Due.due("count(13) of slot 1", vans.count(13), 11);
    }

    private static void aSlotKeepsWhatWasSaved() {
        VisitVans vans = new VisitVans();
        vans.van(5, 5);
        vans.save(0);
        for (int time = 0; time < 3; time++) {
            vans.restore(0);
            vans.load(0, 2, 20 + time);
            vans.visit(7, 0, 0, 0, 0, 7);
            vans.set(VisitVans.PACE, 8);
        }
        Due.due("restore(0)", vans.restore(0), 0);
        Due.due("stock(0, 2, 0)", vans.stock(0, 2, 0), 0);
        Due.due("count(0)", vans.count(0), 0);
        Due.due("count(11)", vans.count(11), 2);
    }
}
