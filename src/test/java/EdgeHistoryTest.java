import java.util.ArrayList;
import java.util.List;

/** Boundary cases of the promises 22 to 24: undo, save, restore. */
public final class EdgeHistoryTest {
    private static final int NO_SUCH = -1, BAD_VALUE = -2, NOT_POSSIBLE = -5, NONE = -6;
    private static final int PACE = 0, LAST = 1, SHIFT = 2;

    public static void main(String[] args) {
        undoOfNone();
        undoReturnsHowMany();
        atMost6States();
        theOldestIsDropped();
        theHistoryGoesRound();
        undoOfTheLatestChange();
        everythingIsAsItWas();
        exceptThePadAndTheSlots();
        eachMethodThatIsAChange();
        noOtherMethodIsAChange();
        aRefusedChangeRecordsNothing();
        aRefusedChangeOnAFullHistory();
        alsoIfNothingIsDifferent();
        anOrderRecordsNothingByItself();
        undoIsNoChange();
        saveReturnsHowMany();
        saveSlots0And1();
        saveNoSuchSlot();
        saveOverwrites();
        saveOfEverything();
        saveWithoutPadHistoryAndSlots();
        saveIsNoChange();
        restoreReturnsHowMany();
        restoreSlots0And1();
        restoreNoSuchSlot();
        restoreOfNothingSaved();
        aSlotKeepsWhatWasSaved();
        restoreIsAChange();
        restoreOfEmptyAndFull();
        Due.finish();
    }

    /** Promise 22: "NOT_POSSIBLE if there is none" - at first, and behind the last that can be undone. */
    private static void undoOfNone() {
        Edges.changesNothing("undo() of a new one", Edges::empty, VisitVans::undo, NOT_POSSIBLE);
        VisitVans vans = new VisitVans();
        Due.due("undo() of a new one", vans.undo(), NOT_POSSIBLE);
        vans.set(LAST, 1);
        Due.due("undo() of one", vans.undo(), 0);
        Due.due("undo() of none", vans.undo(), NOT_POSSIBLE);
        Due.due("undo() of none again", vans.undo(), NOT_POSSIBLE);
        Due.due("count(12)", vans.count(12), 30);
        Due.due("count(15)", vans.count(15), 0);
        vans.set(LAST, 2);
        Due.due("count(15) behind one more", vans.count(15), 1);
        Due.due("undo() of one more", vans.undo(), 0);
        Due.due("count(12)", vans.count(12), 30);
    }

    /** Promise 22: "Returns how many changes can be undone then" - from 6 down to 0. */
    private static void undoReturnsHowMany() {
        for (int changes = 0; changes <= 13; changes++) {
            VisitVans vans = new VisitVans();
            for (int last = 1; last <= changes; last++) {
                vans.set(LAST, last);
            }
            int can = Math.min(6, changes);
            Due.due("count(15) behind " + changes, vans.count(15), can);
            for (int undone = 1; undone <= can; undone++) {
                Due.due(changes + ": undo() " + undone, vans.undo(), can - undone);
                Due.due(changes + ": count(15)", vans.count(15), can - undone);
                int last = changes - undone;
                Due.due(changes + ": count(12)", vans.count(12), last == 0 ? 30 : last);
            }
            Due.due(changes + ": undo() of none", vans.undo(), NOT_POSSIBLE);
            Due.due(changes + ": count(12)", vans.count(12), changes <= 6 ? 30 : changes - 6);
        }
    }

    /** Promise 22: "A history of at most 6 states is kept" - behind 5, 6 and 7 changes. */
    private static void atMost6States() {
        for (int changes = 5; changes <= 7; changes++) {
            VisitVans vans = Edges.visits(changes);
            Due.due(changes + ": count(15)", vans.count(15), Math.min(changes, 6));
            for (int left = Math.min(changes, 6) - 1; left >= 0; left--) {
                Due.due(changes + ": undo()", vans.undo(), left);
            }
            Due.due(changes + ": undo() of none", vans.undo(), NOT_POSSIBLE);
            Due.due(changes + ": count(0)", vans.count(0), changes == 7 ? 1 : 0);
        }
    }

    /** Promise 22: "when one more is recorded, the oldest one is dropped". */
    private static void theOldestIsDropped() {
        for (int more = 0; more <= 14; more++) {
            VisitVans vans = new VisitVans();
            for (int change = 1; change <= 6 + more; change++) {
                vans.set(SHIFT, change);
            }
            for (int undone = 0; undone < 7; undone++) {
                vans.undo();
            }
            Due.due("the oldest behind 6 and " + more, vans.count(13), more == 0 ? 120 : more);
        }
    }

    /**
     * Promise 22: "A history of at most 6 states is kept" - by every walk to and fro, as a list of all states tells it.
     */
    private static void theHistoryGoesRound() {
        for (int walk = 1; walk <= 40; walk++) {
            VisitVans vans = new VisitVans();
            List<Integer> states = new ArrayList<>();
            int now = 30;
            for (int step = 0; step < 120; step++) {
                if ((step * walk * 7 + step / 3 + walk) % 5 < 3) {
                    int next = 1 + (step * 13 + walk) % 120;
                    Due.due("set() at " + step, vans.set(LAST, next), now);
                    states.add(now);
                    if (states.size() > 6) {
                        states.remove(0);
                    }
                    now = next;
                } else if (states.isEmpty()) {
                    Due.due("undo() of none at " + step, vans.undo(), NOT_POSSIBLE);
                } else {
                    now = states.remove(states.size() - 1);
                    Due.due("undo() at " + step, vans.undo(), states.size());
                }
                Due.due("count(12) at " + step, vans.count(12), now);
                Due.due("count(15) at " + step, vans.count(15), states.size());
            }
        }
    }

    /** Promise 22: "Undoes the latest change" - not an older one, and behind undo() the one ahead of it. */
    private static void undoOfTheLatestChange() {
        VisitVans vans = new VisitVans();
        vans.set(PACE, 3);
        vans.set(LAST, 4);
        vans.set(SHIFT, 5);
        Due.due("undo()", vans.undo(), 2);
        Due.due("count(13)", vans.count(13), 120);
        Due.due("count(12)", vans.count(12), 4);
        Due.due("undo()", vans.undo(), 1);
        Due.due("count(12)", vans.count(12), 30);
        Due.due("count(11)", vans.count(11), 3);
        vans.set(SHIFT, 6);
        Due.due("undo() of a newer one", vans.undo(), 1);
        Due.due("count(13)", vans.count(13), 120);
        Due.due("count(11)", vans.count(11), 3);
        Due.due("undo() of the first", vans.undo(), 0);
        Due.due("count(11)", vans.count(11), 2);
    }

    /**
     * Promise 22: "everything except the pad, the slots and the history is as it was before it" - of an empty one, one
     * with some, and a full one.
     */
    private static void everythingIsAsItWas() {
        Edges.Call[] changes = {vans -> vans.set(PACE, 9), vans -> vans.set(LAST, 1), vans -> vans.set(SHIFT, 0),
            vans -> vans.drop(0), vans -> vans.drop(5), vans -> vans.load(0, 1, 99), vans -> vans.load(1, 4, 0),
            vans -> vans.van(0, 15), vans -> vans.visit(99, 3, 4, 9, 0, 0), vans -> vans.restore(0)};
        for (int i = 0; i < changes.length; i++) {
            Edges.Call change = changes[i];
            asItWas("some, change " + i, Edges.some(), Edges.some(), change);
            asItWas("full, change " + i, Edges.full(), Edges.full(), change);
        }
        VisitVans some = Edges.some();
        VisitVans full = Edges.full();
        some.wipe();
        full.wipe();
        asItWas("some, carryOut", Edges.some(), some, VisitVans::carryOut);
        asItWas("full, carryOut", Edges.full(), full, VisitVans::carryOut);
        asItWas("empty, van", new VisitVans(), new VisitVans(), vans -> vans.van(99, 15));
        asItWas("empty, visit", new VisitVans(), new VisitVans(), vans -> vans.visit(99, 3, 4, 9, 0, 999));
    }

    /** All visits, vans and counts but those of the history are the same behind a change and undo(). */
    private static void asItWas(String of, VisitVans changed, VisitVans untouched, Edges.Call change) {
        if (change.of(changed) < 0) {
            return;
        }
        changed.undo();
        for (int what = 0; what <= 14; what++) {
            Due.due(of + ": count(" + what + ")", changed.count(what), untouched.count(what));
        }
        for (int visit = 0; visit < 20; visit++) {
            for (int what = 0; what < 10; what++) {
                String call = of + ": ofVisit(" + visit + ", " + what + ")";
                Due.due(call, changed.ofVisit(visit, what), untouched.ofVisit(visit, what));
            }
        }
        for (int van = 0; van < 4; van++) {
            for (int what = 0; what < 8; what++) {
                String call = of + ": ofVan(" + van + ", " + what + ")";
                Due.due(call, changed.ofVan(van, what), untouched.ofVan(van, what));
            }
            for (int part = 0; part < 5; part++) {
                for (int what = 0; what < 3; what++) {
                    String call = of + ": stock(" + van + ", " + part + ", " + what + ")";
                    Due.due(call, changed.stock(van, part, what), untouched.stock(van, part, what));
                }
            }
        }
    }

    /**
     * Promise 22: "everything except the pad, the slots and the history" - a full pad stays full, an empty one empty.
     */
    private static void exceptThePadAndTheSlots() {
        VisitVans vans = new VisitVans();
        vans.van(7, 7);
        Due.putText(vans, Edges.longText());
        vans.save(0);
        vans.van(8, 8);
        vans.save(1);
        Due.due("undo()", vans.undo(), 1);
        Due.due("undo()", vans.undo(), 0);
        Due.due("count(1)", vans.count(1), 0);
        Due.due("count(14)", vans.count(14), 80);
        Due.due("fault()", vans.fault(), NONE);
        vans.restore(1);
        Due.due("count(1) of the slot 1", vans.count(1), 2);
        vans.restore(0);
        Due.due("count(1) of the slot 0", vans.count(1), 1);
        vans.carryOut();
        Due.due("count(14) behind carryOut()", vans.count(14), 0);
        vans.undo();
        Due.due("count(14) behind undo() of it", vans.count(14), 0);
        Due.due("fault() behind undo() of it", vans.fault(), 0);
    }

    /** Promise 22: "each method that is a change, and returns no error, records the state before it". */
    private static void eachMethodThatIsAChange() {
        VisitVans vans = new VisitVans();
        vans.save(1);
        Due.due("van()", vans.van(5, 1), 0);
        Due.due("count(15) behind van()", vans.count(15), 1);
        Due.due("visit()", vans.visit(5, 0, 0, 0, 0, 9), 0);
        Due.due("count(15) behind visit()", vans.count(15), 2);
        Due.due("load()", vans.load(0, 0, 9), 0);
        Due.due("count(15) behind load()", vans.count(15), 3);
        Due.due("set()", vans.set(PACE, 9), 2);
        Due.due("count(15) behind set()", vans.count(15), 4);
        Due.due("drop()", vans.drop(0), 0);
        Due.due("count(15) behind drop()", vans.count(15), 5);
        Due.due("restore()", vans.restore(1), 0);
        Due.due("count(15) behind restore()", vans.count(15), 6);
        Due.putText(vans, "w9/3");
        Due.due("carryOut()", vans.carryOut(), 1);
        Due.due("count(15) behind carryOut()", vans.count(15), 6);
        int[][] due = {{5, 0, 0, 2}, {4, 1, 0, 9}, {3, 1, 1, 9}, {2, 1, 1, 2}, {1, 1, 1, 2}, {0, 1, 0, 2}};
        for (int[] row : due) {
            Due.due("undo()", vans.undo(), row[0]);
            Due.due("count(1) at " + row[0], vans.count(1), row[1]);
            Due.due("count(0) at " + row[0], vans.count(0), row[2]);
            Due.due("count(11) at " + row[0], vans.count(11), row[3]);
        }
        Due.due("the oldest one, ahead of van(), is dropped", vans.undo(), NOT_POSSIBLE);
    }

    /** Promise 22: "each method that is a change" - no other method records a state. */
    private static void noOtherMethodIsAChange() {
        Edges.Call[] others = {vans -> vans.ofVisit(0, 6), vans -> vans.ofVan(0, 2), vans -> vans.stock(0, 0, 2),
            vans -> vans.event(0, 0, 0), vans -> vans.count(15), vans -> vans.wanted(0), VisitVans::share,
            vans -> vans.meanWay(1), vans -> vans.would(0, 0, 0, 0, 0, 0), vans -> vans.withVan(0, 15),
            VisitVans::slowest, vans -> vans.put('x'), VisitVans::fault, VisitVans::wipe, vans -> vans.save(0),
            vans -> vans.save(1)};
        for (int changes = 0; changes <= 7; changes++) {
            VisitVans vans = Edges.visits(changes);
            for (int i = 0; i < others.length; i++) {
                others[i].of(vans);
                Due.due("count(15) behind another call " + i, vans.count(15), Math.min(6, changes));
            }
            for (int left = Math.min(6, changes) - 1; left >= 0; left--) {
                Due.due("undo()", vans.undo(), left);
            }
            Due.due("count(0) behind all", vans.count(0), Math.max(0, changes - 6));
        }
    }

    /** Promise 22: "and returns no error" - a refused change records nothing, on a history of 0 to 6 states. */
    private static void aRefusedChangeRecordsNothing() {
        Edges.Call[] refused = {vans -> vans.set(PACE, 0), vans -> vans.visit(0, 4, 0, 0, 0, 0),
            vans -> vans.drop(20), vans -> vans.van(100, 0), vans -> vans.load(0, 5, 0), VisitVans::carryOut,
            vans -> vans.restore(0), vans -> vans.restore(2), vans -> vans.save(2)};
        for (int changes = 0; changes <= 8; changes++) {
            for (int i = 0; i < refused.length; i++) {
                VisitVans vans = Edges.visits(changes);
                Due.due("a refused call " + i, refused[i].of(vans) < 0);
                Due.due("count(15) behind it", vans.count(15), Math.min(6, changes));
                for (int undone = 1; undone <= Math.min(6, changes); undone++) {
                    Due.due("undo()", vans.undo(), Math.min(6, changes) - undone);
                    Due.due("count(0)", vans.count(0), changes - undone);
                }
            }
        }
    }

    /** Promise 22: "and returns no error" - however often a change is refused, the oldest state is not dropped. */
    private static void aRefusedChangeOnAFullHistory() {
        VisitVans vans = new VisitVans();
        for (int change = 1; change <= 6; change++) {
            vans.set(LAST, change);
            for (int time = 0; time < 8; time++) {
                Due.due("set() refused", vans.set(LAST, 121), BAD_VALUE);
                Due.due("drop() refused", vans.drop(0), NO_SUCH);
            }
        }
        for (int undone = 1; undone <= 6; undone++) {
            Due.due("undo()", vans.undo(), 6 - undone);
            Due.due("count(12)", vans.count(12), undone == 6 ? 30 : 6 - undone);
            Due.due("set() refused", vans.set(LAST, 0), BAD_VALUE);
        }
    }

    /** Promise 22: "(also if nothing is different then)". */
    private static void alsoIfNothingIsDifferent() {
        VisitVans vans = new VisitVans();
        vans.van(0, 0);
        vans.save(0);
        Edges.Call[] same = {x -> x.set(PACE, 2), x -> x.load(0, 0, 0), x -> x.restore(0), x -> x.set(LAST, 30),
            x -> x.set(SHIFT, 120)};
        for (int i = 0; i < same.length; i++) {
            Due.due("the same, call " + i, same[i].of(vans) >= 0);
            Due.due("count(15) behind the same", vans.count(15), 2 + i);
        }
        Due.putText(vans, "x0");
        Due.due("carryOut() of none", vans.carryOut(), 0);
        Due.due("count(15) behind it", vans.count(15), 6);
        for (int left = 5; left >= 0; left--) {
            Due.due("undo() of the same", vans.undo(), left);
            Due.due("count(1)", vans.count(1), 1);
        }
        Due.due("van() is the oldest, and dropped", vans.undo(), NOT_POSSIBLE);
        Due.due("count(1)", vans.count(1), 1);
    }

    /** Promise 22: "An order of a text records nothing by itself." - of one order, of 6, 7 and 8. */
    private static void anOrderRecordsNothingByItself() {
        for (int orders : new int[] {1, 6, 7, 8, 11}) {
            for (int changes = 0; changes <= 7; changes++) {
                VisitVans vans = Edges.vans(1);
                for (int change = 1; change <= changes; change++) {
                    vans.set(LAST, change);
                }
                int before = vans.count(15);
                Due.putText(vans, "l0+0=9;".repeat(orders - 1) + "l0+0=8");
                Due.due("carryOut() of " + orders, vans.carryOut(), orders);
                Due.due("count(15) behind it", vans.count(15), Math.min(6, before + 1));
                Due.due("undo() of all", vans.undo(), Math.min(5, before));
                Due.due("stock(0, 0, 0)", vans.stock(0, 0, 0), 0);
                Due.due("count(12)", vans.count(12), changes == 0 ? 30 : changes);
            }
        }
    }

    /** Promise 22: "Undoes the latest change" - undo() is none itself: it cannot be undone. */
    private static void undoIsNoChange() {
        VisitVans vans = new VisitVans();
        vans.set(LAST, 1);
        vans.set(LAST, 2);
        Due.due("undo()", vans.undo(), 1);
        Due.due("count(15)", vans.count(15), 1);
        Due.due("undo()", vans.undo(), 0);
        Due.due("count(12)", vans.count(12), 30);
        Due.due("undo() of none", vans.undo(), NOT_POSSIBLE);
    }

    /** Promise 23: "Returns how many visits there are" - none, one, 19 and 20. */
    private static void saveReturnsHowMany() {
        for (int many : new int[] {0, 1, 19, 20}) {
            VisitVans vans = Edges.visits(many);
            Due.due("save(0) of " + many, vans.save(0), many);
            Due.due("save(1) of " + many, vans.save(1), many);
            Due.due("count(0)", vans.count(0), many);
        }
        Due.due("save(0) of vans alone", Edges.vans(4).save(0), 0);
    }

    /** Promise 23: "`slot`: 0 or 1" - each for itself. */
    private static void saveSlots0And1() {
        VisitVans vans = Edges.visits(3);
        Due.due("save(-1)", vans.save(-1), BAD_VALUE);
        Due.due("save(2)", vans.save(2), BAD_VALUE);
        Due.due("save(1)", vans.save(1), 3);
        Due.due("restore(0) behind save(1)", vans.restore(0), NOT_POSSIBLE);
        Due.due("restore(1) behind save(1)", vans.restore(1), 3);
        vans.drop(0);
        Due.due("save(0)", vans.save(0), 2);
        Due.due("restore(1) behind save(0)", vans.restore(1), 3);
        Due.due("restore(0) behind save(0)", vans.restore(0), 2);
    }

    /** Promise 23: "BAD_VALUE if there is no such slot" - and then nothing is saved, nor overwritten. */
    private static void saveNoSuchSlot() {
        VisitVans vans = Edges.visits(3);
        for (int slot : Edges.outside(0, 1)) {
            Due.due("save(" + slot + ")", vans.save(slot), BAD_VALUE);
        }
        Due.due("restore(0) behind them", vans.restore(0), NOT_POSSIBLE);
        Due.due("restore(1) behind them", vans.restore(1), NOT_POSSIBLE);
        Edges.changesNothing("save(2)", Edges::full, x -> x.save(2), BAD_VALUE);
        Edges.changesNothing("save(-1)", Edges::full, x -> x.save(-1), BAD_VALUE);
    }

    /**
     * Promise 23: "and overwrites what was saved there" - a full state by an empty one, and back; the other slot stays.
     */
    private static void saveOverwrites() {
        VisitVans vans = new VisitVans();
        vans.save(0);
        vans.save(1);
        for (int visit = 0; visit < 20; visit++) {
            vans.visit(visit, 0, 0, 0, 0, 999);
        }
        for (int van = 0; van < 4; van++) {
            vans.van(van, 15);
            vans.load(van, 4, 99);
        }
        vans.save(0);
        Due.due("restore(1) of an empty one", vans.restore(1), 0);
        Due.due("count(1)", vans.count(1), 0);
        Due.due("restore(0) of a full one", vans.restore(0), 20);
        Due.due("ofVisit(19, 0)", vans.ofVisit(19, 0), 19);
        Due.due("stock(3, 4, 0)", vans.stock(3, 4, 0), 99);
        vans.restore(1);
        vans.save(0);
        vans.visit(7, 0, 0, 0, 0, 0);
        Due.due("restore(0) of an empty one", vans.restore(0), 0);
        Due.due("count(1)", vans.count(1), 0);
        vans.van(5, 5);
        Due.due("stock(0, 4, 0) of a new van", vans.stock(0, 4, 0), 0);
    }

    /**
     * Promise 23: "Saves everything except the pad, the history and the slots in a slot" - settings, visits, vans and
     * stock, at their ends.
     */
    private static void saveOfEverything() {
        int[][] settings = {{1, 1, 0}, {9, 120, 300}};
        for (int slot = 0; slot < 2; slot++) {
            VisitVans vans = Edges.full();
            for (int setting = 0; setting < 3; setting++) {
                vans.set(setting, settings[slot][setting]);
            }
            vans.load(3, 4, 99);
            vans.save(slot);
            for (int setting = 0; setting < 3; setting++) {
                vans.set(setting, settings[1 - slot][setting]);
            }
            for (int van = 0; van < 4; van++) {
                vans.load(van, van, 50);
            }
            vans.drop(19);
            vans.drop(0);
            Due.due("restore(" + slot + ")", vans.restore(slot), 20);
            for (int setting = 0; setting < 3; setting++) {
                Due.due("count(" + (11 + setting) + ")", vans.count(11 + setting), settings[slot][setting]);
            }
            int[] stock = {99, 9, 8, 7};
            for (int van = 0; van < 4; van++) {
                Due.due("stock(" + van + ", " + van + ", 0)", vans.stock(van, van, 0), stock[van]);
            }
            Due.due("stock(3, 4, 0)", vans.stock(3, 4, 0), 99);
            for (int visit = 0; visit < 20; visit++) {
                Due.due("ofVisit(" + visit + ", 4)", vans.ofVisit(visit, 4), visit * 10);
                Due.due("ofVisit(" + visit + ", 5)", vans.ofVisit(visit, 5), 999 - visit * 20);
            }
        }
    }

    /** Promise 23: "everything except the pad, the history and the slots" - these are not brought back. */
    private static void saveWithoutPadHistoryAndSlots() {
        VisitVans vans = new VisitVans();
        Due.putText(vans, "x0;x1");
        vans.set(LAST, 1);
        vans.save(1);
        vans.set(LAST, 2);
        vans.save(0);
        Due.due("wipe()", vans.wipe(), 5);
        Due.due("restore(1)", vans.restore(1), 0);
        Due.due("count(14) stays 0", vans.count(14), 0);
        Due.due("count(15) goes on", vans.count(15), 3);
        Due.due("restore(0) is the later state", vans.restore(0), 0);
        Due.due("count(12)", vans.count(12), 2);
        Due.putText(vans, Edges.longText());
        vans.restore(1);
        Due.due("count(14) stays 80", vans.count(14), 80);
    }

    /** Promise 23: "Saves everything" - and is no change. */
    private static void saveIsNoChange() {
        VisitVans vans = new VisitVans();
        for (int time = 0; time < 8; time++) {
            vans.save(time % 2);
        }
        Due.due("count(15)", vans.count(15), 0);
        Due.due("undo()", vans.undo(), NOT_POSSIBLE);
        vans.set(LAST, 7);
        vans.save(0);
        Due.due("undo()", vans.undo(), 0);
        Due.due("restore(0)", vans.restore(0), 0);
        Due.due("count(12)", vans.count(12), 7);
    }

    /** Promise 24: "Returns how many visits there are then" - none, one, 19 and 20, whatever there was. */
    private static void restoreReturnsHowMany() {
        for (int many : new int[] {0, 1, 19, 20}) {
            VisitVans vans = Edges.visits(many);
            vans.save(0);
            while (vans.count(0) > 0) {
                vans.drop(0);
            }
            vans.visit(5, 0, 0, 0, 0, 0);
            vans.visit(6, 0, 0, 0, 0, 0);
            Due.due("restore(0) of " + many, vans.restore(0), many);
            Due.due("count(0)", vans.count(0), many);
            Due.due("behind the last", vans.ofVisit(many, 0), NO_SUCH);
        }
    }

    /** Promise 24: "`slot`: 0 or 1" - each for itself. */
    private static void restoreSlots0And1() {
        VisitVans vans = Edges.full();
        Due.due("restore(-1)", vans.restore(-1), BAD_VALUE);
        Due.due("restore(2)", vans.restore(2), BAD_VALUE);
        Due.due("restore(0)", vans.restore(0), 0);
        Due.due("restore(1)", vans.restore(1), 20);
        Due.due("restore(0) again", vans.restore(0), 0);
    }

    /** Promise 24: "BAD_VALUE if there is no such slot" - whether those that there are were saved or not. */
    private static void restoreNoSuchSlot() {
        VisitVans none = new VisitVans();
        VisitVans both = Edges.full();
        for (int slot : Edges.outside(0, 1)) {
            Due.due("restore(" + slot + ")", none.restore(slot), BAD_VALUE);
            Due.due("full: restore(" + slot + ")", both.restore(slot), BAD_VALUE);
        }
        Due.due("count(15)", none.count(15), 0);
        Due.due("full: count(0)", both.count(0), 20);
        Edges.changesNothing("restore(2)", Edges::full, vans -> vans.restore(2), BAD_VALUE);
    }

    /** Promise 24: "NOT_POSSIBLE if nothing was saved in it" - in the other one alone, or in none. */
    private static void restoreOfNothingSaved() {
        for (int slot = 0; slot < 2; slot++) {
            int empty = slot;
            Edges.changesNothing("restore(" + slot + ")", Edges::empty, vans -> vans.restore(empty), NOT_POSSIBLE);
            VisitVans vans = Edges.visits(2);
            Due.due("restore(" + slot + ") of none", vans.restore(slot), NOT_POSSIBLE);
            vans.save(1 - slot);
            Due.due("restore(" + slot + ") of the other one", vans.restore(slot), NOT_POSSIBLE);
            Due.due("count(15)", vans.count(15), 2);
            Due.due("count(0)", vans.count(0), 2);
            vans.save(slot);
            Due.due("restore(" + slot + ") of its own", vans.restore(slot), 2);
        }
        Edges.changesNothing("restore(1) with 0 saved", Edges::some, vans -> vans.restore(1), NOT_POSSIBLE);
    }

    /**
     * Promise 24: "Restores what was saved last in a slot, which keeps it." - however often, and whatever is changed
     * then.
     */
    private static void aSlotKeepsWhatWasSaved() {
        VisitVans vans = Edges.visits(1);
        vans.van(7, 7);
        vans.load(0, 0, 9);
        vans.save(1);
        for (int time = 0; time < 8; time++) {
            Due.due("restore(1)", vans.restore(1), 1);
            Due.due("count(1)", vans.count(1), 1);
            Due.due("count(12)", vans.count(12), 30);
            Due.due("stock(0, 0, 0)", vans.stock(0, 0, 0), 9);
            Due.due("ofVisit(0, 0)", vans.ofVisit(0, 0), 0);
            vans.load(0, 0, time);
            vans.drop(0);
            vans.visit(50 + time, 0, 0, 0, 0, 0);
            vans.van(time, time);
            vans.set(LAST, 1 + time);
            if (time % 2 == 0) {
                vans.undo();
                vans.undo();
            }
        }
    }

    /** Promise 24: "This is a change." - also to the same state; undo() takes it back. */
    private static void restoreIsAChange() {
        VisitVans vans = Edges.visits(2);
        vans.save(0);
        Due.due("restore(0) of the same", vans.restore(0), 2);
        Due.due("count(15)", vans.count(15), 3);
        vans.drop(0);
        Due.due("restore(0)", vans.restore(0), 2);
        Due.due("count(15)", vans.count(15), 5);
        Due.due("undo()", vans.undo(), 4);
        Due.due("count(0)", vans.count(0), 1);
        Due.due("undo()", vans.undo(), 3);
        Due.due("count(0)", vans.count(0), 2);
        Due.due("restore(1) is refused", vans.restore(1), NOT_POSSIBLE);
        Due.due("count(15)", vans.count(15), 3);
    }

    /**
     * Promise 24: "Restores what was saved last in a slot" - an empty state on a full road, a full one on an empty
     * road.
     */
    private static void restoreOfEmptyAndFull() {
        VisitVans vans = Edges.full();
        Due.due("restore(0) of an empty state", vans.restore(0), 0);
        Due.due("count(0)", vans.count(0), 0);
        Due.due("share()", vans.share(), NONE);
        Due.due("count(2)", vans.count(2), 0);
        Due.due("ofVan(3, 7)", vans.ofVan(3, 7), 0);
        Due.due("stock(3, 3, 0)", vans.stock(3, 3, 0), 0);
        Due.due("restore(1) of a full state", vans.restore(1), 20);
        Due.due("visit() of one more", vans.visit(0, 0, 0, 0, 0, 0), -4);
        Due.due("van() of one more", vans.van(0, 0), -4);
        Due.due("count(2) to count(4)", vans.count(2) + vans.count(3) + vans.count(4), 20);
        Due.due("undo()", vans.undo(), 5);
        Due.due("count(0) behind undo()", vans.count(0), 0);
        Due.due("undo()", vans.undo(), 4);
        Due.due("count(0) behind undo()", vans.count(0), 20);
    }
}
