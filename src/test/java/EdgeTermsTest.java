/** Boundary cases that the document's first page names: what it is, the conventions, the settings, visits and vans. */
public final class EdgeTermsTest {
    private static final int NO_SUCH = -1, BAD_VALUE = -2, BAD_TEXT = -3, TOO_MANY = -4, NOT_POSSIBLE = -5, NONE = -6;
    private static final int PACE = 0, LAST = 1, SHIFT = 2;

    public static void main(String[] args) {
        theLastCallOf512IsAnswered();
        theDearestCallsAreAnswered512Times();
        laterCallsThrowNothing();
        eachErrorHasItsCode();
        theFirstErrorOfAChange();
        theFirstErrorOfWhatThereIs();
        theFirstErrorOfTheOthers();
        aRefusedChangeChangesNothing();
        aRefusedVisitChangesNothing();
        aRefusedQuestionChangesNothing();
        aRefusedTextOrUndoChangesNothing();
        noneOnlyIfNoErrorApplies();
        numbersBeginWith0();
        setsAreBitMasks();
        minutesBeginWith0();
        theConstantsOfTheErrors();
        theConstantsOfTheSettings();
        paceIs1To9();
        paceTakesMinutesForEachUnit();
        lastIs1To120();
        lastIsTheMinutesOfAVisit();
        shiftIs0To300();
        twentyVisitsAndNoMore();
        thoseBehindADroppedVisitMoveUp();
        placeIs0To99();
        skillIs0To3();
        soManyIs0To9();
        kindIs0To4();
        windowIs0To999();
        fourVansAndNoMore();
        stockIs0To99();
        stockIs0AtFirst();
        Due.finish();
    }

    /** What it is: "An object is used for at most 512 calls after it has been made". */
    private static void theLastCallOf512IsAnswered() {
        VisitVans vans = new VisitVans();
        int last = 30;
        for (int call = 1; call <= 511; call++) {
            int next = 1 + call % 120;
            Due.due("set() as call " + call, vans.set(LAST, next), last);
            last = next;
        }
        Due.due("count(12) as call 512", vans.count(12), last);
    }

    /** What it is: "at most 512 calls" - of each sort, on a full object where it is dearest. */
    private static void theDearestCallsAreAnswered512Times() {
        VisitVans plan = Edges.full();
        int[] first = {plan.would(0, 0, 0, 9, 0, 999), plan.slowest(), plan.set(PACE, 2), plan.save(1)};
        for (int round = 0; round < 110; round++) {
            Due.due("would() again", plan.would(0, 0, 0, 9, 0, 999), first[0]);
            Due.due("slowest() again", plan.slowest(), first[1]);
            Due.due("set() again", plan.set(PACE, 2), first[2]);
            Due.due("save() again", plan.save(1), first[3]);
        }
        VisitVans texts = new VisitVans();
        for (int round = 0; round < 128; round++) {
            Due.due("put() again", texts.put(Due.codes("w99/3;x0")), 8);
            Due.due("fault() again", texts.fault(), NONE);
            Due.due("carryOut() again", texts.carryOut(), 1);
            Due.due("undo() again", texts.undo(), 0);
        }
        VisitVans cycle = new VisitVans();
        for (int round = 0; round < 128; round++) {
            Due.due("visit() again", cycle.visit(0, 0, 0, 0, 0, 0), 0);
            Due.due("save() again", cycle.save(round % 2), 1);
            Due.due("drop() again", cycle.drop(0), 0);
            Due.due("count(15) again", cycle.count(15), Math.min(6, 2 * round + 2));
        }
    }

    /** What it is: "what later calls answer is free" - but they answer. */
    private static void laterCallsThrowNothing() {
        VisitVans vans = Edges.full();
        for (int call = 0; call < 3000; call++) {
            int wide = call * 37 % 113 - 3;
            vans.visit(wide, call % 4, call % 5, call % 10, wide, wide + 200);
            vans.drop(wide % 22);
            vans.set(call % 3, 1 + call % 9);
            vans.put('x' << 8 | '0' + call % 10);
            vans.put(';');
            vans.event(call % 4, wide, call % 4);
            vans.slowest();
            vans.would(wide, call % 4, call % 5, 9, 0, 999);
            if (call % 7 == 0) {
                vans.carryOut();
                vans.wipe();
                vans.undo();
                vans.restore(call % 2);
            }
        }
        Due.due("no call has thrown", true);
    }

    /**
     * Conventions: "A method that fails returns one of the error codes NO_SUCH (-1), BAD_VALUE (-2), BAD_TEXT (-3),
     * TOO_MANY (-4) and NOT_POSSIBLE (-5)".
     */
    private static void eachErrorHasItsCode() {
        VisitVans vans = new VisitVans();
        Due.due("NO_SUCH", vans.drop(0), -1);
        Due.due("BAD_VALUE", vans.set(PACE, 0), -2);
        Due.due("BAD_TEXT", vans.carryOut(), -3);
        Due.due("TOO_MANY", Edges.vans(4).van(0, 0), -4);
        Due.due("NOT_POSSIBLE", vans.undo(), -5);
    }

    /**
     * Conventions: "it names its errors in the order in which they are checked, and the first one that applies is
     * returned".
     */
    private static void theFirstErrorOfAChange() {
        VisitVans full = Edges.full();
        Due.due("visit() with all wrong, full", full.visit(100, 4, 5, 10, 5, 4), NO_SUCH);
        Due.due("visit() with skill wrong, full", full.visit(0, 4, 0, 0, 0, 0), NO_SUCH);
        Due.due("visit() with part wrong, full", full.visit(0, 0, 5, 0, 0, 0), NO_SUCH);
        Due.due("visit() with skill and place wrong", full.visit(-1, -1, 0, 0, 0, 0), NO_SUCH);
        Due.due("visit() with part and many wrong", full.visit(0, 0, -1, -1, 0, 0), NO_SUCH);
        Due.due("visit() with part and window wrong", full.visit(0, 0, 5, 0, 1, 0), NO_SUCH);
        Due.due("visit() with place wrong, full", full.visit(100, 0, 0, 0, 0, 0), BAD_VALUE);
        Due.due("visit() with many wrong, full", full.visit(0, 0, 0, 10, 0, 0), BAD_VALUE);
        Due.due("visit() with window wrong, full", full.visit(0, 0, 0, 0, 1, 0), BAD_VALUE);
        Due.due("visit() with nothing wrong, full", full.visit(0, 0, 0, 0, 0, 0), TOO_MANY);
        Due.due("van() with home wrong, full", full.van(100, 0), BAD_VALUE);
        Due.due("van() with skills wrong, full", full.van(0, 16), BAD_VALUE);
        Due.due("van() with nothing wrong, full", full.van(0, 0), TOO_MANY);
        Due.due("load() with all wrong", full.load(4, 5, 100), NO_SUCH);
        Due.due("load() with van and many wrong", full.load(4, 0, 100), NO_SUCH);
        Due.due("load() with part and many wrong", full.load(0, 5, 100), NO_SUCH);
        Due.due("load() with many wrong", full.load(0, 0, 100), BAD_VALUE);
    }

    /** Conventions: "the first one that applies is returned" - by what tells something. */
    private static void theFirstErrorOfWhatThereIs() {
        VisitVans full = Edges.full();
        Due.due("ofVisit() with both wrong", full.ofVisit(20, 10), NO_SUCH);
        Due.due("ofVisit() with what wrong", full.ofVisit(19, 10), BAD_VALUE);
        Due.due("ofVan() with both wrong", full.ofVan(4, 8), NO_SUCH);
        Due.due("ofVan() with what wrong", full.ofVan(3, 8), BAD_VALUE);
        Due.due("stock() with all wrong", full.stock(4, 5, 3), NO_SUCH);
        Due.due("stock() with van and what wrong", full.stock(4, 0, 3), NO_SUCH);
        Due.due("stock() with part and what wrong", full.stock(0, 5, 3), NO_SUCH);
        Due.due("stock() with what wrong", full.stock(3, 4, 3), BAD_VALUE);
        Due.due("event() with all wrong", full.event(4, 60, 4), NO_SUCH);
        Due.due("event() with van and what wrong", full.event(4, 0, 4), NO_SUCH);
        Due.due("event() with event and what wrong", full.event(0, 60, 4), NO_SUCH);
        Due.due("event() with what wrong", full.event(0, 0, 4), BAD_VALUE);
    }

    /** Conventions: "the first one that applies is returned" - by what if, texts and slots. */
    private static void theFirstErrorOfTheOthers() {
        VisitVans full = Edges.full();
        Due.due("would() with all wrong", full.would(100, 4, 5, 10, 5, 4), NO_SUCH);
        Due.due("would() with skill and place wrong", full.would(-1, -1, 0, 0, 0, 0), NO_SUCH);
        Due.due("would() with part and window wrong", full.would(0, 0, 5, 0, 1, 0), NO_SUCH);
        Due.due("would() with place wrong", full.would(100, 0, 0, 0, 0, 0), BAD_VALUE);
        Due.due("withVan() with home wrong, full", full.withVan(100, 0), BAD_VALUE);
        Due.due("withVan() with skills wrong, full", full.withVan(0, 16), BAD_VALUE);
        Due.due("withVan() with nothing wrong, full", full.withVan(0, 0), TOO_MANY);
        Due.due("put() of a wrong code, full", full.put(32), BAD_VALUE);
        Due.due("put() of nothing, full", full.put(0), BAD_VALUE);
        Due.due("put() of a right code, full", full.put(33), TOO_MANY);
        VisitVans empty = new VisitVans();
        Due.due("restore() of no slot with nothing saved", empty.restore(2), BAD_VALUE);
        Due.due("restore() of a slot with nothing saved", empty.restore(1), NOT_POSSIBLE);
    }

    /** Conventions: "A call that returns an error changes nothing." - of the changes but visit(). */
    private static void aRefusedChangeChangesNothing() {
        Edges.refusedEverywhere("set(-1, 1)", vans -> vans.set(-1, 1), BAD_VALUE);
        Edges.refusedEverywhere("set(3, 1)", vans -> vans.set(3, 1), BAD_VALUE);
        Edges.refusedEverywhere("set(0, 10)", vans -> vans.set(0, 10), BAD_VALUE);
        Edges.refusedEverywhere("set(1, 0)", vans -> vans.set(1, 0), BAD_VALUE);
        Edges.refusedEverywhere("set(2, 301)", vans -> vans.set(2, 301), BAD_VALUE);
        Edges.refusedEverywhere("drop(-1)", vans -> vans.drop(-1), NO_SUCH);
        Edges.refusedEverywhere("drop(20)", vans -> vans.drop(20), NO_SUCH);
        Edges.changesNothing("drop(0)", Edges::empty, vans -> vans.drop(0), NO_SUCH);
        Edges.changesNothing("drop(6)", Edges::some, vans -> vans.drop(6), NO_SUCH);
        Edges.refusedEverywhere("van(-1, 0)", vans -> vans.van(-1, 0), BAD_VALUE);
        Edges.refusedEverywhere("van(0, 16)", vans -> vans.van(0, 16), BAD_VALUE);
        Edges.changesNothing("van(0, 0)", Edges::full, vans -> vans.van(0, 0), TOO_MANY);
        Edges.refusedEverywhere("load(-1, 0, 1)", vans -> vans.load(-1, 0, 1), NO_SUCH);
        Edges.refusedEverywhere("load(4, 0, 1)", vans -> vans.load(4, 0, 1), NO_SUCH);
        Edges.refusedEverywhere("load(0, -1, 1)", vans -> vans.load(0, -1, 1), NO_SUCH);
        Edges.refusedEverywhere("load(0, 5, 1)", vans -> vans.load(0, 5, 1), NO_SUCH);
        Edges.changesNothing("load(2, 0, 1)", Edges::some, vans -> vans.load(2, 0, 1), NO_SUCH);
        Edges.changesNothing("load(1, 4, 100)", Edges::some, vans -> vans.load(1, 4, 100), BAD_VALUE);
        Edges.changesNothing("load(3, 4, -1)", Edges::full, vans -> vans.load(3, 4, -1), BAD_VALUE);
    }

    /** Conventions: "A call that returns an error changes nothing." - of visit() and would(). */
    private static void aRefusedVisitChangesNothing() {
        int[][] wrong = {{0, -1, 0, 0, 0, 0}, {0, 4, 0, 0, 0, 0}, {0, 0, -1, 0, 0, 0}, {0, 0, 5, 0, 0, 0},
            {-1, 0, 0, 0, 0, 0}, {100, 0, 0, 0, 0, 0}, {0, 0, 0, -1, 0, 0}, {0, 0, 0, 10, 0, 0}, {0, 0, 0, 0, -1, 0},
            {0, 0, 0, 0, 1, 0}, {0, 0, 0, 0, 0, 1000}};
        for (int i = 0; i < wrong.length; i++) {
            int[] w = wrong[i];
            int due = i < 4 ? NO_SUCH : BAD_VALUE;
            Edges.refusedEverywhere("visit() " + i, x -> x.visit(w[0], w[1], w[2], w[3], w[4], w[5]), due);
            Edges.refusedEverywhere("would() " + i, x -> x.would(w[0], w[1], w[2], w[3], w[4], w[5]), due);
        }
        Edges.changesNothing("visit()", Edges::full, vans -> vans.visit(0, 0, 0, 0, 0, 0), TOO_MANY);
    }

    /** Conventions: "A call that returns an error changes nothing." - of what tells something. */
    private static void aRefusedQuestionChangesNothing() {
        Edges.refusedEverywhere("ofVisit(20, 0)", vans -> vans.ofVisit(20, 0), NO_SUCH);
        Edges.changesNothing("ofVisit(0, 10)", Edges::some, vans -> vans.ofVisit(0, 10), BAD_VALUE);
        Edges.refusedEverywhere("ofVan(4, 0)", vans -> vans.ofVan(4, 0), NO_SUCH);
        Edges.changesNothing("ofVan(0, 8)", Edges::some, vans -> vans.ofVan(0, 8), BAD_VALUE);
        Edges.refusedEverywhere("stock(4, 0, 0)", vans -> vans.stock(4, 0, 0), NO_SUCH);
        Edges.refusedEverywhere("stock(0, 5, 0)", vans -> vans.stock(0, 5, 0), NO_SUCH);
        Edges.changesNothing("stock(0, 0, 3)", Edges::some, vans -> vans.stock(0, 0, 3), BAD_VALUE);
        Edges.refusedEverywhere("event(4, 0, 0)", vans -> vans.event(4, 0, 0), NO_SUCH);
        Edges.refusedEverywhere("event(0, 60, 0)", vans -> vans.event(0, 60, 0), NO_SUCH);
        Edges.changesNothing("event(0, 0, 4)", Edges::some, vans -> vans.event(0, 0, 4), BAD_VALUE);
        Edges.refusedEverywhere("count(16)", vans -> vans.count(16), BAD_VALUE);
        Edges.refusedEverywhere("wanted(5)", vans -> vans.wanted(5), NO_SUCH);
        Edges.refusedEverywhere("meanWay(2)", vans -> vans.meanWay(2), BAD_VALUE);
        Edges.refusedEverywhere("withVan(100, 0)", vans -> vans.withVan(100, 0), BAD_VALUE);
        Edges.refusedEverywhere("withVan(0, 16)", vans -> vans.withVan(0, 16), BAD_VALUE);
        Edges.changesNothing("withVan(0, 0)", Edges::full, vans -> vans.withVan(0, 0), TOO_MANY);
    }

    /** Conventions: "A call that returns an error changes nothing." - of texts, undo() and the slots. */
    private static void aRefusedTextOrUndoChangesNothing() {
        Edges.refusedEverywhere("put(0)", vans -> vans.put(0), BAD_VALUE);
        Edges.refusedEverywhere("put(32)", vans -> vans.put(32), BAD_VALUE);
        Edges.refusedEverywhere("put() of x and 127", vans -> vans.put(0x787f), BAD_VALUE);
        Edges.changesNothing("put(x)", Edges::full, vans -> vans.put('x'), TOO_MANY);
        Edges.changesNothing("carryOut()", Edges::empty, VisitVans::carryOut, BAD_TEXT);
        Edges.changesNothing("undo()", Edges::empty, VisitVans::undo, NOT_POSSIBLE);
        Edges.refusedEverywhere("save(-1)", vans -> vans.save(-1), BAD_VALUE);
        Edges.refusedEverywhere("save(2)", vans -> vans.save(2), BAD_VALUE);
        Edges.refusedEverywhere("restore(-1)", vans -> vans.restore(-1), BAD_VALUE);
        Edges.refusedEverywhere("restore(2)", vans -> vans.restore(2), BAD_VALUE);
        Edges.changesNothing("restore(0)", Edges::empty, vans -> vans.restore(0), NOT_POSSIBLE);
        Edges.changesNothing("restore(1)", Edges::some, vans -> vans.restore(1), NOT_POSSIBLE);
    }

    /** Conventions: "NONE (-6) is not an error; it is returned only if no error applies." */
    private static void noneOnlyIfNoErrorApplies() {
        VisitVans vans = Edges.visits(1);
        for (int what = 7; what <= 9; what++) {
            Due.due("ofVisit(0, " + what + ") of a broken one", vans.ofVisit(0, what), NONE);
            Due.due("ofVisit(1, " + what + ") of no visit", vans.ofVisit(1, what), NO_SUCH);
            Due.due("ofVisit(-1, " + what + ") of no visit", vans.ofVisit(-1, what), NO_SUCH);
        }
        Due.due("ofVisit(0, 10) of a broken one", vans.ofVisit(0, 10), BAD_VALUE);
        Due.due("ofVisit(0, -6) of a broken one", vans.ofVisit(0, NONE), BAD_VALUE);
        Due.due("share() without visits", new VisitVans().share(), NONE);
        vans.put('x');
        Due.due("fault() of x", vans.fault(), 1);
        vans.put('0');
        Due.due("fault() of x0", vans.fault(), NONE);
        Due.due("carryOut() if there is no fault", vans.carryOut(), 1);
    }

    /** Conventions: "Everything is numbered from 0." */
    private static void numbersBeginWith0() {
        VisitVans vans = new VisitVans();
        Due.due("the first visit", vans.visit(7, 0, 0, 1, 5, 9), 0);
        Due.due("the second visit", vans.visit(8, 0, 4, 1, 5, 9), 1);
        Due.due("the first van", vans.van(7, 1), 0);
        Due.due("the second van", vans.van(8, 8), 1);
        Due.due("the first part", vans.load(0, 0, 1), 0);
        Due.due("the last part", vans.load(1, 4, 1), 0);
        Due.due("the first slot", vans.save(0), 2);
        Due.due("the last slot", vans.save(1), 2);
        Due.due("the first visit's place", vans.ofVisit(0, 0), 7);
        Due.due("the second visit's place", vans.ofVisit(1, 0), 8);
        Due.due("the first visit's van", vans.ofVisit(0, 7), 0);
        Due.due("the first event's visit", vans.event(0, 0, 3), 0);
        Due.due("ahead of the first visit", vans.ofVisit(-1, 0), NO_SUCH);
        Due.due("behind the second visit", vans.ofVisit(2, 0), NO_SUCH);
        Due.due("ahead of the first van", vans.ofVan(-1, 0), NO_SUCH);
        Due.due("behind the second van", vans.ofVan(2, 0), NO_SUCH);
        Due.due("ahead of the first event", vans.event(0, -1, 0), NO_SUCH);
        Due.due("ahead of the first part", vans.stock(0, -1, 0), NO_SUCH);
        Due.due("behind the last part", vans.stock(0, 5, 0), NO_SUCH);
        Due.due("ahead of the first skill", vans.visit(0, -1, 0, 0, 0, 0), NO_SUCH);
        Due.due("behind the last skill", vans.visit(0, 4, 0, 0, 0, 0), NO_SUCH);
        Due.due("ahead of the first slot", vans.save(-1), BAD_VALUE);
        Due.due("behind the last slot", vans.save(2), BAD_VALUE);
        Due.due("ahead of the first setting", vans.set(-1, 1), BAD_VALUE);
        Due.due("behind the last setting", vans.set(3, 1), BAD_VALUE);
    }

    /** Conventions: "Sets of skills and of visits are bit masks." */
    private static void setsAreBitMasks() {
        for (int skill = 0; skill < 4; skill++) {
            VisitVans vans = Edges.visits(0);
            vans.van(0, 1 << skill);
            for (int of = 0; of < 4; of++) {
                vans.visit(0, of, 0, 0, 0, 999);
            }
            Due.due("skills of the bit " + skill, vans.ofVan(0, 1), 1 << skill);
            Due.due("the visit of the bit " + skill, vans.ofVan(0, 2), 1 << skill);
        }
        for (int made = 0; made <= 20; made++) {
            VisitVans vans = new VisitVans();
            vans.van(0, 2);
            for (int visit = 0; visit < 20; visit++) {
                vans.visit(0, visit < made ? 1 : 0, 0, 0, 0, 999);
            }
            Due.due("the set of the first " + made, vans.ofVan(0, 2), (1 << made) - 1);
        }
        for (int only = 0; only < 20; only++) {
            VisitVans vans = new VisitVans();
            vans.van(0, 4);
            for (int visit = 0; visit < 20; visit++) {
                vans.visit(0, visit == only ? 2 : 3, 0, 0, 0, 999);
            }
            Due.due("the set of " + only + " alone", vans.ofVan(0, 2), 1 << only);
        }
    }

    /** Conventions: "Minutes are told from 0 on." */
    private static void minutesBeginWith0() {
        VisitVans vans = Edges.twoVans();
        vans.visit(0, 0, 0, 0, 0, 0);
        vans.visit(98, 0, 0, 0, 0, 2);
        Edges.promise("at home", vans, 0, 0, 0, 0, 30);
        Edges.events("at home", vans, 0, new int[] {2, 0, 30, 0});
        Edges.events("a unit away", vans, 1, new int[] {0, 0, 2, 1}, new int[] {2, 2, 32, 1});
        Due.due("from -1", vans.visit(0, 0, 0, 0, -1, 0), BAD_VALUE);
    }

    /** Terms: "`NO_SUCH = -1, BAD_VALUE = -2, BAD_TEXT = -3, TOO_MANY = -4, NOT_POSSIBLE = -5, NONE = -6`". */
    private static void theConstantsOfTheErrors() {
        Due.due("NO_SUCH", VisitVans.NO_SUCH, -1);
        Due.due("BAD_VALUE", VisitVans.BAD_VALUE, -2);
        Due.due("BAD_TEXT", VisitVans.BAD_TEXT, -3);
        Due.due("TOO_MANY", VisitVans.TOO_MANY, -4);
        Due.due("NOT_POSSIBLE", VisitVans.NOT_POSSIBLE, -5);
        Due.due("NONE", VisitVans.NONE, -6);
    }

    /** Terms: "`PACE = 0, LAST = 1, SHIFT = 2`: Settings." - and none beside them. */
    private static void theConstantsOfTheSettings() {
        Due.due("PACE", VisitVans.PACE, 0);
        Due.due("LAST", VisitVans.LAST, 1);
        Due.due("SHIFT", VisitVans.SHIFT, 2);
        VisitVans vans = new VisitVans();
        Due.due("set(PACE, 1)", vans.set(VisitVans.PACE, 1), 2);
        Due.due("set(LAST, 1)", vans.set(VisitVans.LAST, 1), 30);
        Due.due("set(SHIFT, 1)", vans.set(VisitVans.SHIFT, 1), 120);
        Due.due("set() of one ahead of PACE", vans.set(VisitVans.PACE - 1, 1), BAD_VALUE);
        Due.due("set() of one behind SHIFT", vans.set(VisitVans.SHIFT + 1, 1), BAD_VALUE);
    }

    private static void settingIs(int setting, int least, int most, int first) {
        String name = "set(" + setting + ", ..)";
        VisitVans vans = new VisitVans();
        Due.due(name + " at first", vans.count(11 + setting), first);
        Due.due(name + " below the least", vans.set(setting, least - 1), BAD_VALUE);
        Due.due(name + " above the most", vans.set(setting, most + 1), BAD_VALUE);
        Due.due(name + " is as it was", vans.count(11 + setting), first);
        Due.due(name + " the least", vans.set(setting, least), first);
        Due.due(name + " beside the least", vans.set(setting, least + 1), least);
        Due.due(name + " the most", vans.set(setting, most), least + 1);
        Due.due(name + " beside the most", vans.set(setting, most - 1), most);
        Due.due(name + " is then", vans.count(11 + setting), most - 1);
        for (int value : Edges.outside(least, most)) {
            String call = "set(" + setting + ", " + value + ")";
            Due.due(call, vans.set(setting, value), BAD_VALUE);
            Edges.changesNothing(call, Edges::some, x -> x.set(setting, value), BAD_VALUE);
        }
        Due.due(name + " is then still", vans.count(11 + setting), most - 1);
    }

    /** Settings: "PACE (1 to 9; 2)". */
    private static void paceIs1To9() {
        settingIs(PACE, 1, 9, 2);
    }

    /**
     * Settings: "PACE (1 to 9; 2): minutes for one unit of the road" - at the least, first and greatest pace, for no
     * unit, one, and all.
     */
    private static void paceTakesMinutesForEachUnit() {
        for (int pace : new int[] {1, 2, 9}) {
            for (int units : new int[] {0, 1, 98, 99}) {
                VisitVans vans = new VisitVans();
                vans.set(PACE, pace);
                vans.van(0, 1);
                vans.visit(units, 0, 0, 0, 0, 999);
                Due.due(units + " units, pace " + pace, vans.ofVisit(0, 8), units * pace);
                Due.due(units + " units, pace " + pace + ": ofVan(0, 3)", vans.ofVan(0, 3), units * pace);
                VisitVans back = new VisitVans();
                back.set(PACE, pace);
                back.van(99, 1);
                back.visit(99 - units, 0, 0, 0, 0, 999);
                Due.due(units + " units back, pace " + pace, back.ofVisit(0, 8), units * pace);
            }
        }
    }

    /** Settings: "LAST (1 to 120; 30)". */
    private static void lastIs1To120() {
        settingIs(LAST, 1, 120, 30);
    }

    /** Settings: "LAST (1 to 120; 30): minutes of a visit" - the fewest, the first and the most. */
    private static void lastIsTheMinutesOfAVisit() {
        for (int last : new int[] {1, 2, 30, 119, 120}) {
            VisitVans vans = new VisitVans();
            vans.van(0, 1);
            vans.visit(0, 0, 0, 0, 999, 999);
            vans.set(LAST, last);
            Edges.promise("LAST " + last, vans, 0, 0, 0, 999, 999 + last);
            Due.due("LAST " + last + ": ofVan(0, 5)", vans.ofVan(0, 5), 999 + last);
            Due.due("LAST " + last + ": count(10)", vans.count(10), 999 + last);
        }
    }

    /** Settings: "SHIFT (0 to 300; 120)." */
    private static void shiftIs0To300() {
        settingIs(SHIFT, 0, 300, 120);
    }

    /** Visits, vans: "There are up to 20 visits, numbered in the order in which they came". */
    private static void twentyVisitsAndNoMore() {
        VisitVans vans = new VisitVans();
        for (int visit = 0; visit < 20; visit++) {
            Due.due("count(0) ahead of " + visit, vans.count(0), visit);
            Due.due("ofVisit(" + visit + ", 0) too early", vans.ofVisit(visit, 0), NO_SUCH);
            Due.due("visit() " + visit, vans.visit(visit * 5, 0, 0, 0, 0, 0), visit);
        }
        Due.due("visit() 20", vans.visit(99, 0, 0, 0, 0, 0), TOO_MANY);
        Due.due("count(0) of all", vans.count(0), 20);
        for (int visit = 0; visit < 20; visit++) {
            Due.due("ofVisit(" + visit + ", 0)", vans.ofVisit(visit, 0), visit * 5);
        }
        Due.due("ofVisit(20, 0)", vans.ofVisit(20, 0), NO_SUCH);
        Due.due("ofVisit(-1, 0)", vans.ofVisit(-1, 0), NO_SUCH);
    }

    /** Visits, vans: "(when one is dropped, those behind it move up)" - each of 1, 2, 19 and 20. */
    private static void thoseBehindADroppedVisitMoveUp() {
        for (int many : new int[] {1, 2, 19, 20}) {
            for (int dropped = 0; dropped < many; dropped++) {
                VisitVans vans = new VisitVans();
                for (int visit = 0; visit < many; visit++) {
                    vans.visit(visit, visit % 4, visit % 5, visit % 10, visit, visit + 30);
                }
                String call = "drop(" + dropped + ") of " + many;
                Due.due(call, vans.drop(dropped), many - 1);
                for (int visit = 0; visit < many - 1; visit++) {
                    int was = visit < dropped ? visit : visit + 1;
                    int[] due = {was, was % 4, was % 5, was % 10, was, was + 30};
                    for (int what = 0; what < 6; what++) {
                        Due.due(call + ": ofVisit(" + visit + ", " + what + ")", vans.ofVisit(visit, what), due[what]);
                    }
                }
                Due.due(call + ": the last is gone", vans.ofVisit(many - 1, 0), NO_SUCH);
                vans.van(0, 15);
                for (int part = 0; part < 5; part++) {
                    vans.load(0, part, 99);
                }
                vans.set(SHIFT, 300);
                vans.set(LAST, 1);
                Due.due(call + ": all others are made", vans.ofVan(0, 2), (1 << (many - 1)) - 1);
                Due.due(call + ": share()", vans.share(), many == 1 ? NONE : 0x3f800000);
                Due.due(call + ": the next one's number", vans.visit(99, 0, 0, 0, 0, 0), many - 1);
                Due.due(call + ": the next one's place", vans.ofVisit(many - 1, 0), 99);
            }
        }
    }

    private static int visitWith(VisitVans vans, int at, int value) {
        int[] told = {0, 0, 0, 0, 0, 999};
        told[at] = value;
        return vans.visit(told[0], told[1], told[2], told[3], told[4], told[5]);
    }

    /** An argument of visit() is accepted at its ends and beside them inside, and refused outside. */
    private static void argumentIs(String name, int at, int least, int most, int error) {
        int[] inside = {least, least + 1, most - 1, most};
        VisitVans vans = new VisitVans();
        for (int i = 0; i < inside.length; i++) {
            Due.due("visit() with " + name + " " + inside[i], visitWith(vans, at, inside[i]), i);
            Due.due("ofVisit() of its " + name, vans.ofVisit(i, at), inside[i]);
        }
        for (int value : Edges.outside(least, most)) {
            Due.due("visit() with " + name + " " + value, visitWith(vans, at, value), error);
        }
        Due.due("count(0) behind those with a wrong " + name, vans.count(0), inside.length);
        Due.due("count(15) behind those with a wrong " + name, vans.count(15), inside.length);
    }

    /** Visits, vans: "A visit has a place on the road (0 to 99)". */
    private static void placeIs0To99() {
        argumentIs("place", 0, 0, 99, BAD_VALUE);
    }

    /** Visits, vans: "a skill (0 to 3)". */
    private static void skillIs0To3() {
        argumentIs("skill", 1, 0, 3, NO_SUCH);
    }

    /** Visits, vans: "so many (0 to 9)". */
    private static void soManyIs0To9() {
        argumentIs("many", 3, 0, 9, BAD_VALUE);
    }

    /** Visits, vans: "of a kind (0 to 4)". */
    private static void kindIs0To4() {
        argumentIs("part", 2, 0, 4, NO_SUCH);
    }

    /** Visits, vans: "a promised window: it begins from a minute to another one (0 to 999)". */
    private static void windowIs0To999() {
        argumentIs("from", 4, 0, 999, BAD_VALUE);
        argumentIs("to", 5, 0, 999, BAD_VALUE);
    }

    /** Visits, vans: "There are up to 4 vans, numbered in the order in which they came." */
    private static void fourVansAndNoMore() {
        VisitVans vans = new VisitVans();
        for (int van = 0; van < 4; van++) {
            Due.due("count(1) ahead of " + van, vans.count(1), van);
            Due.due("ofVan(" + van + ", 0) too early", vans.ofVan(van, 0), NO_SUCH);
            Due.due("van() " + van, vans.van(van * 33, 15 - van * 5), van);
        }
        Due.due("van() 4", vans.van(50, 1), TOO_MANY);
        Due.due("count(1) of all", vans.count(1), 4);
        for (int van = 0; van < 4; van++) {
            Due.due("ofVan(" + van + ", 0)", vans.ofVan(van, 0), van * 33);
            Due.due("ofVan(" + van + ", 1)", vans.ofVan(van, 1), 15 - van * 5);
        }
        Due.due("ofVan(4, 0)", vans.ofVan(4, 0), NO_SUCH);
        Due.due("ofVan(-1, 0)", vans.ofVan(-1, 0), NO_SUCH);
    }

    /** Visits, vans: "stock: parts of each kind (0 to 99; 0 at first)". */
    private static void stockIs0To99() {
        VisitVans vans = Edges.vans(4);
        for (int van = 0; van < 4; van++) {
            for (int part = 0; part < 5; part++) {
                String of = "load(" + van + ", " + part + ", ";
                Due.due(of + "99)", vans.load(van, part, 99), 0);
                Due.due(of + "100)", vans.load(van, part, 100), BAD_VALUE);
                Due.due(of + "98)", vans.load(van, part, 98), 99);
                Due.due(of + "1)", vans.load(van, part, 1), 98);
                Due.due(of + "-1)", vans.load(van, part, -1), BAD_VALUE);
                Due.due(of + "0)", vans.load(van, part, 0), 1);
                Due.due(of + part + ")", vans.load(van, part, 10 * van + part), 0);
            }
        }
        for (int van = 0; van < 4; van++) {
            for (int part = 0; part < 5; part++) {
                String call = "stock(" + van + ", " + part + ", 0)";
                Due.due(call, vans.stock(van, part, 0), 10 * van + part);
            }
        }
    }

    /** Visits, vans: "(0 to 99; 0 at first)". */
    private static void stockIs0AtFirst() {
        VisitVans vans = Edges.vans(4);
        for (int van = 0; van < 4; van++) {
            for (int part = 0; part < 5; part++) {
                for (int what = 0; what < 3; what++) {
                    String call = "stock(" + van + ", " + part + ", " + what + ")";
                    Due.due(call, vans.stock(van, part, what), 0);
                }
            }
        }
        vans.visit(0, 0, 4, 1, 0, 999);
        Edges.broken("one part of none", vans, 0, 3);
        vans.visit(0, 0, 4, 0, 0, 999);
        Due.due("no part of none", vans.ofVisit(1, 6), 0);
    }
}
