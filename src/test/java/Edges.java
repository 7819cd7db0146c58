import java.util.Arrays;
import java.util.function.Supplier;

/** What the tests of the boundary cases share: states, numbers beside a range, and what a call leaves unchanged. */
final class Edges {
    static final int NO_SUCH = -1, BAD_VALUE = -2, BAD_TEXT = -3, TOO_MANY = -4, NOT_POSSIBLE = -5, NONE = -6;
    static final int PACE = 0, LAST = 1, SHIFT = 2;

    private Edges() {
    }

    interface Call {
        long of(VisitVans vans);
    }

    /** Numbers that are not least to most: those next to it, the ends of int, and some that wrap around into it. */
    static int[] outside(int least, int most) {
        int[] far = {least - 1, least - 2, most + 1, most + 2, -1, -2, -6, Integer.MIN_VALUE, Integer.MIN_VALUE + least,
            Integer.MIN_VALUE + most, Integer.MAX_VALUE, Integer.MAX_VALUE - 1, least + 256, most - 256, least + 65536,
            most + 65536, least + (1 << 28), most + (1 << 29), least + (1 << 30), least - (1 << 30)};
        return Arrays.stream(far).filter(value -> value < least || value > most).distinct().toArray();
    }

    static VisitVans empty() {
        return new VisitVans();
    }

    /** Two vans and six visits of every promise, a slot of two, a history that is full, and a text without fault. */
    static VisitVans some() {
        VisitVans vans = new VisitVans();
        vans.set(PACE, 3);
        vans.set(LAST, 40);
        vans.set(SHIFT, 100);
        vans.van(10, 1);
        vans.van(50, 2);
        vans.visit(20, 0, 0, 0, 50, 60);
        vans.save(0);
        vans.load(0, 1, 5);
        vans.load(1, 4, 99);
        vans.visit(50, 1, 4, 9, 10, 60);
        vans.visit(30, 0, 1, 2, 70, 80);
        vans.visit(30, 2, 0, 0, 70, 80);
        vans.visit(30, 0, 1, 9, 70, 80);
        vans.visit(99, 1, 0, 0, 0, 5);
        Due.putText(vans, "x0;w9/3");
        return vans;
    }

    /** As many visits and vans as there can be, both slots, a history that is full, and a text of 80 characters. */
    static VisitVans full() {
        VisitVans vans = new VisitVans();
        for (int van = 0; van < 4; van++) {
            vans.van(50, 1 << van);
        }
        vans.save(0);
        for (int visit = 0; visit < 20; visit++) {
            vans.visit(50 + visit % 3, visit % 4, visit % 5, visit % 10, visit * 10, 999 - visit * 20);
        }
        vans.save(1);
        vans.load(0, 0, 99);
        vans.load(1, 1, 9);
        vans.load(2, 2, 8);
        vans.load(3, 3, 7);
        Due.putText(vans, longText());
        return vans;
    }

    /** 27 orders in 80 characters, as many as a pad can hold. */
    static String longText() {
        StringBuilder text = new StringBuilder();
        for (int order = 0; order < 26; order++) {
            text.append("x").append(order * 7 % 10).append(";");
        }
        return text.append("x0").toString();
    }

    /** Two vans with all skills at 0 and 99, and nothing else. */
    static VisitVans twoVans() {
        VisitVans vans = new VisitVans();
        vans.van(0, 15);
        vans.van(99, 15);
        return vans;
    }

    /** Only visits, each like the other: at 0, without parts, with the widest window. */
    static VisitVans visits(int many) {
        VisitVans vans = new VisitVans();
        for (int visit = 0; visit < many; visit++) {
            vans.visit(0, 0, 0, 0, 0, 999);
        }
        return vans;
    }

    static VisitVans vans(int many) {
        VisitVans vans = new VisitVans();
        for (int van = 0; van < many; van++) {
            vans.van(van, 15);
        }
        return vans;
    }

    /** A call answers what is due, and leaves all as it was: what is told, the history, the slots and the pad. */
    static void changesNothing(String call, Supplier<VisitVans> made, Call asked, long due) {
        Due.due(call, asked.of(made.get()), due);
        String before = picture(made, vans -> 0);
        String after = picture(made, asked);
        Due.due(call + " changes nothing", after.equals(before));
    }

    /** The same on an object that is empty, one with some of all, and a full one. */
    static void refusedEverywhere(String call, Call asked, long due) {
        changesNothing(call + " of an empty one", Edges::empty, asked, due);
        changesNothing(call + " of one with some", Edges::some, asked, due);
        changesNothing(call + " of a full one", Edges::full, asked, due);
    }

    /** Every view is taken from an object of its own, so that none is called more than 512 times. */
    private static String picture(Supplier<VisitVans> made, Call first) {
        StringBuilder text = new StringBuilder();
        for (int half = 0; half < 2; half++) {
            for (int undone = 0; undone <= 7; undone++) {
                VisitVans vans = after(made, first);
                for (int i = 0; i < undone; i++) {
                    text.append(vans.undo()).append(' ');
                }
                tell(vans, half, text);
            }
            for (int slot = 0; slot < 2; slot++) {
                VisitVans vans = after(made, first);
                text.append(vans.restore(slot)).append(' ');
                tell(vans, half, text);
            }
            VisitVans vans = after(made, first);
            text.append(vans.carryOut()).append(' ');
            tell(vans, half, text);
        }
        return text.toString();
    }

    private static VisitVans after(Supplier<VisitVans> made, Call first) {
        VisitVans vans = made.get();
        first.of(vans);
        return vans;
    }

    private static void tell(VisitVans vans, int half, StringBuilder text) {
        if (half == 0) {
            tellVisits(vans, text);
        } else {
            tellVans(vans, text);
        }
    }

    private static void tellVisits(VisitVans vans, StringBuilder text) {
        for (int what = 0; what < 16; what++) {
            text.append(vans.count(what)).append(' ');
        }
        for (int visit = 0; visit < vans.count(0); visit++) {
            for (int what = 0; what < 10; what++) {
                text.append(vans.ofVisit(visit, what)).append(' ');
            }
        }
        for (int part = 0; part < 5; part++) {
            text.append(vans.wanted(part)).append(' ');
        }
        text.append(vans.share()).append(' ').append(vans.meanWay(0)).append(' ').append(vans.meanWay(1)).append(' ');
        text.append(vans.fault()).append(' ').append(vans.slowest()).append('\n');
    }

    private static void tellVans(VisitVans vans, StringBuilder text) {
        int many = vans.count(1);
        for (int van = 0; van < many; van++) {
            for (int what = 0; what < 8; what++) {
                text.append(vans.ofVan(van, what)).append(' ');
            }
            for (int part = 0; part < 5; part++) {
                for (int what = 0; what < 3; what++) {
                    text.append(vans.stock(van, part, what)).append(' ');
                }
            }
            int events = vans.ofVan(van, 7);
            for (int event = 0; event < events; event++) {
                for (int what = 0; what < 4; what++) {
                    text.append(vans.event(van, event, what)).append(' ');
                }
            }
        }
        text.append('\n');
    }

    /** What there is about a visit's promise: ofVisit() of 6 to 9. */
    static void promise(String of, VisitVans vans, int visit, int promise, int van, int begins, int ends) {
        int[] due = {promise, van, begins, ends};
        for (int what = 6; what < 10; what++) {
            Due.due(of + ": ofVisit(" + visit + ", " + what + ")", vans.ofVisit(visit, what), due[what - 6]);
        }
    }

    static void broken(String of, VisitVans vans, int visit, int reason) {
        promise(of, vans, visit, reason, NONE, NONE, NONE);
    }

    /** All events of a van, each of four numbers: its sort, begin, end and visit. */
    static void events(String of, VisitVans vans, int van, int[]... due) {
        Due.due(of + ": ofVan(" + van + ", 7)", vans.ofVan(van, 7), due.length);
        for (int event = 0; event < due.length; event++) {
            for (int what = 0; what < 4; what++) {
                String call = ": event(" + van + ", " + event + ", " + what + ")";
                Due.due(of + call, vans.event(van, event, what), due[event][what]);
            }
        }
        Due.due(of + ": no event behind the last", vans.event(van, due.length, 0), NO_SUCH);
    }
}
