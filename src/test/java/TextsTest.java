/** Promises 18 to 21: put, wipe, fault, carryOut. */
public final class TextsTest {
    private static final int NONE = VisitVans.NONE;

    public static void main(String[] args) {
        putAppends();
        putRefuses();
        putRefusesOneTooMany();
        wipeEmpties();
        textsWithoutFault();
        textsWithAFault();
        textsThatEndTooEarly();
        faultOfALongText();
        carryOutOrders();
        carryOutStopsAtAnError();
        carryOutIsOneChange();
        carryOutRefuses();
        skillsOfAVan();
        Due.finish();
    }

    private static void fault(String text, int due) {
        VisitVans vans = new VisitVans();
        Due.putText(vans, text);
        Due.due("fault() of " + text, vans.fault(), due);
        Due.due("fault() again", vans.fault(), due);
        Due.due("count(14)", vans.count(14), text.length());
    }

    private static void putAppends() {
        VisitVans vans = new VisitVans();
        Due.due("put(x)", vans.put(Due.codes("x")), 1);
        Due.due("put(0)", vans.put(Due.codes("0")), 2);
        Due.due("fault() of x0", vans.fault(), NONE);
        Due.due("put(;l0+0=12)", vans.put(Due.codes(";l0+0=12")), 10);
        Due.due("fault() of x0;l0+0=12", vans.fault(), NONE);
        Due.due("put(!)", vans.put(33), 11);
        Due.due("put(~)", vans.put(126), 12);
        Due.due("put() of eight", vans.put(Due.codes("~~~~~~~~")), 20);
        Due.due("count(14)", vans.count(14), 20);
        Due.due("count(15)", vans.count(15), 0);
        for (int many = 1; many <= 8; many++) {
            Due.due("put() of " + many, new VisitVans().put(Due.codes("!!!!!!!!".substring(0, many))), many);
        }
    }

    private static void putRefuses() {
        VisitVans vans = new VisitVans();
        vans.put('x');
        long[] wrong = {0L, -1L, 32L, 127L, 128L, 255L, 1L, Long.MIN_VALUE, Long.MAX_VALUE, 0x7800L, 0x780078L,
            0x7820L, 0x2078L, 0x7f78L, 0x787878787878787fL, 0x2078787878787878L, 0x7f78787878787878L,
            0x8078787878787878L, 0x7800787878787878L, 0x0100000000000078L, 0x8000000000000078L, 0x10078L};
        for (long characters : wrong) {
            Due.due("put(" + characters + ")", vans.put(characters), VisitVans.BAD_VALUE);
        }
        Due.due("count(14)", vans.count(14), 1);
    }

    private static void putRefusesOneTooMany() {
        VisitVans vans = new VisitVans();
        for (int put = 1; put <= 9; put++) {
            vans.put(Due.codes("xxxxxxxx"));
        }
        Due.due("put() of three", vans.put(Due.codes("xxx")), 75);
        Due.due("put() of six at 75", vans.put(Due.codes("xxxxxx")), VisitVans.TOO_MANY);
        Due.due("put() wrong at 75", vans.put(Due.codes("xxxxx ")), VisitVans.BAD_VALUE);
        Due.due("count(14)", vans.count(14), 75);
        Due.due("put() of five at 75", vans.put(Due.codes("xxxxx")), 80);
        Due.due("put() of one at 80", vans.put('x'), VisitVans.TOO_MANY);
        Due.due("put(0) at 80", vans.put(0L), VisitVans.BAD_VALUE);
        Due.due("count(14)", vans.count(14), 80);
    }

    private static void wipeEmpties() {
        VisitVans vans = new VisitVans();
        Due.due("wipe() of nothing", vans.wipe(), 0);
        Due.putText(vans, "x1;x2;x3;x4");
        Due.due("wipe()", vans.wipe(), 11);
        Due.due("wipe() again", vans.wipe(), 0);
        Due.due("count(14)", vans.count(14), 0);
        Due.due("fault()", vans.fault(), 0);
        Due.due("count(15)", vans.count(15), 0);
        Due.putText(vans, "w5/2");
        Due.due("fault() of the new text", vans.fault(), NONE);
    }

    private static void textsWithoutFault() {
        String[] texts = {"x0", "x9", "x10", "x999", "x100", "v0#0+0*0:0-0", "v999#9+9*9:999-999", "v12#3+4*5:60-7",
            "w0/0", "w999/3210", "w1/0000000000000", "l0+0=0", "l9+9=999", "x0;x0", "w1/1;w1/1", "l1+1=1;v1#1+1*1:1-1",
            "v1#1+1*1:1-1;w5/3;l0+0=5;x0"};
        for (String text : texts) {
            fault(text, NONE);
        }
    }

    private static void textsWithAFault() {
        Object[][] texts = {{"a", 0}, {"X0", 0}, {";", 0}, {"0", 0}, {";x0", 0}, {"xx", 1}, {"x;", 1}, {"x-1", 1},
            {"x00", 2}, {"x01", 2}, {"x1a", 2}, {"x1000", 4}, {"x9999", 4}, {"x12345", 4}, {"x1;;", 3}, {"x1;a", 3},
            {"x1,x2", 2}, {"x1#", 2}, {"v#", 1}, {"v1+", 2}, {"v01#", 2}, {"v1000#", 4}, {"v1##", 3}, {"v1#1#", 4},
            {"v1#11", 4}, {"v1#1++", 5}, {"v1#1+11", 6}, {"v1#1+1*x", 7}, {"v1#1+1*12", 8}, {"v1#1+1*1-", 8},
            {"v1#1+1*1:-", 9}, {"v1#1+1*1:00", 10}, {"v1#1+1*1:1000", 12}, {"v1#1+1*1:1:", 10}, {"v1#1+1*1:1--", 11},
            {"v1#1+1*1:1-1000", 14}, {"v1#1+1*1:1-05", 12}, {"v1#1+1*1:1-1x", 12}, {"w/", 1}, {"w1;", 2}, {"w1//", 3},
            {"w1/4", 3}, {"w1/;", 3}, {"w1/04", 4}, {"w1/32109", 7}, {"w1/3x", 4}, {"w05/1", 2}, {"l+", 1}, {"l11", 2},
            {"l1=", 2}, {"l1++", 3}, {"l1+1+", 4}, {"l1+11", 4}, {"l1+1==", 5}, {"l1+1=01", 6}, {"l1+1=1000", 8},
            {"x1;w1/1;l1+1=1;x1;x1x", 20}, {"x1;v1#1+1*1:1-1;w", 17}, {"x1~", 2}, {"!", 0}};
        for (Object[] row : texts) {
            fault((String) row[0], (Integer) row[1]);
        }
    }

    private static void textsThatEndTooEarly() {
        String text = "v12#3+4*5:67-89;w10/0;l0+1=5;x3";
        // Where a text may end: behind a last number's digits, behind a skill.
        String ends = "-------------xx-----x------x--x";
        for (int length = 0; length <= text.length(); length++) {
            boolean whole = length > 0 && ends.charAt(length - 1) == 'x';
            fault(text.substring(0, length), whole ? NONE : length);
        }
        fault("x1;", 3);
        fault("w1/", 3);
        fault("v999", 4);
    }

    private static void faultOfALongText() {
        StringBuilder text = new StringBuilder();
        for (int i = 0; i < 26; i++) {
            text.append("x").append(i % 10).append(";");
        }
        fault(text + "x1", NONE);
        fault(text + "x", 79);
        fault(text + "x;", 79);
        fault("w1/" + "0123".repeat(19) + "0", NONE);
        fault("w1/" + "0123".repeat(19) + "4", 79);
    }

    private static void carryOutOrders() {
        VisitVans vans = new VisitVans();
        Due.putText(vans, "w10/02;v23#2+4*5:60-789;v1#0+0*0:0-1;l0+4=99;x1");
        Due.due("carryOut()", vans.carryOut(), 5);
        Due.due("count(14)", vans.count(14), 0);
        Due.due("count(0)", vans.count(0), 1);
        Due.due("count(1)", vans.count(1), 1);
        int[] visit = {23, 2, 4, 5, 60, 789, 0, 0, 60, 90};
        for (int what = 0; what < visit.length; what++) {
            Due.due("ofVisit(0, " + what + ")", vans.ofVisit(0, what), visit[what]);
        }
        Due.due("ofVan(0, 0)", vans.ofVan(0, 0), 10);
        Due.due("ofVan(0, 1)", vans.ofVan(0, 1), 5);
        Due.due("stock(0, 4, 2)", vans.stock(0, 4, 2), 94);
    }

    private static void carryOutStopsAtAnError() {
        String[] texts = {"x0", "w100/1", "l0+0=1", "v100#0+0*0:0-0", "v0#4+0*0:0-0", "v0#0+5*0:0-0", "v0#0+0*0:5-4"};
        for (String text : texts) {
            VisitVans vans = new VisitVans();
            Due.putText(vans, text);
            Due.due("carryOut() of " + text, vans.carryOut(), 0);
            Due.due("count(14)", vans.count(14), 0);
            Due.due("count(15)", vans.count(15), 1);
        }
        VisitVans vans = new VisitVans();
        Due.putText(vans, "w1/1;l0+0=99;l0+0=100;w2/2;v0#0+0*0:0-0");
        Due.due("carryOut()", vans.carryOut(), 2);
        Due.due("count(1)", vans.count(1), 1);
        Due.due("count(0)", vans.count(0), 0);
        Due.due("stock(0, 0, 0)", vans.stock(0, 0, 0), 99);
        Due.due("count(14)", vans.count(14), 0);
        Due.putText(vans, "w1/1;w1/1;w1/1;w1/1;w1/1;w1/1");
        Due.due("carryOut() of too many", vans.carryOut(), 3);
        Due.due("count(1)", vans.count(1), 4);
    }

    private static void carryOutIsOneChange() {
        VisitVans vans = new VisitVans();
        vans.set(VisitVans.LAST, 5);
        Due.putText(vans, "w1/1;w1/2;v1#1+0*0:0-0;v1#2+0*0:0-0");
        Due.due("carryOut()", vans.carryOut(), 4);
        Due.due("count(15)", vans.count(15), 2);
        Due.due("count(2)", vans.count(2), 2);
        Due.due("undo()", vans.undo(), 1);
        Due.due("count(0)", vans.count(0), 0);
        Due.due("count(1)", vans.count(1), 0);
        Due.due("count(14)", vans.count(14), 0);
        Due.due("count(12)", vans.count(12), 5);
    }

    private static void carryOutRefuses() {
        VisitVans vans = new VisitVans();
        Due.due("carryOut() of nothing", vans.carryOut(), VisitVans.BAD_TEXT);
        Due.putText(vans, "w1/1;w1/1;");
        Due.due("carryOut() of a text that ends", vans.carryOut(), VisitVans.BAD_TEXT);
        Due.due("count(14)", vans.count(14), 10);
        Due.due("count(1)", vans.count(1), 0);
        Due.due("count(15)", vans.count(15), 0);
        vans.put(Due.codes("x"));
        Due.due("carryOut() still", vans.carryOut(), VisitVans.BAD_TEXT);
        vans.put(Due.codes("7"));
        Due.due("carryOut() of the whole", vans.carryOut(), 2);
        Due.due("count(1)", vans.count(1), 2);
    }

    private static void skillsOfAVan() {
        String[] told = {"0", "1", "2", "3", "33", "0123", "3210", "303", "1211"};
        int[] due = {1, 2, 4, 8, 8, 15, 15, 9, 6};
        for (int i = 0; i < told.length; i++) {
            VisitVans vans = new VisitVans();
            Due.putText(vans, "w99/" + told[i]);
            Due.due("carryOut() of w99/" + told[i], vans.carryOut(), 1);
            Due.due("ofVan(0, 1)", vans.ofVan(0, 1), due[i]);
            Due.due("ofVan(0, 0)", vans.ofVan(0, 0), 99);
        }
    }
}
