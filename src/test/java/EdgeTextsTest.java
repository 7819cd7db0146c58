import java.util.ArrayList;
import java.util.List;
import java.util.function.Supplier;

/** Boundary cases of the texts, and of the promises 18 to 21: put, wipe, fault, carryOut. */
public final class EdgeTextsTest {
    private static final int BAD_VALUE = -2, BAD_TEXT = -3, TOO_MANY = -4, NONE = -6;
    private static final int LAST = 1;

    /** What stands ahead of each number of an order, and behind it. */
    private static final String[][] NUMBERS = {{"v", "#0+0*0:0-0"}, {"v0#0+0*0:", "-0"}, {"v0#0+0*0:0-", ""},
        {"w", "/0"}, {"l0+0=", ""}, {"x", ""}};
    /** What stands ahead of each digit of an order, and behind it. */
    private static final String[][] DIGITS = {{"v0#", "+0*0:0-0"}, {"v0#0+", "*0:0-0"}, {"v0#0+0*", ":0-0"},
        {"l", "+0=0"}, {"l0+", "=0"}};
    private static final String DIGIT = "0123456789";

    public static void main(String[] args) {
        atMost80Characters();
        aRowOfOrders();
        aSemicolonAlone();
        eachCharacterOfAVisit();
        eachCharacterOfAVan();
        eachCharacterOfALoad();
        eachCharacterOfADrop();
        vIsVisit();
        wIsVan();
        lIsLoad();
        xIsDrop();
        aDigitIs0To9();
        aSkillOfAVanIs0To3();
        oneSkillCanBeToldTwice();
        aNumberIs0To999();
        aNumberWithoutLeadingZeros();
        aDigitAbove999();
        theFirstCharacterThatCannotStand();
        tooEarlyAnEnd();
        anEmptyText();
        aFullTextThatEndsTooEarly();
        putTakes1To8Characters();
        putOfEachCode();
        putOfTheLastCharacterFirst();
        putOfNoCharacter();
        putOf8BitsThatAre0();
        putOfACodeOutOfRange();
        putOfABitAboveTheEnd();
        putReturnsTheLength();
        putAtMost80();
        putIsNoChange();
        wipeReturnsTheLength();
        faultOrNone();
        carryOutUpToTheFirstError();
        carryOutUpToEachError();
        carryOutOfArgumentsAtTheirEnds();
        carryOutOfFullRoads();
        carryOutOfTheLongestTexts();
        carryOutEmptiesThePad();
        carryOutIsOneChange();
        carryOutReturnsHowMany();
        carryOutOfAFaultyText();
        Due.finish();
    }

    private static VisitVans with(String text) {
        VisitVans vans = new VisitVans();
        Due.due("the length of " + text, Due.putText(vans, text), text.length());
        return vans;
    }

    private static void fault(String text, int due) {
        VisitVans vans = with(text);
        Due.due("fault() of " + text, vans.fault(), due);
        if (due != NONE) {
            Due.due("carryOut() of " + text, vans.carryOut(), BAD_TEXT);
            Due.due("the length of " + text + " behind it", vans.count(14), text.length());
            Due.due("fault() of " + text + " behind it", vans.fault(), due);
            Due.due("count(15) behind it", vans.count(15), 0);
        }
    }

    /** Texts: "The pad is a text of at most 80 characters, a row of orders" - 79, 80 and 81, whole and faulty. */
    private static void atMost80Characters() {
        String whole = Edges.longText();
        Due.due("its length", whole.length(), 80);
        fault(whole.substring(0, 78), 78);
        fault(whole.substring(0, 77), NONE);
        fault(whole.substring(0, 79), 79);
        fault(whole, NONE);
        VisitVans vans = with(whole);
        Due.due("put() of an 81st character", vans.put('1'), TOO_MANY);
        Due.due("count(14) behind it", vans.count(14), 80);
        Due.due("fault() behind it", vans.fault(), NONE);
        VisitVans almost = with(whole.substring(0, 79));
        Due.due("put() of the 80th and 81st", almost.put(Due.codes("01")), TOO_MANY);
        Due.due("count(14) behind it", almost.count(14), 79);
        Due.due("put() of the 80th", almost.put('0'), 80);
        Due.due("fault() of 80", almost.fault(), NONE);
    }

    /** Texts: "text = order { ";" order }" - one, two, and as many as a pad can hold. */
    private static void aRowOfOrders() {
        StringBuilder text = new StringBuilder("x0");
        for (int orders = 1; orders <= 27; orders++) {
            fault(text.toString(), NONE);
            VisitVans vans = Edges.visits(20);
            Due.putText(vans, text.toString());
            Due.due("carryOut() of " + orders, vans.carryOut(), Math.min(orders, 20));
            Due.due("count(0) behind it", vans.count(0), Math.max(20 - orders, 0));
            text.append(";x0");
        }
        for (String first : new String[] {"v1#1+1*1:1-1", "w1/1", "l1+1=1", "x1"}) {
            for (String second : new String[] {"v1#1+1*1:1-1", "w1/1", "l1+1=1", "x1"}) {
                fault(first + ";" + second, NONE);
                fault(first + second, first.length());
                fault(first + "," + second, first.length());
                fault(first + ":" + second, first.length());
            }
        }
    }

    /** Texts: "text = order { ";" order }" - no semicolon ahead of the first order, behind the last, or twice. */
    private static void aSemicolonAlone() {
        fault(";", 0);
        fault(";x0", 0);
        fault("x0;", 3);
        fault("x0;;", 3);
        fault("x0;;x0", 3);
        fault("x0;x0;", 6);
        fault("x0;x0", NONE);
        fault("w0/0;", 5);
        fault("l0+0=0;", 7);
        fault("v0#0+0*0:0-0;", 13);
    }

    /** At each place of a text, what can stand there can, and nothing else: then the fault is there. */
    private static void eachCharacter(String text, String... allowed) {
        fault(text, NONE);
        for (int at = 0; at < text.length(); at++) {
            for (char sign = 33; sign <= 126; sign++) {
                VisitVans vans = new VisitVans();
                Due.putText(vans, text.substring(0, at) + sign);
                boolean can = allowed[at].indexOf(sign) >= 0;
                int fault = vans.fault();
                Due.due(sign + " behind " + text.substring(0, at) + " is at fault", (fault == at) == !can);
                Due.due("or is no fault before its end", fault == at || fault == at + 1 || fault == NONE);
                Due.putText(vans, text.substring(at + 1));
                if (!can) {
                    Due.due(sign + " in " + text + " at " + at, vans.fault(), at);
                }
            }
        }
    }

    /** Texts: ""v" number "#" digit "+" digit "*" digit ":" number "-" number". */
    private static void eachCharacterOfAVisit() {
        eachCharacter("v12#3+4*5:67-890", "vwlx", DIGIT, DIGIT + "#", DIGIT + "#", DIGIT, "+", DIGIT, "*", DIGIT, ":",
            DIGIT, DIGIT + "-", DIGIT + "-", DIGIT, DIGIT + ";", DIGIT + ";");
        eachCharacter("v0#0+9*9:0-0", "vwlx", DIGIT, "#", DIGIT, "+", DIGIT, "*", DIGIT, ":", DIGIT, "-", DIGIT);
        eachCharacter("v999#9+9*9:999-999", "vwlx", DIGIT, DIGIT + "#", DIGIT + "#", "#", DIGIT, "+", DIGIT, "*", DIGIT,
            ":", DIGIT, DIGIT + "-", DIGIT + "-", "-", DIGIT, DIGIT + ";", DIGIT + ";");
    }

    /** Texts: ""w" number "/" digit { digit }". */
    private static void eachCharacterOfAVan() {
        eachCharacter("w98/3210", "vwlx", DIGIT, DIGIT + "/", DIGIT + "/", "0123", "0123;", "0123;", "0123;");
        eachCharacter("w0/3;x0", "vwlx", DIGIT, "/", "0123", "0123;", "vwlx", DIGIT);
        eachCharacter("w999/0", "vwlx", DIGIT, DIGIT + "/", DIGIT + "/", "/", "0123");
    }

    /** Texts: ""l" digit "+" digit "=" number". */
    private static void eachCharacterOfALoad() {
        eachCharacter("l0+9=100", "vwlx", DIGIT, "+", DIGIT, "=", DIGIT, DIGIT + ";", DIGIT + ";");
        eachCharacter("l9+0=0;w0/0", "vwlx", DIGIT, "+", DIGIT, "=", DIGIT, ";", "vwlx", DIGIT, "/", "0123");
    }

    /** Texts: ""x" number". */
    private static void eachCharacterOfADrop() {
        eachCharacter("x100;x0", "vwlx", DIGIT, DIGIT + ";", DIGIT + ";", ";", "vwlx", DIGIT);
        eachCharacter("x0;l0+0=0", "vwlx", DIGIT, ";", "vwlx", DIGIT, "+", DIGIT, "=", DIGIT);
    }

    /** An order does what its call does: both are carried out, or both are refused, and tell the same then. */
    private static void isItsCall(String order, Supplier<VisitVans> made, Edges.Call call) {
        VisitVans told = made.get();
        VisitVans called = made.get();
        told.wipe();
        called.wipe();
        Due.putText(told, order);
        Due.due("fault() of " + order, told.fault(), NONE);
        Due.due("carryOut() of " + order, told.carryOut(), call.of(called) < 0 ? 0 : 1);
        for (int what = 0; what < 14; what++) {
            Due.due(order + ": count(" + what + ")", told.count(what), called.count(what));
        }
        for (int number = 0; number < 20; number++) {
            for (int what = 0; what < 10; what++) {
                String of = order + ": ofVisit(" + number + ", " + what + ")";
                Due.due(of, told.ofVisit(number, what), called.ofVisit(number, what));
            }
        }
        for (int van = 0; van < 4; van++) {
            Due.due(order + ": ofVan(" + van + ", 0)", told.ofVan(van, 0), called.ofVan(van, 0));
            Due.due(order + ": ofVan(" + van + ", 1)", told.ofVan(van, 1), called.ofVan(van, 1));
            for (int part = 0; part < 5; part++) {
                String of = order + ": stock(" + van + ", " + part + ", 0)";
                Due.due(of, told.stock(van, part, 0), called.stock(van, part, 0));
            }
        }
    }

    private static void isItsCallEverywhere(String order, Edges.Call call) {
        isItsCall(order, Edges::empty, call);
        isItsCall(order, Edges::some, call);
        isItsCall(order, Edges::full, call);
    }

    /**
     * Texts: ""v": visit() at a place, with a skill, a kind of parts, how many, and the window" - each at its ends and
     * beside.
     */
    private static void vIsVisit() {
        int[][] values = {{0, 1, 98, 99, 100, 999}, {0, 3, 4, 9}, {0, 4, 5, 9}, {0, 1, 8, 9}, {0, 499, 500, 501, 999},
            {0, 499, 500, 501, 998, 999}};
        for (int at = 0; at < 6; at++) {
            for (int value : values[at]) {
                int[] n = {50, 1, 2, 3, at == 5 ? 500 : 0, at == 4 ? 500 : 999};
                n[at] = value;
                isItsCallEverywhere("v" + n[0] + "#" + n[1] + "+" + n[2] + "*" + n[3] + ":" + n[4] + "-" + n[5],
                    vans -> vans.visit(n[0], n[1], n[2], n[3], n[4], n[5]));
            }
        }
    }

    /**
     * Texts: ""w": van() with a home and skills" - each home at its ends and beside, and each set but the empty one.
     */
    private static void wIsVan() {
        for (int home : new int[] {0, 1, 98, 99, 100, 999}) {
            isItsCallEverywhere("w" + home + "/2", vans -> vans.van(home, 4));
        }
        for (int skills = 1; skills <= 15; skills++) {
            int set = skills;
            StringBuilder told = new StringBuilder("w7/");
            for (int skill = 0; skill < 4; skill++) {
                told.append((skills & (1 << skill)) != 0 ? "" + skill : "");
            }
            isItsCallEverywhere(told.toString(), vans -> vans.van(7, set));
        }
    }

    /** Texts: ""l": load() of a van, of a kind of parts, so many" - each at its ends and beside. */
    private static void lIsLoad() {
        for (int van : new int[] {0, 1, 2, 3, 4, 9}) {
            for (int part : new int[] {0, 4, 5, 9}) {
                for (int many : new int[] {0, 1, 98, 99, 100, 999}) {
                    isItsCallEverywhere("l" + van + "+" + part + "=" + many, vans -> vans.load(van, part, many));
                }
            }
        }
    }

    /** Texts: ""x": drop() a visit." - the first, the last, and the next. */
    private static void xIsDrop() {
        for (int visit : new int[] {0, 1, 4, 5, 6, 18, 19, 20, 21, 100, 999}) {
            isItsCallEverywhere("x" + visit, vans -> vans.drop(visit));
        }
    }

    /** Texts: "A digit is 0 to 9" - exactly one, not the characters beside 0 and 9. */
    private static void aDigitIs0To9() {
        for (String[] around : DIGITS) {
            int at = around[0].length();
            for (char digit = '0'; digit <= '9'; digit++) {
                fault(around[0] + digit + around[1], NONE);
            }
            fault(around[0] + "/" + around[1], at);
            fault(around[0] + ":" + around[1], at);
            fault(around[0] + around[1], at);
            fault(around[0] + "00" + around[1], at + 1);
            fault(around[0] + "10" + around[1], at + 1);
        }
    }

    /** Texts: "(0 to 3 for a skill of "w")". */
    private static void aSkillOfAVanIs0To3() {
        for (String before : new String[] {"w0/", "w0/0", "w0/3", "w999/0123"}) {
            for (char skill = '0'; skill <= '3'; skill++) {
                fault(before + skill, NONE);
                fault(before + skill + ";x0", NONE);
            }
            for (char sign : new char[] {'4', '5', '9', '/', ':', '.', '+', '-'}) {
                fault(before + sign, before.length());
            }
        }
        fault("w0/;x0", 3);
        fault("w0/", 3);
        fault("w0", 2);
    }

    /** Texts: ""w": van() with a home and skills (0 to 3 each; one can be told twice)" - from one to as many as fit. */
    private static void oneSkillCanBeToldTwice() {
        String[] told = {"0", "1", "2", "3", "00", "33", "010", "0123", "3210", "33221100", "12", "21"};
        int[] due = {1, 2, 4, 8, 1, 8, 3, 15, 15, 15, 6, 6};
        for (int i = 0; i < told.length; i++) {
            VisitVans vans = with("w7/" + told[i]);
            Due.due("carryOut() of w7/" + told[i], vans.carryOut(), 1);
            Due.due("ofVan(0, 1) of " + told[i], vans.ofVan(0, 1), due[i]);
        }
        for (char skill = '0'; skill <= '3'; skill++) {
            VisitVans vans = with("w0/" + String.valueOf(skill).repeat(77));
            Due.due("fault() of 77 times " + skill, vans.fault(), NONE);
            Due.due("carryOut() of 77 times " + skill, vans.carryOut(), 1);
            Due.due("ofVan(0, 1) of 77 times " + skill, vans.ofVan(0, 1), 1 << (skill - '0'));
        }
        VisitVans last = with("w0/" + "0".repeat(76) + "3");
        Due.due("carryOut() of 0 and a last 3", last.carryOut(), 1);
        Due.due("ofVan(0, 1) of 0 and a last 3", last.ofVan(0, 1), 9);
    }

    /** Texts: "a number 0 to 999" - of each order. */
    private static void aNumberIs0To999() {
        for (String[] around : NUMBERS) {
            for (String number : new String[] {"0", "1", "9", "10", "11", "99", "100", "101", "990", "998", "999"}) {
                fault(around[0] + number + around[1], NONE);
            }
            fault(around[0] + "1000" + around[1], around[0].length() + 3);
            fault(around[0] + "-1" + around[1], around[0].length());
            fault(around[0] + "+1" + around[1], around[0].length());
            fault(around[0] + around[1], around[0].length());
        }
    }

    /** Texts: "without leading zeros" - 0 alone stands, and no digit behind it. */
    private static void aNumberWithoutLeadingZeros() {
        for (String[] around : NUMBERS) {
            fault(around[0] + "0" + around[1], NONE);
            for (char digit = '0'; digit <= '9'; digit++) {
                fault(around[0] + "0" + digit + around[1], around[0].length() + 1);
                fault(around[0] + "00" + digit + around[1], around[0].length() + 1);
                fault(around[0] + "1" + digit + around[1], NONE);
            }
        }
    }

    /** Texts: "(also of a digit by which a number would be above 999)". */
    private static void aDigitAbove999() {
        for (String[] around : NUMBERS) {
            for (String three : new String[] {"100", "101", "999", "990"}) {
                for (char digit = '0'; digit <= '9'; digit++) {
                    fault(around[0] + three + digit + around[1], around[0].length() + 3);
                    fault(around[0] + three + digit, around[0].length() + 3);
                }
            }
        }
    }

    /**
     * Texts: "The fault is the index of the first character that cannot stand at its place when the text is read from
     * left to right".
     */
    private static void theFirstCharacterThatCannotStand() {
        fault("a", 0);
        fault("0", 0);
        fault("!!", 0);
        fault("V0", 0);
        fault("xx", 1);
        fault("x!!", 1);
        fault("x0!~", 2);
        fault("x0;!", 3);
        fault("x0;x;x", 4);
        fault("x01;x01", 2);
        fault("x0;w0/4;w0/4", 6);
        String whole = Edges.longText();
        for (int at = 0; at < 80; at++) {
            fault(whole.substring(0, at) + "!" + whole.substring(at + 1), at);
        }
    }

    /** Texts: "if there is none and the text ends too early (also if it is empty), it is the length of the text". */
    private static void tooEarlyAnEnd() {
        String[] texts = {"v10#0+0*0:10-10", "w10/01", "l0+0=10", "x10"};
        String[] ends = {"-------------ww", "----ww", "-----ww", "-ww"};
        for (int i = 0; i < texts.length; i++) {
            for (int length = 1; length <= texts[i].length(); length++) {
                boolean whole = ends[i].charAt(length - 1) == 'w';
                fault(texts[i].substring(0, length), whole ? NONE : length);
                fault("x0;" + texts[i].substring(0, length), whole ? NONE : length + 3);
            }
            fault(texts[i] + ";", texts[i].length() + 1);
        }
    }

    /** Texts: "(also if it is empty)". */
    private static void anEmptyText() {
        VisitVans vans = new VisitVans();
        Due.due("fault() of a new one", vans.fault(), 0);
        Due.due("carryOut() of a new one", vans.carryOut(), BAD_TEXT);
        vans.put('x');
        Due.due("fault() of x", vans.fault(), 1);
        vans.wipe();
        Due.due("fault() behind wipe()", vans.fault(), 0);
        Due.due("carryOut() behind wipe()", vans.carryOut(), BAD_TEXT);
        Due.putText(vans, "x0");
        Due.due("fault() of x0", vans.fault(), NONE);
        Due.due("carryOut() of x0", vans.carryOut(), 0);
        Due.due("fault() behind carryOut()", vans.fault(), 0);
        Due.due("carryOut() again", vans.carryOut(), BAD_TEXT);
        Due.due("count(15)", vans.count(15), 1);
    }

    /** Texts: "it is the length of the text" - of 80 characters, and of 79. */
    private static void aFullTextThatEndsTooEarly() {
        String rest = "x0;".repeat(25);
        fault("x10;" + rest + "x", 80);
        fault("x10;" + rest, 79);
        fault("x100;" + rest, 80);
        fault("x10;x0;" + "v0#0+0*0:0-0;".repeat(5) + "l0+0=0;x", 80);
        fault("w1/" + "0".repeat(76) + ";", 80);
        fault("w1/" + "0".repeat(77), NONE);
        fault("w1/" + "0".repeat(76), NONE);
        fault("w1/" + "0".repeat(75) + ";x", 80);
        fault("w1/" + "0".repeat(74) + ";x9", NONE);
    }

    /** Promise 18: "`characters`: 1 to 8 characters". */
    private static void putTakes1To8Characters() {
        String text = "v1#2+3*4";
        for (int many = 1; many <= 8; many++) {
            VisitVans vans = new VisitVans();
            Due.due("put() of " + many, vans.put(Due.codes(text.substring(0, many))), many);
            Due.due("count(14) behind " + many, vans.count(14), many);
            Due.due("fault() behind " + many, vans.fault(), many);
            Due.due("put() of " + many + " greatest", vans.put(0x7e7e7e7e7e7e7e7eL >>> 8 * (8 - many)), 2 * many);
            Due.due("put() of " + many + " least", vans.put(0x2121212121212121L >>> 8 * (8 - many)), 3 * many);
        }
        VisitVans none = new VisitVans();
        Due.due("put() of none", none.put(0L), BAD_VALUE);
        Due.due("count(14) behind none", none.count(14), 0);
    }

    /** Promise 18: "a code is not 33 to 126" - each code 0 to 255, at each place of 1 to 8 characters. */
    private static void putOfEachCode() {
        for (int many = 1; many <= 8; many++) {
            long others = 0x7878787878787878L >>> 8 * (8 - many);
            for (int place = 0; place < many; place++) {
                for (long code = 0; code <= 255; code++) {
                    long characters = others & ~(255L << 8 * place) | code << 8 * place;
                    int due = code >= 33 && code <= 126 ? many : BAD_VALUE;
                    if (code == 0 && place == many - 1 && many > 1) {
                        due = many - 1;
                    }
                    VisitVans vans = new VisitVans();
                    Due.due("put(" + characters + ")", vans.put(characters), due);
                    Due.due("count(14) behind it", vans.count(14), Math.max(due, 0));
                }
            }
        }
    }

    /** Promise 18: "its lowest 8 bits are the last character, the next 8 bits the one before". */
    private static void putOfTheLastCharacterFirst() {
        VisitVans two = new VisitVans();
        Due.due("put() of x1", two.put((long) 'x' << 8 | '1'), 2);
        Due.due("fault() of x1", two.fault(), NONE);
        two.wipe();
        Due.due("put() of 1x", two.put((long) '1' << 8 | 'x'), 2);
        Due.due("fault() of 1x", two.fault(), 0);
        VisitVans eight = new VisitVans();
        Due.due("put() of l0+1=98;", eight.put(0x6c302b313d39383bL), 8);
        Due.due("put() of w1/2", eight.put(0x77312f32L), 12);
        Due.due("fault()", eight.fault(), NONE);
        Due.due("carryOut() without that van", eight.carryOut(), 0);
        eight.van(0, 0);
        eight.put(0x6c302b313d39383bL);
        eight.put(0x77312f32L);
        Due.due("carryOut() with that van", eight.carryOut(), 2);
        Due.due("stock(0, 1, 0)", eight.stock(0, 1, 0), 98);
        Due.due("ofVan(1, 0)", eight.ofVan(1, 0), 1);
        Due.due("ofVan(1, 1)", eight.ofVan(1, 1), 4);
    }

    /** Promise 18: "BAD_VALUE if there is no character" - on an empty pad, and on a full one. */
    private static void putOfNoCharacter() {
        Edges.refusedEverywhere("put(0)", vans -> vans.put(0L), BAD_VALUE);
        Edges.refusedEverywhere("put(256)", vans -> vans.put(256L), BAD_VALUE);
        Edges.refusedEverywhere("put() of x above no character", vans -> vans.put((long) 'x' << 8), BAD_VALUE);
        Edges.refusedEverywhere("put() of x at the top", vans -> vans.put((long) 'x' << 56), BAD_VALUE);
        Edges.refusedEverywhere("put() of the least", vans -> vans.put(Long.MIN_VALUE), BAD_VALUE);
    }

    /** Promise 18: "a code is not 33 to 126" - 32, 33, 126 and 127, the first and the last, also on a full pad. */
    private static void putOfACodeOutOfRange() {
        for (long code : new long[] {1, 31, 32, 127, 128, 159, 160, 161, 254, 255}) {
            Edges.refusedEverywhere("put(" + code + ")", vans -> vans.put(code), BAD_VALUE);
            String call = "put() of x beside " + code;
            Edges.changesNothing(call, Edges::some, vans -> vans.put(code << 8 | 'x'), BAD_VALUE);
            Edges.changesNothing(call, Edges::some, vans -> vans.put('x' << 8 | code), BAD_VALUE);
        }
        VisitVans vans = new VisitVans();
        Due.due("put(33)", vans.put(33), 1);
        Due.due("put(126)", vans.put(126), 2);
        Due.due("put(32)", vans.put(32), BAD_VALUE);
        Due.due("put(127)", vans.put(127), BAD_VALUE);
        Due.due("put(-1)", vans.put(-1L), BAD_VALUE);
        Due.due("put() of the greatest", vans.put(Long.MAX_VALUE), BAD_VALUE);
        Due.due("count(14)", vans.count(14), 2);
    }

    /**
     * Promise 18: "8 bits that are 0 mean that there are no more characters, and everything above them has to be 0,
     * too."
     */
    private static void putOf8BitsThatAre0() {
        for (int many = 1; many <= 7; many++) {
            long text = 0x7878787878787878L >>> 8 * (8 - many);
            VisitVans vans = new VisitVans();
            Due.due(many + " and 8 bits that are 0", vans.put(text), many);
            for (int above = many + 1; above <= 7; above++) {
                Due.due(many + ", 0 and x at " + above, vans.put(text | (long) 'x' << 8 * above), BAD_VALUE);
                Due.due(many + ", 0 and 1 at " + above, vans.put(text | 1L << 8 * above), BAD_VALUE);
                Due.due(many + ", 0 and ~ at " + above, vans.put(text | 255L << 8 * above), BAD_VALUE);
            }
            Due.due("count(14) behind it", vans.count(14), many);
        }
    }

    /** Promise 18: "or a bit above 8 bits that are 0 is not 0" - each bit above each end. */
    private static void putOfABitAboveTheEnd() {
        VisitVans vans = with("x0");
        for (int many = 1; many <= 6; many++) {
            long text = 0x7878787878787878L >>> 8 * (8 - many);
            for (int bit = 8 * many + 8; bit < 64; bit++) {
                Due.due(many + " and the bit " + bit, vans.put(text | 1L << bit), BAD_VALUE);
            }
            Due.due("a whole character above " + many, vans.put(text | 0x78L << 8 * many + 8), BAD_VALUE);
        }
        Due.due("count(14)", vans.count(14), 2);
        Due.due("fault()", vans.fault(), NONE);
        VisitVans bits = with("x0");
        for (int bit = 8; bit < 64; bit++) {
            Due.due("no character and the bit " + bit, bits.put(1L << bit), BAD_VALUE);
        }
        Due.due("count(14)", bits.count(14), 2);
    }

    /** Promise 18: "Returns the length of the pad then" - from 1 to 80, by 1 to 8 characters each. */
    private static void putReturnsTheLength() {
        for (int many = 1; many <= 8; many++) {
            VisitVans vans = new VisitVans();
            int length = 0;
            while (length + many <= 80) {
                length += many;
                Due.due("put() of " + many, vans.put(0x2121212121212121L >>> 8 * (8 - many)), length);
                Due.due("count(14)", vans.count(14), length);
            }
            Due.due("put() of " + many + " more", vans.put(0x2121212121212121L >>> 8 * (8 - many)), TOO_MANY);
            Due.due("wipe()", vans.wipe(), length);
        }
    }

    /** Promise 18: "TOO_MANY if the pad would be longer than 80" - each length beside each number of characters. */
    private static void putAtMost80() {
        for (int length = 72; length <= 80; length++) {
            for (int many = 1; many <= 8; many++) {
                VisitVans vans = new VisitVans();
                Due.putText(vans, "~".repeat(length));
                long text = 0x7878787878787878L >>> 8 * (8 - many);
                boolean fits = length + many <= 80;
                Due.due(many + " behind " + length, vans.put(text), fits ? length + many : TOO_MANY);
                Due.due("count(14) behind it", vans.count(14), fits ? length + many : length);
                Due.due("a wrong code behind it", vans.put(text & ~255L | 32), BAD_VALUE);
                Due.due("wipe() behind it", vans.wipe(), fits ? length + many : length);
                Due.due("put() on an empty one", vans.put(text), many);
            }
        }
        Edges.changesNothing("put() on 80", Edges::full, vans -> vans.put('!'), TOO_MANY);
        Edges.changesNothing("put() of 8 on 80", Edges::full, vans -> vans.put(Due.codes("x0;x0;x0")), TOO_MANY);
    }

    /** Promise 18: "Appends characters to the pad." - and is no change: it records nothing, and undo() leaves it. */
    private static void putIsNoChange() {
        VisitVans vans = new VisitVans();
        vans.van(1, 1);
        vans.put('x');
        vans.put('0');
        Due.due("count(15)", vans.count(15), 1);
        Due.due("undo()", vans.undo(), 0);
        Due.due("count(14)", vans.count(14), 2);
        Due.due("fault()", vans.fault(), NONE);
    }

    /** Promise 19: "Empties the pad, and returns the length that it had." - of none, one, 79 and 80 characters. */
    private static void wipeReturnsTheLength() {
        for (int length : new int[] {0, 1, 8, 79, 80}) {
            VisitVans vans = new VisitVans();
            vans.van(1, 1);
            Due.putText(vans, "~".repeat(length));
            Due.due("wipe() of " + length, vans.wipe(), length);
            Due.due("count(14) behind it", vans.count(14), 0);
            Due.due("fault() behind it", vans.fault(), 0);
            Due.due("wipe() again", vans.wipe(), 0);
            Due.due("count(15)", vans.count(15), 1);
            Due.due("put() behind it", Due.putText(vans, "x0;".repeat(26) + "x0"), 80);
            Due.due("fault() of the new text", vans.fault(), NONE);
            Due.due("wipe() of the new text", vans.wipe(), 80);
        }
        VisitVans shorter = with("w1/1;w2/2");
        shorter.wipe();
        Due.putText(shorter, "w3/");
        Due.due("nothing is left behind a shorter text", shorter.fault(), 3);
    }

    /** Promise 20: "Returns the fault of the pad, NONE if there is none." - the least fault, the greatest, and none. */
    private static void faultOrNone() {
        VisitVans vans = new VisitVans();
        Due.due("fault() of an empty one", vans.fault(), 0);
        Due.due("fault() again", vans.fault(), 0);
        vans.put('!');
        Due.due("fault() of !", vans.fault(), 0);
        vans.wipe();
        Due.putText(vans, "x1");
        Due.due("fault() of x1", vans.fault(), NONE);
        Due.due("fault() again", vans.fault(), NONE);
        Due.due("count(14)", vans.count(14), 2);
        Due.due("count(15)", vans.count(15), 0);
        fault("x0;".repeat(26) + "x!", 79);
        fault("x10;" + "x0;".repeat(25) + "x", 80);
        fault("x0;".repeat(26) + "x9", NONE);
        // A text without fault may still have orders that return an error.
        fault("x999;v999#9+9*9:999-0;w999/3;l9+9=999", NONE);
    }

    /**
     * Promise 21: "Carries the orders of the pad out, one after the other, up to the first one that returns an error" -
     * at each place.
     */
    private static void carryOutUpToTheFirstError() {
        for (int wrong = 0; wrong <= 4; wrong++) {
            List<String> orders = new ArrayList<>();
            for (int order = 0; order < 4; order++) {
                orders.add(order == wrong ? "w100/0" : "v" + order + "#0+0*0:0-0");
            }
            VisitVans vans = with(String.join(";", orders));
            Due.due("carryOut(), the order " + wrong + " is wrong", vans.carryOut(), wrong);
            Due.due("count(0)", vans.count(0), wrong);
            for (int visit = 0; visit < wrong; visit++) {
                Due.due("ofVisit(" + visit + ", 0)", vans.ofVisit(visit, 0), visit);
            }
            Due.due("count(1)", vans.count(1), 0);
            Due.due("count(14)", vans.count(14), 0);
            Due.due("count(15)", vans.count(15), 1);
        }
    }

    /**
     * Promise 21: "up to the first one that returns an error" - each error of each order; the order behind it is not
     * carried out.
     */
    private static void carryOutUpToEachError() {
        String[] wrong = {"v0#4+0*0:0-0", "v0#0+5*0:0-0", "v100#0+0*0:0-0", "v0#0+0*0:1-0", "v999#9+9*9:999-999",
            "w100/0", "w999/0123", "l1+0=0", "l9+0=0", "l0+5=0", "l0+9=0", "l0+0=100", "l0+0=999", "x1", "x20", "x999"};
        for (String order : wrong) {
            VisitVans vans = new VisitVans();
            vans.van(5, 1);
            vans.visit(5, 0, 0, 0, 0, 0);
            Due.putText(vans, "l0+4=7;" + order + ";w1/1;x0;l0+4=8");
            Due.due("carryOut() with " + order, vans.carryOut(), 1);
            Due.due("count(0)", vans.count(0), 1);
            Due.due("count(1)", vans.count(1), 1);
            Due.due("stock(0, 4, 0)", vans.stock(0, 4, 0), 7);
            Due.due("count(14)", vans.count(14), 0);
            Due.due("count(15)", vans.count(15), 3);
            Due.due("undo()", vans.undo(), 2);
            Due.due("stock(0, 4, 0) behind undo()", vans.stock(0, 4, 0), 0);
        }
    }

    /** Promise 21: "Carries the orders of the pad out" - with arguments at the ends of their ranges. */
    private static void carryOutOfArgumentsAtTheirEnds() {
        VisitVans vans = with("w0/0;w99/0123;l0+0=0;l1+4=99;v0#0+0*0:0-0;v99#3+4*9:999-999");
        Due.due("carryOut() of the ends", vans.carryOut(), 6);
        int[][] visits = {{0, 0, 0, 0, 0, 0, 0, 0, 0, 30}, {99, 3, 4, 9, 999, 999, 0, 1, 999, 1029}};
        for (int visit = 0; visit < 2; visit++) {
            for (int what = 0; what < 10; what++) {
                Due.due("ofVisit(" + visit + ", " + what + ")", vans.ofVisit(visit, what), visits[visit][what]);
            }
        }
        Due.due("ofVan(0, 0)", vans.ofVan(0, 0), 0);
        Due.due("ofVan(0, 1)", vans.ofVan(0, 1), 1);
        Due.due("ofVan(1, 0)", vans.ofVan(1, 0), 99);
        Due.due("ofVan(1, 1)", vans.ofVan(1, 1), 15);
        Due.due("stock(1, 4, 0)", vans.stock(1, 4, 0), 99);
        Due.due("stock(1, 4, 2)", vans.stock(1, 4, 2), 90);
        Due.putText(vans, "x1;x0");
        Due.due("carryOut() of both", vans.carryOut(), 2);
        Due.due("count(0)", vans.count(0), 0);
    }

    /**
     * Promise 21: "up to the first one that returns an error" - the 20th visit and the 4th van are carried out, the
     * next not.
     */
    private static void carryOutOfFullRoads() {
        VisitVans visits = Edges.visits(18);
        Due.putText(visits, "v1#0+0*0:0-0;v2#0+0*0:0-0;v3#0+0*0:0-0;v4#0+0*0:0-0");
        Due.due("carryOut() beside 18 visits", visits.carryOut(), 2);
        Due.due("count(0)", visits.count(0), 20);
        Due.due("ofVisit(19, 0)", visits.ofVisit(19, 0), 2);
        Due.putText(visits, "v3#0+0*0:0-0;x0");
        Due.due("carryOut() beside 20 visits", visits.carryOut(), 0);
        Due.putText(visits, "x19;v3#0+0*0:0-0;x20;x0");
        Due.due("carryOut() with room made", visits.carryOut(), 2);
        Due.due("ofVisit(19, 0)", visits.ofVisit(19, 0), 3);
        VisitVans vans = with("w1/0;w2/0;w3/0;w4/0;w5/0;w6/0");
        Due.due("carryOut() of six vans", vans.carryOut(), 4);
        Due.due("count(1)", vans.count(1), 4);
        Due.due("ofVan(3, 0)", vans.ofVan(3, 0), 4);
        Due.putText(vans, "w7/0");
        Due.due("carryOut() of a fifth van", vans.carryOut(), 0);
        Due.putText(vans, "l3+0=5;l4+0=5");
        Due.due("carryOut() of the last van's stock", vans.carryOut(), 1);
    }

    /** Promise 21: "Carries the orders of the pad out" - as many as 80 characters can hold. */
    private static void carryOutOfTheLongestTexts() {
        VisitVans loads = Edges.vans(1);
        Due.putText(loads, "l0+0=1;l0+1=2;l0+2=3;l0+3=4;l0+4=5;l0+0=6;l0+1=7;l0+2=8;l0+3=9;l0+4=10;l0+0=11");
        Due.due("count(14)", loads.count(14), 78);
        Due.due("carryOut() of eleven", loads.carryOut(), 11);
        int[] stock = {11, 7, 8, 9, 10};
        for (int part = 0; part < 5; part++) {
            Due.due("stock(0, " + part + ", 0)", loads.stock(0, part, 0), stock[part]);
        }
        VisitVans drops = Edges.visits(20);
        Due.putText(drops, "x19;x18;x17;x16;x15;x14;x13;x12;x11;x10;x9;x8;x7;x6;x5;x4;x3;x2;x1;x0;x0;x0;x0");
        Due.due("count(14)", drops.count(14), 78);
        Due.due("carryOut() of 23", drops.carryOut(), 20);
        Due.due("count(0)", drops.count(0), 0);
        VisitVans six = with("v1#0+0*0:0-0;v2#0+0*0:0-0;v3#0+0*0:0-0;v4#0+0*0:0-0;v5#0+0*0:0-0;v60#0+0*0:1-10");
        Due.due("count(14)", six.count(14), 79);
        Due.due("carryOut() of six", six.carryOut(), 6);
        Due.due("ofVisit(5, 0)", six.ofVisit(5, 0), 60);
        Due.due("ofVisit(5, 5)", six.ofVisit(5, 5), 10);
    }

    /** Promise 21: "and empties the pad" - also a full one, and if none is carried out. */
    private static void carryOutEmptiesThePad() {
        for (String text : new String[] {"w1/1", "x0", "w1/1;x0", "x0;w1/1", Edges.longText()}) {
            VisitVans vans = with(text);
            vans.carryOut();
            Due.due("count(14) behind " + text, vans.count(14), 0);
            Due.due("wipe() behind " + text, vans.wipe(), 0);
            Due.due("fault() behind " + text, vans.fault(), 0);
            Due.due("carryOut() behind " + text, vans.carryOut(), BAD_TEXT);
            Due.due("put() behind " + text, Due.putText(vans, "w2/2"), 4);
            Due.due("fault() of the next", vans.fault(), NONE);
            Due.due("carryOut() of the next", vans.carryOut(), 1);
        }
    }

    /** Promise 21: "This is a change (one, with all of them; also if none is carried out)." */
    private static void carryOutIsOneChange() {
        String[] texts = {"x0", "w1/1", "w1/1;w1/1", "w1/1;v1#0+0*0:0-0;l0+0=5;x0;w2/2;w3/3;w3/3;w4/0", "w1/1;x0;w2/2"};
        int[] due = {0, 1, 2, 7, 1};
        for (int i = 0; i < texts.length; i++) {
            VisitVans vans = new VisitVans();
            vans.set(LAST, 99);
            Due.putText(vans, texts[i]);
            Due.due("carryOut() of " + texts[i], vans.carryOut(), due[i]);
            Due.due("count(15)", vans.count(15), 2);
            Due.due("undo()", vans.undo(), 1);
            Due.due("count(0)", vans.count(0), 0);
            Due.due("count(1)", vans.count(1), 0);
            Due.due("count(12)", vans.count(12), 99);
            Due.due("count(14)", vans.count(14), 0);
            Due.due("undo()", vans.undo(), 0);
            Due.due("count(12)", vans.count(12), 30);
        }
    }

    /** Promise 21: "Returns how many orders were carried out" - not the number that the last one returned. */
    private static void carryOutReturnsHowMany() {
        VisitVans vans = Edges.visits(20);
        Due.putText(vans, "x19");
        Due.due("carryOut() of one that returns 19", vans.carryOut(), 1);
        Due.putText(vans, "w1/1;l0+0=99");
        Due.due("carryOut() of two that return 0", vans.carryOut(), 2);
        Due.putText(vans, "l0+0=5");
        Due.due("carryOut() of one that returns 99", vans.carryOut(), 1);
        Due.putText(vans, "x19");
        Due.due("carryOut() of none", vans.carryOut(), 0);
        VisitVans last = Edges.visits(1);
        Due.putText(last, "x0;w1/1");
        Due.due("carryOut() of one that returns 0, and another", last.carryOut(), 2);
    }

    /**
     * Promise 21: "BAD_TEXT if the pad has a fault (then it stays)" - empty, at fault at its first and at its last
     * character, and too short.
     */
    private static void carryOutOfAFaultyText() {
        String[] texts = {"", "!", "x", "w1/1;", "w1/1;!", "w1/1;w2/4", "w1/1;w1000/1", "w1/1;x01",
            "x0;".repeat(26) + "x!", "x10;" + "x0;".repeat(25) + "x"};
        for (String text : texts) {
            VisitVans vans = Edges.visits(2);
            Due.putText(vans, text);
            int fault = vans.fault();
            for (int time = 0; time < 2; time++) {
                Due.due("carryOut() of " + text, vans.carryOut(), BAD_TEXT);
                Due.due("count(14)", vans.count(14), text.length());
                Due.due("fault()", vans.fault(), fault);
                Due.due("count(0)", vans.count(0), 2);
                Due.due("count(1)", vans.count(1), 0);
                Due.due("count(15)", vans.count(15), 2);
            }
        }
        VisitVans mended = new VisitVans();
        Due.putText(mended, "w1/1;w2/");
        Due.due("carryOut() of what ends too early", mended.carryOut(), BAD_TEXT);
        mended.put('2');
        Due.due("carryOut() of the whole", mended.carryOut(), 2);
        Due.due("ofVan(1, 1)", mended.ofVan(1, 1), 4);
    }
}
