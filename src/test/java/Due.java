/** Counts the answers that are not the ones that are due, and prints them. */
final class Due {
    private static int asked = 0;
    private static int wrong = 0;

    private Due() {
    }

    static void due(String call, long got, long want) {
        asked++;
        if (got != want) {
            wrong++;
            System.out.println(call + " answered " + got + ", due is " + want);
        }
    }

    static void due(String call, boolean holds) {
        due(call, holds ? 1 : 0, 1);
    }

    /** How many answers were looked at. */
    static int asked() {
        return asked;
    }

    /** Puts a text on the pad, a piece of up to 8 characters a call, and answers what the last call did. */
    static int putText(VisitVans vans, String text) {
        int answer = 0;
        for (int from = 0; from < text.length(); from += 8) {
            answer = vans.put(codes(text.substring(from, Math.min(text.length(), from + 8))));
        }
        return answer;
    }

    /** Up to 8 characters as the number that put() takes. */
    static long codes(String text) {
        long codes = 0;
        for (int i = 0; i < text.length(); i++) {
            codes = codes << 8 | text.charAt(i);
        }
        return codes;
    }

    static void finish() {
        System.out.println(wrong == 0 ? "all " + asked + " answers are as due" : wrong + " answers are not as due");
        if (wrong != 0) {
            System.exit(1);
        }
    }
}
