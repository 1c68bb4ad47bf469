/** Compares answers with those that are due, and ends the test. */
final class Checks {
    private int made = 0;
    private int wrong = 0;

    void due(String call, long got, long want) {
        made++;
        if (got != want) {
            wrong++;
            System.out.println(call + " answered " + got + ", due is " + want);
        }
    }

    void holds(String what, boolean holds) {
        due(what, holds ? 1 : 0, 1);
    }

    void finish() {
        System.out.println(made + " checks, " + wrong + " wrong");
        if (wrong > 0 || made == 0) {
            System.exit(1);
        }
    }

    /** The number with which put is given these characters. */
    static long packed(String text) {
        long number = 0;
        for (int index = 0; index < text.length(); index++) {
            number = number << 8 | text.charAt(index);
        }
        return number;
    }

    /** Puts a text of any length on the pad and returns what the last put answered. */
    static int putAll(NoticeShifts shifts, String text) {
        int answer = 0;
        for (int from = 0; from < text.length(); from += 8) {
            answer = shifts.put(packed(text.substring(from, Math.min(text.length(), from + 8))));
        }
        return answer;
    }
}
