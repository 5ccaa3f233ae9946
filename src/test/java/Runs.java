/**
 * Sentences of the document, each with a run of calls on a new object that shows whether it holds. A run is a text
 * like "addStack 3 = 0; 2 x addStack 1; heightOf 3 = index": calls with their numbers, the answer that is due, and
 * ahead of a call how many times it is made. Without an answer a call may answer what it likes, but not throw.
 * MIN and MAX are the ends of int; index, argument and state are the exceptions.
 */
final class Runs {
    /** An object is used for so many calls at most. */
    static final int MOST_CALLS = 512;

    private final Check check;

    Runs(Check check) {
        this.check = check;
    }

    void holds(String sentence, String... texts) {
        Stevedore x = new Stevedore();
        int calls = 0;
        for (String text : texts) {
            for (String call : text.split(";")) {
                calls += call.isBlank() ? 0 : made(sentence, x, call.trim());
            }
        }
        check.holds(sentence + ": a run of 1 to 512 calls", calls > 0 && calls <= MOST_CALLS);
    }

    private int made(String sentence, Stevedore x, String text) {
        String[] sides = text.split(" = ");
        String call = sides[0].trim();
        int times = 1;
        int sign = call.indexOf(" x ");
        if (sign >= 0) {
            times = Integer.parseInt(call.substring(0, sign));
            call = call.substring(sign + 3);
        }
        for (int i = 0; i < times; i++) {
            String got = answer(Calls.FACE, x, call);
            if (sides.length > 1) {
                check.same(sentence + ": " + call, due(sides[1].trim()), got);
            } else {
                check.holds(sentence + ": " + call + " answers, " + got, !got.startsWith("throws"));
            }
        }
        return times;
    }

    /** Makes the calls of a run, whatever they answer, and tells how many these were. */
    static int make(Calls calls, Object object, String text) {
        int made = 0;
        for (String part : text.split(";")) {
            String call = part.trim();
            int sign = call.indexOf(" x ");
            int times = call.isEmpty() ? 0 : sign < 0 ? 1 : Integer.parseInt(call.substring(0, sign));
            for (int i = 0; i < times; i++) {
                answer(calls, object, sign < 0 ? call : call.substring(sign + 3));
            }
            made += times;
        }
        return made;
    }

    /** Room for one truck in each of these slots, and for none in all others. */
    static String roomOnlyIn(int... slots) {
        int[] rooms = new int[16];
        for (int slot : slots) {
            rooms[slot] = 1;
        }
        StringBuilder text = new StringBuilder();
        for (int slot = 0; slot < rooms.length; slot++) {
            text.append("setRoom ").append(slot).append(' ').append(rooms[slot]).append("; ");
        }
        return text.toString();
    }

    /** What a call answers that is told as a text. */
    static String answer(Calls calls, Object object, String text) {
        String[] words = text.split(" ");
        int[] numbers = new int[words.length - 1];
        for (int i = 0; i < numbers.length; i++) {
            numbers[i] = number(words[i + 1]);
        }
        String name = words[0].equals("work") ? "work" + numbers.length : words[0];
        return calls.told(object, name, numbers);
    }

    private static int number(String word) {
        switch (word) {
            case "MIN":
                return Integer.MIN_VALUE;
            case "MAX":
                return Integer.MAX_VALUE;
            case "import":
                return 0;
            case "export":
                return 1;
            default:
                return Integer.parseInt(word);
        }
    }

    private static String due(String word) {
        switch (word) {
            case "index":
                return "throws java.lang.IndexOutOfBoundsException";
            case "argument":
                return "throws java.lang.IllegalArgumentException";
            case "state":
                return "throws java.lang.IllegalStateException";
            default:
                return word;
        }
    }
}
