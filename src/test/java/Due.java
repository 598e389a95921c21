/** Compares answers with those that are due, and tells of each that is another. */
final class Due {
    private int wrong;
    private int asked;
    private String sentence = "";

    /** The sentence of the document by which the next answers are due. */
    void says(String words) {
        sentence = "'" + words + "' ";
    }

    void is(String call, long want, long got) {
        asked++;
        if (got != want) {
            wrong++;
            System.out.println(sentence + call + " answered " + got + ", due is " + want);
        }
    }

    /** To be called last: ends the program with 1 if an answer was wrong. */
    void end() {
        System.out.println(asked + " answers, " + wrong + " wrong");
        if (wrong != 0 || asked == 0) {
            System.exit(1);
        }
    }

    /** Types a text, however long, and answers what the last call of type did. */
    static int typed(BookOfWills x, String text) {
        int answer = 0;
        for (int from = 0; from < text.length(); from += 8) {
            String piece = text.substring(from, Math.min(from + 8, text.length()));
            long w = 0;
            for (int i = 0; i < piece.length(); i++) {
                w = w << 8 | piece.charAt(i);
            }
            answer = x.type(w, piece.length());
            if (answer < 0) {
                throw new IllegalStateException("a test types what THE TAPE does not take: " + text);
            }
        }
        return answer;
    }

    static int rules(BookOfWills x, String text) {
        typed(x, text);
        return x.rules();
    }

    static int wills(BookOfWills x, String text) {
        typed(x, text);
        return x.wills();
    }
}
