/** Answers held against those that are due; what differs is printed, and the test ends with exit code 1. */
abstract class Due {
    static final long REFUSED = 4000000000000000000L;
    private static String sentence = "";
    private static int wrong = 0;
    private static int checks = 0;

    /** What of the document the answers from here on are about. */
    static void about(String newSentence) {
        sentence = newSentence;
    }

    static void due(String what, long got, long want) {
        checks++;
        if (got != want) {
            wrong++;
            System.out.println(sentence + ": " + what + " answered " + got + ", due is " + want);
        }
    }

    /** Each answer that a question has for the numbers 0, 1, 2 .. */
    static void dueEach(String what, Question question, int... want) {
        for (int i = 0; i < want.length; i++) {
            due(what + " of " + i, question.ask(i), want[i]);
        }
    }

    static int tell(SmallerInTheShop x, String text) {
        for (char c : text.toCharArray()) {
            x.letter(c);
        }
        return x.map();
    }

    static void tellRow(SmallerInTheShop x, int... numbers) {
        x.clear();
        for (int number : numbers) {
            x.row(number);
        }
    }

    /** A new map behind told folds (10 times the line and the way). */
    static SmallerInTheShop folded(int... folds) {
        SmallerInTheShop x = new SmallerInTheShop();
        for (int fold : folds) {
            x.fold(fold / 10, fold % 10);
        }
        return x;
    }

    static void end() {
        System.out.println(wrong == 0 ? "all " + checks + " answers are as due" : wrong + " answers are not as due");
        if (wrong != 0) {
            System.exit(1);
        }
    }

    interface Question {
        long ask(int number);
    }
}
