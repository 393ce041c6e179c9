/** What a call answers or throws, as a text. */
final class Answer {
    private Answer() {
    }

    static String of(Check.Call call) {
        try {
            return "" + call.answer();
        } catch (RuntimeException e) {
            return e.getClass().getSimpleName();
        }
    }
}
