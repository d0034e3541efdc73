import java.util.List;

/** Two objects of which the same is told: one is then asked for what has to be refused, and has to stay as the other. */
final class Twins {
    interface Telling {
        void tell(Taxmaze x);
    }

    private Twins() {
    }

    static void missing(String what, Telling before, String method, long... numbers) {
        refused(what, before, "IndexOutOfBoundsException", method, numbers);
    }

    static void unfit(String what, Telling before, String method, long... numbers) {
        refused(what, before, "IllegalArgumentException", method, numbers);
    }

    static void barred(String what, Telling before, String method, long... numbers) {
        refused(what, before, "IllegalStateException", method, numbers);
    }

    private static void refused(String what, Telling before, String due, String method, long... numbers) {
        Taxmaze asked = new Taxmaze();
        Taxmaze left = new Taxmaze();
        before.tell(asked);
        before.tell(left);
        String answer = Calls.answer(asked, method, numbers);
        Check.tell(answer.equals("throws " + due), what, answer, due);
        List<String> untouched = Picture.of(left);
        String difference = Picture.difference(Picture.of(asked), untouched);
        Check.tell(difference.isEmpty(), what + ", and nothing changed", difference, "nothing changed");
    }
}
