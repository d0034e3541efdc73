import java.util.ArrayList;
import java.util.List;

/**
 * What an object answers to many questions, and to some tellings behind them: objects with the same picture hold the
 * same. Together with what was told ahead of it, the picture of an object stays within its 512 calls.
 */
final class Picture {
    /** The most calls that one picture makes. */
    static final int MOST_CALLS = 300;

    private static final int[] MONTHS = {0, 1, 3, 23};
    private static final int[] LINES = {Taxmaze.CONTRIBUTION, Taxmaze.TAX, Taxmaze.NET, Taxmaze.PAYOUT};

    private final Taxmaze on;
    private final List<String> lines = new ArrayList<>();

    private Picture(Taxmaze on) {
        this.on = on;
    }

    /** Looks at an object; what is told at the end of it makes it useless for more. */
    static List<String> of(Taxmaze on) {
        Picture picture = new Picture(on);
        picture.closing();
        picture.contracts();
        picture.people();
        picture.tables();
        picture.elements();
        picture.tellings();
        return picture.lines;
    }

    /** The first line in which two pictures differ, empty if none does. */
    static String difference(List<String> got, List<String> due) {
        for (int i = 0; i < Math.min(got.size(), due.size()); i++) {
            if (!got.get(i).equals(due.get(i))) {
                return got.get(i) + ", not " + due.get(i);
            }
        }
        return got.size() == due.size() ? "" : "other calls";
    }

    private void ask(String name, long... numbers) {
        lines.add(Calls.text(name, numbers) + " = " + Calls.answer(on, name, numbers));
    }

    private void closing() {
        ask("open");
        ask("payments");
        for (int payment = 0; payment < 3; payment++) {
            for (int what = 0; what < 4; what++) {
                ask("payment", payment, what);
            }
        }
        for (int place = 0; place < 3; place++) {
            ask("corrections", place, 0);
            for (int month = 0; month < 2; month++) {
                ask("filed", place, month, 0);
                ask("filed", place, month, 1);
            }
        }
    }

    private void contracts() {
        for (int contract = 0; contract < 10; contract++) {
            ask("minutes", contract, 50);
            ask("overtime", contract, 7);
            ask("base", contract, 1);
            ask("base", contract, 2);
            ask("base", contract, 3);
        }
    }

    private void people() {
        for (int person = 0; person < 6; person++) {
            for (int month : MONTHS) {
                for (int what : LINES) {
                    ask("slip", person, month, what);
                }
            }
            for (int place = 0; place < 3; place++) {
                ask("slipIn", person, 1, place, Taxmaze.GROSS);
            }
            ask("leaveLeft", person, 59);
            ask("leaveLeft", person, 361);
            ask("leaveLeft", person, 425);
            ask("leaveLeft", person, 719);
            ask("pensionOf", person, 23);
            ask("owed", person);
            ask("takenBy", person, 3);
        }
    }

    private void tables() {
        for (int place = 0; place < 3; place++) {
            for (int state = 0; state < 2; state++) {
                ask("yearTax", place, state, 0, 10000000000L);
                ask("yearTax", place, state, 4, 10000000000L);
            }
        }
    }

    private void elements() {
        for (int element = 0; element < 6; element++) {
            ask("order", element);
            ask("elementOf", element, 0, 1);
            ask("elementOf", element, 3, 1);
        }
    }

    /** What is only seen by telling more: numbers that count on, and what was told before. */
    private void tellings() {
        ask("pay", 0, 60, 1);
        ask("bonus", 0, 1, 2, 1);
        ask("bonus", 0, 1, 0, 1);
        ask("word", Taxmaze.PLUS, 0);
        ask("word", Taxmaze.MONEY, 1);
        ask("word", Taxmaze.PLUS, 0);
        ask("element", 0, 63);
        ask("elementOf", 0, 0, 0);
        ask("bracket", 0, 0, 3, 999999999, 1);
        ask("shift", 0, 90, 0, 1);
        ask("leave", 0, 98);
        ask("garnish", 0, 0, 0, 1, 1, 0);
        ask("contract", 0, 0, 0, 0, 1, 60, 0);
        ask("advance", 0, 1);
        ask("comeBack", 0);
        ask("close");
    }
}
