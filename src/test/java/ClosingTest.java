/** Promises 28 to 35: closing, payments, those that come back, filings and their corrections. */
final class ClosingTest {
    private ClosingTest() {
    }

    static void run() {
        months();
        payments();
        wrongPayments();
        comingBack();
        changesForThePast();
        owed();
        filed();
        corrections();
    }

    private static void months() {
        Taxmaze x = new Taxmaze();
        for (int month = 0; month < 24; month++) {
            Check.same("28: the open one", x.open(), month);
            Check.same("29: nobody is paid", x.close(), 0);
        }
        Check.same("28: none is open", x.open(), 24);
        Check.refused("29: none to close", () -> x.close());
        Check.same("30: none", x.payments(), 0);
        Check.same("33: nothing", x.owed(0), 0);
        x.bonus(0, 23, 0, 5);
        Check.same("33: all 24 months", x.owed(0), 5);
    }

    private static void payments() {
        Taxmaze x = new Taxmaze();
        x.bonus(4, 0, 0, 400);
        x.bonus(1, 0, 0, 100);
        x.bonus(2, 0, 0, -200);
        x.bonus(0, 1, 0, 50);
        Check.same("29: two", x.close(), 2);
        Check.same("30: two", x.payments(), 2);
        x.bonus(4, 1, 2, 7);
        Check.same("29: two more", x.close(), 2);
        Check.same("30: four", x.payments(), 4);
        long[][] due = {{1, 0, 100, 0}, {4, 0, 400, 0}, {0, 1, 50, 0}, {4, 1, 7, 0}};
        for (int payment = 0; payment < 4; payment++) {
            for (int what = 0; what < 4; what++) {
                Check.same("31: " + what + " of " + payment, x.payment(payment, what), due[payment][what]);
            }
        }
        Check.same("29: nothing more is owed", x.close(), 0);
        x.bonus(2, 3, 0, 200);
        Check.same("29: nothing above 0", x.close(), 0);
        x.bonus(2, 4, 0, 1);
        Check.same("29: a cent", x.close(), 1);
        Check.same("31: a cent", x.payment(4, 2) * 10 + x.payment(4, 1), 14);
    }

    private static void wrongPayments() {
        Taxmaze x = new Taxmaze();
        Check.missing("31: none, ahead of what", () -> x.payment(0, 4));
        Check.missing("32: none", () -> x.comeBack(0));
        x.bonus(0, 0, 0, 100);
        x.close();
        Check.missing("31: payment -1", () -> x.payment(-1, 0));
        Check.missing("31: payment 1", () -> x.payment(1, 0));
        Check.unfit("31: what -1", () -> x.payment(0, -1));
        Check.unfit("31: what 4", () -> x.payment(0, 4));
        Check.missing("32: payment -1", () -> x.comeBack(-1));
        Check.missing("32: payment 1", () -> x.comeBack(1));
        Check.missing("33: person -1", () -> x.owed(-1));
        Check.missing("33: person 6", () -> x.owed(6));
        Check.missing("34: place -1", () -> x.filed(-1, 0, true));
        Check.missing("34: place 3", () -> x.filed(3, 0, true));
        Check.missing("34: month -1", () -> x.filed(0, -1, false));
        Check.missing("34: month 24", () -> x.filed(0, 24, false));
        Check.missing("35: place -1", () -> x.corrections(-1, 0));
        Check.missing("35: place 3", () -> x.corrections(3, 0));
        Check.missing("35: month -1", () -> x.corrections(0, -1));
        Check.missing("35: month 24", () -> x.corrections(0, 24));
    }

    private static void comingBack() {
        Taxmaze x = new Taxmaze();
        x.bonus(3, 0, 0, 1000);
        x.close();
        Check.same("33: nothing is owed", x.owed(3), 0);
        Check.same("32: its cents", x.comeBack(0), 1000);
        Check.same("31: it came back", x.payment(0, 3), 1);
        Check.same("31: its cents are told still", x.payment(0, 2), 1000);
        Check.refused("32: twice", () -> x.comeBack(0));
        Check.same("33: it is owed again", x.owed(3), 1000);
        Check.same("30: no payment is gone", x.payments(), 1);
        x.bonus(3, 1, 0, 500);
        Check.same("29: it is paid again", x.close(), 1);
        Check.same("31: with what came later", x.payment(1, 2), 1500);
        Check.same("31: that one did not come back", x.payment(1, 3), 0);
        Check.same("33: nothing more", x.owed(3), 0);
    }

    private static void changesForThePast() {
        Taxmaze x = new Taxmaze();
        x.contract(0, 0, 0, 59, false, 480, 100000);
        x.close();
        x.pay(0, 0, 130000);
        Check.same("33: more for the past", x.owed(0), 160000);
        x.close();
        Check.same("31: is paid now", x.payment(1, 2), 160000);
        x.pay(0, 0, 100000);
        Check.same("33: less for the past", x.owed(0), -60000);
        Check.same("29: is not paid", x.close(), 0);
        x.bonus(0, 3, 0, 60000);
        Check.same("33: but set off", x.owed(0), 0);
        Check.same("29: nothing", x.close(), 0);
        x.bonus(0, 4, 0, 10);
        Check.same("29: later", x.close(), 1);
        Check.same("31: ten", x.payment(2, 2), 10);
    }

    private static void owed() {
        Taxmaze x = new Taxmaze();
        x.bonus(0, 0, 0, 100);
        x.bonus(0, 1, 0, 1000);
        Check.same("33: up to the open month", x.owed(0), 100);
        x.close();
        Check.same("33: less what was paid", x.owed(0), 1000);
        x.advance(0, 600);
        Check.same("33: the payouts, behind advances", x.owed(0), 400);
        x.garnish(0, 0, 0, 30, 1000, 0);
        Check.same("33: and garnishments", x.owed(0), 370);
        x.bonus(0, 0, 0, -5000);
        Check.same("33: below 0", x.owed(0), -5000 + 370 - 100);
    }

    private static Taxmaze withTables() {
        Taxmaze x = new Taxmaze();
        x.contribution(1, 0, 100, 100000000);
        x.bracket(1, 0, 0, 1000000000, 200);
        x.bonus(0, 0, 1, 1000);
        x.bonus(5, 0, 1, 2000);
        x.bonus(5, 0, 2, 9000);
        x.bonus(3, 0, 0, 70);
        x.contribution(0, 0, 100, 100000000);
        x.bonus(0, 1, 1, 1000);
        return x;
    }

    private static void filed() {
        Taxmaze x = withTables();
        Check.same("34: not closed", x.filed(1, 0, true), 0);
        x.close();
        Check.same("34: taxes of all people", x.filed(1, 0, true), 180 + 360);
        Check.same("34: contributions of all people", x.filed(1, 0, false), 300);
        Check.same("34: of the place 2", x.filed(2, 0, true) + x.filed(2, 0, false), 0);
        Check.same("34: of the place 0", x.filed(0, 0, true) * 100 + x.filed(0, 0, false), 7);
        Check.same("34: the next is not closed", x.filed(1, 1, true), 0);
        x.bonus(5, 0, 1, 0);
        Check.same("34: what was filed last", x.filed(1, 0, true), 540);
        x.close();
        Check.same("34: corrected", x.filed(1, 0, true), 180);
        Check.same("34: both", x.filed(1, 0, false), 100);
        Check.same("34: the next", x.filed(1, 1, true), 180);
        x.bonus(0, 1, 1, -10000);
        x.close();
        Check.same("34: it can be below 0", x.filed(1, 1, true), -180);
    }

    private static void corrections() {
        Taxmaze x = withTables();
        x.close();
        Check.same("35: the first filing is none", x.corrections(1, 0), 0);
        x.close();
        Check.same("35: nothing changed", x.corrections(1, 0), 0);
        x.state(0, 0, 1);
        x.contribution(2, 0, 10, 100000000);
        Check.same("35: not ahead of a closing", x.corrections(1, 0) + x.corrections(2, 0), 0);
        x.close();
        Check.same("35: only the taxes differ", x.corrections(1, 0), 1);
        Check.same("34: the contributions do not", x.filed(1, 0, false), 300);
        Check.same("35: the next month too", x.corrections(1, 1), 1);
        Check.same("35: not the one that was closed", x.corrections(1, 2), 0);
        Check.same("35: only the contributions differ", x.corrections(2, 0), 1);
        Check.same("34: those", x.filed(2, 0, false), 90);
        Check.same("35: another place", x.corrections(0, 0), 0);
        x.bonus(0, 0, 1, 5);
        x.bonus(0, 0, 1, 1000);
        x.close();
        Check.same("35: changed and changed back", x.corrections(1, 0), 1);
        x.bonus(5, 0, 1, 1);
        x.close();
        Check.same("35: again", x.corrections(1, 0), 2);
        x.bonus(5, 0, 1, 2000);
        x.close();
        Check.same("35: changed back later", x.corrections(1, 0), 3);
    }
}
