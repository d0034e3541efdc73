/** Promises 25 to 27: garnishments with ranks, limits and protected parts, and advances. */
final class GarnishmentsTest {
    private GarnishmentsTest() {
    }

    static void run() {
        wrongArguments();
        ranks();
        beginsAndKeeps();
        roundedDown();
        wrongAdvances();
        advances();
        behindGarnishments();
        advanceOfMonth();
    }

    private static Taxmaze withNets(int... nets) {
        Taxmaze x = new Taxmaze();
        for (int month = 0; month < nets.length; month++) {
            x.bonus(0, month, 0, nets[month]);
        }
        return x;
    }

    private static void wrongArguments() {
        Taxmaze x = new Taxmaze();
        Check.missing("25: person -1", () -> x.garnish(-1, 0, 0, 1, 1, 0));
        Check.missing("25: person 6", () -> x.garnish(6, 0, 0, 1, 1, 0));
        Check.missing("25: month -1", () -> x.garnish(0, -1, 0, 1, 1, 0));
        Check.missing("25: month 24, ahead of the rank", () -> x.garnish(0, 24, 10, 1, 1, 0));
        Check.unfit("25: rank -1", () -> x.garnish(0, 0, -1, 1, 1, 0));
        Check.unfit("25: rank 10", () -> x.garnish(0, 0, 10, 1, 1, 0));
        Check.unfit("25: total 0", () -> x.garnish(0, 0, 0, 0, 1, 0));
        Check.unfit("25: total above", () -> x.garnish(0, 0, 0, 100000001, 1, 0));
        Check.unfit("25: part 0", () -> x.garnish(0, 0, 0, 1, 0, 0));
        Check.unfit("25: part 1001", () -> x.garnish(0, 0, 0, 1, 1001, 0));
        Check.unfit("25: kept -1", () -> x.garnish(0, 0, 0, 1, 1, -1));
        Check.unfit("25: kept above", () -> x.garnish(0, 0, 0, 1, 1, 100000001));
        Check.missing("26: none", () -> x.takenBy(0, 0));
        for (int number = 0; number < 6; number++) {
            Check.same("25: its number", x.garnish(number, 23, 9, 100000000, 1000, 100000000), number);
        }
        Check.refused("25: seven", () -> x.garnish(0, 0, 0, 1, 1, 0));
        Check.unfit("25: the part ahead of seven", () -> x.garnish(0, 0, 0, 1, 0, 0));
        Check.missing("26: garnishment -1", () -> x.takenBy(-1, 0));
        Check.missing("26: garnishment 6", () -> x.takenBy(6, 0));
        Check.missing("26: month -1", () -> x.takenBy(0, -1));
        Check.missing("26: month 24", () -> x.takenBy(0, 24));
        Check.same("26: nothing", x.takenBy(5, 23), 0);
    }

    private static void ranks() {
        Taxmaze x = withNets(100000, 100000, 100000);
        x.garnish(0, 0, 5, 30000, 200, 0);
        x.garnish(0, 0, 1, 1000000, 100, 95000);
        x.garnish(0, 0, 5, 1000000, 1000, 75000);
        long[][] due = {{20000, 5000, 0}, {30000, 10000, 10000}, {30000, 15000, 30000}, {30000, 15000, 30000}};
        for (int month = 0; month < due.length; month++) {
            for (int number = 0; number < 3; number++) {
                Check.same("26: by " + number + " up to " + month, x.takenBy(number, month), due[month][number]);
            }
            Check.same("25: in " + month, x.slip(0, month, Taxmaze.TAKEN), month == 3 ? 0 : 25000);
        }
        Check.same("25: the payout", x.slip(0, 2, Taxmaze.PAYOUT), 75000);
        Check.same("25: the net is as it was", x.slip(0, 2, Taxmaze.NET), 100000);
        x.garnish(0, 1, 0, 90000, 1000, 0);
        Check.same("25: the lowest rank first", x.takenBy(3, 1), 90000);
        Check.same("25: the next has nothing above", x.takenBy(1, 1), 5000);
        Check.same("25: but the last still what is there", x.takenBy(0, 1), 30000);
        Check.same("25: somebody else's net", x.slip(1, 0, Taxmaze.TAKEN), 0);
    }

    private static void beginsAndKeeps() {
        Taxmaze x = withNets(50000, 50000, -50000, 50000);
        x.garnish(0, 1, 0, 100000, 1000, 40000);
        Check.same("25: ahead of its month", x.takenBy(0, 0), 0);
        Check.same("25: above what is kept", x.takenBy(0, 1), 10000);
        Check.same("25: nothing of less than 0", x.takenBy(0, 2), 10000);
        Check.same("25: the net below 0 is the payout", x.slip(0, 2, Taxmaze.PAYOUT), -50000);
        Check.same("25: and again", x.takenBy(0, 3), 20000);
        x.garnish(0, 0, 1, 100000, 1000, 60000);
        Check.same("25: all is kept", x.takenBy(1, 23), 0);
        x.garnish(0, 0, 2, 15000, 1000, 0);
        Check.same("25: no more than its total", x.takenBy(2, 23), 15000);
        x.bonus(0, 0, 0, 10000);
        Check.same("25: as it is now", x.takenBy(2, 0), 10000);
    }

    private static void roundedDown() {
        Taxmaze x = withNets(999, 1999);
        x.garnish(0, 0, 0, 100000, 1, 0);
        Check.same("25: its part, rounded down", x.takenBy(0, 0), 0);
        Check.same("25: one", x.takenBy(0, 1), 1);
    }

    private static void wrongAdvances() {
        Taxmaze x = new Taxmaze();
        Check.missing("27: person -1", () -> x.advance(-1, 1));
        Check.missing("27: person 6, ahead of the cents", () -> x.advance(6, 0));
        Check.unfit("27: cents 0", () -> x.advance(0, 0));
        Check.unfit("27: cents above", () -> x.advance(0, 1000001));
        Check.same("27: the first", x.advance(0, 1000000), 1000000);
        Check.same("27: added", x.advance(0, 1), 1000001);
        Check.same("27: of somebody else", x.advance(1, 5), 5);
        for (int month = 0; month < 23; month++) {
            x.close();
        }
        Check.same("27: in the last month", x.advance(1, 5), 10);
        x.close();
        Check.refused("27: no open month", () -> x.advance(0, 1));
        Check.unfit("27: the cents ahead of that", () -> x.advance(0, 0));
        Check.missing("27: the person ahead of that", () -> x.advance(6, 1));
        Check.same("27: no payments", x.payments(), 0);
    }

    private static void advances() {
        Taxmaze x = withNets(100000, -30000, 100000, 100000);
        x.advance(0, 150000);
        Check.same("27: all is taken", x.slip(0, 0, Taxmaze.PAYOUT), 0);
        Check.same("27: nothing where nothing is", x.slip(0, 1, Taxmaze.PAYOUT), -30000);
        Check.same("27: what was left", x.slip(0, 2, Taxmaze.PAYOUT), 50000);
        Check.same("27: none is left", x.slip(0, 3, Taxmaze.PAYOUT), 100000);
        Check.same("27: the net has nothing of it", x.slip(0, 0, Taxmaze.NET), 100000);
        Check.same("27: nor what garnishments took", x.slip(0, 0, Taxmaze.TAKEN), 0);
    }

    private static void behindGarnishments() {
        Taxmaze x = withNets(100000, 100000);
        x.advance(0, 100000);
        x.garnish(0, 0, 0, 70000, 1000, 0);
        Check.same("27: garnishments first", x.takenBy(0, 0), 70000);
        Check.same("27: then the advance", x.slip(0, 0, Taxmaze.PAYOUT), 0);
        Check.same("27: and the rest of it", x.slip(0, 1, Taxmaze.PAYOUT), 30000);
    }

    private static void advanceOfMonth() {
        Taxmaze x = withNets(1000, 1000, 1000);
        x.close();
        x.advance(0, 1500);
        Check.same("27: not ahead of its month", x.slip(0, 0, Taxmaze.PAYOUT), 1000);
        Check.same("27: in its month", x.slip(0, 1, Taxmaze.PAYOUT), 0);
        x.close();
        Check.same("27: it is no payment", x.payments(), 1);
        x.advance(0, 100);
        Check.same("27: all that is left of both", x.slip(0, 2, Taxmaze.PAYOUT), 400);
    }
}
