/** The first call on an empty object, the last one that a full one takes, and the first one that is too many. */
final class LimitsTest {
    /** Each call as the first one of a new object: B, A and S stand for the exceptions. */
    private static final String[] FIRST_CALLS = {
        "2 contract 0 0 0 719 1 480 1000 = 0",
        "3 pay 0 0 0 = B",
        "4 shift 0 0 0 1 = B",
        "5 minutes 0 0 = B",
        "6 overtime 0 0 = B",
        "7 base 0 0 = B",
        "8 leaveRule 0 0 1 = null",
        "9 leave 0 0 = B",
        "10 leaveLeft 5 719 = 0",
        "11 word 0 0 = 1",
        "11 word 1 0 = 1",
        "11 word 2 5 = 1",
        "11 word 3 0 = 1",
        "11 word 4 0 = S",
        "11 word 5 0 = S",
        "11 word 6 0 = S",
        "11 word 7 0 = S",
        "11 word 8 0 = S",
        "11 word 9 0 = S",
        "12 element 0 63 = S",
        "12 element 1 63 = B",
        "13 order 0 = B",
        "14 bonus 0 0 0 5 = 0",
        "15 contribution 0 0 0 0 = null",
        "16 bracket 0 0 0 1 0 = 1",
        "17 state 0 0 0 = null",
        "18 pension 0 0 0 = null",
        "19 yearTax 0 0 0 10000000000 = 0",
        "20 slip 0 0 0 = 0",
        "20 slip 5 23 6 = 0",
        "21 slipIn 0 0 0 0 = 0",
        "22 elementOf 0 0 0 = B",
        "23 pensionOf 0 23 = 0",
        "24 grossFor 0 0 0 1 = 10000",
        "25 garnish 0 0 0 1 1 0 = 0",
        "26 takenBy 0 0 = B",
        "27 advance 0 1 = 1",
        "28 open = 0",
        "29 close = 0",
        "30 payments = 0",
        "31 payment 0 0 = B",
        "32 comeBack 0 = B",
        "33 owed 0 = 0",
        "34 filed 0 0 1 = 0",
        "34 filed 2 23 0 = 0",
        "35 corrections 0 0 = 0",
    };

    private LimitsTest() {
    }

    static void run() {
        firstCalls();
        newObjectIsEmpty();
        contracts();
        shifts();
        leaves();
        words();
        elements();
        brackets();
        garnishments();
        months();
        payments();
        steps();
    }

    private static void firstCalls() {
        for (String row : FIRST_CALLS) {
            String[] sides = row.split(" = ");
            String[] words = sides[0].split(" ");
            long[] numbers = new long[words.length - 2];
            for (int i = 0; i < numbers.length; i++) {
                numbers[i] = Long.parseLong(words[i + 2]);
            }
            String due = sides[1].equals("B") ? "throws IndexOutOfBoundsException"
                : sides[1].equals("S") ? "throws IllegalStateException" : sides[1];
            String answer = Calls.answer(new Taxmaze(), words[1], numbers);
            Check.tell(answer.equals(due), words[0] + ": first of all " + Calls.text(words[1], numbers), answer, due);
        }
    }

    /** Promise 1: nobody has a contract, the month 0 is open. Terms: all tables are without brackets, rates and ceilings 0 at first. */
    private static void newObjectIsEmpty() {
        for (int person = 0; person < 6; person++) {
            Taxmaze x = new Taxmaze();
            for (int month = 0; month < 24; month++) {
                for (int what = Taxmaze.GROSS; what <= Taxmaze.MATCH; what++) {
                    Check.same("1: a slip of nobody", x.slip(person, month, what), 0);
                }
            }
            for (int place = 0; place < 3; place++) {
                Check.same("1: no bonus", x.bonus(person, 11, place, 1000), 0);
                Check.same("1: no contribution", x.slipIn(person, 11, place, Taxmaze.CONTRIBUTION), 0);
                Check.same("1: no tax", x.slipIn(person, 11, place, Taxmaze.TAX), 0);
            }
            Check.same("1: all is net", x.slip(person, 11, Taxmaze.NET), 3000);
            Check.same("1: all is paid", x.slip(person, 11, Taxmaze.PAYOUT), 3000);
        }
    }

    private static void tellContracts(Taxmaze x) {
        for (int number = 0; number < 10; number++) {
            x.contract(number % 6, 0, 0, 719, true, 480, 100 * number);
        }
    }

    private static void contracts() {
        Taxmaze x = new Taxmaze();
        for (int number = 0; number < 9; number++) {
            x.contract(3, 1, 0, 0, false, 480, 30);
        }
        Check.same("2: the tenth", x.contract(3, 1, 0, 0, false, 480, 30), 9);
        Check.same("2: all ten count", x.slip(3, 0, Taxmaze.GROSS), 10);
        Twins.barred("2: an eleventh", LimitsTest::tellContracts, "contract", 5, 2, 0, 719, 1, 480, 1);
        Twins.barred("2: an eleventh of somebody without one", y -> {
            for (int number = 0; number < 10; number++) {
                y.contract(0, 0, 0, 719, true, 480, 1);
            }
        }, "contract", 1, 0, 0, 719, 1, 480, 1);
    }

    private static void tellShifts(Taxmaze x) {
        tellContracts(x);
        for (int told = 0; told < 40; told++) {
            x.shift(told % 10, told, 0, 100);
        }
    }

    private static void shifts() {
        Taxmaze x = new Taxmaze();
        tellContracts(x);
        for (int told = 0; told < 39; told++) {
            x.shift(0, told, 0, 100);
        }
        Check.same("4: the fortieth, all of one contract", x.shift(0, 719, 0, 100), 40);
        Check.same("4: it counts", x.minutes(0, 719), 100);
        Twins.barred("4: a forty-first", LimitsTest::tellShifts, "shift", 0, 50, 0, 1);
        Twins.barred("4: a forty-first of a contract that has the least", LimitsTest::tellShifts, "shift", 9, 50, 0, 1);
        Twins.barred("4: a forty-first that has something in common too", LimitsTest::tellShifts, "shift", 0, 0, 0, 1);
        Taxmaze y = new Taxmaze();
        tellContracts(y);
        y.shift(0, 0, 0, 10);
        Check.refused("4: refused", () -> y.shift(0, 0, 9, 10));
        Check.same("4: what was refused is not counted", y.shift(0, 0, 10, 10), 2);
    }

    private static void tellLeaves(Taxmaze x) {
        tellContracts(x);
        x.leaveRule(10, 0, 1);
        for (int told = 0; told < 30; told++) {
            x.leave(told % 10, 719 - told);
        }
    }

    private static void leaves() {
        Taxmaze x = new Taxmaze();
        tellContracts(x);
        for (int told = 0; told < 29; told++) {
            x.leave(1, 30);
        }
        x.leaveRule(10, 0, 1);
        Check.same("9: the thirtieth, the others were not paid", x.leave(1, 29), false);
        Check.same("9: one of them is now", x.base(1, 1), 800);
        Twins.barred("9: a thirty-first", LimitsTest::tellLeaves, "leave", 0, 30);
        Twins.barred("9: a thirty-first of a contract that has the least", LimitsTest::tellLeaves, "leave", 9, 30);
    }

    private static void words() {
        Taxmaze x = new Taxmaze();
        for (int words = 1; words <= 7; words++) {
            Check.same("11: four numbers, joined to one", x.word(words < 5 ? Taxmaze.MONEY : Taxmaze.PLUS, 1 << words), words);
        }
        Check.refused("11: one on the pile is not enough", () -> x.word(Taxmaze.PLUS, 0));
        Check.same("11: the eighth", x.word(Taxmaze.MONEY, 32), 8);
        Check.same("11: the ninth", x.word(Taxmaze.PLUS, 0), 9);
        Check.same("11: the tenth", x.word(Taxmaze.MONEY, 64), 10);
        Check.refused("11: the eleventh, though two are on the pile", () -> x.word(Taxmaze.PLUS, 0));
        Check.refused("11: the eleventh", () -> x.word(Taxmaze.BASE, 0));
        Check.refused("12: and the draft leaves two", () -> x.element(0, 63));
        Taxmaze y = new Taxmaze();
        for (int words = 0; words < 9; words++) {
            y.word(words < 5 ? Taxmaze.MONEY : Taxmaze.PLUS, 1 << words);
        }
        Check.same("12: nine words", y.element(0, 63), 1);
        Check.same("11: an empty draft again", y.word(Taxmaze.MONEY, 0), 1);
        Check.same("12: all nine of them count", y.elementOf(0, 0, 0), 31);
        Twins.barred("11: one on the pile", z -> z.word(Taxmaze.MONEY, 1), "word", Taxmaze.GREATER, 0);
        Twins.barred("11: ten words", z -> {
            for (int words = 0; words < 10; words++) {
                z.word(Taxmaze.MONEY, words);
            }
        }, "word", Taxmaze.TIMES, 0);
    }

    private static void tellElements(Taxmaze x) {
        for (int number = 0; number < 6; number++) {
            x.word(Taxmaze.MONEY, 1 << number);
            x.element(number, 63);
        }
        x.word(Taxmaze.MONEY, 1000);
    }

    private static void elements() {
        Taxmaze x = new Taxmaze();
        tellElements(x);
        Check.same("12: six of them", x.slip(0, 0, Taxmaze.GROSS), 63);
        Check.same("13: the last place", x.order(5), 5);
        Check.missing("13: no place behind it", () -> x.order(6));
        Check.same("12: the last one anew", x.element(5, 63), 6);
        Check.same("12: six of them still", x.slip(0, 0, Taxmaze.GROSS), 1031);
        Twins.missing("12: a seventh", LimitsTest::tellElements, "element", 6, 63);
        Twins.missing("12: an eighth", LimitsTest::tellElements, "element", 7, 63);
        Twins.barred("12: an empty draft", y -> y.leaveRule(1, 1, 1), "element", 0, 63);
        Twins.barred("12: two on the pile", y -> {
            y.word(Taxmaze.MONEY, 1);
            y.word(Taxmaze.MONEY, 1);
        }, "element", 0, 63);
    }

    private static void tellBrackets(Taxmaze x) {
        for (int number = 1; number <= 4; number++) {
            x.bracket(1, 1, 5, 1000 * number, 100);
        }
    }

    private static void brackets() {
        Taxmaze x = new Taxmaze();
        tellBrackets(x);
        Check.same("16: another month has room", x.bracket(1, 1, 4, 1, 0), 1);
        Check.same("16: a later one too", x.bracket(1, 1, 6, 1, 0), 1);
        Check.same("16: another state", x.bracket(1, 0, 5, 1, 0), 1);
        Check.same("16: another place", x.bracket(2, 1, 5, 1, 0), 1);
        Check.refused("16: this one has not", () -> x.bracket(1, 1, 5, 5000, 100));
        Check.same("16: its four are as they were", x.yearTax(1, 1, 5, 10000), 400);
        Twins.barred("16: a fifth", LimitsTest::tellBrackets, "bracket", 1, 1, 5, 4001, 100);
        Twins.barred("16: a fifth that is not above the last", LimitsTest::tellBrackets, "bracket", 1, 1, 5, 4000, 100);
        Twins.barred("16: an end as that of the last", y -> y.bracket(1, 1, 5, 1000, 100), "bracket", 1, 1, 5, 1000, 100);
        Twins.barred("16: an end below that of the last", y -> y.bracket(1, 1, 5, 1000, 100), "bracket", 1, 1, 5, 999, 100);
        Check.same("16: a cent above it", x.bracket(2, 1, 5, 2, 0), 2);
    }

    private static void tellGarnishments(Taxmaze x) {
        for (int number = 0; number < 6; number++) {
            x.bonus(number, 0, 0, 1000);
            x.garnish(number, 0, 0, 100, 100, 0);
        }
    }

    private static void garnishments() {
        Taxmaze x = new Taxmaze();
        x.bonus(2, 0, 0, 1000);
        for (int number = 0; number < 6; number++) {
            Check.same("25: all of one person", x.garnish(2, 0, 0, 100, 100, 0), number);
        }
        Check.same("25: all six take", x.slip(2, 0, Taxmaze.TAKEN), 600);
        Twins.barred("25: a seventh", LimitsTest::tellGarnishments, "garnish", 0, 0, 0, 1, 1, 0);
    }

    private static void tellMonths(Taxmaze x) {
        x.bonus(0, 23, 0, 500);
        for (int month = 0; month < 24; month++) {
            x.close();
        }
        x.bonus(0, 0, 1, 70);
    }

    private static void months() {
        Taxmaze x = new Taxmaze();
        for (int month = 0; month < 23; month++) {
            x.close();
        }
        Check.same("27: an advance in the last month", x.advance(0, 1), 1);
        Check.same("28: the last month", x.open(), 23);
        Check.same("29: it is closed", x.close(), 0);
        Check.same("28: none is open", x.open(), 24);
        Twins.barred("29: none to close", LimitsTest::tellMonths, "close");
        Twins.barred("27: none open", LimitsTest::tellMonths, "advance", 0, 1);
    }

    private static void tellPayments(Taxmaze x) {
        x.bonus(0, 0, 0, 500);
        x.bonus(4, 0, 0, 600);
        x.close();
        x.comeBack(1);
    }

    private static void payments() {
        Taxmaze x = new Taxmaze();
        tellPayments(x);
        Check.same("32: the other one", x.comeBack(0), 500);
        Check.missing("32: no third", () -> x.comeBack(2));
        Twins.barred("32: twice", LimitsTest::tellPayments, "comeBack", 1);
        Twins.missing("32: none", y -> y.bonus(0, 0, 0, -1), "comeBack", 0);
    }

    private static void steps() {
        Taxmaze x = new Taxmaze();
        x.contribution(0, 0, 500, 100000000);
        x.bonus(0, 0, 0, 1);
        Check.same("24: 200 steps give 1000000 more", x.grossFor(0, 0, 0, 1000000), 2000000);
        x.bonus(0, 0, 0, 0);
        Check.same("24: 199 steps give 995000 more", x.grossFor(0, 0, 0, 995000), 1990000);
        Check.same("24: a cent above that", x.grossFor(0, 0, 0, 995001), 2000000);
        x.pension(0, 0, 1);
        Check.same("24: 200 steps give 998000 more", x.grossFor(0, 0, 0, 998000), 2000000);
        Check.same("24: a cent above that is too much", x.grossFor(0, 0, 0, 998001), Taxmaze.NONE);
        Check.same("24: the bonus is as it was", x.bonus(0, 0, 0, 10000000), 0);
        Check.same("24: above the greatest bonus", x.grossFor(0, 0, 0, 998000), 2000000);
    }
}
