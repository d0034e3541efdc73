import java.util.ArrayList;
import java.util.Arrays;
import java.util.List;

/**
 * All promises: of each argument the least and the greatest that is taken, those just below and just above, which are
 * refused and change nothing, and which exception goes first where two apply.
 */
final class ArgumentsTest {
    /**
     * The promise, the method, and its arguments: the name, what is thrown for one out of range (B
     * IndexOutOfBoundsException, A IllegalArgumentException), the least, the greatest and the usual one; an argument
     * with = is always this one. The greatest one C, E, G or P is the number of the last contract, element, garnishment
     * or payment; N is that of the last element that can be made.
     */
    private static final String[] CALLS = {
        "2 contract person:B:0:5:0 place:B:0:2:0 from:B:0:719:0 to:B:0:719:719 byHours=1 norm:A:60:600:480 pay:A:0:1000000:1000",
        "3 pay contract:B:0:C:0 day:B:0:719:60 pay:A:0:1000000:1500",
        "4 shift contract:B:0:C:0 day:B:30:99:50 minute:A:0:1439:100 length:A:1:1440:10",
        "5 minutes contract:B:0:C:0 day:B:0:719:50",
        "6 overtime contract:B:0:C:0 week:B:0:102:5",
        "7 base contract:B:0:C:0 month:B:0:23:1",
        "8 leaveRule rate:A:0:50:20 carry:A:0:500:50 term:A:1:12:2",
        "9 leave contract:B:0:C:0 day:B:30:99:50",
        "10 leaveLeft person:B:0:5:0 day:B:0:719:50",
        "11 word what:A:0:9:0 number=0",
        "11 word what=2 number:A:0:5:1",
        "11 word what=3 number:A:-1000000:1000000:5",
        "12 element number:B:0:N:0 people:A:0:63:5",
        "13 order place:B:0:E:0",
        "14 bonus person:B:0:5:0 month:B:0:23:1 place:B:0:2:2 cents:A:-10000000:10000000:777",
        "15 contribution place:B:0:2:0 month:B:0:23:1 thousandths:A:0:500:200 ceiling:A:0:100000000:300000",
        "16 bracket place:B:0:2:0 state:A:0:1:0 month:B:0:23:3 end:A:1:1000000000:1000000 thousandths:A:0:900:100",
        "17 state person:B:0:5:0 month:B:0:23:1 state:A:0:1:1",
        "18 pension person:B:0:5:0 month:B:0:23:1 thousandths:A:0:200:60",
        "19 yearTax place:B:0:2:1 state:A:0:1:0 month:B:0:23:1 amount:A:0:10000000000:5000",
        "20 slip person:B:0:5:0 month:B:0:23:1 what:A:0:7:4",
        "21 slipIn person:B:0:5:0 month:B:0:23:1 place:B:0:2:1 what:A:0:3:1",
        "22 elementOf element:B:0:E:0 person:B:0:5:0 month:B:0:23:1",
        "23 pensionOf person:B:0:5:0 month:B:0:23:1",
        "24 grossFor person:B:0:5:0 month:B:0:23:1 place:B:0:2:0 net:A:1:1000000:100",
        "25 garnish person:B:0:5:0 month:B:0:23:1 rank:A:0:9:0 total:A:1:100000000:500 thousandths:A:1:1000:10 kept:A:0:100000000:20",
        "26 takenBy garnishment:B:0:G:0 month:B:0:23:1",
        "27 advance person:B:0:5:0 cents:A:1:1000000:500",
        "28 open",
        "29 close",
        "30 payments",
        "31 payment payment:B:0:P:0 what:A:0:3:2",
        "32 comeBack payment:B:0:P:0",
        "33 owed person:B:0:5:0",
        "34 filed place:B:0:2:0 month:B:0:23:1 taxes=1",
        "35 corrections place:B:0:2:0 month:B:0:23:1",
    };

    /** Those that change nothing, whatever they are asked. */
    private static final List<String> QUESTIONS = Arrays.asList("minutes", "overtime", "base", "leaveLeft", "order", "yearTax", "slip",
        "slipIn", "elementOf", "pensionOf", "grossFor", "takenBy", "open", "payments", "payment", "owed", "filed", "corrections");

    /** Those that are refused with their usual arguments when an object is full. */
    private static final List<String> LIMITED = Arrays.asList("contract", "shift", "leave", "word", "element", "bracket", "garnish",
        "advance", "close", "comeBack");

    private record Argument(String name, char kind, long least, long greatest, long usual) {
        boolean isFree() {
            return kind != '=';
        }
    }

    private static List<String> usualPicture;
    private static List<String> fullPicture;

    private final boolean full;
    private final String method;
    private final String label;
    private final Argument[] arguments;

    private ArgumentsTest(String row, boolean full) {
        this.full = full;
        String[] words = row.split(" ");
        method = words[1];
        label = words[0] + ": " + (full ? "full, " : "");
        arguments = new Argument[words.length - 2];
        for (int i = 0; i < arguments.length; i++) {
            arguments[i] = argument(words[i + 2]);
        }
    }

    static void run() {
        Check.same("no object has more than 512 calls", Picture.MOST_CALLS + States.MOST_CALLS + 3 <= 512, true);
        usualPicture = Picture.of(States.usual());
        fullPicture = Picture.of(States.full());
        Check.same("a picture stays within its calls", usualPicture.size() <= Picture.MOST_CALLS, true);
        for (String row : CALLS) {
            ArgumentsTest usual = new ArgumentsTest(row, false);
            usual.usualChanges();
            usual.endsAreTaken();
            usual.besideThemRefused();
            usual.twoFaults();
            usual.allFaults();
            ArgumentsTest full = new ArgumentsTest(row, true);
            full.usualOnFull();
            full.besideThemRefused();
            full.twoFaults();
            full.allFaults();
        }
        between();
    }

    private static String rowOf(String method) {
        for (String row : CALLS) {
            if (row.split(" ")[1].equals(method)) {
                return row;
            }
        }
        throw new IllegalStateException(method);
    }

    private static long greatest(String text, boolean full) {
        switch (text) {
            case "C": return full ? 9 : 2;
            case "E": return full ? 5 : 1;
            case "N": return full ? 5 : 2;
            case "G": return full ? 5 : 1;
            case "P": return (full ? States.full() : States.usual()).payments() - 1;
            default: return Long.parseLong(text);
        }
    }

    private Argument argument(String text) {
        int sign = text.indexOf('=');
        if (sign >= 0) {
            return new Argument(text.substring(0, sign), '=', 0, 0, Long.parseLong(text.substring(sign + 1)));
        }
        String[] parts = text.split(":");
        return new Argument(parts[0], parts[1].charAt(0), Long.parseLong(parts[2]), greatest(parts[3], full), Long.parseLong(parts[4]));
    }

    private Taxmaze object() {
        Taxmaze x = full ? States.full() : States.usual();
        if (method.equals("element") && !full) {
            x.word(Taxmaze.PLUS, 0);
        }
        return x;
    }

    private List<String> pictureUntouched() {
        return method.equals("element") && !full ? Picture.of(object()) : full ? fullPicture : usualPicture;
    }

    private long[] usual() {
        long[] numbers = new long[arguments.length];
        for (int i = 0; i < numbers.length; i++) {
            numbers[i] = arguments[i].usual;
        }
        return numbers;
    }

    private long[] usualBut(int index, long number) {
        long[] numbers = usual();
        numbers[index] = number;
        return numbers;
    }

    private void taken(long... numbers) {
        String answer = Calls.answer(object(), method, numbers);
        Check.tell(!answer.startsWith("throws"), label + Calls.text(method, numbers), answer, "taken");
    }

    /** A refused call throws the exception that is due, and the object looks as one that was never asked for it. */
    private void refused(char kind, long... numbers) {
        String due = kind == 'B' ? "IndexOutOfBoundsException" : kind == 'A' ? "IllegalArgumentException" : "IllegalStateException";
        Taxmaze x = object();
        String answer = Calls.answer(x, method, numbers);
        Check.tell(answer.equals("throws " + due), label + Calls.text(method, numbers), answer, due);
        String difference = Picture.difference(Picture.of(x), pictureUntouched());
        Check.tell(difference.isEmpty(), label + Calls.text(method, numbers) + " was refused", difference, "nothing changed");
    }

    private void usualChanges() {
        Taxmaze x = object();
        String answer = Calls.answer(x, method, usual());
        Check.tell(!answer.startsWith("throws"), label + Calls.text(method, usual()), answer, "taken");
        boolean changed = !Picture.difference(Picture.of(x), pictureUntouched()).isEmpty();
        Check.same(label + Calls.text(method, usual()) + " changes something", changed, !QUESTIONS.contains(method));
    }

    private void usualOnFull() {
        if (LIMITED.contains(method)) {
            refused('S', usual());
        } else {
            taken(usual());
        }
    }

    private void endsAreTaken() {
        for (int i = 0; i < arguments.length; i++) {
            if (arguments[i].isFree()) {
                taken(usualBut(i, arguments[i].least));
                taken(usualBut(i, arguments[i].greatest));
            }
        }
    }

    private void besideThemRefused() {
        for (int i = 0; i < arguments.length; i++) {
            if (arguments[i].isFree()) {
                boolean wide = Calls.takesLong(method, i);
                refused(arguments[i].kind, usualBut(i, arguments[i].least - 1));
                refused(arguments[i].kind, usualBut(i, arguments[i].greatest + 1));
                refused(arguments[i].kind, usualBut(i, wide ? Long.MIN_VALUE : Integer.MIN_VALUE));
                refused(arguments[i].kind, usualBut(i, wide ? Long.MAX_VALUE : Integer.MAX_VALUE));
            }
        }
    }

    /** IndexOutOfBoundsException is documented first, then IllegalArgumentException, wherever the arguments stand. */
    private void twoFaults() {
        for (int i = 0; i < arguments.length; i++) {
            for (int j = i + 1; j < arguments.length; j++) {
                if (arguments[i].isFree() && arguments[j].isFree()) {
                    char first = arguments[i].kind == 'B' || arguments[j].kind == 'B' ? 'B' : 'A';
                    long[] numbers = usualBut(i, arguments[i].least - 1);
                    numbers[j] = arguments[j].greatest + 1;
                    refused(first, numbers);
                    numbers[i] = arguments[i].greatest + 1;
                    numbers[j] = arguments[j].least - 1;
                    refused(first, numbers);
                }
            }
        }
    }

    private void allFaults() {
        List<Character> kinds = new ArrayList<>();
        long[] numbers = usual();
        for (int i = 0; i < arguments.length; i++) {
            if (arguments[i].isFree()) {
                kinds.add(arguments[i].kind);
                numbers[i] = arguments[i].greatest + 1;
            }
        }
        if (!kinds.isEmpty()) {
            refused(kinds.contains('B') ? 'B' : 'A', numbers);
        }
    }

    /** What is refused though it is between the least and the greatest, and what does not matter. */
    private static void between() {
        for (boolean full : new boolean[] {false, true}) {
            ArgumentsTest slipIn = new ArgumentsTest(rowOf("slipIn"), full);
            slipIn.refused('A', 0, 1, 1, Taxmaze.PENSION);
            slipIn.refused('B', 0, 1, 3, Taxmaze.PENSION);
            ArgumentsTest contract = new ArgumentsTest(rowOf("contract"), full);
            contract.refused('A', 0, 0, 1, 0, 1, 480, 1000);
            contract.refused('A', 0, 0, 719, 718, 1, 480, 1000);
            contract.refused('B', 0, 0, 720, 719, 1, 480, 1000);
            contract.refused('B', 0, 0, 0, -1, 1, 480, 1000);
            contract.refused('B', 6, 0, 1, 0, 1, 480, 1000);
        }
        ArgumentsTest word = new ArgumentsTest(rowOf("word"), false);
        for (int what = Taxmaze.BASE; what <= Taxmaze.GREATER; what++) {
            if (what != Taxmaze.ELEMENT && what != Taxmaze.MONEY) {
                word.taken(what, Integer.MIN_VALUE);
                word.taken(what, Integer.MAX_VALUE);
            }
        }
    }
}
