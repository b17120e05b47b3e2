import java.util.ArrayList;
import java.util.List;

/**
 * Long runs of mixed calls, with arguments inside and outside their ranges. After each call that
 * throws, all that can be seen is as before; a second desk that gets only the calls that did not
 * throw answers the same and ends with the same messages; and no other exception comes out.
 */
public final class UnchangedTest {
    private static final int RUNS = 40;
    private static final int CALLS = 512;
    private static final int[] FAR = {-2147483648, -2, -1, 10, 32, 100, 1000, 2147483647};

    private static int wrong = 0;
    private static int refused = 0;
    private static int taken = 0;
    private static long seed = 20261115L;

    private UnchangedTest() {
    }

    public static void main(String[] args) {
        for (int run = 0; run < RUNS; run++) {
            oneRun(run);
        }
        System.out.println(taken + " calls taken, " + refused + " refused, " + wrong + " faults");
        if (wrong != 0 || taken == 0 || refused == 0) {
            System.exit(1);
        }
    }

    private static void oneRun(int run) {
        RegistryDesk desk = new RegistryDesk();
        RegistryDesk twin = new RegistryDesk();
        String seen = allThatIsSeen(desk);
        for (int i = 0; i < CALLS; i++) {
            String call = someCall();
            String before = seen;
            String answer = Runs.answerTo(desk, call);
            seen = allThatIsSeen(desk);
            if (isRefusal(answer)) {
                refused++;
                due(run, call + " threw; after it", seen, before);
            } else {
                taken++;
                due(run, call + " of the twin", Runs.answerTo(twin, call), answer);
            }
            dueWithinLimits(run, call, desk);
        }
        due(run, "the twin", allThatIsSeen(twin), seen);
        due(run, "the twin's messages", drained(twin), drained(desk));
    }

    private static void due(int run, String what, String got, String want) {
        if (!got.equals(want)) {
            wrong++;
            System.out.println("run " + run + ": " + what + ": " + got + ", due is " + want);
        }
    }

    private static boolean isRefusal(String answer) {
        if (answer.length() == 3 && answer.endsWith("E")) {
            return true;
        }
        Double.parseDouble(answer);
        return false;
    }

    /** What must hold in any state, whatever the calls were. */
    private static void dueWithinLimits(int run, String call, RegistryDesk desk) {
        boolean holds = desk.count(1) <= 10 && desk.count(2) <= 8 && desk.count(3) <= 8
                && desk.count(4) <= 48;
        for (int name = 0; name < 10; name++) {
            if (!Runs.answerTo(desk, "domain(" + name + ", 0)").equals("NSE")) {
                holds = holds && desk.domain(name, 4) >= 1 && desk.domain(name, 4) <= 3
                        && desk.domain(name, 5) <= 3
                        && (desk.domain(name, 6) == -1 || desk.domain(name, 3) == 0)
                        && desk.domain(name, 6) != desk.domain(name, 0);
            }
        }
        due(run, "limits after " + call, String.valueOf(holds), "true");
    }

    private static String allThatIsSeen(RegistryDesk desk) {
        StringBuilder seen = new StringBuilder();
        List<String> calls = new ArrayList<>();
        for (int registrar = 0; registrar < 4; registrar++) {
            calls.add("balance(" + registrar + ")");
            calls.add("message(" + registrar + ")");
            for (int kind = 0; kind < 4; kind++) {
                calls.add("paid(" + registrar + ", " + kind + ")");
            }
        }
        for (int name = 0; name < 10; name++) {
            for (int what = 0; what < 14; what++) {
                calls.add("domain(" + name + ", " + what + ")");
            }
        }
        for (int number = 0; number < 8; number++) {
            for (int what = 0; what < 4; what++) {
                calls.add("thing(" + number + ", " + what + ")");
                calls.add("thing(" + (100 + number) + ", " + what + ")");
            }
        }
        for (int what = 0; what < 6; what++) {
            calls.add("count(" + what + ")");
        }
        for (int k = 0; k <= desk.count(5); k++) {
            calls.add("zone(" + k + ")");
        }
        for (String call : calls) {
            seen.append(Runs.answerTo(desk, call)).append(' ');
        }
        return seen.toString();
    }

    private static String drained(RegistryDesk desk) {
        StringBuilder messages = new StringBuilder();
        for (int registrar = 0; registrar < 4; registrar++) {
            for (int i = 0; i <= 12; i++) {
                messages.append(Runs.answerTo(desk, "message(" + registrar + ")")).append(' ');
                messages.append(Runs.answerTo(desk, "acknowledge(" + registrar + ")")).append(' ');
            }
        }
        return messages.toString();
    }

    private static String someCall() {
        switch (below(24)) {
            case 0:
                return "price(" + from(0, 4) + ", " + amount() + ")";
            case 1:
            case 2:
                return "deposit(" + from(0, 4) + ", " + amount() + ")";
            case 3:
                return "contact(" + from(0, 4) + ")";
            case 4:
                return below(2) == 0 ? "host(" + from(0, 4) + ", -1, 0)"
                        : "host(" + from(0, 4) + ", " + from(0, 4) + ", " + from(1, 999) + ")";
            case 5:
                return "remove(" + from(0, 4) + ", " + from(0, 2) + ", " + from(0, 8) + ")";
            case 6:
            case 7:
            case 8:
                return "create(" + from(0, 4) + ", " + from(0, 4) + ", " + from(1, 3) + ", "
                        + from(0, 2) + ", " + from(0, 4) + ")";
            case 9:
            case 10:
            case 11:
                return "change(" + from(0, 4) + ", " + from(0, 4) + ", " + from(0, 2) + ", "
                        + from(0, 5) + ", " + (below(3) > 0) + ")";
            case 12:
                return "lock(" + from(0, 4) + ", " + from(0, 4) + ", "
                        + (below(2) == 0 ? 0 : from(0, 32)) + ")";
            case 13:
            case 14:
                return "renew(" + from(0, 4) + ", " + from(0, 4) + ", " + from(1, 3) + ")";
            case 15:
                return "delete(" + from(0, 4) + ", " + from(0, 4) + ")";
            case 16:
                return "restore(" + from(0, 4) + ", " + from(0, 4) + ")";
            case 17:
            case 18:
                return "ask(" + from(0, 4) + ", " + from(0, 4) + ", " + from(0, 2) + ")";
            case 19:
                return "answer(" + from(0, 4) + ", " + from(0, 4) + ", " + (below(2) == 0) + ")";
            case 20:
            case 21:
                return "pass(" + from(1, 3) + ")";
            case 22:
                return below(4) == 0 ? "pass(20)" : "message(" + from(0, 4) + ")";
            default:
                return "acknowledge(" + from(0, 4) + ")";
        }
    }

    private static String amount() {
        String[] odd = {"NaN", "Infinity", "-0.125", "0.0", "1000.0", "1000.125"};
        return below(6) == 0 ? odd[below(odd.length)] : String.valueOf(0.125 * from(1, 60));
    }

    private static int from(int first, int howMany) {
        return below(25) == 0 ? FAR[below(FAR.length)] : first + below(howMany);
    }

    /** The same numbers each time, so that a fault can be seen again. */
    private static int below(int bound) {
        seed = seed * 6364136223846793005L + 1442695040888963407L;
        return (int) ((seed >>> 33) % bound);
    }
}
