import java.util.List;

/**
 * All that calls show of the state that a run of calls leads to: what it is now, what the days make
 * of it, what comes back on deleting, and what is paid and given next. Each of these looks at a new
 * desk, so that none is used for more calls than the document promises anything about.
 */
final class Sights {
    private static final int MOST_CALLS = 512;
    private static final int DAYS = 8;
    private static final int[] CODES = {0, 1, 5, 7, 42, 98, 99};

    private final RegistryDesk desk = new RegistryDesk();
    private final StringBuilder seen = new StringBuilder();
    private int calls = 0;

    private Sights(List<String> run, String last) {
        for (String call : run) {
            answer(call);
        }
        if (last != null) {
            answer(last);
        }
    }

    /** What is seen after the run and, if there is one, a last call. */
    static String of(List<String> run, String last) {
        Sights now = new Sights(run, last);
        now.lookAtAll();
        now.takeMessagesOff();
        Sights later = new Sights(run, last);
        later.lookDayByDay();
        Sights deleted = new Sights(run, last);
        deleted.deleteAll();
        Sights bought = new Sights(run, last);
        bought.buyAll();
        return now.seen.toString() + later.seen + deleted.seen + bought.seen;
    }

    static boolean onlyLooks(String call) {
        return call.startsWith("balance") || call.startsWith("paid") || call.startsWith("message")
                || call.startsWith("domain") || call.startsWith("thing") || call.startsWith("zone")
                || call.startsWith("count");
    }

    static String difference(String one, String other) {
        String[] ones = one.split("\n");
        String[] others = other.split("\n");
        for (int i = 0; i < ones.length && i < others.length; i++) {
            if (!ones[i].equals(others[i])) {
                return ones[i] + " became " + others[i];
            }
        }
        return ones.length + " sights became " + others.length;
    }

    private String answer(String call) {
        calls++;
        if (calls > MOST_CALLS) {
            throw new AssertionError("a desk is used for too many calls");
        }
        return Runs.answerTo(desk, call);
    }

    private String show(String call) {
        String answer = answer(call);
        seen.append(call).append(": ").append(answer).append('\n');
        return answer;
    }

    private void showPayments() {
        for (int registrar = 0; registrar < 4; registrar++) {
            show("balance(" + registrar + ")");
            for (int kind = 0; kind < 4; kind++) {
                show("paid(" + registrar + ", " + kind + ")");
            }
        }
    }

    private void lookAtAll() {
        showPayments();
        for (int name = 0; name < 10; name++) {
            boolean there = !show("domain(" + name + ", 0)").equals("NSE");
            for (int what = 1; there && what < 14; what++) {
                show("domain(" + name + ", " + what + ")");
            }
        }
        for (int number = 0; number < 8; number++) {
            for (int what = 0; what < 4; what++) {
                show("thing(" + number + ", " + what + ")");
                show("thing(" + (100 + number) + ", " + what + ")");
            }
        }
        for (int what = 0; what < 5; what++) {
            show("count(" + what + ")");
        }
        int rows = Integer.parseInt(show("count(5)"));
        for (int k = 0; k <= rows; k++) {
            show("zone(" + k + ")");
        }
    }

    private void takeMessagesOff() {
        for (int registrar = 0; registrar < 4; registrar++) {
            String first = show("message(" + registrar + ")");
            for (int i = 0; !first.equals("NSE") && i < 13; i++) {
                show("acknowledge(" + registrar + ")");
                first = show("message(" + registrar + ")");
            }
        }
    }

    private void lookDayByDay() {
        for (int day = 0; day < DAYS; day++) {
            show("pass(1)");
            for (int registrar = 0; registrar < 4; registrar++) {
                show("balance(" + registrar + ")");
            }
            for (int name = 0; name < 10; name++) {
                if (!show("domain(" + name + ", 0)").equals("NSE")) {
                    show("domain(" + name + ", 1)");
                    show("domain(" + name + ", 3)");
                    show("domain(" + name + ", 7)");
                }
            }
            show("count(4)");
        }
    }

    private void deleteAll() {
        for (int name = 0; name < 10; name++) {
            String owner = show("domain(" + name + ", 0)");
            if (!owner.equals("NSE")) {
                show("lock(" + owner + ", " + name + ", 0)");
                show("answer(" + owner + ", " + name + ", false)");
                show("delete(" + owner + ", " + name + ")");
                show("balance(" + owner + ")");
            }
        }
    }

    private void buyAll() {
        for (int registrar = 0; registrar < 4; registrar++) {
            show("deposit(" + registrar + ", 1000.0)");
        }
        String contact = show("contact(0)");
        show("host(0, -1, 0)");
        for (int name = 0; name < 10; name++) {
            String owner = show("domain(" + name + ", 0)");
            if (owner.equals("NSE")) {
                show("create(0, " + name + ", 1, 0, " + (contact.equals("ISE") ? "0" : contact) + ")");
            } else {
                buy(name, Integer.parseInt(owner));
            }
        }
        showPayments();
    }

    private void buy(int name, int owner) {
        int other = (owner + 1) % 4;
        show("restore(" + owner + ", " + name + ")");
        show("lock(" + owner + ", " + name + ", 0)");
        show("renew(" + owner + ", " + name + ", 1)");
        for (int code : CODES) {
            show("ask(" + other + ", " + name + ", " + code + ")");
        }
        show("answer(" + owner + ", " + name + ", true)");
    }
}
