import java.util.ArrayList;
import java.util.Arrays;
import java.util.List;

/**
 * What a call changes, and that it changes nothing else: on a desk where much is there, all looks
 * before and behind the call are compared, and the rows that differ are the ones written here.
 *
 * <p>A row of a name has OWNER, EXPIRY, LOCKS and STATE, how many contacts and hosts and which, the
 * registrar that a TRANSFER waits for, and the GRACES on; that of a host or contact has what thing
 * answers to 0 .. 3; that of a registrar has the BALANCE, what it PAID by kind, and its MESSAGES.
 */
public final class ChangesTest {
    private static final int MOST_CALLS = 512;

    /**
     * The DAY is 11. Name 0 uses three contacts and hosts, with CREATE's and RENEW's grace on; 1 is
     * asked for till the DAY 14, 2 till the DAY 11; 4 was handed over, with TRANSFER's grace on; 5
     * is in REDEMPTION till the DAY 12, 7 is LEAVING till the DAY 11; 9 was renewed by AUTO and has
     * all LOCKS. Registrar 1 pays the eighth less.
     */
    private static final String[] MADE = {
        "price(0, 2.0) -> 0", "price(1, 3.0) -> 0", "price(2, 4.0) -> 0", "price(3, 8.0) -> 0",
        "deposit(0, 90.0) -> 90.0", "deposit(1, 500.0) -> 500.0", "deposit(2, 20.0) -> 20.0",
        "deposit(3, 3.0) -> 3.0", "contact(0) -> 0", "contact(1) -> 1", "contact(2) -> 2",
        "contact(3) -> 3", "contact(0) -> 4", "contact(2) -> 5",
        "create(0, 5, 1, 50, 0) -> 10", "create(2, 7, 2, 70, 2) -> 20", "create(3, 9, 1, 90, 3) -> 10",
        "host(0, 5, 55) -> 0", "host(2, 7, 77) -> 1", "host(1, -1, 0) -> 2",
        "change(0, 5, 0, 1, true) -> 2", "change(0, 5, 1, 2, true) -> 1",
        "change(0, 5, 1, 0, true) -> 2", "change(2, 7, 1, 1, true) -> 1",
        "change(3, 9, 0, 2, true) -> 2", "pass(4) -> 4", "delete(2, 7) -> 1",
        "create(1, 1, 1, 10, 1) -> 14", "create(1, 2, 2, 20, 1) -> 24", "create(0, 4, 1, 40, 4) -> 14",
        "host(1, 2, 22) -> 3", "change(1, 1, 1, 3, true) -> 1", "change(1, 2, 0, 3, true) -> 2",
        "change(1, 2, 0, 0, true) -> 3", "change(1, 2, 1, 3, true) -> 1",
        "change(1, 2, 1, 2, true) -> 2", "pass(3) -> 7", "delete(0, 5) -> 1",
        "change(3, 9, 1, 0, true) -> 1", "change(3, 9, 1, 1, true) -> 2", "lock(3, 9, 31) -> 0",
        "ask(2, 2, 20) -> 11", "pass(2) -> 9", "create(0, 0, 1, 30, 0) -> 19", "host(0, 0, 99) -> 4",
        "host(0, 4, 44) -> 5", "change(0, 0, 0, 1, true) -> 2", "change(0, 0, 0, 2, true) -> 3",
        "change(0, 0, 1, 1, true) -> 1", "change(0, 0, 1, 4, true) -> 2",
        "change(0, 0, 1, 2, true) -> 3", "change(0, 4, 1, 5, true) -> 1",
        "change(0, 4, 1, 3, true) -> 2", "change(0, 4, 0, 3, true) -> 2", "ask(1, 4, 40) -> 13",
        "answer(0, 4, true) -> 1", "pass(1) -> 10", "renew(0, 0, 1) -> 29", "ask(3, 1, 10) -> 14",
        "pass(1) -> 11",
    };

    private final RegistryDesk desk = new RegistryDesk();
    private int calls = 0;

    private ChangesTest(List<String> run) {
        for (String call : run) {
            answer(call);
        }
    }

    public static void main(String[] args) {
        Runs.check("all that is there", MADE);
        madeAndRemoved();
        domainsMadeAndChanged();
        renewedAndDeleted();
        askedAndAnswered();
        passedDays();
        messagesTaken();
        looks();
        Runs.end();
    }

    private static void madeAndRemoved() {
        changes(after(), "price(0, 5.0)", "0");
        changes(after(), "deposit(2, 1.5)", "17.5",
            "registrar 2: 17.5, paid 4.0 0.0 0.0 0.0, messages");
        changes(after(), "contact(2)", "6",
            "there: day 11, domains, contacts, hosts 7 7 6, messages 5",
            "contact 6: 2 -1 -1 0");
        changes(after(), "host(3, 9, 1)", "6",
            "there: day 11, domains, contacts, hosts 7 6 7, messages 5",
            "host 6: 3 1 9 0");
        changes(after(), "host(3, -1, 0)", "6",
            "there: day 11, domains, contacts, hosts 7 6 7, messages 5",
            "host 6: 3 0 -1 0");
        changes(after(), "remove(2, 0, 5)", "5",
            "there: day 11, domains, contacts, hosts 7 5 6, messages 5",
            "contact 5: none");
        changes(after("change(1, 4, 1, 5, false)"), "remove(1, 1, 5)", "5",
            "there: day 11, domains, contacts, hosts 7 6 5, messages 5",
            "host 5: none");
    }

    private static void domainsMadeAndChanged() {
        changes(after(), "create(2, 3, 3, 0, 4)", "41",
            "there: day 11, domains, contacts, hosts 8 6 6, messages 5",
            "name 3: 2 41 0 0, contacts 1 of 4 -1 -1, hosts 0 of -1 -1 -1, for -1, graces 1",
            "contact 4: 0 -1 -1 2",
            "registrar 2: 10.0, paid 10.0 0.0 0.0 0.0, messages");
        changes(after(), "create(1, 8, 1, 0, 4)", "21",
            "there: day 11, domains, contacts, hosts 8 6 6, messages 5",
            "name 8: 1 21 0 0, contacts 1 of 4 -1 -1, hosts 0 of -1 -1 -1, for -1, graces 1",
            "contact 4: 0 -1 -1 2",
            "registrar 1: 489.5, paid 7.0 0.0 3.5 0.0, messages 12 24 11");
        changes(after(), "change(1, 4, 0, 0, true)", "3",
            "name 4: 1 24 0 0, contacts 3 of 4 3 0, hosts 2 of 5 3 -1, for -1, graces 4",
            "contact 0: 0 -1 -1 4");
        changes(after(), "change(0, 0, 0, 0, false)", "2",
            "name 0: 0 29 0 0, contacts 2 of 1 2 -1, hosts 3 of 1 4 2, for -1, graces 3",
            "contact 0: 0 -1 -1 2");
        changes(after(), "change(1, 4, 1, 4, true)", "3",
            "zone: 1 4 2 104 1003 2003 2002 2103 4005 4003 4004 4105",
            "name 4: 1 24 0 0, contacts 2 of 4 3 -1, hosts 3 of 5 3 4, for -1, graces 4",
            "host 4: 0 99 0 2");
        changes(after(), "change(0, 0, 1, 1, false)", "2",
            "zone: 4 2 104 1003 2003 2002 2103 4005 4003 4105",
            "name 0: 0 29 0 0, contacts 3 of 0 1 2, hosts 2 of 4 2 -1, for -1, graces 3",
            "host 1: 2 77 7 2");
        changes(after(), "change(1, 1, 1, 3, false)", "0",
            "zone: 1 4 2 104 2003 2002 2103 4005 4003 4105",
            "name 1: 1 14 0 0, contacts 1 of 1 -1 -1, hosts 0 of -1 -1 -1, for 3, graces 0",
            "host 3: 1 22 2 2");
        changes(after(), "lock(0, 0, 31)", "0",
            "zone: 1003 2003 2002 2103 4005 4003 4105",
            "name 0: 0 29 31 0, contacts 3 of 0 1 2, hosts 3 of 1 4 2, for -1, graces 3");
        changes(after(), "lock(3, 9, 0)", "31",
            "zone: 1 4 2 104 1003 2003 2002 2103 4005 4003 4105 9000 9001",
            "name 9: 3 20 0 0, contacts 2 of 3 2 -1, hosts 2 of 0 1 -1, for -1, graces 16");
    }

    private static void renewedAndDeleted() {
        changes(after(), "renew(1, 4, 2)", "44",
            "name 4: 1 44 0 0, contacts 2 of 4 3 -1, hosts 2 of 5 3 -1, for -1, graces 6",
            "registrar 1: 486.0, paid 5.25 5.25 3.5 0.0, messages 12 24 11");
        changes(after("lock(3, 9, 0)", "deposit(3, 8.0)"), "renew(3, 9, 1)", "30",
            "name 9: 3 30 0 0, contacts 2 of 3 2 -1, hosts 2 of 0 1 -1, for -1, graces 18",
            "registrar 3: 3.0, paid 2.0 6.0 0.0 0.0, messages");
        changes(after(), "delete(0, 0)", "2",
            "there: day 11, domains, contacts, hosts 6 6 5, messages 5",
            "zone: 1003 2003 2002 2103 4005 4003 4105",
            "name 0: none",
            "contact 0: 0 -1 -1 2",
            "host 1: 2 77 7 2",
            "contact 1: 1 -1 -1 3",
            "host 2: 1 0 -1 2",
            "contact 2: 2 -1 -1 2",
            "host 4: none",
            "registrar 0: 86.0, paid 6.0 3.0 0.0 0.0, messages 14 24");
        changes(after(), "delete(1, 4)", "1",
            "zone: 1 4 2 104 1003 2003 2002 2103",
            "name 4: 1 24 0 1, contacts 2 of 4 3 -1, hosts 2 of 5 3 -1, for -1, graces 0",
            "registrar 1: 494.75, paid 5.25 0.0 3.5 0.0, messages 12 24 11");
        changes(after("lock(3, 9, 13)"), "delete(3, 9)", "1",
            "zone: 1 4 2 104 1003 2003 2002 2103 4005 4003 4105",
            "name 9: 3 10 13 1, contacts 2 of 3 2 -1, hosts 2 of 0 1 -1, for -1, graces 0",
            "registrar 3: 1.0, paid 2.0 3.0 0.0 0.0, messages");
        changes(after(), "restore(0, 5)", "10",
            "zone: 1 4 2 104 1003 2003 2002 2103 4005 4003 4105 5002 5000 5100",
            "name 5: 0 10 0 0, contacts 2 of 0 1 -1, hosts 2 of 2 0 -1, for -1, graces 0",
            "registrar 0: 73.0, paid 6.0 3.0 0.0 8.0, messages 14 24");
    }

    private static void askedAndAnswered() {
        changes(after(), "ask(3, 0, 30)", "15",
            "there: day 11, domains, contacts, hosts 7 6 6, messages 6",
            "name 0: 0 29 0 0, contacts 3 of 0 1 2, hosts 3 of 1 4 2, for 3, graces 3",
            "registrar 0: 81.0, paid 6.0 3.0 0.0 0.0, messages 14 24 10");
        changes(after(), "answer(1, 2, true)", "1",
            "there: day 11, domains, contacts, hosts 7 6 6, messages 7",
            "name 2: 2 34 0 0, contacts 3 of 1 3 0, hosts 2 of 3 2 -1, for -1, graces 4",
            "host 3: 2 22 2 3",
            "registrar 1: 491.25, paid 5.25 0.0 3.5 0.0, messages 12 24 11 22",
            "registrar 2: 12.0, paid 4.0 0.0 4.0 0.0, messages 22");
        changes(after(), "answer(1, 2, false)", "0",
            "there: day 11, domains, contacts, hosts 7 6 6, messages 6",
            "name 2: 1 24 0 0, contacts 3 of 1 3 0, hosts 2 of 3 2 -1, for -1, graces 0",
            "registrar 2: 16.0, paid 4.0 0.0 0.0 0.0, messages 32");
        changes(after(), "answer(3, 1, false)", "0",
            "there: day 11, domains, contacts, hosts 7 6 6, messages 6",
            "name 1: 1 14 0 0, contacts 1 of 1 -1 -1, hosts 1 of 3 -1 -1, for -1, graces 0",
            "registrar 3: -2.0, paid 2.0 3.0 0.0 0.0, messages 31");
    }

    private static void passedDays() {
        changes(after(), "pass(1)", "12",
            "there: day 12, domains, contacts, hosts 6 6 5, messages 8",
            "zone: 4 2 104 1003 2003 2002 2103 4005 4003 4105",
            "name 0: 0 29 0 0, contacts 3 of 0 1 2, hosts 2 of 4 2 -1, for -1, graces 3",
            "name 2: 2 34 0 0, contacts 3 of 1 3 0, hosts 2 of 3 2 -1, for -1, graces 4",
            "name 7: none",
            "name 9: 3 20 31 0, contacts 2 of 3 2 -1, hosts 1 of 0 -1 -1, for -1, graces 16",
            "host 1: none",
            "contact 2: 2 -1 -1 2",
            "host 3: 2 22 2 3",
            "registrar 1: 491.25, paid 5.25 0.0 3.5 0.0, messages 12 24 11 22",
            "registrar 2: 12.0, paid 4.0 0.0 4.0 0.0, messages 22 47");
        changes(after(), "pass(2)", "13",
            "there: day 13, domains, contacts, hosts 6 6 5, messages 8",
            "zone: 4 2 104 1003 2003 2002 2103 4005 4003 4105",
            "name 0: 0 29 0 0, contacts 3 of 0 1 2, hosts 2 of 4 2 -1, for -1, graces 2",
            "name 2: 2 34 0 0, contacts 3 of 1 3 0, hosts 2 of 3 2 -1, for -1, graces 4",
            "name 4: 1 24 0 0, contacts 2 of 4 3 -1, hosts 2 of 5 3 -1, for -1, graces 0",
            "name 5: 0 10 0 2, contacts 2 of 0 1 -1, hosts 2 of 2 0 -1, for -1, graces 0",
            "name 7: none",
            "name 9: 3 20 31 0, contacts 2 of 3 2 -1, hosts 1 of 0 -1 -1, for -1, graces 16",
            "host 1: none",
            "contact 2: 2 -1 -1 2",
            "host 3: 2 22 2 3",
            "registrar 1: 491.25, paid 5.25 0.0 3.5 0.0, messages 12 24 11 22",
            "registrar 2: 12.0, paid 4.0 0.0 4.0 0.0, messages 22 47");
        changes(after("pass(3)"), "pass(1)", "15",
            "there: day 15, domains, contacts, hosts 5 6 4, messages 10",
            "name 1: 1 24 0 0, contacts 1 of 1 -1 -1, hosts 1 of 3 -1 -1, for -1, graces 16",
            "name 5: none",
            "name 9: 3 20 31 0, contacts 2 of 3 2 -1, hosts 0 of -1 -1 -1, for -1, graces 16",
            "host 0: none",
            "contact 0: 0 -1 -1 2",
            "contact 1: 1 -1 -1 3",
            "host 2: 1 0 -1 2",
            "registrar 0: 81.0, paid 6.0 3.0 0.0 0.0, messages 14 24 45",
            "registrar 1: 488.625, paid 5.25 2.625 3.5 0.0, messages 12 24 11 22",
            "registrar 3: -2.0, paid 2.0 3.0 0.0 0.0, messages 31");
        changes(after("lock(1, 2, 31)", "price(2, 16.125)"), "pass(1)", "12",
            "there: day 12, domains, contacts, hosts 6 6 5, messages 7",
            "zone: 4 2 104 1003 4005 4003 4105",
            "name 0: 0 29 0 0, contacts 3 of 0 1 2, hosts 2 of 4 2 -1, for -1, graces 3",
            "name 2: 1 24 31 0, contacts 3 of 1 3 0, hosts 2 of 3 2 -1, for -1, graces 0",
            "name 7: none",
            "name 9: 3 20 31 0, contacts 2 of 3 2 -1, hosts 1 of 0 -1 -1, for -1, graces 16",
            "host 1: none",
            "contact 2: 2 -1 -1 2",
            "registrar 2: 16.0, paid 4.0 0.0 0.0 0.0, messages 32 47");
    }

    private static void messagesTaken() {
        changes(after(), "acknowledge(1)", "2",
            "there: day 11, domains, contacts, hosts 7 6 6, messages 4",
            "registrar 1: 491.25, paid 5.25 0.0 3.5 0.0, messages 24 11");
    }

    private static void looks() {
        changes(after(), "message(0)", "14");
        changes(after(), "balance(3)", "-2.0");
        changes(after(), "paid(1, 2)", "3.5");
        changes(after(), "domain(9, 7)", "16");
        changes(after(), "domain(0, 13)", "2");
        changes(after(), "thing(1, 3)", "3");
        changes(after(), "thing(101, 3)", "4");
        changes(after(), "zone(10)", "4105");
        changes(after(), "count(5)", "11");
        changes(after(), "count(6)", "-1");
    }

    private static String[] after(String... calls) {
        return calls;
    }

    /** The call, after others, answers so, and these rows and no others are new then. */
    private static void changes(String[] before, String call, String due, String... rows) {
        List<String> run = new ArrayList<>();
        for (String row : MADE) {
            run.add(row.split(" -> ")[0]);
        }
        run.addAll(Arrays.asList(before));
        List<String> old = new ChangesTest(run).rows();
        ChangesTest then = new ChangesTest(run);
        Runs.dueSame(call + ": its answer", due, then.answer(call));
        List<String> changed = then.rows();
        changed.removeAll(old);
        Runs.dueSame(call + ": what it changes", String.join("\n", rows),
            String.join("\n", changed));
    }

    private String answer(String call) {
        calls++;
        if (calls > MOST_CALLS) {
            throw new AssertionError("a desk is used for too many calls");
        }
        return Runs.answerTo(desk, call);
    }

    private List<String> rows() {
        List<String> rows = new ArrayList<>();
        rows.add("there: day" + answers("count(#)", 0, 1) + ", domains, contacts, hosts"
            + answers("count(#)", 1, 4) + ", messages" + answers("count(#)", 4, 5));
        rows.add("zone:" + answers("zone(#)", 0, Integer.parseInt(answer("count(5)"))));
        for (int name = 0; name < 10; name++) {
            rows.add("name " + name + ":" + domain(name));
        }
        for (int number = 0; number < 8; number++) {
            rows.add("host " + number + ":" + thing(number));
            rows.add("contact " + number + ":" + thing(100 + number));
        }
        for (int registrar = 0; registrar < 4; registrar++) {
            rows.add("registrar " + registrar + ":" + answers("balance(#)", registrar, registrar + 1)
                + ", paid" + answers("paid(" + registrar + ", #)", 0, 4)
                + ", messages" + messages(registrar));
        }
        return rows;
    }

    private String domain(int name) {
        String look = "domain(" + name + ", #)";
        if (answer("domain(" + name + ", 0)").equals("NSE")) {
            return " none";
        }
        return answers(look, 0, 4) + ", contacts" + answers(look, 4, 5) + " of"
            + answers(look, 8, 11) + ", hosts" + answers(look, 5, 6) + " of"
            + answers(look, 11, 14) + ", for" + answers(look, 6, 7) + ", graces"
            + answers(look, 7, 8);
    }

    private String thing(int number) {
        if (answer("thing(" + number + ", 0)").equals("NSE")) {
            return " none";
        }
        return answers("thing(" + number + ", #)", 0, 4);
    }

    private String messages(int registrar) {
        StringBuilder text = new StringBuilder();
        String oldest = answer("message(" + registrar + ")");
        for (int i = 0; i < 13 && !oldest.equals("NSE"); i++) {
            text.append(' ').append(oldest);
            answer("acknowledge(" + registrar + ")");
            oldest = answer("message(" + registrar + ")");
        }
        return text.toString();
    }

    private String answers(String look, int first, int end) {
        StringBuilder text = new StringBuilder();
        for (int number = first; number < end; number++) {
            text.append(' ').append(answer(look.replace("#", String.valueOf(number))));
        }
        return text.toString();
    }
}
