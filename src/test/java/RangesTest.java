/**
 * For each number and amount that a call takes: the last ones that are taken and the first ones
 * that are refused, on both sides, and the farthest ones of all.
 */
public final class RangesTest {
    private static final String[] FARTHEST = {"-2147483648", "2147483647"};
    private static final String[] NO_AMOUNTS = {
        "-0.125", "-1000.0", "1000.125", "NaN", "Infinity", "-Infinity",
    };
    /** Registrars 0 and 3 have a contact, a domain and a host each: names 0 and 9. */
    private static final String[] MADE = {
        "deposit(0, 50.0) -> 50.0", "deposit(3, 50.0) -> 50.0", "contact(0) -> 0", "contact(3) -> 1",
        "contact(0) -> 2", "contact(3) -> 3", "create(0, 0, 1, 0, 0) -> 10",
        "create(3, 9, 1, 99, 1) -> 10", "host(0, 0, 1) -> 0", "host(3, 9, 999) -> 1",
    };
    private static final String[] ASKED = Runs.joined(MADE,
        "ask(1, 0, 0) -> 4", "ask(1, 9, 99) -> 4");
    private static final String[] DELETED = Runs.joined(MADE,
        "pass(4) -> 4", "delete(0, 0) -> 1", "delete(3, 9) -> 1");

    private RangesTest() {
    }

    public static void main(String[] args) {
        registrarsThatMake();
        registrarsThatOwn();
        registrarsThatLook();
        namesOfNewThings();
        namesOfDomains();
        kinds();
        amounts();
        addresses();
        yearsAndDays();
        codesAndLocks();
        contactsAndHostsThatAreNotThere();
        numbersOfThings();
        whatIsAskedFor();
        allBetween();
        Runs.end();
    }

    private static void registrarsThatMake() {
        String title = "REGISTRARS 0 .. 3";
        edges(title, MADE, "deposit(#, 1.0)", "-1 4", "0 -> 50.0", "3 -> 50.0");
        edges(title, MADE, "contact(#)", "-1 4", "0 -> 4", "3 -> 4");
        edges(title, MADE, "host(#, -1, 0)", "-1 4", "0 -> 2", "3 -> 2");
        edges(title, MADE, "host(#, 0, 7)", "-1 4", "0 -> 2");
        edges(title, MADE, "host(#, 9, 7)", "-1 4", "3 -> 2");
        edges(title, MADE, "create(#, 5, 1, 0, 0)", "-1 4", "0 -> 10", "3 -> 10");
        edges(title, MADE, "ask(#, 9, 99)", "-1 4", "0 -> 4");
        edges(title, MADE, "ask(#, 0, 0)", "-1 4", "3 -> 4");
    }

    private static void registrarsThatOwn() {
        String title = "REGISTRARS 0 .. 3";
        edges(title, MADE, "remove(#, 0, 2)", "-1 4", "0 -> 3");
        edges(title, MADE, "remove(#, 0, 3)", "-1 4", "3 -> 3");
        edges(title, MADE, "remove(#, 1, 0)", "-1 4", "0 -> 1");
        edges(title, MADE, "remove(#, 1, 1)", "-1 4", "3 -> 1");
        edges(title, MADE, "change(#, 0, 1, 1, true)", "-1 4", "0 -> 1");
        edges(title, MADE, "change(#, 9, 0, 0, true)", "-1 4", "3 -> 2");
        edges(title, MADE, "lock(#, 0, 1)", "-1 4", "0 -> 0");
        edges(title, MADE, "lock(#, 9, 1)", "-1 4", "3 -> 0");
        edges(title, MADE, "renew(#, 0, 1)", "-1 4", "0 -> 20");
        edges(title, MADE, "renew(#, 9, 1)", "-1 4", "3 -> 20");
        edges(title, MADE, "delete(#, 0)", "-1 4", "0 -> 2");
        edges(title, MADE, "delete(#, 9)", "-1 4", "3 -> 2");
        edges(title, DELETED, "restore(#, 0)", "-1 4", "0 -> 10");
        edges(title, DELETED, "restore(#, 9)", "-1 4", "3 -> 10");
        edges(title, ASKED, "answer(#, 0, false)", "-1 4", "0 -> 0", "1 -> 0");
        edges(title, ASKED, "answer(#, 9, false)", "-1 4", "3 -> 0", "1 -> 0");
    }

    private static void registrarsThatLook() {
        String title = "REGISTRARS 0 .. 3";
        edges(title, ASKED, "message(#)", "-1 4", "0 -> 10", "3 -> 19");
        edges(title, ASKED, "acknowledge(#)", "-1 4", "0 -> 0", "3 -> 0");
        edges(title, MADE, "balance(#)", "-1 4", "0 -> 49.0", "3 -> 49.0", "1 -> 0.0", "2 -> 0.0");
        edges(title, MADE, "paid(#, 0)", "-1 4", "0 -> 1.0", "3 -> 1.0", "1 -> 0.0", "2 -> 0.0");
    }

    private static void namesOfNewThings() {
        String title = "NAMES 0 .. 9";
        String[] nothing = {"deposit(0, 50.0) -> 50.0", "contact(0) -> 0"};
        edges(title, nothing, "create(0, #, 1, 0, 0)", "-1 10", "0 -> 10", "9 -> 10");
        edges("a name 0 .. 9", MADE, "host(0, #, 7)", "-2 10", "0 -> 2", "1 -> NSE");
        edges("a name 0 .. 9", MADE, "host(3, #, 7)", "-2 10", "9 -> 2", "8 -> NSE");
        edges("or under none (-1)", MADE, "host(0, #, 0)", "-2 0 9 10", "-1 -> 2");
    }

    private static void namesOfDomains() {
        String title = "NAMES 0 .. 9";
        edges(title, MADE, "change(0, #, 0, 1, true)", "-1 10", "0 -> 2", "1 -> NSE");
        edges(title, MADE, "change(3, #, 0, 0, true)", "-1 10", "9 -> 2", "8 -> NSE");
        edges(title, MADE, "lock(0, #, 1)", "-1 10", "0 -> 0", "1 -> NSE");
        edges(title, MADE, "lock(3, #, 1)", "-1 10", "9 -> 0", "8 -> NSE");
        edges(title, MADE, "renew(0, #, 1)", "-1 10", "0 -> 20", "1 -> NSE");
        edges(title, MADE, "renew(3, #, 1)", "-1 10", "9 -> 20", "8 -> NSE");
        edges(title, MADE, "delete(0, #)", "-1 10", "0 -> 2", "1 -> NSE");
        edges(title, MADE, "delete(3, #)", "-1 10", "9 -> 2", "8 -> NSE");
        edges(title, DELETED, "restore(0, #)", "-1 10", "0 -> 10", "1 -> NSE");
        edges(title, DELETED, "restore(3, #)", "-1 10", "9 -> 10", "8 -> NSE");
        edges(title, MADE, "ask(1, #, 0)", "-1 10", "0 -> 4", "1 -> NSE");
        edges(title, MADE, "ask(1, #, 99)", "-1 10", "9 -> 4", "8 -> NSE");
        edges(title, ASKED, "answer(0, #, true)", "-1 10", "0 -> ISE", "1 -> NSE");
        edges(title, ASKED, "answer(3, #, false)", "-1 10", "9 -> 0", "8 -> NSE");
        edges(title, MADE, "domain(#, 0)", "-1 10", "0 -> 0", "1 -> NSE", "8 -> NSE", "9 -> 3");
    }

    private static void kinds() {
        edges("a kind 0 .. 3 of PRICES", MADE, "price(#, 1.0)", "-1 4", "0 -> 0", "3 -> 0");
        edges("for a kind 0 .. 3 PAID", MADE, "paid(0, #)", "-1 4", "0 -> 1.0", "3 -> 0.0");
        edges("a contact (kind 0)", MADE, "remove(0, #, 2)", "-1 2", "0 -> 3", "1 -> NSE");
        edges("or host (kind 1)", MADE, "remove(0, #, 0)", "-1 2", "0 -> ISE", "1 -> 1");
        edges("a contact (kind 0)", MADE, "change(0, 0, #, 3, true)", "-1 2", "0 -> 2", "1 -> NSE");
        edges("or host (kind 1)", MADE, "change(0, 0, #, 0, true)", "-1 2", "0 -> ISE", "1 -> 1");
        edges("or takes it off", MADE, "change(0, 0, #, 0, false)", "-1 2", "0 -> ISE", "1 -> ISE");
    }

    private static void amounts() {
        String title = "an amount 0 .. 1000";
        Runs.check(title, refusals("price(0, #)", NO_AMOUNTS));
        Runs.check(title, "price(0, 0.0) -> 0", "contact(0) -> 0", "create(0, 0, 3, 0, 0) -> 30",
            "balance(0) -> 0.0", "paid(0, 0) -> 0.0");
        Runs.check(title, "price(0, 0.125) -> 0", "contact(0) -> 0", "create(0, 0, 1, 0, 0) -> ISE",
            "deposit(0, 0.125) -> 0.125", "create(0, 0, 1, 0, 0) -> 10", "balance(0) -> 0.0");
        Runs.check(title, "price(0, 999.875) -> 0", "price(0, 1000.0) -> 0", "contact(0) -> 0",
            "deposit(0, 1000.0) -> 1000.0", "deposit(0, 1000.0) -> 2000.0",
            "deposit(0, 1000.0) -> 3000.0", "create(0, 0, 3, 0, 0) -> 30", "paid(0, 0) -> 2625.0",
            "balance(0) -> 375.0");
        title = "an amount above 0, at most 1000";
        Runs.check(title, refusals("deposit(0, #)", NO_AMOUNTS));
        Runs.check(title, refusals("deposit(3, #)", "0.0", "-0.0"));
        Runs.check(title, "deposit(0, 0.125) -> 0.125", "deposit(0, 0.125) -> 0.25",
            "deposit(0, 999.875) -> 1000.125", "deposit(0, 1000.0) -> 2000.125",
            "balance(0) -> 2000.125", "balance(1) -> 0.0");
    }

    private static void addresses() {
        String title = "UNDER a name it has an ADDRESS that is not 0";
        edges(title, MADE, "host(0, 0, #)", "-1 0 1000", "1 -> 2", "999 -> 2");
        edges(title, MADE, "host(3, 9, #)", "-1 0 1000", "1 -> 2", "999 -> 2");
        edges("under none it has 0", MADE, "host(0, -1, #)", "-1 1 999 1000", "0 -> 2");
        Runs.check("with an ADDRESS 0 .. 999", Runs.joined(MADE, "host(0, 0, 999) -> 2",
            "host(0, 0, 1) -> 3", "host(0, -1, 0) -> 4", "thing(2, 1) -> 999", "thing(3, 1) -> 1",
            "thing(4, 1) -> 0"));
    }

    private static void yearsAndDays() {
        edges("for 1 .. 3 YEARS", MADE, "create(0, 5, #, 0, 0)", "-1 0 4", "1 -> 10", "3 -> 30");
        edges("renews by 1 .. 3 YEARS", MADE, "renew(0, 0, #)", "-1 0 4", "1 -> 20", "3 -> 40");
        edges("Days 1 .. 20 pass", MADE, "pass(#)", "-1 0 21", "1 -> 1", "20 -> 20");
    }

    private static void codesAndLocks() {
        edges("a CODE 0 .. 99", MADE, "create(0, 5, 1, #, 0)", "-1 100", "0 -> 10", "99 -> 10");
        edges("by the CODE", MADE, "ask(1, 0, #)", "-1 100", "0 -> 4", "99 -> UOE", "1 -> UOE");
        edges("by the CODE", MADE, "ask(1, 9, #)", "-1 100", "0 -> UOE", "98 -> UOE", "99 -> 4");
        edges("the LOCKS 0 .. 31", MADE, "lock(0, 0, #)", "-1 32", "0 -> 0", "31 -> 0");
    }

    private static void contactsAndHostsThatAreNotThere() {
        String title = "a contact or host (whatever its number)";
        String[] others = {"-2147483648", "-100", "-1", "4", "7", "8", "100", "2147483647"};
        for (String number : others) {
            Runs.check(title, Runs.joined(MADE,
                "remove(0, 0, " + number + ") -> NSE", "remove(0, 1, " + number + ") -> NSE",
                "create(0, 5, 1, 0, " + number + ") -> NSE",
                "change(0, 0, 0, " + number + ", true) -> NSE",
                "change(0, 0, 0, " + number + ", false) -> NSE",
                "change(0, 0, 1, " + number + ", true) -> NSE",
                "change(0, 0, 1, " + number + ", false) -> NSE"));
        }
        String[] full = Runs.joined(MADE, "contact(0) -> 4", "contact(0) -> 5", "contact(0) -> 6",
            "contact(0) -> 7", "host(0, -1, 0) -> 2", "host(0, -1, 0) -> 3", "host(0, -1, 0) -> 4",
            "host(0, -1, 0) -> 5", "host(0, -1, 0) -> 6", "host(0, -1, 0) -> 7");
        Runs.check(title + ", all eight there", Runs.joined(full, "remove(0, 0, 8) -> NSE",
            "remove(0, 1, 8) -> NSE", "remove(0, 0, -1) -> NSE", "remove(0, 1, -1) -> NSE",
            "create(0, 5, 1, 0, 8) -> NSE", "create(0, 5, 1, 0, -1) -> NSE",
            "change(0, 0, 0, 8, true) -> NSE", "change(0, 0, 1, 8, true) -> NSE",
            "change(0, 0, 0, -1, true) -> NSE", "change(0, 0, 1, -1, false) -> NSE",
            "change(0, 0, 0, 7, true) -> 2", "change(0, 0, 1, 7, true) -> 1",
            "create(0, 5, 1, 0, 7) -> 10", "remove(0, 1, 6) -> 7", "remove(0, 0, 6) -> 7"));
        Runs.check("is there till it is removed", Runs.joined(MADE, "remove(0, 0, 2) -> 3",
            "remove(0, 1, 0) -> 1", "remove(0, 0, 2) -> NSE", "remove(0, 1, 0) -> NSE",
            "create(0, 5, 1, 0, 2) -> NSE", "change(0, 0, 0, 2, true) -> NSE",
            "change(0, 0, 1, 0, true) -> NSE", "change(0, 0, 1, 0, false) -> NSE",
            "thing(0, 0) -> NSE", "thing(102, 0) -> NSE"));
    }

    private static void numbersOfThings() {
        String[] full = {
            "contact(0) -> 0", "contact(1) -> 1", "contact(2) -> 2", "contact(3) -> 3",
            "contact(0) -> 4", "contact(1) -> 5", "contact(2) -> 6", "contact(3) -> 7",
            "host(0, -1, 0) -> 0", "host(1, -1, 0) -> 1", "host(2, -1, 0) -> 2",
            "host(3, -1, 0) -> 3", "host(0, -1, 0) -> 4", "host(1, -1, 0) -> 5",
            "host(2, -1, 0) -> 6", "host(3, -1, 0) -> 7",
        };
        String out = "-101 -100 -8 -1 8 9 50 92 99 108 200 1000";
        edges("(number 0 .. 7), (its number and 100)", full, "thing(#, 0)", out,
            "0 -> 0", "7 -> 3", "100 -> 0", "107 -> 3", "6 -> 2", "101 -> 1");
        edges("(number 0 .. 7), (its number and 100)", new String[0], "thing(#, 0)", out,
            "0 -> NSE", "7 -> NSE", "100 -> NSE", "107 -> NSE");
    }

    private static void whatIsAskedFor() {
        edges("Of a DOMAIN", MADE, "domain(0, #)", "-1 14", "0 -> 0", "13 -> -1", "7 -> 1", "8 -> 0");
        edges("Of a HOST", MADE, "thing(1, #)", "-1 4", "0 -> 3", "1 -> 999", "2 -> 9", "3 -> 0");
        edges("of a CONTACT", MADE, "thing(101, #)", "-1 4", "0 -> 3", "1 -> -1", "2 -> -1", "3 -> 1");
        Runs.check("-1 for others", Runs.joined(MADE, "count(-2147483648) -> -1", "count(-1) -> -1",
            "count(0) -> 0", "count(1) -> 2", "count(2) -> 4", "count(3) -> 2", "count(4) -> 0",
            "count(5) -> 0", "count(6) -> -1", "count(7) -> -1", "count(2147483647) -> -1"));
        Runs.check("there is none", Runs.joined(MADE, "zone(-1) -> NSE", "zone(0) -> NSE",
            "zone(1) -> NSE", "change(0, 0, 1, 1, true) -> 1", "zone(-2147483648) -> NSE",
            "zone(-1) -> NSE", "zone(0) -> 1", "zone(1) -> NSE", "zone(2147483647) -> NSE"));
    }

    /** No number between the edges is refused, and each is kept as it was given. */
    private static void allBetween() {
        String[] nothing = {"deposit(2, 9.0) -> 9.0", "contact(2) -> 0"};
        for (int code = 0; code < 100; code++) {
            Runs.check("a CODE " + code, Runs.joined(nothing,
                "create(2, 5, 1, " + code + ", 0) -> 10", "ask(1, 5, " + (code + 1) % 100 + ") -> UOE",
                "ask(1, 5, " + (code + 99) % 100 + ") -> UOE", "ask(1, 5, " + code + ") -> 4"));
        }
        for (int locks = 0; locks < 32; locks++) {
            Runs.check("LOCKS " + locks, Runs.joined(nothing, "create(2, 5, 1, 0, 0) -> 10",
                "lock(2, 5, " + locks + ") -> 0", "domain(5, 2) -> " + locks,
                "lock(2, 5, 0) -> " + locks, "domain(5, 2) -> 0"));
        }
        for (int days = 1; days < 21; days++) {
            Runs.check("Days " + days, "pass(" + days + ") -> " + days, "pass(1) -> " + (days + 1),
                "count(0) -> " + (days + 1));
        }
        for (int name = 0; name < 10; name++) {
            Runs.check("NAME " + name, Runs.joined(nothing,
                "create(2, " + name + ", 2, 0, 0) -> 20", "domain(" + name + ", 1) -> 20",
                "host(2, " + name + ", " + (1 + 110 * name) + ") -> 0",
                "thing(0, 1) -> " + (1 + 110 * name), "thing(0, 2) -> " + name, "count(1) -> 1"));
        }
    }

    /** The call with each of the numbers in place of #: the refused ones in one run, each taken one
     *  in a run of its own. */
    private static void edges(String title, String[] before, String call, String refused,
            String... taken) {
        Runs.check(title, Runs.joined(before, refusals(call, refused.split(" "))));
        Runs.check(title, Runs.joined(before, refusals(call, FARTHEST)));
        for (String row : taken) {
            String[] sides = row.split(" -> ");
            Runs.check(title, Runs.joined(before, call.replace("#", sides[0]) + " -> " + sides[1]));
        }
    }

    private static String[] refusals(String call, String... numbers) {
        String[] rows = new String[numbers.length];
        for (int i = 0; i < numbers.length; i++) {
            rows[i] = call.replace("#", numbers[i]) + " -> IAE";
        }
        return rows;
    }
}
