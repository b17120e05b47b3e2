/**
 * The sentences of the document's terms, by their words: what is there at first, what is paid from
 * which BALANCE on, the last DAY on which something is on and the first on which it is over, what a
 * DAY passing does, and the message that is lost.
 */
public final class TermsTest {
    /** Registrar 0 has name 2 with CODE 5, for nothing; registrar 1 has nothing. */
    private static final String[] FREE = {
        "price(0, 0.0) -> 0", "contact(0) -> 0", "create(0, 2, 1, 5, 0) -> 10",
    };

    private TermsTest() {
    }

    public static void main(String[] args) {
        atFirst();
        exact();
        atMostEightContacts();
        atMostEightHosts();
        fromHundredOn();
        fromHundredOnOfTheOneWhoPays();
        sevenEighthsAreWhatMustBeThere();
        lessIsThere();
        belowNothing();
        autoBelowNothing();
        graceOfCreate();
        graceOfRenew();
        graceOfTransfer();
        graceOfAuto();
        lastOnePaid();
        renewThenAuto();
        locksOneByOne();
        locksThatForbidNoDay();
        transferThatWaits();
        askedAgain();
        transferOnItsDay();
        expiry();
        redemptionAndLeaving();
        noAutoButActive();
        namesFromZeroOn();
        hostsOfTheGone();
        hostsOfTheGoneInAnyState();
        transferDone();
        transferThenAuto();
        oldestIsLost();
        oldestIsLostOfEachKind();
        Runs.end();
    }

    private static void atFirst() {
        for (int registrar = 0; registrar < 4; registrar++) {
            Runs.check("a BALANCE (0.0 at first) and a row of MESSAGES",
                "balance(" + registrar + ") -> 0.0", "message(" + registrar + ") -> NSE",
                "acknowledge(" + registrar + ") -> NSE", "paid(" + registrar + ", 0) -> 0.0",
                "paid(" + registrar + ", 1) -> 0.0", "paid(" + registrar + ", 2) -> 0.0",
                "paid(" + registrar + ", 3) -> 0.0", "contact(0) -> 0",
                "create(" + registrar + ", 0, 1, 0, 0) -> ISE",
                "deposit(" + registrar + ", 0.875) -> 0.875",
                "create(" + registrar + ", 0, 1, 0, 0) -> ISE",
                "deposit(" + registrar + ", 0.125) -> 1.0",
                "create(" + registrar + ", 0, 1, 0, 0) -> 10", "balance(" + registrar + ") -> 0.0");
        }
        for (int name = 0; name < 10; name++) {
            Runs.check("for each there is a DOMAIN or not", "domain(" + name + ", 0) -> NSE",
                "contact(1) -> 0", "host(1, " + name + ", 1) -> NSE",
                "change(1, " + name + ", 0, 0, true) -> NSE", "lock(1, " + name + ", 0) -> NSE",
                "renew(1, " + name + ", 1) -> NSE", "delete(1, " + name + ") -> NSE",
                "restore(1, " + name + ") -> NSE", "ask(1, " + name + ", 0) -> NSE",
                "answer(1, " + name + ", true) -> NSE", "answer(1, " + name + ", false) -> NSE");
        }
        Runs.check("A YEAR has 10 DAYS; the DAY is 0 at first", "count(0) -> 0",
            "deposit(0, 9.0) -> 9.0", "contact(0) -> 0", "create(0, 0, 1, 0, 0) -> 10",
            "create(0, 1, 2, 0, 0) -> 20", "create(0, 2, 3, 0, 0) -> 30", "pass(1) -> 1",
            "create(0, 3, 1, 0, 0) -> 11");
    }

    /** The most and the least that can be paid, side by side in one sum. */
    private static void exact() {
        String title = "all that is worked out is exact: ";
        String[] rich = {"contact(0) -> 0", "price(0, 0.125) -> 0"};
        for (int thousands = 1; thousands < 401; thousands++) {
            rich = Runs.joined(rich, "deposit(0, 1000.0) -> " + thousands + "000.0");
        }
        Runs.check(title + "a BALANCE", Runs.joined(rich, "create(0, 2, 1, 5, 0) -> 10",
            "balance(0) -> 399999.890625", "deposit(0, 0.125) -> 400000.015625",
            "delete(0, 2) -> 2", "balance(0) -> 400000.125"));
        String[] spent = {"contact(0) -> 0", "price(0, 1000.0) -> 0"};
        for (int thousands = 1; thousands < 4; thousands++) {
            spent = Runs.joined(spent, "deposit(0, 1000.0) -> " + thousands + "000.0");
        }
        for (int i = 0; i < 150; i++) {
            spent = Runs.joined(spent, "create(0, 2, 3, 5, 0) -> 30", "delete(0, 2) -> 2");
        }
        Runs.check(title + "what is PAID", Runs.joined(spent, "paid(0, 0) -> 393750.0",
            "price(0, 0.125) -> 0", "create(0, 2, 1, 5, 0) -> 10", "paid(0, 0) -> 393750.109375",
            "balance(0) -> 2999.890625"));
        Runs.check(title + "what comes back", "contact(0) -> 0", "price(0, 999.875) -> 0",
            "price(1, 0.125) -> 0", "deposit(0, 1000.0) -> 1000.0", "deposit(0, 1000.0) -> 2000.0",
            "deposit(0, 1000.0) -> 3000.0", "create(0, 2, 3, 5, 0) -> 30",
            "balance(0) -> 375.328125", "renew(0, 2, 1) -> 40", "balance(0) -> 375.21875",
            "paid(0, 0) -> 2624.671875", "paid(0, 1) -> 0.109375", "delete(0, 2) -> 2",
            "balance(0) -> 3000.0");
    }

    private static void atMostEightContacts() {
        String[] seven = {
            "contact(0) -> 0", "contact(1) -> 1", "contact(2) -> 2", "contact(3) -> 3",
            "contact(0) -> 4", "contact(0) -> 5", "contact(0) -> 6",
        };
        Runs.check("at most 8 each", Runs.joined(seven, "contact(3) -> 7", "contact(0) -> ISE",
            "contact(3) -> ISE", "count(2) -> 8", "host(0, -1, 0) -> 0"));
        Runs.check("numbers are not given again", Runs.joined(seven, "remove(0, 0, 6) -> 6",
            "remove(0, 0, 0) -> 5", "contact(0) -> 7", "contact(0) -> ISE", "count(2) -> 6",
            "thing(106, 0) -> NSE", "thing(100, 0) -> NSE", "thing(107, 0) -> 0",
            "remove(0, 0, 7) -> 5", "contact(0) -> ISE"));
        Runs.check("numbers are not given again, all removed", Runs.joined(seven,
            "contact(0) -> 7", "remove(0, 0, 0) -> 7", "remove(1, 0, 1) -> 6",
            "remove(2, 0, 2) -> 5", "remove(3, 0, 3) -> 4", "remove(0, 0, 4) -> 3",
            "remove(0, 0, 5) -> 2", "remove(0, 0, 6) -> 1", "remove(0, 0, 7) -> 0",
            "count(2) -> 0", "contact(0) -> ISE", "remove(0, 0, 7) -> NSE"));
    }

    private static void atMostEightHosts() {
        String[] seven = {
            "deposit(0, 9.0) -> 9.0", "contact(0) -> 0", "create(0, 4, 1, 0, 0) -> 10",
            "host(0, -1, 0) -> 0", "host(1, -1, 0) -> 1", "host(0, 4, 9) -> 2", "host(0, 4, 9) -> 3",
            "host(2, -1, 0) -> 4", "host(3, -1, 0) -> 5", "host(0, 4, 9) -> 6",
        };
        Runs.check("at most 8 each", Runs.joined(seven, "host(0, 4, 1) -> 7", "host(0, 4, 1) -> ISE",
            "host(0, -1, 0) -> ISE", "count(3) -> 8", "contact(0) -> 1"));
        Runs.check("numbers are not given again", Runs.joined(seven, "remove(0, 1, 6) -> 6",
            "remove(0, 1, 0) -> 5", "host(0, -1, 0) -> 7", "host(0, -1, 0) -> ISE", "count(3) -> 6",
            "remove(0, 1, 7) -> 5", "host(0, -1, 0) -> ISE"));
        Runs.check("numbers are not given again, with a domain gone", Runs.joined(seven,
            "delete(0, 4) -> 2", "count(3) -> 4", "host(0, -1, 0) -> 7", "host(0, -1, 0) -> ISE",
            "count(3) -> 5", "thing(2, 0) -> NSE", "thing(6, 0) -> NSE"));
    }

    private static void fromHundredOn() {
        String title = "at least 100.0 pays 0.875 of it: ";
        Runs.check(title + "CREATE", "contact(0) -> 0", "price(0, 8.0) -> 0",
            "deposit(0, 99.875) -> 99.875", "create(0, 2, 1, 5, 0) -> 10", "balance(0) -> 91.875",
            "deposit(0, 8.125) -> 100.0", "create(0, 3, 3, 5, 0) -> 30", "balance(0) -> 79.0",
            "paid(0, 0) -> 29.0", "delete(0, 2) -> 2", "balance(0) -> 87.0", "delete(0, 3) -> 2",
            "balance(0) -> 108.0");
        Runs.check(title + "RENEW", Runs.joined(FREE, "price(1, 8.0) -> 0",
            "deposit(0, 99.875) -> 99.875", "renew(0, 2, 1) -> 20", "balance(0) -> 91.875",
            "deposit(0, 8.125) -> 100.0", "renew(0, 2, 2) -> 40", "balance(0) -> 86.0",
            "paid(0, 1) -> 22.0", "delete(0, 2) -> 2", "balance(0) -> 100.0"));
        Runs.check(title + "RESTORE", Runs.joined(FREE, "price(3, 8.0) -> 0",
            "deposit(0, 99.875) -> 99.875", "pass(4) -> 4", "delete(0, 2) -> 1",
            "restore(0, 2) -> 10", "balance(0) -> 91.875", "deposit(0, 8.125) -> 100.0",
            "delete(0, 2) -> 1", "restore(0, 2) -> 10", "balance(0) -> 93.0", "paid(0, 3) -> 15.0"));
        Runs.check(title + "AUTO, below", Runs.joined(FREE, "price(1, 8.0) -> 0",
            "deposit(0, 99.875) -> 99.875", "pass(11) -> 11", "balance(0) -> 91.875",
            "paid(0, 1) -> 8.0", "delete(0, 2) -> 1", "balance(0) -> 99.875"));
        Runs.check(title + "AUTO, from it on", Runs.joined(FREE, "price(1, 8.0) -> 0",
            "deposit(0, 100.0) -> 100.0", "pass(11) -> 11", "balance(0) -> 93.0",
            "paid(0, 1) -> 7.0", "delete(0, 2) -> 1", "balance(0) -> 100.0"));
    }

    private static void fromHundredOnOfTheOneWhoPays() {
        String title = "at least 100.0 pays 0.875 of it: TRANSFER, ";
        String[] asked = Runs.joined(FREE, "price(2, 8.0) -> 0", "ask(1, 2, 5) -> 4");
        Runs.check(title + "said yes to, below", Runs.joined(asked, "deposit(1, 99.875) -> 99.875",
            "deposit(0, 500.0) -> 500.0", "answer(0, 2, true) -> 1", "balance(1) -> 91.875",
            "paid(1, 2) -> 8.0", "balance(0) -> 500.0", "delete(1, 2) -> 1", "balance(1) -> 99.875"));
        Runs.check(title + "said yes to, from it on", Runs.joined(asked, "deposit(1, 100.0) -> 100.0",
            "answer(0, 2, true) -> 1", "balance(1) -> 93.0", "paid(1, 2) -> 7.0",
            "delete(1, 2) -> 1", "balance(1) -> 100.0"));
        Runs.check(title + "by a DAY, below", Runs.joined(asked, "deposit(1, 99.875) -> 99.875",
            "pass(5) -> 5", "balance(1) -> 91.875", "delete(1, 2) -> 1", "balance(1) -> 99.875"));
        Runs.check(title + "by a DAY, from it on", Runs.joined(asked, "deposit(1, 100.0) -> 100.0",
            "pass(5) -> 5", "balance(1) -> 93.0", "delete(1, 2) -> 1", "balance(1) -> 100.0"));
    }

    private static void sevenEighthsAreWhatMustBeThere() {
        String title = "0.875 of it is what the BALANCE falls by: ";
        Runs.check(title + "CREATE", "contact(0) -> 0", "price(0, 1000.0) -> 0",
            "deposit(0, 874.875) -> 874.875", "create(0, 2, 1, 5, 0) -> ISE",
            "deposit(0, 0.125) -> 875.0", "create(0, 2, 1, 5, 0) -> 10", "balance(0) -> 0.0");
        Runs.check(title + "RENEW", Runs.joined(FREE, "price(1, 200.0) -> 0",
            "deposit(0, 349.875) -> 349.875", "renew(0, 2, 2) -> ISE", "deposit(0, 0.125) -> 350.0",
            "renew(0, 2, 2) -> 30", "balance(0) -> 0.0"));
        Runs.check(title + "RESTORE", Runs.joined(FREE, "price(3, 120.0) -> 0", "pass(4) -> 4",
            "delete(0, 2) -> 1", "deposit(0, 104.875) -> 104.875", "restore(0, 2) -> ISE",
            "deposit(0, 0.125) -> 105.0", "restore(0, 2) -> 10", "balance(0) -> 0.0"));
        Runs.check(title + "TRANSFER", Runs.joined(FREE, "price(2, 120.0) -> 0",
            "deposit(1, 104.875) -> 104.875", "ask(1, 2, 5) -> 4", "answer(0, 2, true) -> ISE",
            "deposit(1, 0.125) -> 105.0", "answer(0, 2, true) -> 1", "balance(1) -> 0.0"));
        Runs.check(title + "TRANSFER by a DAY", Runs.joined(FREE, "price(2, 120.0) -> 0",
            "deposit(1, 105.0) -> 105.0", "ask(1, 2, 5) -> 4", "pass(5) -> 5", "balance(1) -> 0.0",
            "domain(2, 0) -> 1"));
        Runs.check(title + "TRANSFER by a DAY, not", Runs.joined(FREE, "price(2, 120.0) -> 0",
            "deposit(1, 104.875) -> 104.875", "ask(1, 2, 5) -> 4", "pass(5) -> 5",
            "balance(1) -> 104.875", "domain(2, 0) -> 0", "message(1) -> 32"));
        Runs.check(title + "AUTO", Runs.joined(FREE, "price(1, 1000.0) -> 0",
            "deposit(0, 100.0) -> 100.0", "pass(11) -> 11", "balance(0) -> -775.0",
            "paid(0, 1) -> 875.0"));
    }

    private static void lessIsThere() {
        String title = "less is there: IllegalStateException: ";
        Runs.check(title + "CREATE", "contact(0) -> 0", "price(0, 2.5) -> 0",
            "deposit(0, 7.375) -> 7.375", "create(0, 2, 3, 5, 0) -> ISE", "count(1) -> 0",
            "deposit(0, 0.125) -> 7.5", "create(0, 2, 3, 5, 0) -> 30", "balance(0) -> 0.0",
            "create(0, 3, 1, 5, 0) -> ISE");
        Runs.check(title + "RENEW", Runs.joined(FREE, "price(1, 2.5) -> 0",
            "deposit(0, 4.875) -> 4.875", "renew(0, 2, 2) -> ISE", "deposit(0, 0.125) -> 5.0",
            "renew(0, 2, 2) -> 30", "balance(0) -> 0.0", "renew(0, 2, 1) -> ISE"));
        Runs.check(title + "RESTORE", Runs.joined(FREE, "price(3, 2.5) -> 0", "pass(4) -> 4",
            "delete(0, 2) -> 1", "restore(0, 2) -> ISE", "deposit(0, 2.375) -> 2.375",
            "restore(0, 2) -> ISE", "domain(2, 3) -> 1", "deposit(0, 0.125) -> 2.5",
            "restore(0, 2) -> 10", "balance(0) -> 0.0"));
        Runs.check(title + "TRANSFER", Runs.joined(FREE, "price(2, 2.5) -> 0",
            "deposit(1, 2.375) -> 2.375", "deposit(0, 50.0) -> 50.0", "ask(1, 2, 5) -> 4",
            "answer(0, 2, true) -> ISE", "domain(2, 6) -> 1", "deposit(1, 0.125) -> 2.5",
            "answer(0, 2, true) -> 1", "balance(1) -> 0.0", "balance(0) -> 50.0"));
        Runs.check(title + "TRANSFER by a DAY", Runs.joined(FREE, "price(2, 2.5) -> 0",
            "deposit(1, 2.5) -> 2.5", "ask(1, 2, 5) -> 4", "pass(5) -> 5", "balance(1) -> 0.0",
            "domain(2, 0) -> 1"));
        Runs.check(title + "TRANSFER by a DAY, which ends", Runs.joined(FREE, "price(2, 2.5) -> 0",
            "deposit(1, 2.375) -> 2.375", "ask(1, 2, 5) -> 4", "pass(5) -> 5",
            "balance(1) -> 2.375", "domain(2, 0) -> 0", "domain(2, 1) -> 10", "domain(2, 6) -> -1",
            "message(1) -> 32", "acknowledge(1) -> 0", "acknowledge(0) -> 0"));
    }

    private static void belowNothing() {
        String title = "nothing is less than there is, or more: ";
        String[] nothing = Runs.joined(FREE, "price(1, 0.0) -> 0", "price(2, 0.0) -> 0",
            "price(3, 0.0) -> 0");
        Runs.check(title + "a BALANCE of 0", Runs.joined(nothing, "create(0, 3, 3, 5, 0) -> 30",
            "renew(0, 2, 3) -> 40", "ask(1, 2, 5) -> 4", "answer(0, 2, true) -> 1", "pass(4) -> 4",
            "delete(1, 2) -> 1", "restore(1, 2) -> 50", "pass(20) -> 24", "balance(0) -> 0.0",
            "balance(1) -> 0.0", "paid(0, 1) -> 0.0"));
        Runs.check(title + "one below 0", Runs.joined(FREE, "create(1, 3, 2, 5, 0) -> 20",
            "pass(11) -> 11", "balance(0) -> -1.0", "price(1, 0.0) -> 0", "price(2, 0.0) -> 0",
            "price(3, 0.0) -> 0", "create(0, 4, 1, 5, 0) -> ISE", "renew(0, 2, 1) -> ISE",
            "ask(0, 3, 5) -> 15", "answer(1, 3, true) -> ISE", "pass(5) -> 16", "domain(3, 0) -> 1",
            "delete(0, 2) -> 1", "restore(0, 2) -> ISE", "deposit(0, 1.0) -> 0.0",
            "restore(0, 2) -> 20"));
    }

    private static void autoBelowNothing() {
        Runs.check("but AUTO: the BALANCE may fall below 0", Runs.joined(FREE, "price(1, 2.5) -> 0",
            "deposit(0, 2.625) -> 2.625", "pass(11) -> 11", "balance(0) -> 0.125", "pass(10) -> 21",
            "balance(0) -> -2.375", "pass(10) -> 31", "balance(0) -> -4.875", "domain(2, 1) -> 40",
            "paid(0, 1) -> 7.5", "delete(0, 2) -> 1", "balance(0) -> -2.375",
            "deposit(0, 2.5) -> 0.125"));
    }

    private static void graceOfCreate() {
        String[] made = {
            "pass(6) -> 6", "deposit(0, 9.0) -> 9.0", "contact(0) -> 0", "price(0, 2.0) -> 0",
            "create(0, 2, 2, 5, 0) -> 26", "balance(0) -> 5.0", "domain(2, 7) -> 1",
        };
        Runs.check("CREATE: on till 3 DAYS later is over", Runs.joined(made, "pass(3) -> 9",
            "domain(2, 7) -> 1", "delete(0, 2) -> 2", "balance(0) -> 9.0", "domain(2, 0) -> NSE"));
        Runs.check("CREATE: over on the 4th DAY", Runs.joined(made, "pass(4) -> 10",
            "domain(2, 7) -> 0", "delete(0, 2) -> 1", "balance(0) -> 5.0", "domain(2, 3) -> 1"));
    }

    private static void graceOfRenew() {
        String[] made = Runs.joined(FREE, "pass(5) -> 5", "deposit(0, 9.0) -> 9.0",
            "price(1, 2.0) -> 0", "renew(0, 2, 3) -> 40", "balance(0) -> 3.0", "domain(2, 7) -> 2");
        Runs.check("RENEW: on till 3 DAYS later is over", Runs.joined(made, "pass(3) -> 8",
            "domain(2, 7) -> 2", "delete(0, 2) -> 1", "balance(0) -> 9.0", "domain(2, 1) -> 40"));
        Runs.check("RENEW: over on the 4th DAY", Runs.joined(made, "pass(4) -> 9",
            "domain(2, 7) -> 0", "delete(0, 2) -> 1", "balance(0) -> 3.0", "domain(2, 1) -> 40"));
    }

    private static void graceOfTransfer() {
        String[] made = Runs.joined(FREE, "deposit(1, 9.0) -> 9.0", "price(2, 2.0) -> 0",
            "ask(1, 2, 5) -> 4");
        String[] answered = Runs.joined(made, "pass(1) -> 1", "answer(0, 2, true) -> 1",
            "balance(1) -> 7.0", "domain(2, 7) -> 4");
        Runs.check("TRANSFER: on till 3 DAYS later is over", Runs.joined(answered, "pass(3) -> 4",
            "domain(2, 7) -> 4", "delete(1, 2) -> 1", "balance(1) -> 9.0", "domain(2, 1) -> 20"));
        Runs.check("TRANSFER: over on the 4th DAY", Runs.joined(answered, "pass(4) -> 5",
            "domain(2, 7) -> 0", "delete(1, 2) -> 1", "balance(1) -> 7.0", "domain(2, 1) -> 20"));
        Runs.check("TRANSFER by a DAY: on till 3 DAYS later is over", Runs.joined(made,
            "pass(8) -> 8", "domain(2, 7) -> 4", "delete(1, 2) -> 1", "balance(1) -> 9.0"));
        Runs.check("TRANSFER by a DAY: over on the 4th DAY", Runs.joined(made,
            "pass(9) -> 9", "domain(2, 7) -> 0", "delete(1, 2) -> 1", "balance(1) -> 7.0"));
    }

    private static void graceOfAuto() {
        String[] made = Runs.joined(FREE, "deposit(0, 9.0) -> 9.0", "price(1, 2.0) -> 0",
            "pass(11) -> 11", "balance(0) -> 7.0", "domain(2, 7) -> 16", "domain(2, 1) -> 20");
        Runs.check("(AUTO: 4): on till that DAY is over", Runs.joined(made, "pass(4) -> 15",
            "domain(2, 7) -> 16", "delete(0, 2) -> 1", "balance(0) -> 9.0", "domain(2, 1) -> 10"));
        Runs.check("(AUTO: 4): over on the 5th DAY", Runs.joined(made, "pass(5) -> 16",
            "domain(2, 7) -> 0", "delete(0, 2) -> 1", "balance(0) -> 7.0", "domain(2, 1) -> 20"));
    }

    private static void lastOnePaid() {
        Runs.check("the last one paid: how much, and the DAY it ends", Runs.joined(FREE,
            "deposit(0, 99.0) -> 99.0", "price(1, 8.0) -> 0", "pass(1) -> 1",
            "renew(0, 2, 2) -> 30", "balance(0) -> 83.0", "pass(3) -> 4", "price(1, 2.0) -> 0",
            "renew(0, 2, 1) -> 40", "balance(0) -> 81.0", "pass(3) -> 7", "domain(2, 7) -> 2",
            "delete(0, 2) -> 1", "balance(0) -> 83.0", "paid(0, 1) -> 18.0"));
        Runs.check("for each of CREATE, RENEW, TRANSFER and AUTO", Runs.joined(FREE,
            "deposit(0, 50.0) -> 50.0", "deposit(1, 50.0) -> 50.0", "price(0, 1.0) -> 0",
            "price(1, 2.0) -> 0", "price(2, 4.0) -> 0", "create(0, 3, 1, 5, 0) -> 10",
            "renew(0, 3, 1) -> 20", "domain(3, 7) -> 3", "delete(0, 3) -> 2", "balance(0) -> 50.0",
            "pass(11) -> 11", "renew(0, 2, 1) -> 30", "domain(2, 7) -> 18", "balance(0) -> 46.0",
            "ask(1, 2, 5) -> 15", "answer(0, 2, true) -> 1", "renew(1, 2, 1) -> 50",
            "domain(2, 7) -> 6", "balance(1) -> 44.0", "delete(1, 2) -> 1", "balance(1) -> 50.0",
            "domain(2, 1) -> 50", "balance(0) -> 46.0"));
    }

    /** An EXPIRY that is before the DAY though it was renewed: AUTO comes in RENEW's grace. */
    private static void renewThenAuto() {
        String[] rows = Runs.joined(FREE, "deposit(0, 90.0) -> 90.0", "pass(15) -> 15",
            "balance(0) -> 89.0", "delete(0, 2) -> 1", "balance(0) -> 90.0", "pass(5) -> 20",
            "restore(0, 2) -> 10", "price(1, 2.0) -> 0", "renew(0, 2, 1) -> 20",
            "domain(2, 7) -> 2", "balance(0) -> 87.0", "price(1, 5.0) -> 0", "pass(1) -> 21",
            "domain(2, 1) -> 30", "domain(2, 7) -> 18", "balance(0) -> 82.0");
        Runs.check("for each of CREATE, RENEW, TRANSFER and AUTO: both are on", Runs.joined(rows,
            "pass(2) -> 23", "domain(2, 7) -> 18", "delete(0, 2) -> 1", "balance(0) -> 89.0",
            "domain(2, 1) -> 20", "paid(0, 1) -> 8.0"));
        Runs.check("for each of CREATE, RENEW, TRANSFER and AUTO: AUTO's is on", Runs.joined(rows,
            "pass(3) -> 24", "domain(2, 7) -> 16", "delete(0, 2) -> 1", "balance(0) -> 87.0",
            "domain(2, 1) -> 20"));
    }

    private static void locksOneByOne() {
        String[] made = Runs.joined(FREE, "deposit(0, 9.0) -> 9.0", "contact(0) -> 1",
            "host(0, -1, 0) -> 0", "change(0, 2, 1, 0, true) -> 1");
        int[] locks = {0, 1, 2, 4, 8, 16};
        for (int lock : locks) {
            Runs.check("1 no updates, 2 no removing, 4 no transfers, 8 no renewing, 16 HELD: " + lock,
                tries(made, lock));
            Runs.check("1 no updates, 2 no removing, 4 no transfers, 8 no renewing, 16 HELD: all but "
                + lock, tries(made, 31 - lock));
        }
    }

    private static String[] tries(String[] made, int locks) {
        String change = (locks & 1) != 0 ? "UOE" : "2";
        String takeOff = (locks & 1) != 0 ? "UOE" : "1";
        boolean asks = (locks & 4) == 0;
        return Runs.joined(made, "lock(0, 2, " + locks + ") -> 0",
            "count(5) -> " + ((locks & 16) != 0 ? "0" : "1"),
            "change(0, 2, 0, 1, true) -> " + change, "change(0, 2, 0, 1, false) -> " + takeOff,
            "renew(0, 2, 1) -> " + ((locks & 8) != 0 ? "UOE" : "20"),
            "host(0, 2, 1) -> 1", "ask(1, 2, 5) -> " + (asks ? "4" : "UOE"),
            "answer(0, 2, false) -> " + (asks ? "0" : "NSE"), "lock(0, 2, " + locks + ") -> " + locks,
            "delete(0, 2) -> " + ((locks & 2) != 0 ? "UOE" : "2"));
    }

    private static void locksThatForbidNoDay() {
        String[] asked = Runs.joined(FREE, "deposit(0, 9.0) -> 9.0", "deposit(1, 9.0) -> 9.0",
            "ask(1, 2, 5) -> 4", "lock(0, 2, 31) -> 0");
        Runs.check("no LOCK keeps a DAY from passing: TRANSFER", Runs.joined(asked, "pass(5) -> 5",
            "domain(2, 0) -> 1", "domain(2, 2) -> 31", "domain(2, 7) -> 4"));
        Runs.check("no LOCK keeps a DAY from passing: AUTO", Runs.joined(asked,
            "answer(0, 2, false) -> 0", "pass(11) -> 11", "domain(2, 1) -> 20",
            "balance(0) -> 8.0", "domain(2, 2) -> 31"));
        Runs.check("no LOCK keeps a DAY from passing: REDEMPTION and LEAVING", Runs.joined(asked,
            "answer(0, 2, false) -> 0", "pass(4) -> 4", "lock(0, 2, 29) -> 31",
            "delete(0, 2) -> 1", "domain(2, 2) -> 29", "pass(6) -> 10", "domain(2, 3) -> 2",
            "domain(2, 2) -> 29", "pass(2) -> 12", "domain(2, 3) -> NSE"));
        Runs.check("a domain that is restored has its LOCKS and its CODE still", Runs.joined(asked,
            "answer(0, 2, false) -> 0", "pass(4) -> 4", "lock(0, 2, 13) -> 31",
            "delete(0, 2) -> 1", "pass(5) -> 9", "restore(0, 2) -> 10", "domain(2, 2) -> 13",
            "renew(0, 2, 1) -> UOE", "lock(0, 2, 0) -> 13", "ask(1, 2, 4) -> UOE",
            "ask(1, 2, 5) -> 13"));
    }

    private static void transferThatWaits() {
        Runs.check("at most one TRANSFER that waits: for a registrar, till a DAY", Runs.joined(FREE,
            "pass(3) -> 3", "domain(2, 6) -> -1", "answer(0, 2, true) -> NSE",
            "answer(0, 2, false) -> NSE", "answer(1, 2, false) -> NSE", "ask(1, 2, 5) -> 7",
            "ask(1, 2, 5) -> ISE", "ask(3, 2, 5) -> ISE", "domain(2, 6) -> 1", "pass(4) -> 7",
            "domain(2, 6) -> 1", "ask(3, 2, 5) -> ISE", "answer(1, 2, false) -> 0",
            "domain(2, 6) -> -1", "ask(3, 2, 5) -> 11", "domain(2, 6) -> 3", "pass(4) -> 11",
            "domain(2, 6) -> 3", "domain(2, 0) -> 0", "pass(1) -> 12", "domain(2, 6) -> -1"));
    }

    private static void askedAgain() {
        Runs.check("one that is asked for again waits till a DAY of its own", Runs.joined(FREE,
            "deposit(3, 9.0) -> 9.0", "ask(1, 2, 5) -> 4", "answer(1, 2, false) -> 0",
            "pass(2) -> 2", "ask(3, 2, 5) -> 6", "pass(4) -> 6", "domain(2, 6) -> 3",
            "domain(2, 0) -> 0", "pass(1) -> 7", "domain(2, 6) -> -1", "domain(2, 0) -> 3"));
    }

    private static void transferOnItsDay() {
        String[] asked = Runs.joined(FREE, "deposit(1, 9.0) -> 9.0", "host(0, 2, 8) -> 0",
            "ask(1, 2, 5) -> 4", "pass(4) -> 4", "domain(2, 6) -> 1", "domain(2, 0) -> 0");
        Runs.check("a DAY before this one: yes on the last DAY", Runs.joined(asked,
            "answer(0, 2, true) -> 1", "domain(2, 0) -> 1", "domain(2, 1) -> 20", "pass(1) -> 5",
            "domain(2, 1) -> 20", "count(4) -> 3"));
        Runs.check("a DAY before this one: no on the last DAY", Runs.joined(asked,
            "answer(0, 2, false) -> 0", "pass(1) -> 5", "domain(2, 0) -> 0", "domain(2, 1) -> 10",
            "count(4) -> 2"));
        Runs.check("done as if the OWNER had said yes", Runs.joined(asked, "pass(1) -> 5",
            "answer(0, 2, true) -> NSE", "answer(1, 2, false) -> NSE", "domain(2, 0) -> 1",
            "domain(2, 1) -> 20", "domain(2, 6) -> -1", "domain(2, 7) -> 4", "thing(0, 0) -> 1",
            "balance(1) -> 8.0", "paid(1, 2) -> 1.0", "message(1) -> 22", "acknowledge(1) -> 0",
            "message(0) -> 12", "acknowledge(0) -> 1", "message(0) -> 22", "acknowledge(0) -> 0"));
        Runs.check("(it can't be paid: it ends, as if no)", Runs.joined(asked, "price(2, 9.125) -> 0",
            "answer(0, 2, true) -> ISE", "pass(1) -> 5", "answer(0, 2, true) -> NSE",
            "domain(2, 0) -> 0", "domain(2, 1) -> 10", "domain(2, 6) -> -1", "domain(2, 7) -> 0",
            "thing(0, 0) -> 0", "balance(1) -> 9.0", "paid(1, 2) -> 0.0", "message(1) -> 32",
            "acknowledge(1) -> 0", "acknowledge(0) -> 0"));
    }

    private static void expiry() {
        Runs.check("ACTIVE, and its EXPIRY is before the DAY", Runs.joined(FREE, "pass(9) -> 9",
            "domain(2, 1) -> 10", "pass(1) -> 10", "domain(2, 1) -> 10", "domain(2, 7) -> 0",
            "balance(0) -> 0.0", "pass(1) -> 11", "domain(2, 1) -> 20", "domain(2, 7) -> 16",
            "balance(0) -> -1.0", "pass(9) -> 20", "domain(2, 1) -> 20", "balance(0) -> -1.0",
            "pass(1) -> 21", "domain(2, 1) -> 30", "balance(0) -> -2.0", "count(4) -> 0"));
        Runs.check("renewed on the DAY of its EXPIRY it is not renewed by itself", Runs.joined(FREE,
            "deposit(0, 9.0) -> 9.0", "pass(10) -> 10", "renew(0, 2, 1) -> 20", "pass(10) -> 20",
            "balance(0) -> 8.0", "domain(2, 7) -> 0", "pass(1) -> 21", "balance(0) -> 7.0"));
    }

    private static void redemptionAndLeaving() {
        String[] deleted = Runs.joined(FREE, "deposit(0, 9.0) -> 9.0", "pass(5) -> 5",
            "delete(0, 2) -> 1", "domain(2, 3) -> 1");
        Runs.check("REDEMPTION: its last DAY", Runs.joined(deleted, "pass(5) -> 10",
            "domain(2, 3) -> 1", "restore(0, 2) -> 10", "domain(2, 3) -> 0", "pass(5) -> 15",
            "domain(2, 3) -> 0"));
        Runs.check("REDEMPTION that ends before the DAY: LEAVING", Runs.joined(deleted,
            "pass(6) -> 11", "domain(2, 3) -> 2", "restore(0, 2) -> UOE", "count(1) -> 1",
            "count(4) -> 0"));
        Runs.check("LEAVING: its last DAY", Runs.joined(deleted, "pass(7) -> 12", "domain(2, 3) -> 2",
            "restore(0, 2) -> UOE", "create(0, 2, 1, 0, 0) -> ISE", "remove(0, 0, 0) -> ISE",
            "count(4) -> 0"));
        Runs.check("LEAVING that ends before the DAY: the domain is gone", Runs.joined(deleted,
            "pass(8) -> 13", "domain(2, 3) -> NSE", "restore(0, 2) -> NSE", "count(1) -> 0",
            "message(0) -> 42", "acknowledge(0) -> 0", "create(1, 2, 2, 0, 0) -> 33",
            "domain(2, 0) -> 1", "domain(2, 3) -> 0", "pass(20) -> 33", "domain(2, 3) -> 0"));
        Runs.check("one by one or all at once", Runs.joined(deleted, "pass(1) -> 6", "pass(1) -> 7",
            "pass(1) -> 8", "pass(1) -> 9", "pass(1) -> 10", "domain(2, 3) -> 1", "pass(1) -> 11",
            "domain(2, 3) -> 2", "pass(1) -> 12", "domain(2, 3) -> 2", "pass(1) -> 13",
            "domain(2, 3) -> NSE", "pass(1) -> 14", "count(4) -> 1"));
        Runs.check("to end 5 DAYS later, a second time", Runs.joined(deleted, "pass(2) -> 7",
            "restore(0, 2) -> 10", "delete(0, 2) -> 1", "pass(5) -> 12", "domain(2, 3) -> 1",
            "pass(1) -> 13", "domain(2, 3) -> 2", "pass(1) -> 14", "domain(2, 3) -> 2",
            "pass(1) -> 15", "domain(2, 3) -> NSE"));
    }

    private static void noAutoButActive() {
        Runs.check("ACTIVE alone is renewed by itself", Runs.joined(FREE, "deposit(0, 9.0) -> 9.0",
            "pass(8) -> 8", "delete(0, 2) -> 1", "pass(5) -> 13", "domain(2, 3) -> 1",
            "domain(2, 1) -> 10", "domain(2, 7) -> 0", "pass(2) -> 15", "domain(2, 3) -> 2",
            "domain(2, 1) -> 10", "domain(2, 7) -> 0", "balance(0) -> 9.0", "paid(0, 1) -> 0.0"));
        Runs.check("restored before its EXPIRY is over it is not", Runs.joined(FREE,
            "deposit(0, 9.0) -> 9.0", "pass(5) -> 5", "delete(0, 2) -> 1", "pass(5) -> 10",
            "restore(0, 2) -> 10", "domain(2, 7) -> 0", "balance(0) -> 8.0", "pass(1) -> 11",
            "domain(2, 1) -> 20", "balance(0) -> 7.0"));
    }

    private static void namesFromZeroOn() {
        String[] two = {
            "price(0, 0.0) -> 0", "contact(0) -> 0", "create(0, 9, 3, 5, 0) -> 30",
            "create(0, 0, 3, 5, 0) -> 30", "create(0, 4, 3, 5, 0) -> 30",
        };
        Runs.check("for the names from 0 on: what is there is paid for the first", Runs.joined(two,
            "deposit(1, 2.0) -> 2.0", "ask(1, 9, 5) -> 4", "ask(1, 4, 5) -> 4", "ask(1, 0, 5) -> 4",
            "pass(5) -> 5", "domain(0, 0) -> 1", "domain(4, 0) -> 1", "domain(9, 0) -> 0",
            "message(1) -> 20", "acknowledge(1) -> 2", "message(1) -> 24", "acknowledge(1) -> 1",
            "message(1) -> 39", "acknowledge(1) -> 0", "balance(1) -> 0.0"));
        Runs.check("for the names from 0 on: their messages", Runs.joined(two, "pass(4) -> 4",
            "delete(0, 9) -> 1", "delete(0, 4) -> 1", "delete(0, 0) -> 1", "pass(8) -> 12",
            "message(0) -> 40", "acknowledge(0) -> 2", "message(0) -> 44", "acknowledge(0) -> 1",
            "message(0) -> 49", "acknowledge(0) -> 0", "count(1) -> 0"));
        Runs.check("a name's renewing comes before the transfer of the next", "price(0, 0.0) -> 0",
            "contact(0) -> 0", "create(1, 0, 1, 5, 0) -> 10", "create(0, 9, 3, 5, 0) -> 30",
            "deposit(1, 1.0) -> 1.0", "pass(6) -> 6", "ask(1, 9, 5) -> 10", "pass(5) -> 11",
            "domain(0, 1) -> 20", "domain(9, 0) -> 0", "balance(1) -> 0.0", "message(1) -> 39");
        Runs.check("a name's transfer comes before the renewing of the next", "price(0, 0.0) -> 0",
            "contact(0) -> 0", "create(1, 9, 1, 5, 0) -> 10", "create(0, 0, 3, 5, 0) -> 30",
            "deposit(1, 1.0) -> 1.0", "pass(6) -> 6", "ask(1, 0, 5) -> 10", "pass(5) -> 11",
            "domain(9, 1) -> 20", "domain(0, 0) -> 1", "balance(1) -> -1.0", "message(1) -> 20");
    }

    private static void hostsOfTheGone() {
        String[] used = {
            "price(0, 0.0) -> 0", "contact(0) -> 0", "create(0, 4, 1, 5, 0) -> 10",
            "create(1, 0, 3, 5, 0) -> 30", "create(1, 9, 3, 5, 0) -> 30", "host(0, 4, 1) -> 0",
            "host(1, 0, 2) -> 1", "host(0, 4, 3) -> 2", "host(0, -1, 0) -> 3", "pass(4) -> 4",
            "change(0, 4, 1, 1, true) -> 1", "change(0, 4, 1, 3, true) -> 2", "delete(0, 4) -> 1",
            "host(0, 4, 5) -> 4", "change(1, 0, 1, 0, true) -> 1", "change(1, 0, 1, 1, true) -> 2",
            "change(1, 0, 1, 4, true) -> 3", "change(1, 9, 1, 3, true) -> 1",
            "change(1, 9, 1, 4, true) -> 2", "change(1, 9, 1, 2, true) -> 3", "pass(7) -> 11",
        };
        Runs.check("LEAVING keeps its hosts", Runs.joined(used, "domain(4, 3) -> 2", "count(3) -> 5",
            "domain(0, 5) -> 3", "domain(9, 5) -> 3", "thing(1, 3) -> 2", "thing(3, 3) -> 2"));
        Runs.check("every HOST that lies UNDER it too, out of all domains that use it",
            Runs.joined(used, "pass(1) -> 12", "domain(4, 3) -> NSE", "count(3) -> 2",
            "thing(0, 0) -> NSE", "thing(2, 0) -> NSE", "thing(4, 0) -> NSE", "thing(1, 3) -> 1",
            "thing(3, 3) -> 1", "domain(0, 5) -> 1", "domain(0, 11) -> 1", "domain(0, 12) -> -1",
            "domain(0, 13) -> -1", "domain(9, 5) -> 1", "domain(9, 11) -> 3", "domain(9, 12) -> -1",
            "count(5) -> 3", "zone(0) -> 1", "zone(1) -> 101", "zone(2) -> 9003",
            "change(1, 9, 1, 1, true) -> 2", "message(0) -> 44", "message(1) -> NSE"));
    }

    private static void hostsOfTheGoneInAnyState() {
        String[] used = {
            "price(0, 0.0) -> 0", "price(3, 0.0) -> 0", "contact(0) -> 0",
            "create(0, 4, 3, 5, 0) -> 30", "create(1, 3, 3, 5, 0) -> 30",
            "create(1, 5, 3, 5, 0) -> 30", "host(0, 4, 1) -> 0", "host(1, -1, 0) -> 1",
            "pass(4) -> 4", "delete(0, 4) -> 1", "change(1, 3, 1, 0, true) -> 1",
            "change(1, 3, 1, 1, true) -> 2", "change(1, 5, 1, 0, true) -> 1", "delete(1, 3) -> 1",
            "pass(4) -> 8", "delete(1, 5) -> 1", "pass(3) -> 11",
        };
        Runs.check("out of all domains that use it, in REDEMPTION too", Runs.joined(used,
            "domain(3, 5) -> 2", "domain(5, 5) -> 1", "domain(5, 3) -> 1", "pass(1) -> 12",
            "domain(3, 3) -> NSE", "domain(4, 3) -> NSE", "domain(5, 3) -> 1", "domain(5, 5) -> 0",
            "domain(5, 11) -> -1", "restore(1, 5) -> 30", "domain(5, 5) -> 0", "count(3) -> 1"));
        Runs.check("out of all domains that use it, in LEAVING too", "price(0, 0.0) -> 0",
            "contact(0) -> 0", "create(0, 4, 3, 5, 0) -> 30", "create(1, 5, 3, 5, 0) -> 30",
            "host(0, 4, 1) -> 0", "host(1, -1, 0) -> 1", "pass(4) -> 4", "delete(0, 4) -> 1",
            "change(1, 5, 1, 0, true) -> 1", "change(1, 5, 1, 1, true) -> 2", "pass(1) -> 5",
            "delete(1, 5) -> 1", "pass(7) -> 12", "domain(4, 3) -> NSE", "domain(5, 3) -> 2",
            "domain(5, 5) -> 1", "domain(5, 11) -> 1", "thing(0, 0) -> NSE", "thing(1, 3) -> 1");
        Runs.check("MESSAGE GONE to its OWNER, who it is then", "price(0, 0.0) -> 0",
            "deposit(1, 1.0) -> 1.0", "contact(0) -> 0", "create(0, 4, 3, 5, 0) -> 30",
            "ask(1, 4, 5) -> 4", "answer(0, 4, true) -> 1", "acknowledge(0) -> 1",
            "acknowledge(0) -> 0", "acknowledge(1) -> 0", "pass(4) -> 4", "delete(1, 4) -> 1",
            "pass(8) -> 12", "message(1) -> 44", "message(0) -> NSE");
    }

    private static void transferDone() {
        String[] asked = {
            "price(0, 0.0) -> 0", "contact(0) -> 0", "contact(1) -> 1", "create(0, 2, 1, 5, 0) -> 10",
            "create(0, 3, 1, 5, 0) -> 10", "host(0, 2, 1) -> 0", "host(0, 3, 2) -> 1",
            "host(0, -1, 0) -> 2", "host(0, 2, 3) -> 3", "change(0, 2, 1, 1, true) -> 1",
            "change(0, 2, 1, 2, true) -> 2", "change(0, 3, 1, 0, true) -> 1",
            "deposit(0, 9.0) -> 9.0", "deposit(1, 9.0) -> 9.0", "renew(0, 2, 1) -> 20",
            "lock(0, 2, 17) -> 0", "ask(1, 2, 5) -> 4",
        };
        String[] seen = {
            "domain(2, 0) -> 1", "domain(2, 1) -> 30", "domain(2, 2) -> 17", "domain(2, 3) -> 0",
            "domain(2, 4) -> 1", "domain(2, 5) -> 2", "domain(2, 6) -> -1", "domain(2, 7) -> 4",
            "domain(2, 8) -> 0", "domain(2, 11) -> 1", "domain(2, 12) -> 2", "domain(3, 0) -> 0",
            "domain(3, 1) -> 10", "thing(0, 0) -> 1", "thing(1, 0) -> 0", "thing(2, 0) -> 0",
            "thing(3, 0) -> 1", "thing(100, 0) -> 0", "thing(101, 0) -> 1", "balance(0) -> 8.0",
            "balance(1) -> 8.0", "paid(0, 2) -> 0.0", "paid(1, 2) -> 1.0", "message(0) -> 12",
            "acknowledge(0) -> 1", "message(0) -> 22", "acknowledge(0) -> 0", "message(1) -> 22",
            "acknowledge(1) -> 0", "delete(0, 2) -> UOE", "ask(0, 2, 4) -> UOE",
        };
        Runs.check("A TRANSFER is done: by yes",
            Runs.joined(Runs.joined(asked, "answer(0, 2, true) -> 1"), seen));
        Runs.check("A TRANSFER is done: by a DAY",
            Runs.joined(Runs.joined(asked, "pass(5) -> 5"), seen));
        String[] kept = {
            "domain(2, 0) -> 0", "domain(2, 1) -> 20", "domain(2, 6) -> -1", "thing(0, 0) -> 0",
            "balance(1) -> 9.0", "message(0) -> 12", "acknowledge(0) -> 0", "message(1) -> 32",
            "acknowledge(1) -> 0",
        };
        Runs.check("It ends otherwise: by no",
            Runs.joined(Runs.joined(asked, "answer(0, 2, false) -> 0", "domain(2, 7) -> 3"), kept));
        Runs.check("It ends otherwise: taken back",
            Runs.joined(Runs.joined(asked, "answer(1, 2, false) -> 0", "domain(2, 7) -> 3"), kept));
        Runs.check("It ends otherwise: by a DAY", Runs.joined(Runs.joined(asked,
            "price(2, 9.125) -> 0", "pass(5) -> 5", "domain(2, 7) -> 0"), kept));
    }

    /** An EXPIRY far back, by deleting and restoring in AUTO's grace: on one DAY the TRANSFER is
     *  done and, the EXPIRY being before the DAY still, the new OWNER pays AUTO. */
    private static void transferThenAuto() {
        String[] rows = Runs.joined(FREE, "deposit(0, 90.0) -> 90.0", "deposit(1, 9.0) -> 9.0",
            "pass(11) -> 11");
        for (int day = 11; day < 59; day += 6) {
            rows = Runs.joined(rows, "domain(2, 1) -> 20", "delete(0, 2) -> 1",
                "pass(5) -> " + (day + 5), "restore(0, 2) -> 10", "pass(1) -> " + (day + 6));
        }
        rows = Runs.joined(rows, "delete(0, 2) -> 1", "restore(0, 2) -> 10", "ask(1, 2, 5) -> 63",
            "pass(4) -> 63", "domain(2, 1) -> 50", "domain(2, 0) -> 0", "domain(2, 7) -> 16",
            "paid(1, 1) -> 0.0", "pass(1) -> 64", "domain(2, 0) -> 1", "domain(2, 1) -> 70",
            "domain(2, 7) -> 20", "paid(1, 2) -> 1.0", "paid(1, 1) -> 1.0", "balance(1) -> 7.0");
        Runs.check("Then: ACTIVE, and its EXPIRY is before the DAY", Runs.joined(rows,
            "delete(1, 2) -> 1", "balance(1) -> 9.0", "domain(2, 1) -> 60"));
        Runs.check("Then: each grace has its own DAYS", Runs.joined(rows, "pass(3) -> 67",
            "domain(2, 7) -> 20", "pass(1) -> 68", "domain(2, 7) -> 16", "delete(1, 2) -> 1",
            "balance(1) -> 8.0", "domain(2, 1) -> 60"));
    }

    /** Registrar 0 gets twelve messages, of name 2 first and of name 3 last; 1 gets eleven. */
    private static String[] twelveMessages() {
        String[] rows = Runs.joined(FREE, "create(0, 3, 3, 5, 0) -> 30", "create(2, 8, 3, 5, 0) -> 30",
            "deposit(0, 9.0) -> 9.0", "deposit(1, 9.0) -> 9.0", "ask(2, 2, 5) -> 4",
            "answer(2, 2, false) -> 0");
        for (int i = 1; i < 12; i++) {
            rows = Runs.joined(rows, "ask(1, 3, 5) -> 4", "count(4) -> " + (2 * i + 1),
                "answer(1, 3, false) -> 0", "message(0) -> 12");
        }
        return Runs.joined(rows, "count(4) -> 24", "message(1) -> 33", "message(2) -> 32");
    }

    private static void oldestIsLost() {
        String[] full = twelveMessages();
        Runs.check("a row of MESSAGES, at most 12", Runs.joined(full, "message(0) -> 12",
            "acknowledge(0) -> 11", "message(0) -> 13", "acknowledge(0) -> 10"));
        Runs.check("One more than 12: the oldest of that registrar is lost", Runs.joined(full,
            "ask(3, 2, 5) -> 4", "count(4) -> 24", "message(0) -> 13", "message(1) -> 33",
            "message(2) -> 32", "acknowledge(0) -> 11", "acknowledge(0) -> 10", "acknowledge(0) -> 9",
            "acknowledge(0) -> 8", "acknowledge(0) -> 7", "acknowledge(0) -> 6", "acknowledge(0) -> 5",
            "acknowledge(0) -> 4", "acknowledge(0) -> 3", "acknowledge(0) -> 2", "message(0) -> 13",
            "acknowledge(0) -> 1", "message(0) -> 12", "acknowledge(0) -> 0", "message(0) -> NSE",
            "acknowledge(0) -> NSE", "count(4) -> 12"));
        Runs.check("after one is taken off there is room for one", Runs.joined(full,
            "acknowledge(0) -> 11", "ask(3, 2, 5) -> 4", "message(0) -> 13", "count(4) -> 24",
            "acknowledge(0) -> 11", "acknowledge(0) -> 10"));
        String[] rows = full;
        for (int i = 0; i < 12; i++) {
            rows = Runs.joined(rows, "message(0) -> 1" + (i == 0 ? "2" : "3"), "ask(3, 2, 5) -> 4",
                "answer(0, 2, false) -> 0", "count(4) -> " + (24 + i + 1));
        }
        Runs.check("twelve more: all the old ones are lost", Runs.joined(rows, "message(0) -> 12",
            "acknowledge(0) -> 11", "message(3) -> 32", "ask(3, 2, 5) -> 4",
            "answer(0, 2, false) -> 0", "count(4) -> 36"));
    }

    private static void oldestIsLostOfEachKind() {
        String[] full = twelveMessages();
        Runs.check("DONE to the old OWNER is one more than 12", Runs.joined(full,
            "ask(1, 2, 5) -> 4", "message(0) -> 13", "answer(0, 2, true) -> 1", "message(0) -> 13",
            "acknowledge(0) -> 11", "message(1) -> 33", "acknowledge(1) -> 11"));
        Runs.check("ENDED is one more than 12", Runs.joined(full, "ask(0, 8, 5) -> 4",
            "answer(2, 8, false) -> 0", "message(0) -> 13", "acknowledge(0) -> 11"));
        Runs.check("DONE to the new OWNER is one more than 12", Runs.joined(full,
            "ask(0, 8, 5) -> 4", "answer(2, 8, true) -> 1", "message(0) -> 13",
            "acknowledge(0) -> 11"));
        Runs.check("GONE is one more than 12", Runs.joined(full, "pass(4) -> 4", "delete(0, 3) -> 1",
            "pass(7) -> 11", "message(0) -> 12", "pass(1) -> 12", "message(0) -> 13",
            "acknowledge(0) -> 11"));
        Runs.check("DONE by a DAY is one more than 12", Runs.joined(full, "ask(0, 8, 5) -> 4",
            "pass(4) -> 4", "message(0) -> 12", "pass(1) -> 5", "message(0) -> 13",
            "acknowledge(0) -> 11"));
    }
}
