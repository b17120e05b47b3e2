import java.util.ArrayList;
import java.util.List;

/**
 * The boundary cases that the promises' own sentences name: nothing there, all full, the first and
 * the last, and what just fits and just does not.
 */
public final class EdgesTest {
    private EdgesTest() {
    }

    public static void main(String[] args) {
        howManyAreLeft();
        usedByOneDomainOrMore();
        oneToThreeOfAKind();
        fiveYearsBehindTheDay();
        deletedWithGraces();
        deletedWithHosts();
        deletedAndMadeAgain();
        restored();
        askedOnTheEdge();
        daysOneByOne();
        paidInAll();
        noneAndThree();
        nothingInTheZone();
        allInTheZone();
        hostsOfTheZoneThatAreUsed();
        allFull();
        Runs.end();
    }

    private static void howManyAreLeft() {
        Runs.check("6: how many are left of the kind", "contact(0) -> 0", "host(0, -1, 0) -> 0",
            "host(0, -1, 0) -> 1", "remove(0, 1, 0) -> 1", "remove(0, 0, 0) -> 0",
            "remove(0, 1, 1) -> 0", "remove(0, 0, 0) -> NSE", "remove(0, 1, 1) -> NSE",
            "contact(0) -> 1", "host(0, -1, 0) -> 2", "remove(0, 0, 1) -> 0", "remove(0, 1, 2) -> 0");
    }

    private static void usedByOneDomainOrMore() {
        String[] used = {
            "price(0, 0.0) -> 0", "contact(2) -> 0", "contact(2) -> 1", "host(2, -1, 0) -> 0",
            "create(0, 0, 1, 5, 0) -> 10", "create(1, 9, 1, 5, 0) -> 10",
            "change(0, 0, 1, 0, true) -> 1", "change(1, 9, 1, 0, true) -> 1",
            "change(0, 0, 0, 1, true) -> 2", "change(1, 9, 0, 1, true) -> 2",
        };
        Runs.check("6: A domain uses it: the first name, the last name, none", Runs.joined(used,
            "thing(0, 3) -> 2", "thing(100, 3) -> 2", "remove(2, 1, 0) -> ISE",
            "remove(2, 0, 0) -> ISE", "change(0, 0, 1, 0, false) -> 0",
            "change(0, 0, 0, 0, false) -> 1", "thing(0, 3) -> 1", "thing(100, 3) -> 1",
            "remove(2, 1, 0) -> ISE", "remove(2, 0, 0) -> ISE", "change(1, 9, 1, 0, false) -> 0",
            "change(1, 9, 0, 0, false) -> 1", "thing(0, 3) -> 0", "thing(100, 3) -> 0",
            "remove(2, 1, 0) -> 0", "remove(2, 0, 0) -> 1", "remove(2, 0, 1) -> ISE"));
        Runs.check("6: a domain that is gone uses nothing", Runs.joined(used, "delete(0, 0) -> 2",
            "thing(0, 3) -> 1", "remove(2, 1, 0) -> ISE", "delete(1, 9) -> 2", "thing(0, 3) -> 0",
            "thing(101, 3) -> 0", "remove(2, 1, 0) -> 0", "remove(2, 0, 1) -> 1",
            "remove(2, 0, 0) -> 0"));
    }

    private static void oneToThreeOfAKind() {
        String[] made = {
            "price(0, 0.0) -> 0", "contact(0) -> 0", "contact(0) -> 1", "contact(0) -> 2",
            "contact(0) -> 3", "host(0, -1, 0) -> 0", "host(0, -1, 0) -> 1", "host(0, -1, 0) -> 2",
            "host(0, -1, 0) -> 3", "create(0, 7, 1, 5, 3) -> 10",
        };
        Runs.check("8: contacts from one to three and back", Runs.joined(made,
            "change(0, 7, 0, 3, false) -> ISE", "change(0, 7, 0, 1, true) -> 2",
            "change(0, 7, 0, 0, true) -> 3", "change(0, 7, 0, 2, true) -> ISE",
            "domain(7, 8) -> 3", "domain(7, 9) -> 1", "domain(7, 10) -> 0",
            "change(0, 7, 0, 1, false) -> 2", "domain(7, 8) -> 3", "domain(7, 9) -> 0",
            "domain(7, 10) -> -1", "change(0, 7, 0, 1, false) -> ISE",
            "change(0, 7, 0, 3, false) -> 1", "change(0, 7, 0, 0, false) -> ISE",
            "domain(7, 8) -> 0", "domain(7, 9) -> -1", "change(0, 7, 0, 3, true) -> 2",
            "domain(7, 9) -> 3", "domain(7, 4) -> 2"));
        Runs.check("8: hosts from none to three and back", Runs.joined(made,
            "change(0, 7, 1, 2, false) -> ISE", "change(0, 7, 1, 2, true) -> 1",
            "change(0, 7, 1, 0, true) -> 2", "change(0, 7, 1, 3, true) -> 3",
            "change(0, 7, 1, 1, true) -> ISE", "domain(7, 11) -> 2", "domain(7, 12) -> 0",
            "domain(7, 13) -> 3", "change(0, 7, 1, 2, false) -> 2", "domain(7, 11) -> 0",
            "domain(7, 12) -> 3", "domain(7, 13) -> -1", "change(0, 7, 1, 3, false) -> 1",
            "change(0, 7, 1, 0, false) -> 0", "change(0, 7, 1, 0, false) -> ISE",
            "domain(7, 11) -> -1", "domain(7, 5) -> 0"));
        Runs.check("8: three contacts leave room for three hosts", Runs.joined(made,
            "change(0, 7, 0, 0, true) -> 2", "change(0, 7, 0, 1, true) -> 3",
            "change(0, 7, 1, 0, true) -> 1", "change(0, 7, 1, 1, true) -> 2",
            "change(0, 7, 1, 2, true) -> 3", "domain(7, 4) -> 3", "domain(7, 5) -> 3"));
    }

    private static void fiveYearsBehindTheDay() {
        String[] made = {
            "deposit(0, 90.0) -> 90.0", "contact(0) -> 0", "create(0, 1, 1, 5, 0) -> 10",
            "create(0, 2, 2, 5, 0) -> 20", "create(0, 3, 3, 5, 0) -> 30",
        };
        Runs.check("10: EXPIRY may not come more than 5 YEARS behind the DAY", Runs.joined(made,
            "renew(0, 3, 3) -> ISE", "renew(0, 3, 2) -> 50", "renew(0, 3, 1) -> ISE",
            "renew(0, 2, 3) -> 50", "renew(0, 2, 1) -> ISE", "renew(0, 1, 3) -> 40",
            "renew(0, 1, 2) -> ISE", "renew(0, 1, 1) -> 50", "renew(0, 1, 1) -> ISE",
            "balance(0) -> 75.0"));
        Runs.check("10: a DAY too early, and on the DAY", Runs.joined(made, "renew(0, 3, 2) -> 50",
            "pass(9) -> 9", "renew(0, 3, 1) -> ISE", "pass(1) -> 10", "renew(0, 3, 2) -> ISE",
            "renew(0, 3, 1) -> 60", "renew(0, 3, 1) -> ISE", "domain(3, 1) -> 60"));
        Runs.check("10: the EXPIRY and the DAY on odd days", "pass(7) -> 7", "deposit(0, 9.0) -> 9.0",
            "contact(0) -> 0", "create(0, 1, 3, 5, 0) -> 37", "renew(0, 1, 2) -> 57",
            "renew(0, 1, 1) -> ISE", "pass(9) -> 16", "renew(0, 1, 1) -> ISE", "pass(1) -> 17",
            "renew(0, 1, 1) -> 67");
    }

    private static void deletedWithGraces() {
        String[] made = {
            "deposit(0, 50.0) -> 50.0", "contact(0) -> 0", "price(0, 2.0) -> 0", "price(1, 3.0) -> 0",
            "price(3, 7.0) -> 0", "create(0, 2, 1, 5, 0) -> 10",
        };
        Runs.check("11: the grace of CREATE is on and that of RENEW is too", Runs.joined(made,
            "pass(3) -> 3", "renew(0, 2, 2) -> 30", "balance(0) -> 42.0", "delete(0, 2) -> 2",
            "balance(0) -> 50.0", "count(1) -> 0", "count(4) -> 0"));
        Runs.check("11: the grace of CREATE is over, that of RENEW is on", Runs.joined(made,
            "pass(3) -> 3", "renew(0, 2, 2) -> 30", "pass(1) -> 4", "delete(0, 2) -> 1",
            "balance(0) -> 48.0", "domain(2, 1) -> 30", "domain(2, 3) -> 1"));
        Runs.check("11: no grace is on: nothing comes back", Runs.joined(made, "pass(4) -> 4",
            "delete(0, 2) -> 1", "balance(0) -> 48.0", "domain(2, 1) -> 10"));
        Runs.check("11: AUTO's on its last DAY with RENEW's: a YEAR, and both costs",
            Runs.joined(made, "pass(15) -> 15", "renew(0, 2, 3) -> 50", "balance(0) -> 36.0",
            "domain(2, 7) -> 18", "delete(0, 2) -> 1", "balance(0) -> 48.0", "domain(2, 1) -> 40"));
        Runs.check("11: AUTO's is over, RENEW's is on: no YEAR", Runs.joined(made,
            "pass(13) -> 13", "renew(0, 2, 3) -> 50", "pass(3) -> 16", "balance(0) -> 36.0",
            "domain(2, 7) -> 2", "delete(0, 2) -> 1", "balance(0) -> 45.0", "domain(2, 1) -> 50"));
        Runs.check("11: without GRACE: what came back does not come twice", Runs.joined(made,
            "pass(11) -> 11", "renew(0, 2, 1) -> 30", "balance(0) -> 42.0", "delete(0, 2) -> 1",
            "balance(0) -> 48.0", "domain(2, 7) -> 0", "domain(2, 1) -> 20", "restore(0, 2) -> 20",
            "balance(0) -> 41.0", "domain(2, 7) -> 0", "delete(0, 2) -> 1", "balance(0) -> 41.0",
            "domain(2, 1) -> 20"));
    }

    private static void deletedWithHosts() {
        String[] made = {
            "price(0, 0.0) -> 0", "contact(0) -> 0", "create(0, 0, 1, 5, 0) -> 10",
            "create(1, 5, 1, 5, 0) -> 10", "create(1, 9, 1, 5, 0) -> 10", "host(1, 5, 1) -> 0",
            "host(1, 5, 2) -> 1", "host(1, 9, 3) -> 2", "host(1, -1, 0) -> 3",
        };
        Runs.check("11: its own use of a HOST UNDER it is no hindrance", Runs.joined(made,
            "change(1, 5, 1, 0, true) -> 1", "change(1, 5, 1, 1, true) -> 2",
            "change(1, 5, 1, 2, true) -> 3", "delete(1, 5) -> 2", "count(3) -> 2",
            "thing(2, 3) -> 0", "thing(0, 0) -> NSE", "thing(1, 0) -> NSE"));
        Runs.check("11: used by another domain, the first name", Runs.joined(made,
            "change(0, 0, 1, 1, true) -> 1", "delete(1, 5) -> ISE", "change(0, 0, 1, 1, false) -> 0",
            "delete(1, 5) -> 2"));
        Runs.check("11: used by another domain, the last name, and by itself", Runs.joined(made,
            "change(1, 9, 1, 0, true) -> 1", "change(1, 5, 1, 0, true) -> 1", "delete(1, 5) -> ISE",
            "pass(4) -> 4", "delete(1, 5) -> ISE", "delete(1, 9) -> 1", "delete(1, 5) -> ISE",
            "pass(7) -> 11", "domain(9, 3) -> 2", "delete(1, 5) -> ISE", "pass(1) -> 12",
            "domain(9, 3) -> NSE", "delete(1, 5) -> 1", "count(3) -> 3"));
        Runs.check("11: a HOST that lies elsewhere may be used by another domain", Runs.joined(made,
            "change(0, 0, 1, 2, true) -> 1", "change(0, 0, 1, 3, true) -> 2",
            "change(1, 5, 1, 3, true) -> 1", "delete(1, 5) -> 2", "count(3) -> 2",
            "domain(0, 5) -> 2", "delete(1, 9) -> ISE"));
        Runs.check("11: REDEMPTION keeps the hosts and their uses", Runs.joined(made, "pass(4) -> 4",
            "change(1, 5, 1, 0, true) -> 1", "delete(1, 5) -> 1", "count(3) -> 4", "thing(0, 3) -> 1",
            "change(0, 0, 1, 0, true) -> 1", "restore(1, 5) -> ISE", "deposit(1, 1.0) -> 1.0",
            "restore(1, 5) -> 10", "delete(1, 5) -> ISE", "domain(5, 5) -> 1"));
    }

    private static void deletedAndMadeAgain() {
        Runs.check("11: gone at once, without a MESSAGE, and free at once", "deposit(0, 9.0) -> 9.0",
            "deposit(1, 9.0) -> 9.0", "contact(0) -> 0", "contact(0) -> 1",
            "create(0, 2, 3, 5, 0) -> 30", "host(0, 2, 1) -> 0", "change(0, 2, 1, 0, true) -> 1",
            "lock(0, 2, 16) -> 0", "delete(0, 2) -> 2", "count(4) -> 0", "count(3) -> 0",
            "domain(2, 0) -> NSE", "create(1, 2, 1, 6, 1) -> 10", "domain(2, 0) -> 1",
            "domain(2, 2) -> 0", "domain(2, 5) -> 0", "domain(2, 7) -> 1", "domain(2, 8) -> 1",
            "ask(0, 2, 5) -> UOE", "ask(0, 2, 6) -> 4");
        Runs.check("7: a name used again has no host of the domain before, and one contact",
            "price(0, 0.0) -> 0", "contact(0) -> 0", "contact(0) -> 1", "host(0, -1, 0) -> 0",
            "host(0, -1, 0) -> 1", "create(0, 2, 1, 5, 0) -> 10", "change(0, 2, 0, 1, true) -> 2",
            "change(0, 2, 1, 1, true) -> 1", "change(0, 2, 1, 0, true) -> 2", "delete(0, 2) -> 2",
            "thing(0, 3) -> 0", "thing(1, 3) -> 0", "thing(100, 3) -> 0", "thing(101, 3) -> 0",
            "create(1, 2, 1, 5, 1) -> 10", "domain(2, 4) -> 1", "domain(2, 5) -> 0",
            "domain(2, 8) -> 1", "domain(2, 9) -> -1", "domain(2, 11) -> -1", "thing(0, 3) -> 0",
            "thing(100, 3) -> 0", "count(5) -> 0");
        Runs.check("7: a name used again has no grace but CREATE's, and a STATE of its own",
            "deposit(0, 50.0) -> 50.0", "contact(0) -> 0", "create(0, 2, 1, 5, 0) -> 10",
            "renew(0, 2, 1) -> 20", "delete(0, 2) -> 2", "create(0, 2, 1, 5, 0) -> 10",
            "domain(2, 7) -> 1", "pass(4) -> 4", "delete(0, 2) -> 1", "pass(8) -> 12",
            "create(0, 2, 1, 5, 0) -> 22", "domain(2, 7) -> 1", "domain(2, 3) -> 0",
            "delete(0, 2) -> 2", "balance(0) -> 49.0");
    }

    private static void restored() {
        String[] late = {
            "price(0, 0.0) -> 0", "deposit(0, 9.0) -> 9.0", "contact(0) -> 0",
            "create(0, 2, 1, 5, 0) -> 10", "pass(8) -> 8", "delete(0, 2) -> 1",
        };
        Runs.check("12: its EXPIRY is the DAY: it is not renewed before a DAY passes",
            Runs.joined(late, "pass(2) -> 10", "restore(0, 2) -> 10", "domain(2, 3) -> 0",
            "balance(0) -> 8.0", "pass(1) -> 11", "domain(2, 1) -> 20", "balance(0) -> 7.0"));
        Runs.check("12: (if that is before the DAY, a DAY passing renews it)", Runs.joined(late,
            "pass(5) -> 13", "restore(0, 2) -> 10", "domain(2, 1) -> 10", "domain(2, 7) -> 0",
            "balance(0) -> 8.0", "paid(0, 3) -> 1.0", "paid(0, 1) -> 0.0", "pass(1) -> 14",
            "domain(2, 1) -> 20", "domain(2, 7) -> 16", "balance(0) -> 7.0", "pass(1) -> 15",
            "domain(2, 1) -> 20", "balance(0) -> 7.0"));
        Runs.check("12: out of REDEMPTION, not LEAVING", Runs.joined(late, "pass(6) -> 14",
            "restore(0, 2) -> UOE", "balance(0) -> 9.0"));
        Runs.check("12: RESTORE has no grace", Runs.joined(late, "restore(0, 2) -> 10",
            "domain(2, 7) -> 0", "delete(0, 2) -> 1", "balance(0) -> 8.0"));
    }

    private static void askedOnTheEdge() {
        String[] made = {
            "price(0, 0.0) -> 0", "price(1, 0.0) -> 0", "price(2, 0.0) -> 0", "contact(0) -> 0",
            "create(0, 2, 1, 5, 0) -> 10",
        };
        Runs.check("13: asked on the DAY of the EXPIRY, with AUTO while it waits", Runs.joined(made,
            "pass(10) -> 10", "ask(1, 2, 5) -> 14", "pass(1) -> 11", "domain(2, 1) -> 20",
            "domain(2, 6) -> 1", "domain(2, 7) -> 16", "pass(3) -> 14", "domain(2, 0) -> 0",
            "pass(1) -> 15", "domain(2, 0) -> 1", "domain(2, 1) -> 30", "domain(2, 7) -> 4"));
        Runs.check("13: asked by the old OWNER as soon as it is done", Runs.joined(made,
            "ask(1, 2, 5) -> 4", "answer(0, 2, true) -> 1", "ask(1, 2, 5) -> UOE",
            "ask(0, 2, 5) -> 4", "domain(2, 6) -> 0", "answer(0, 2, true) -> UOE",
            "answer(1, 2, true) -> 1", "domain(2, 0) -> 0", "domain(2, 1) -> 30",
            "domain(2, 7) -> 4"));
        Runs.check("13: registrar 0 may ask as well as 3", Runs.joined(made,
            "create(3, 9, 1, 5, 0) -> 10", "ask(0, 9, 5) -> 4", "domain(9, 6) -> 0",
            "ask(3, 2, 5) -> 4", "domain(2, 6) -> 3", "answer(3, 2, false) -> 0",
            "answer(0, 9, false) -> 0", "domain(9, 6) -> -1", "message(0) -> 12",
            "acknowledge(0) -> 1", "message(0) -> 39", "message(3) -> 19", "acknowledge(3) -> 1",
            "message(3) -> 32"));
    }

    /** So many DAYS at once, or each by itself: what is seen is the same. */
    private static void daysOneByOne() {
        String[][] starts = {
            {"create(0, 0, 1, 5, 0) -> 10"},
            {"create(0, 0, 1, 5, 0) -> 10", "ask(1, 0, 5) -> 4"},
            {"create(0, 0, 1, 5, 0) -> 10", "pass(4) -> 4", "delete(0, 0) -> 1"},
            {"create(0, 3, 1, 5, 0) -> 10", "create(1, 1, 1, 5, 0) -> 10", "host(0, 3, 7) -> 0",
                "pass(6) -> 6", "ask(2, 1, 5) -> 10", "delete(0, 3) -> 1",
                "change(1, 1, 1, 0, true) -> 1"},
        };
        for (String[] start : starts) {
            String[] rows = Runs.joined(new String[] {"deposit(0, 2.0) -> 2.0",
                "deposit(1, 2.0) -> 2.0", "deposit(2, 1.0) -> 1.0", "contact(0) -> 0"}, start);
            for (int days = 1; days < 21; days++) {
                dueTheSame(rows, days);
            }
        }
    }

    private static void dueTheSame(String[] rows, int days) {
        List<String> atOnce = new ArrayList<>();
        for (String row : rows) {
            atOnce.add(row.split(" -> ")[0]);
        }
        List<String> oneByOne = new ArrayList<>(atOnce);
        atOnce.add("pass(" + days + ")");
        for (int day = 0; day < days; day++) {
            oneByOne.add("pass(1)");
        }
        Runs.dueSame("15: " + days + " days pass, one by one", Sights.of(oneByOne, null),
            Sights.of(atOnce, null));
    }

    private static void paidInAll() {
        Runs.check("19: what came back is not taken off, of each kind", "deposit(0, 99.0) -> 99.0",
            "deposit(1, 99.0) -> 99.0", "price(0, 2.0) -> 0", "price(1, 3.0) -> 0",
            "price(2, 5.0) -> 0", "price(3, 7.0) -> 0", "contact(0) -> 0",
            "create(0, 2, 3, 5, 0) -> 30", "paid(0, 0) -> 6.0", "renew(0, 2, 1) -> 40",
            "delete(0, 2) -> 2", "balance(0) -> 99.0", "paid(0, 0) -> 6.0", "paid(0, 1) -> 3.0",
            "create(0, 2, 1, 5, 0) -> 10", "paid(0, 0) -> 8.0", "pass(11) -> 11",
            "paid(0, 1) -> 6.0", "delete(0, 2) -> 1", "paid(0, 1) -> 6.0", "restore(0, 2) -> 10",
            "paid(0, 3) -> 7.0", "ask(1, 2, 5) -> 15", "answer(0, 2, true) -> 1",
            "paid(1, 2) -> 5.0", "delete(1, 2) -> 1", "balance(1) -> 99.0", "paid(1, 2) -> 5.0",
            "paid(0, 2) -> 0.0", "paid(1, 0) -> 0.0", "paid(1, 1) -> 0.0", "paid(1, 3) -> 0.0");
        Runs.check("19: what could not be PAID is not counted", "price(1, 2.0) -> 0",
            "deposit(0, 1.0) -> 1.0", "contact(0) -> 0", "create(0, 2, 2, 5, 0) -> ISE",
            "paid(0, 0) -> 0.0", "create(0, 2, 1, 5, 0) -> 10", "renew(0, 2, 1) -> ISE",
            "paid(0, 1) -> 0.0", "ask(1, 2, 5) -> 4", "answer(0, 2, true) -> ISE",
            "paid(1, 2) -> 0.0", "pass(5) -> 5", "paid(1, 2) -> 0.0", "delete(0, 2) -> 1",
            "restore(0, 2) -> ISE", "paid(0, 3) -> 0.0");
    }

    private static void noneAndThree() {
        Runs.check("20: the k-th contact and host (k 0 .. 2; -1 none)", "price(0, 0.0) -> 0",
            "contact(0) -> 0", "contact(0) -> 1", "contact(0) -> 2", "host(0, -1, 0) -> 0",
            "host(0, -1, 0) -> 1", "host(0, -1, 0) -> 2", "create(0, 3, 1, 5, 2) -> 10",
            "domain(3, 4) -> 1", "domain(3, 5) -> 0", "domain(3, 8) -> 2", "domain(3, 9) -> -1",
            "domain(3, 10) -> -1", "domain(3, 11) -> -1", "domain(3, 12) -> -1",
            "domain(3, 13) -> -1", "change(0, 3, 1, 1, true) -> 1", "domain(3, 11) -> 1",
            "domain(3, 12) -> -1", "change(0, 3, 1, 0, true) -> 2", "domain(3, 12) -> 0",
            "domain(3, 13) -> -1", "change(0, 3, 1, 2, true) -> 3", "domain(3, 13) -> 2",
            "domain(3, 14) -> IAE", "change(0, 3, 0, 0, true) -> 2", "domain(3, 9) -> 0",
            "domain(3, 10) -> -1", "change(0, 3, 0, 1, true) -> 3", "domain(3, 10) -> 1",
            "domain(3, 4) -> 3", "domain(3, 5) -> 3");
    }

    private static void nothingInTheZone() {
        String[] made = {
            "price(0, 0.0) -> 0", "price(3, 0.0) -> 0", "contact(0) -> 0",
            "create(0, 5, 1, 5, 0) -> 10", "host(0, 5, 1) -> 0",
        };
        Runs.check("22: no hosts, though one lies UNDER it", Runs.joined(made, "zone(0) -> NSE",
            "count(5) -> 0", "change(0, 5, 1, 0, true) -> 1", "count(5) -> 2", "zone(0) -> 5000",
            "zone(1) -> 5100", "zone(2) -> NSE", "change(0, 5, 1, 0, false) -> 0",
            "zone(0) -> NSE", "count(5) -> 0"));
        String[] used = Runs.joined(made, "change(0, 5, 1, 0, true) -> 1");
        Runs.check("22: not HELD", Runs.joined(used, "lock(0, 5, 15) -> 0", "count(5) -> 2",
            "lock(0, 5, 16) -> 15", "count(5) -> 0", "zone(0) -> NSE", "lock(0, 5, 0) -> 16",
            "zone(1) -> 5100"));
        Runs.check("22: whose domain is ACTIVE", Runs.joined(used, "pass(4) -> 4",
            "zone(0) -> 5000", "delete(0, 5) -> 1", "zone(0) -> NSE", "count(5) -> 0",
            "restore(0, 5) -> 10", "zone(0) -> 5000", "delete(0, 5) -> 1", "pass(6) -> 10",
            "domain(5, 3) -> 2", "zone(0) -> NSE", "count(5) -> 0", "pass(2) -> 12",
            "zone(0) -> NSE"));
    }

    private static void allInTheZone() {
        String[] rows = {"price(0, 0.0) -> 0", "contact(0) -> 0"};
        for (int name = 0; name < 10; name++) {
            rows = Runs.joined(rows, "create(0, " + name + ", 1, 5, 0) -> 10");
        }
        for (int number = 0; number < 8; number++) {
            rows = Runs.joined(rows, "host(0, 9, " + (number + 1) + ") -> " + number);
        }
        for (int name = 0; name < 10; name++) {
            for (int k = 0; k < 3; k++) {
                rows = Runs.joined(rows, "change(0, " + name + ", 1, " + (name + 3 * k) % 8
                    + ", true) -> " + (k + 1));
            }
        }
        rows = Runs.joined(rows, "count(5) -> 38", "zone(38) -> NSE", "zone(-1) -> NSE");
        for (int row = 0; row < 30; row++) {
            rows = Runs.joined(rows, "zone(" + row + ") -> "
                + (1000 * (row / 3) + (row / 3 + 3 * (row % 3)) % 8));
        }
        for (int number = 0; number < 8; number++) {
            rows = Runs.joined(rows, "zone(" + (30 + number) + ") -> " + (9100 + number));
        }
        Runs.check("22: ten names with three hosts each, eight addresses", rows);
    }

    private static void hostsOfTheZoneThatAreUsed() {
        Runs.check("22: each HOST that lies UNDER it and is used by a domain, by number",
            "price(0, 0.0) -> 0", "contact(0) -> 0", "create(0, 0, 1, 5, 0) -> 10",
            "create(0, 9, 1, 5, 0) -> 10", "host(0, 9, 9) -> 0", "host(0, 0, 8) -> 1",
            "host(0, 9, 7) -> 2", "host(0, 0, 6) -> 3", "host(0, -1, 0) -> 4",
            "change(0, 0, 1, 4, true) -> 1", "count(5) -> 1", "zone(0) -> 4",
            "change(0, 9, 1, 3, true) -> 1", "count(5) -> 3", "zone(0) -> 4", "zone(1) -> 103",
            "zone(2) -> 9003", "change(0, 9, 1, 1, true) -> 2", "zone(1) -> 101", "zone(2) -> 103",
            "zone(3) -> 9003", "zone(4) -> 9001", "zone(5) -> NSE", "change(0, 0, 1, 2, true) -> 2",
            "zone(0) -> 4", "zone(1) -> 2", "zone(2) -> 101", "zone(3) -> 103", "zone(4) -> 9003",
            "zone(5) -> 9001", "zone(6) -> 9102", "zone(7) -> NSE", "lock(0, 0, 16) -> 0",
            "zone(0) -> 9003", "zone(1) -> 9001", "zone(2) -> 9102", "zone(3) -> NSE",
            "lock(0, 9, 16) -> 0", "lock(0, 0, 0) -> 16", "zone(2) -> 101", "zone(3) -> 103",
            "zone(4) -> NSE", "change(0, 9, 1, 3, false) -> 1", "zone(2) -> 101", "zone(3) -> NSE");
    }

    private static void allFull() {
        String[] rows = {"price(0, 0.0) -> 0"};
        for (int number = 0; number < 8; number++) {
            rows = Runs.joined(rows, "contact(0) -> " + number, "host(0, -1, 0) -> " + number,
                "count(2) -> " + (number + 1), "count(3) -> " + (number + 1));
        }
        for (int name = 0; name < 10; name++) {
            rows = Runs.joined(rows, "count(1) -> " + name,
                "create(" + (name < 5 ? 0 : 2) + ", " + name + ", 1, 5, 7) -> 10");
        }
        for (int i = 0; i < 12; i++) {
            rows = Runs.joined(rows, "count(4) -> " + 4 * i, "ask(1, 0, 5) -> 4",
                "answer(0, 0, false) -> 0", "ask(3, 9, 5) -> 4", "answer(3, 9, false) -> 0");
        }
        Runs.check("23: all that can be counted, full", Runs.joined(rows, "count(1) -> 10",
            "count(2) -> 8", "count(3) -> 8", "count(4) -> 48", "ask(1, 0, 5) -> 4",
            "answer(0, 0, false) -> 0", "count(4) -> 48", "contact(0) -> ISE",
            "host(0, -1, 0) -> ISE", "create(0, 9, 1, 5, 7) -> ISE", "count(1) -> 10",
            "count(2) -> 8", "count(3) -> 8", "count(5) -> 0", "acknowledge(0) -> 11",
            "acknowledge(1) -> 11", "acknowledge(2) -> 11", "acknowledge(3) -> 11",
            "count(4) -> 44", "count(0) -> 0"));
    }
}
