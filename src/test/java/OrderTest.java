/**
 * The exceptions of each call: each by itself, and two that apply at once, with the one that the
 * document's order asks for: IllegalArgumentException, NoSuchElementException,
 * UnsupportedOperationException, IllegalStateException.
 */
public final class OrderTest {
    /** Names 2 and 4 are registrar 0's (CODE 42), name 6 is registrar 1's; a host lies under 2. */
    private static final String[] MADE = {
        "deposit(0, 3.0) -> 3.0", "deposit(1, 2.0) -> 2.0", "contact(0) -> 0", "contact(1) -> 1",
        "create(0, 2, 1, 42, 0) -> 10", "create(0, 4, 1, 42, 0) -> 10",
        "create(1, 6, 1, 42, 1) -> 10", "host(0, 2, 5) -> 0", "host(1, -1, 0) -> 1",
    };
    private static final String[] HOSTS_FULL = Runs.joined(MADE,
        "host(0, -1, 0) -> 2", "host(0, -1, 0) -> 3", "host(0, -1, 0) -> 4", "host(0, -1, 0) -> 5",
        "host(0, -1, 0) -> 6", "host(0, -1, 0) -> 7");
    private static final String[] LOCKED = Runs.joined(MADE, "lock(0, 2, 31) -> 0");
    private static final String[] ASKED = Runs.joined(MADE, "ask(1, 2, 42) -> 4");
    private static final String[] REDEEMABLE = Runs.joined(MADE, "pass(4) -> 4", "delete(0, 2) -> 1");
    private static final String[] LEAVING = Runs.joined(REDEEMABLE, "pass(6) -> 10",
        "domain(2, 3) -> 2");

    private OrderTest() {
    }

    public static void main(String[] args) {
        priceDepositPass();
        contact();
        host();
        remove();
        create();
        change();
        changeOfRows();
        lock();
        renew();
        delete();
        restore();
        ask();
        answer();
        looks();
        Runs.end();
    }

    private static void priceDepositPass() {
        Runs.check("price, deposit, pass: IAE alone and twice", Runs.joined(MADE,
            "price(4, 1.0) -> IAE", "price(0, 1001.0) -> IAE", "price(4, 1001.0) -> IAE",
            "deposit(4, 1.0) -> IAE", "deposit(0, 0.0) -> IAE", "deposit(4, 0.0) -> IAE",
            "pass(0) -> IAE", "pass(21) -> IAE"));
    }

    private static void contact() {
        String[] full = Runs.joined(MADE, "contact(0) -> 2", "contact(0) -> 3", "contact(0) -> 4",
            "contact(0) -> 5", "contact(0) -> 6", "contact(0) -> 7");
        Runs.check("contact: IAE", Runs.joined(MADE, "contact(4) -> IAE"));
        Runs.check("contact: ISE; IAE before it", Runs.joined(full, "contact(0) -> ISE",
            "contact(-1) -> IAE", "contact(4) -> IAE"));
    }

    private static void host() {
        Runs.check("host: IAE, NSE, UOE", Runs.joined(MADE, "host(4, -1, 0) -> IAE",
            "host(0, 2, 0) -> IAE", "host(0, 3, 5) -> NSE", "host(1, 2, 5) -> UOE",
            "host(0, 6, 5) -> UOE"));
        Runs.check("host: IAE before NSE", Runs.joined(MADE, "host(4, 3, 5) -> IAE",
            "host(0, 3, 0) -> IAE", "host(0, 3, 1000) -> IAE"));
        Runs.check("host: IAE before UOE", Runs.joined(MADE, "host(4, 2, 5) -> IAE",
            "host(1, 2, 0) -> IAE", "host(1, 2, 1000) -> IAE"));
        Runs.check("host: ISE; IAE, NSE and UOE before it", Runs.joined(HOSTS_FULL,
            "host(0, 2, 5) -> ISE", "host(0, -1, 0) -> ISE", "host(4, -1, 0) -> IAE",
            "host(0, 10, 5) -> IAE", "host(0, 2, 0) -> IAE", "host(0, -1, 5) -> IAE",
            "host(0, 3, 5) -> NSE", "host(1, 2, 5) -> UOE"));
        Runs.check("host: no STATE and no LOCK forbids it", Runs.joined(LOCKED,
            "host(0, 2, 5) -> 2"));
        Runs.check("host: no STATE and no LOCK forbids it", Runs.joined(REDEEMABLE,
            "host(1, 2, 5) -> UOE", "host(0, 2, 5) -> 2"));
        Runs.check("host: no STATE and no LOCK forbids it", Runs.joined(LEAVING,
            "host(1, 2, 5) -> UOE", "host(0, 2, 5) -> 2"));
    }

    private static void remove() {
        String[] used = Runs.joined(MADE, "change(0, 4, 1, 0, true) -> 1");
        Runs.check("remove: IAE, NSE, UOE, ISE", Runs.joined(used, "remove(0, 2, 0) -> IAE",
            "remove(0, 0, 5) -> NSE", "remove(0, 1, 5) -> NSE", "remove(0, 1, 1) -> UOE",
            "remove(0, 0, 0) -> ISE", "remove(0, 1, 0) -> ISE"));
        Runs.check("remove: IAE before the others", Runs.joined(used, "remove(4, 0, 5) -> IAE",
            "remove(0, 2, 5) -> IAE", "remove(4, 1, 1) -> IAE", "remove(4, 0, 0) -> IAE",
            "remove(4, 1, 0) -> IAE"));
        Runs.check("remove: UOE before ISE", Runs.joined(used, "remove(1, 0, 0) -> UOE",
            "remove(0, 0, 1) -> UOE", "remove(1, 1, 0) -> UOE"));
    }

    private static void create() {
        Runs.check("create: IAE, NSE, ISE", Runs.joined(MADE, "create(0, 3, 4, 42, 0) -> IAE",
            "create(0, 3, 1, 42, 5) -> NSE", "create(0, 2, 1, 42, 0) -> ISE",
            "create(0, 3, 2, 42, 0) -> ISE", "create(0, 2, 2, 42, 0) -> ISE"));
        Runs.check("create: IAE before NSE", Runs.joined(MADE, "create(4, 3, 1, 42, 5) -> IAE",
            "create(0, 10, 1, 42, 5) -> IAE", "create(0, 3, 0, 42, 5) -> IAE",
            "create(0, 3, 1, 100, 5) -> IAE"));
        Runs.check("create: IAE before ISE, it is there", Runs.joined(MADE,
            "create(4, 2, 1, 42, 0) -> IAE", "create(0, 2, 0, 42, 0) -> IAE",
            "create(0, 2, 4, 42, 0) -> IAE", "create(0, 2, 1, -1, 0) -> IAE"));
        Runs.check("create: IAE before ISE, it can't be paid", Runs.joined(MADE,
            "create(4, 3, 3, 42, 0) -> IAE", "create(0, -1, 3, 42, 0) -> IAE",
            "create(0, 3, 4, 42, 0) -> IAE", "create(0, 3, 3, 100, 0) -> IAE"));
        Runs.check("create: NSE before ISE", Runs.joined(MADE, "create(0, 2, 1, 42, 5) -> NSE",
            "create(0, 3, 3, 42, 5) -> NSE", "create(2, 3, 1, 42, -1) -> NSE"));
        Runs.check("create: it is there already in any STATE", Runs.joined(REDEEMABLE,
            "create(0, 2, 1, 42, 0) -> ISE", "create(1, 2, 1, 42, 5) -> NSE"));
        Runs.check("create: it is there already in any STATE", Runs.joined(LEAVING,
            "create(0, 2, 1, 42, 0) -> ISE", "create(1, 2, 1, 42, 5) -> NSE"));
    }

    private static void change() {
        Runs.check("change: IAE, NSE, UOE", Runs.joined(LOCKED, "change(0, 2, 2, 0, true) -> IAE",
            "change(0, 3, 0, 1, true) -> NSE", "change(0, 2, 0, 5, true) -> NSE",
            "change(1, 4, 0, 1, true) -> UOE", "change(0, 2, 0, 1, true) -> UOE",
            "change(0, 6, 1, 0, true) -> UOE"));
        Runs.check("change: IAE before NSE", Runs.joined(MADE, "change(4, 3, 0, 1, true) -> IAE",
            "change(0, 3, 2, 1, true) -> IAE", "change(4, 2, 0, 5, true) -> IAE",
            "change(0, 10, 0, 5, true) -> IAE", "change(0, 2, -1, 5, true) -> IAE"));
        Runs.check("change: IAE before UOE", Runs.joined(LOCKED, "change(4, 2, 0, 1, true) -> IAE",
            "change(1, 2, 2, 1, true) -> IAE", "change(0, 2, 2, 1, true) -> IAE"));
        Runs.check("change: IAE before ISE", Runs.joined(MADE, "change(4, 2, 0, 0, true) -> IAE",
            "change(-1, 2, 0, 0, false) -> IAE", "change(4, 2, 1, 0, false) -> IAE"));
        Runs.check("change: NSE before UOE", Runs.joined(LOCKED, "change(1, 2, 0, 5, true) -> NSE",
            "change(0, 2, 1, 5, true) -> NSE", "change(1, 3, 0, 0, false) -> NSE"));
        for (String[] state : new String[][] {REDEEMABLE, LEAVING}) {
            Runs.check("change: UOE by STATE; IAE and NSE before it, ISE behind it",
                Runs.joined(state, "change(0, 2, 1, 1, true) -> UOE", "change(0, 2, 0, 1, true) -> UOE",
                "change(0, 2, 2, 1, true) -> IAE", "change(0, 2, 1, 5, true) -> NSE",
                "change(0, 2, 0, 0, true) -> UOE", "change(0, 2, 0, 0, false) -> UOE",
                "change(0, 2, 1, 0, false) -> UOE"));
        }
    }

    private static void changeOfRows() {
        String[] three = Runs.joined(MADE, "contact(0) -> 2", "contact(0) -> 3",
            "host(0, -1, 0) -> 2", "host(0, -1, 0) -> 3", "change(0, 2, 0, 1, true) -> 2",
            "change(0, 2, 0, 2, true) -> 3", "change(0, 2, 1, 0, true) -> 1",
            "change(0, 2, 1, 1, true) -> 2", "change(0, 2, 1, 2, true) -> 3");
        Runs.check("change: It has it already, has three, has it not: ISE", Runs.joined(three,
            "change(0, 2, 0, 3, true) -> ISE", "change(0, 2, 1, 3, true) -> ISE",
            "change(0, 2, 0, 2, true) -> ISE", "change(0, 2, 1, 2, true) -> ISE",
            "change(0, 2, 0, 3, false) -> ISE", "change(0, 2, 1, 3, false) -> ISE"));
        Runs.check("change: NSE and UOE before ISE", Runs.joined(three,
            "change(0, 2, 0, 5, true) -> NSE", "change(0, 2, 1, 5, true) -> NSE",
            "change(0, 2, 1, 5, false) -> NSE", "change(1, 2, 0, 3, true) -> UOE",
            "change(1, 2, 1, 3, true) -> UOE", "change(1, 2, 0, 2, true) -> UOE",
            "change(1, 2, 1, 3, false) -> UOE", "lock(0, 2, 1) -> 0",
            "change(0, 2, 0, 3, true) -> UOE", "change(0, 2, 1, 2, true) -> UOE",
            "change(0, 2, 1, 3, false) -> UOE"));
        Runs.check("change: the contact is the only one: ISE; UOE before it", Runs.joined(MADE,
            "change(0, 2, 0, 0, false) -> ISE", "change(1, 2, 0, 0, false) -> UOE",
            "change(0, 2, 0, 5, false) -> NSE", "lock(0, 2, 1) -> 0",
            "change(0, 2, 0, 0, false) -> UOE"));
        Runs.check("change: a TRANSFER that waits is no hindrance", Runs.joined(ASKED,
            "change(0, 2, 0, 1, true) -> 2", "change(1, 2, 0, 1, false) -> UOE",
            "change(0, 2, 0, 0, false) -> 1"));
    }

    private static void lock() {
        Runs.check("lock: IAE, NSE, UOE", Runs.joined(LOCKED, "lock(0, 2, 32) -> IAE",
            "lock(0, 3, 0) -> NSE", "lock(1, 2, 0) -> UOE", "lock(0, 6, 0) -> UOE"));
        Runs.check("lock: IAE before NSE and UOE", Runs.joined(LOCKED, "lock(4, 3, 0) -> IAE",
            "lock(0, 3, 32) -> IAE", "lock(1, 2, 32) -> IAE", "lock(4, 2, 0) -> IAE"));
        Runs.check("lock: (No LOCK forbids that.)", Runs.joined(LOCKED, "lock(0, 2, 31) -> 31",
            "lock(0, 2, 0) -> 31"));
        Runs.check("lock: a TRANSFER that waits is no hindrance", Runs.joined(ASKED,
            "lock(1, 2, 4) -> UOE", "lock(0, 2, 4) -> 0"));
        for (String[] state : new String[][] {REDEEMABLE, LEAVING}) {
            Runs.check("lock: UOE by STATE; IAE before it", Runs.joined(state,
                "lock(0, 2, 0) -> UOE", "lock(1, 2, 0) -> UOE", "lock(0, 2, 32) -> IAE"));
        }
    }

    private static void renew() {
        Runs.check("renew: IAE, NSE, UOE, ISE", Runs.joined(MADE, "renew(0, 2, 4) -> IAE",
            "renew(0, 3, 1) -> NSE", "renew(1, 2, 1) -> UOE", "renew(0, 2, 2) -> ISE"));
        Runs.check("renew: IAE before NSE", Runs.joined(MADE, "renew(4, 3, 1) -> IAE",
            "renew(0, 3, 4) -> IAE", "renew(0, 3, 0) -> IAE"));
        Runs.check("renew: IAE before UOE, and UOE by LOCK 8", Runs.joined(LOCKED,
            "renew(0, 2, 1) -> UOE", "renew(0, 2, 4) -> IAE", "renew(4, 2, 1) -> IAE",
            "renew(1, 2, 0) -> IAE"));
        Runs.check("renew: UOE before ISE, it can't be paid", Runs.joined(MADE,
            "renew(1, 2, 3) -> UOE", "lock(0, 2, 8) -> 0", "renew(0, 2, 3) -> UOE"));
        Runs.check("renew: ISE, a TRANSFER waits; the others before it", Runs.joined(ASKED,
            "renew(0, 2, 1) -> ISE", "renew(0, 2, 3) -> ISE", "renew(0, 2, 0) -> IAE",
            "renew(1, 2, 1) -> UOE", "lock(0, 2, 8) -> 0", "renew(0, 2, 1) -> UOE"));
        String[] far = Runs.joined(MADE, "deposit(0, 50.0) -> 51.0", "renew(0, 2, 3) -> 40");
        Runs.check("renew: ISE, more than 5 YEARS behind; the others before it", Runs.joined(far,
            "renew(0, 2, 2) -> ISE", "renew(0, 2, 4) -> IAE", "renew(1, 2, 2) -> UOE",
            "lock(0, 2, 8) -> 0", "renew(0, 2, 2) -> UOE", "lock(0, 2, 0) -> 8",
            "renew(0, 2, 1) -> 50"));
        for (String[] state : new String[][] {REDEEMABLE, LEAVING}) {
            Runs.check("renew: UOE by STATE; IAE before it, ISE behind it", Runs.joined(state,
                "renew(0, 2, 1) -> UOE", "renew(0, 2, 3) -> UOE", "renew(0, 2, 4) -> IAE"));
        }
    }

    private static void delete() {
        String[] used = Runs.joined(MADE, "change(1, 6, 1, 0, true) -> 1");
        Runs.check("delete: IAE, NSE, UOE, ISE", Runs.joined(used, "delete(4, 4) -> IAE",
            "delete(0, 3) -> NSE", "delete(1, 4) -> UOE", "delete(0, 2) -> ISE"));
        Runs.check("delete: IAE before NSE, UOE and ISE", Runs.joined(used, "delete(4, 3) -> IAE",
            "delete(-1, 2) -> IAE", "delete(4, 2) -> IAE"));
        Runs.check("delete: UOE before ISE, a HOST is used", Runs.joined(used, "delete(1, 2) -> UOE",
            "lock(0, 2, 2) -> 0", "delete(0, 2) -> UOE"));
        Runs.check("delete: UOE before ISE, a TRANSFER waits", Runs.joined(ASKED,
            "delete(0, 2) -> ISE", "delete(1, 2) -> UOE", "delete(4, 2) -> IAE",
            "lock(0, 2, 2) -> 0", "delete(0, 2) -> UOE"));
        for (String[] state : new String[][] {REDEEMABLE, LEAVING}) {
            Runs.check("delete: UOE by STATE; IAE before it, ISE behind it", Runs.joined(state,
                "delete(0, 2) -> UOE", "delete(4, 2) -> IAE", "change(0, 4, 1, 0, true) -> 1",
                "delete(0, 2) -> UOE"));
        }
    }

    private static void restore() {
        Runs.check("restore: IAE, NSE, UOE", Runs.joined(MADE, "restore(4, 2) -> IAE",
            "restore(0, 3) -> NSE", "restore(1, 2) -> UOE", "restore(0, 2) -> UOE",
            "restore(4, 3) -> IAE", "restore(-1, 2) -> IAE"));
        Runs.check("restore: ISE; IAE and UOE before it", Runs.joined(REDEEMABLE,
            "price(3, 1.125) -> 0", "restore(0, 2) -> ISE", "restore(1, 2) -> UOE",
            "restore(4, 2) -> IAE", "restore(0, 4) -> UOE", "price(3, 1.0) -> 0",
            "restore(0, 2) -> 10"));
        Runs.check("restore: UOE out of LEAVING; ISE behind it", Runs.joined(LEAVING,
            "restore(0, 2) -> UOE", "price(3, 9.0) -> 0", "restore(0, 2) -> UOE",
            "restore(4, 2) -> IAE"));
        Runs.check("restore: no LOCK forbids it", Runs.joined(MADE, "pass(4) -> 4",
            "lock(0, 2, 29) -> 0", "delete(0, 2) -> 1", "restore(0, 2) -> 10"));
    }

    private static void ask() {
        Runs.check("ask: IAE, NSE, UOE", Runs.joined(MADE, "ask(1, 2, 100) -> IAE",
            "ask(1, 3, 42) -> NSE", "ask(0, 2, 42) -> UOE", "ask(1, 2, 43) -> UOE",
            "ask(1, 6, 42) -> UOE", "ask(0, 2, 43) -> UOE"));
        Runs.check("ask: IAE before NSE and UOE", Runs.joined(LOCKED, "ask(4, 3, 42) -> IAE",
            "ask(1, 3, 100) -> IAE", "ask(0, 2, 100) -> IAE", "ask(4, 2, 43) -> IAE",
            "ask(1, 2, -1) -> IAE", "ask(1, 2, 42) -> UOE"));
        Runs.check("ask: ISE; IAE and UOE before it", Runs.joined(ASKED, "ask(1, 2, 42) -> ISE",
            "ask(3, 2, 42) -> ISE", "ask(3, 2, 100) -> IAE", "ask(4, 2, 42) -> IAE",
            "ask(0, 2, 42) -> UOE", "ask(3, 2, 43) -> UOE", "lock(0, 2, 4) -> 0",
            "ask(3, 2, 42) -> UOE"));
        for (String[] state : new String[][] {REDEEMABLE, LEAVING}) {
            Runs.check("ask: UOE by STATE; IAE before it", Runs.joined(state,
                "ask(1, 2, 42) -> UOE", "ask(1, 2, 43) -> UOE", "ask(1, 2, 100) -> IAE"));
        }
    }

    private static void answer() {
        Runs.check("answer: IAE, NSE, UOE", Runs.joined(ASKED, "answer(4, 2, true) -> IAE",
            "answer(0, 3, true) -> NSE", "answer(0, 4, true) -> NSE", "answer(2, 2, true) -> UOE",
            "answer(2, 2, false) -> UOE", "answer(1, 2, true) -> UOE"));
        Runs.check("answer: IAE before NSE and UOE", Runs.joined(ASKED, "answer(4, 3, true) -> IAE",
            "answer(4, 4, false) -> IAE", "answer(-1, 2, true) -> IAE", "answer(0, 10, true) -> IAE"));
        Runs.check("answer: NSE before UOE", Runs.joined(MADE, "answer(1, 2, true) -> NSE",
            "answer(1, 2, false) -> NSE", "answer(3, 4, true) -> NSE"));
        String[] poor = Runs.joined(ASKED, "price(2, 1.125) -> 0");
        Runs.check("answer: ISE; IAE, NSE and UOE before it, and no is no payment", Runs.joined(poor,
            "answer(0, 2, true) -> ISE", "answer(4, 2, true) -> IAE", "answer(0, 4, true) -> NSE",
            "answer(1, 2, true) -> UOE", "answer(3, 2, true) -> UOE", "domain(2, 6) -> 1",
            "answer(0, 2, false) -> 0"));
        Runs.check("answer: no LOCK forbids it", Runs.joined(ASKED, "lock(0, 2, 31) -> 0",
            "answer(0, 2, true) -> 1"));
        for (String[] state : new String[][] {REDEEMABLE, LEAVING}) {
            Runs.check("answer: no TRANSFER waits in another STATE", Runs.joined(state,
                "answer(0, 2, true) -> NSE", "answer(1, 2, false) -> NSE"));
        }
    }

    private static void looks() {
        Runs.check("message, acknowledge: IAE and NSE", Runs.joined(ASKED, "message(1) -> NSE",
            "acknowledge(1) -> NSE", "message(4) -> IAE", "acknowledge(4) -> IAE",
            "message(0) -> 12"));
        Runs.check("balance, paid: IAE alone and twice", Runs.joined(MADE, "balance(4) -> IAE",
            "paid(4, 0) -> IAE", "paid(0, 4) -> IAE", "paid(4, 4) -> IAE"));
        Runs.check("domain: IAE before NSE", Runs.joined(MADE, "domain(3, 0) -> NSE",
            "domain(3, 14) -> IAE", "domain(3, -1) -> IAE", "domain(10, 0) -> IAE",
            "domain(2, 14) -> IAE"));
        Runs.check("thing: IAE before NSE", Runs.joined(MADE, "thing(2, 0) -> NSE",
            "thing(102, 0) -> NSE", "thing(2, 4) -> IAE", "thing(102, -1) -> IAE",
            "thing(8, 0) -> IAE", "thing(108, 0) -> IAE", "thing(0, 4) -> IAE"));
    }
}
