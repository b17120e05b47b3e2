/** For each promise of the document, runs with ordinary inputs, its edges, and wrong inputs. */
public final class PromisesTest {
    private PromisesTest() {
    }

    public static void main(String[] args) {
        promise1NewObject();
        promise2Price();
        promise3Deposit();
        promise4Contact();
        promise5Host();
        promise6Remove();
        promise7Create();
        promise8Change();
        promise9Lock();
        promise10Renew();
        promise11Delete();
        promise12Restore();
        promise13Ask();
        promise14Answer();
        promise15Pass();
        promise16Message();
        promise17Acknowledge();
        promise18Balance();
        promise19Paid();
        promise20Domain();
        promise21Thing();
        promise22Zone();
        promise23Count();
        Runs.end();
    }

    private static void promise1NewObject() {
        Runs.check("1: nothing is there",
            "count(0) -> 0", "count(1) -> 0", "count(2) -> 0", "count(3) -> 0", "count(4) -> 0",
            "count(5) -> 0", "balance(0) -> 0.0", "balance(1) -> 0.0", "balance(2) -> 0.0",
            "balance(3) -> 0.0", "paid(0, 0) -> 0.0", "paid(3, 3) -> 0.0", "domain(0, 0) -> NSE",
            "domain(9, 0) -> NSE", "thing(0, 0) -> NSE", "thing(100, 0) -> NSE", "message(0) -> NSE",
            "message(3) -> NSE", "zone(0) -> NSE");
        Runs.check("1: each price is 1.0 at first",
            "deposit(0, 10.0) -> 10.0", "deposit(1, 10.0) -> 10.0", "contact(0) -> 0",
            "create(0, 0, 1, 0, 0) -> 10", "balance(0) -> 9.0",
            "renew(0, 0, 1) -> 20", "balance(0) -> 8.0",
            "ask(1, 0, 0) -> 4", "answer(0, 0, true) -> 1", "balance(1) -> 9.0",
            "pass(4) -> 4", "delete(1, 0) -> 1", "balance(1) -> 9.0",
            "restore(1, 0) -> 30", "balance(1) -> 8.0");
        Runs.check("1: all names are free",
            "deposit(3, 10.0) -> 10.0", "contact(3) -> 0",
            "create(3, 0, 1, 0, 0) -> 10", "create(3, 1, 1, 0, 0) -> 10",
            "create(3, 2, 1, 0, 0) -> 10", "create(3, 3, 1, 0, 0) -> 10",
            "create(3, 4, 1, 0, 0) -> 10", "create(3, 5, 1, 0, 0) -> 10",
            "create(3, 6, 1, 0, 0) -> 10", "create(3, 7, 1, 0, 0) -> 10",
            "create(3, 8, 1, 0, 0) -> 10", "create(3, 9, 1, 0, 0) -> 10", "count(1) -> 10");
    }

    private static void promise2Price() {
        Runs.check("2: ranges",
            "price(-1, 1.0) -> IAE", "price(4, 1.0) -> IAE", "price(2147483647, 1.0) -> IAE",
            "price(0, -0.125) -> IAE", "price(0, 1000.125) -> IAE", "price(0, NaN) -> IAE",
            "price(0, Infinity) -> IAE", "price(0, -Infinity) -> IAE",
            "price(0, 0.0) -> 0", "price(3, 1000.0) -> 0");
        Runs.check("2: each kind has its own price, a refused one stays as it was",
            "price(0, 2.0) -> 0", "price(1, 3.0) -> 0", "price(2, 5.0) -> 0", "price(3, 7.0) -> 0",
            "price(0, 1001.0) -> IAE", "price(3, -1.0) -> IAE",
            "deposit(0, 50.0) -> 50.0", "deposit(1, 50.0) -> 50.0", "contact(0) -> 0",
            "create(0, 0, 2, 0, 0) -> 20", "balance(0) -> 46.0",
            "renew(0, 0, 3) -> 50", "balance(0) -> 37.0",
            "ask(1, 0, 0) -> 4", "answer(0, 0, true) -> 1", "balance(1) -> 45.0",
            "pass(4) -> 4", "delete(1, 0) -> 1", "restore(1, 0) -> 60", "balance(1) -> 38.0");
        Runs.check("2: a free domain, and a later price does not change what a grace had cost",
            "contact(0) -> 0", "price(0, 0.0) -> 0", "create(0, 0, 3, 0, 0) -> 30",
            "domain(0, 7) -> 1", "balance(0) -> 0.0", "price(0, 9.0) -> 0", "delete(0, 0) -> 2",
            "balance(0) -> 0.0", "create(0, 0, 1, 0, 0) -> ISE");
    }

    private static void promise3Deposit() {
        Runs.check("3: ranges",
            "deposit(-1, 1.0) -> IAE", "deposit(4, 1.0) -> IAE", "deposit(0, 0.0) -> IAE",
            "deposit(0, -1.0) -> IAE", "deposit(0, 1000.125) -> IAE", "deposit(0, NaN) -> IAE",
            "deposit(0, Infinity) -> IAE", "balance(0) -> 0.0",
            "deposit(0, 0.125) -> 0.125", "deposit(0, 1000.0) -> 1000.125",
            "deposit(3, 2.5) -> 2.5", "balance(0) -> 1000.125", "balance(3) -> 2.5");
        Runs.check("3: from 100.0 on, 0.875 of a price is paid",
            "deposit(0, 99.875) -> 99.875", "contact(0) -> 0", "create(0, 0, 2, 0, 0) -> 20",
            "balance(0) -> 97.875", "deposit(0, 2.125) -> 100.0", "renew(0, 0, 2) -> 40",
            "balance(0) -> 98.25", "delete(0, 0) -> 2", "balance(0) -> 102.0");
        Runs.check("3: the amount that is less by the eighth is the one that must be there",
            "price(0, 110.0) -> 0", "deposit(0, 100.0) -> 100.0", "contact(0) -> 0",
            "create(0, 0, 1, 0, 0) -> 10", "balance(0) -> 3.75", "paid(0, 0) -> 96.25");
    }

    private static void promise4Contact() {
        Runs.check("4: numbers are not given again",
            "contact(-1) -> IAE", "contact(4) -> IAE", "contact(0) -> 0", "contact(3) -> 1",
            "thing(100, 0) -> 0", "thing(101, 0) -> 3", "remove(0, 0, 0) -> 1", "contact(1) -> 2",
            "contact(1) -> 3", "contact(1) -> 4", "contact(1) -> 5", "contact(1) -> 6",
            "contact(1) -> 7", "contact(1) -> ISE", "count(2) -> 7", "remove(1, 0, 7) -> 6",
            "contact(1) -> ISE", "contact(4) -> IAE", "count(2) -> 6");
    }

    private static void promise5Host() {
        Runs.check("5: ranges, and what goes with an address",
            "host(-1, -1, 0) -> IAE", "host(4, -1, 0) -> IAE", "host(0, -2, 0) -> IAE",
            "host(0, 10, 1) -> IAE", "host(0, -1, 1) -> IAE", "host(0, -1, -1) -> IAE",
            "host(0, 0, 0) -> IAE", "host(0, 0, -1) -> IAE", "host(0, 0, 1000) -> IAE",
            "host(0, 0, 999) -> NSE", "host(0, 9, 1) -> NSE", "count(3) -> 0",
            "host(0, -1, 0) -> 0", "thing(0, 1) -> 0", "thing(0, 2) -> -1");
        Runs.check("5: under a domain, of its owner, in any state",
            "deposit(0, 50.0) -> 50.0", "contact(0) -> 0", "create(0, 9, 1, 0, 0) -> 10",
            "host(1, 9, 5) -> UOE", "host(1, 9, 0) -> IAE", "host(0, 9, 999) -> 0",
            "host(0, 9, 1) -> 1", "thing(0, 1) -> 999", "thing(0, 2) -> 9", "thing(0, 0) -> 0",
            "lock(0, 9, 31) -> 0", "host(0, 9, 2) -> 2", "lock(0, 9, 0) -> 31",
            "pass(4) -> 4", "delete(0, 9) -> 1", "host(0, 9, 3) -> 3", "pass(6) -> 10",
            "domain(9, 3) -> 2", "host(0, 9, 4) -> 4", "count(3) -> 5");
        Runs.check("5: eight are made, removed ones too; the owner is looked at before",
            "deposit(0, 50.0) -> 50.0", "contact(0) -> 0", "create(0, 0, 1, 0, 0) -> 10",
            "host(1, -1, 0) -> 0", "host(1, -1, 0) -> 1", "host(1, -1, 0) -> 2",
            "host(1, -1, 0) -> 3", "host(1, -1, 0) -> 4", "host(1, -1, 0) -> 5",
            "remove(1, 1, 0) -> 5", "host(1, -1, 0) -> 6", "host(0, 0, 7) -> 7",
            "host(1, -1, 0) -> ISE", "host(0, 0, 7) -> ISE", "host(1, 0, 7) -> UOE",
            "host(0, 1, 7) -> NSE", "host(0, 0, 0) -> IAE", "count(3) -> 7");
    }

    private static void promise6Remove() {
        Runs.check("6: wrong inputs and what is left",
            "contact(0) -> 0", "contact(1) -> 1", "host(0, -1, 0) -> 0", "host(1, -1, 0) -> 1",
            "host(2, -1, 0) -> 2",
            "remove(-1, 0, 0) -> IAE", "remove(4, 0, 0) -> IAE", "remove(0, -1, 0) -> IAE",
            "remove(0, 2, 0) -> IAE", "remove(0, 0, -1) -> NSE", "remove(0, 0, 2) -> NSE",
            "remove(0, 0, 8) -> NSE", "remove(0, 1, 2147483647) -> NSE",
            "remove(0, 1, -2147483648) -> NSE", "remove(0, 0, 1) -> UOE", "remove(0, 1, 1) -> UOE",
            "count(2) -> 2", "count(3) -> 3",
            "remove(0, 0, 0) -> 1", "remove(0, 0, 0) -> NSE", "remove(1, 1, 1) -> 2",
            "remove(1, 1, 1) -> NSE", "thing(1, 0) -> NSE", "thing(0, 0) -> 0",
            "thing(2, 0) -> 2", "thing(101, 0) -> 1");
        Runs.check("6: not while a domain uses it, in any state; the owner is looked at before",
            "deposit(0, 50.0) -> 50.0", "contact(1) -> 0", "host(1, -1, 0) -> 0",
            "create(0, 0, 1, 0, 0) -> 10", "change(0, 0, 1, 0, true) -> 1",
            "remove(1, 0, 0) -> ISE", "remove(1, 1, 0) -> ISE", "remove(0, 0, 0) -> UOE",
            "remove(0, 1, 0) -> UOE", "pass(4) -> 4", "delete(0, 0) -> 1",
            "remove(1, 0, 0) -> ISE", "remove(1, 1, 0) -> ISE", "pass(6) -> 10",
            "domain(0, 3) -> 2", "remove(1, 1, 0) -> ISE", "pass(2) -> 12",
            "remove(1, 1, 0) -> 0", "remove(1, 0, 0) -> 0");
        Runs.check("6: a host that went with its domain is its new owner's to remove",
            "deposit(0, 50.0) -> 50.0", "deposit(1, 50.0) -> 50.0", "contact(0) -> 0",
            "create(0, 0, 1, 0, 0) -> 10", "host(0, 0, 1) -> 0", "ask(1, 0, 0) -> 4",
            "answer(0, 0, true) -> 1", "remove(0, 1, 0) -> UOE", "remove(1, 1, 0) -> 0");
    }

    private static void promise7Create() {
        Runs.check("7: ranges",
            "deposit(0, 10.0) -> 10.0", "contact(0) -> 0",
            "create(-1, 0, 1, 0, 0) -> IAE", "create(4, 0, 1, 0, 0) -> IAE",
            "create(0, -1, 1, 0, 0) -> IAE", "create(0, 10, 1, 0, 0) -> IAE",
            "create(0, 0, 0, 0, 0) -> IAE", "create(0, 0, 4, 0, 0) -> IAE",
            "create(0, 0, 1, -1, 0) -> IAE", "create(0, 0, 1, 100, 0) -> IAE",
            "create(0, 0, 1, 100, 5) -> IAE", "create(0, 0, 1, 0, -1) -> NSE",
            "create(0, 0, 1, 0, 1) -> NSE", "create(0, 0, 1, 0, 2147483647) -> NSE",
            "count(1) -> 0", "balance(0) -> 10.0");
        Runs.check("7: what a new domain is",
            "deposit(2, 10.0) -> 10.0", "contact(3) -> 0", "contact(3) -> 1", "pass(7) -> 7",
            "create(2, 9, 3, 99, 1) -> 37", "balance(2) -> 7.0", "paid(2, 0) -> 3.0",
            "domain(9, 0) -> 2", "domain(9, 1) -> 37", "domain(9, 2) -> 0", "domain(9, 3) -> 0",
            "domain(9, 4) -> 1", "domain(9, 5) -> 0", "domain(9, 6) -> -1", "domain(9, 7) -> 1",
            "domain(9, 8) -> 1", "ask(0, 9, 98) -> UOE", "ask(0, 9, 99) -> 11", "pass(3) -> 10",
            "domain(9, 7) -> 1", "pass(1) -> 11", "domain(9, 7) -> 0");
        Runs.check("7: it is there already, in any state, or can't be paid",
            "deposit(0, 5.0) -> 5.0", "contact(0) -> 0", "create(0, 0, 1, 0, 0) -> 10",
            "create(0, 0, 1, 0, 0) -> ISE", "create(1, 0, 1, 0, 0) -> ISE",
            "create(1, 0, 1, 0, 1) -> NSE", "create(1, 1, 1, 0, 0) -> ISE",
            "create(0, 1, 3, 0, 0) -> 30", "create(0, 2, 2, 0, 0) -> ISE", "balance(0) -> 1.0",
            "count(1) -> 2", "create(0, 2, 1, 0, 0) -> 10", "balance(0) -> 0.0",
            "pass(4) -> 4", "delete(0, 0) -> 1", "deposit(1, 5.0) -> 5.0",
            "create(1, 0, 1, 0, 0) -> ISE", "pass(6) -> 10", "create(1, 0, 1, 0, 0) -> ISE",
            "pass(2) -> 12", "create(1, 0, 1, 0, 0) -> 22", "domain(0, 0) -> 1",
            "domain(0, 3) -> 0", "renew(1, 0, 1) -> 32", "pass(9) -> 21", "domain(0, 3) -> 0");
        Runs.check("7: nothing of the domain that bore the name before is left",
            "deposit(0, 50.0) -> 50.0", "contact(0) -> 0", "contact(0) -> 1", "host(0, -1, 0) -> 0",
            "create(0, 4, 1, 7, 0) -> 10", "change(0, 4, 0, 1, true) -> 2",
            "change(0, 4, 1, 0, true) -> 1", "lock(0, 4, 17) -> 0", "renew(0, 4, 1) -> 20",
            "domain(4, 7) -> 3", "delete(0, 4) -> 2", "create(0, 4, 1, 8, 1) -> 10",
            "domain(4, 2) -> 0", "domain(4, 4) -> 1", "domain(4, 5) -> 0", "domain(4, 7) -> 1",
            "domain(4, 8) -> 1", "domain(4, 9) -> -1", "domain(4, 11) -> -1",
            "ask(1, 4, 7) -> UOE", "thing(100, 3) -> 0", "thing(0, 3) -> 0");
    }

    private static void promise8Change() {
        String[] made = {
            "deposit(0, 50.0) -> 50.0", "contact(0) -> 0", "contact(1) -> 1", "contact(2) -> 2",
            "contact(3) -> 3", "host(0, -1, 0) -> 0", "host(1, -1, 0) -> 1", "host(2, -1, 0) -> 2",
            "host(3, -1, 0) -> 3", "create(0, 1, 1, 5, 0) -> 10",
        };
        Runs.check("8: wrong inputs", Runs.joined(made,
            "change(-1, 1, 0, 1, true) -> IAE", "change(4, 1, 0, 1, true) -> IAE",
            "change(0, -1, 0, 1, true) -> IAE", "change(0, 10, 0, 1, true) -> IAE",
            "change(0, 1, -1, 1, true) -> IAE", "change(0, 1, 2, 1, true) -> IAE",
            "change(0, 2, 0, 1, true) -> NSE", "change(0, 1, 0, 4, true) -> NSE",
            "change(0, 1, 0, -1, true) -> NSE", "change(0, 1, 1, 8, false) -> NSE",
            "change(0, 1, 1, 2147483647, true) -> NSE", "change(1, 1, 1, 7, true) -> NSE",
            "change(1, 1, 0, 1, true) -> UOE", "change(1, 1, 0, 0, true) -> UOE",
            "domain(1, 4) -> 1", "domain(1, 5) -> 0"));
        Runs.check("8: contacts in their order", Runs.joined(made,
            "change(0, 1, 0, 0, false) -> ISE", "change(0, 1, 0, 1, false) -> ISE",
            "change(0, 1, 0, 0, true) -> ISE", "change(0, 1, 0, 2, true) -> 2",
            "change(0, 1, 0, 1, true) -> 3", "change(0, 1, 0, 3, true) -> ISE",
            "change(0, 1, 0, 2, true) -> ISE", "domain(1, 8) -> 0", "domain(1, 9) -> 2",
            "domain(1, 10) -> 1", "change(0, 1, 0, 3, false) -> ISE",
            "change(0, 1, 0, 0, false) -> 2", "domain(1, 8) -> 2", "domain(1, 9) -> 1",
            "domain(1, 10) -> -1", "change(0, 1, 0, 3, true) -> 3", "domain(1, 10) -> 3",
            "change(0, 1, 0, 1, false) -> 2", "change(0, 1, 0, 3, false) -> 1",
            "change(0, 1, 0, 2, false) -> ISE", "domain(1, 8) -> 2", "thing(100, 3) -> 0"));
        Runs.check("8: hosts in their order, down to none", Runs.joined(made,
            "change(0, 1, 1, 0, false) -> ISE", "change(0, 1, 1, 3, true) -> 1",
            "change(0, 1, 1, 3, true) -> ISE", "change(0, 1, 1, 0, true) -> 2",
            "change(0, 1, 1, 2, true) -> 3", "change(0, 1, 1, 1, true) -> ISE",
            "domain(1, 11) -> 3", "domain(1, 12) -> 0", "domain(1, 13) -> 2",
            "change(0, 1, 1, 0, false) -> 2", "domain(1, 11) -> 3", "domain(1, 12) -> 2",
            "domain(1, 13) -> -1", "change(0, 1, 1, 3, false) -> 1",
            "change(0, 1, 1, 2, false) -> 0", "domain(1, 11) -> -1", "domain(1, 4) -> 1"));
        Runs.check("8: lock 1 alone forbids it, a waiting transfer does not, a state does",
            Runs.joined(made,
            "lock(0, 1, 1) -> 0", "change(0, 1, 1, 0, true) -> UOE",
            "change(0, 1, 0, 0, false) -> UOE", "change(0, 1, 1, 4, true) -> NSE",
            "lock(0, 1, 30) -> 1", "change(0, 1, 1, 0, true) -> 1", "lock(0, 1, 0) -> 30",
            "ask(1, 1, 5) -> 4", "change(0, 1, 1, 1, true) -> 2", "answer(0, 1, false) -> 0",
            "pass(4) -> 4", "delete(0, 1) -> 1", "change(0, 1, 1, 2, true) -> UOE",
            "change(0, 1, 1, 1, true) -> UOE", "change(0, 1, 1, 1, false) -> UOE",
            "pass(6) -> 10", "change(0, 1, 1, 1, false) -> UOE", "domain(1, 5) -> 2"));
    }

    private static void promise9Lock() {
        Runs.check("9: the old locks; no lock forbids it",
            "deposit(0, 50.0) -> 50.0", "contact(0) -> 0", "create(0, 2, 1, 0, 0) -> 10",
            "lock(-1, 2, 0) -> IAE", "lock(4, 2, 0) -> IAE", "lock(0, -1, 0) -> IAE",
            "lock(0, 10, 0) -> IAE", "lock(0, 2, -1) -> IAE", "lock(0, 2, 32) -> IAE",
            "lock(0, 3, 32) -> IAE", "lock(0, 3, 31) -> NSE", "lock(1, 2, 31) -> UOE",
            "domain(2, 2) -> 0", "lock(0, 2, 31) -> 0", "domain(2, 2) -> 31", "lock(0, 2, 5) -> 31",
            "lock(0, 2, 0) -> 5", "domain(2, 2) -> 0", "ask(1, 2, 0) -> 4", "lock(0, 2, 4) -> 0",
            "answer(1, 2, false) -> 0", "lock(0, 2, 8) -> 4", "pass(4) -> 4", "delete(0, 2) -> 1",
            "lock(0, 2, 0) -> UOE", "pass(6) -> 10", "lock(0, 2, 0) -> UOE", "domain(2, 2) -> 8");
    }

    private static void promise10Renew() {
        Runs.check("10: wrong inputs",
            "deposit(0, 50.0) -> 50.0", "contact(0) -> 0", "create(0, 2, 1, 0, 0) -> 10",
            "renew(-1, 2, 1) -> IAE", "renew(4, 2, 1) -> IAE", "renew(0, -1, 1) -> IAE",
            "renew(0, 10, 1) -> IAE", "renew(0, 2, 0) -> IAE", "renew(0, 2, 4) -> IAE",
            "renew(0, 3, 4) -> IAE", "renew(0, 3, 1) -> NSE", "renew(1, 2, 1) -> UOE",
            "domain(2, 1) -> 10", "balance(0) -> 49.0");
        Runs.check("10: at most five years behind the day",
            "deposit(0, 50.0) -> 50.0", "contact(0) -> 0", "create(0, 2, 3, 0, 0) -> 30",
            "renew(0, 2, 3) -> ISE", "renew(0, 2, 2) -> 50", "renew(0, 2, 1) -> ISE",
            "balance(0) -> 45.0", "paid(0, 1) -> 2.0", "pass(9) -> 9", "renew(0, 2, 1) -> ISE",
            "pass(1) -> 10", "renew(0, 2, 1) -> 60", "balance(0) -> 44.0", "domain(2, 1) -> 60");
        Runs.check("10: locks, a waiting transfer, and the balance",
            "deposit(0, 3.0) -> 3.0", "contact(0) -> 0", "create(0, 2, 1, 0, 0) -> 10",
            "lock(0, 2, 8) -> 0", "renew(0, 2, 1) -> UOE", "renew(0, 2, 3) -> UOE",
            "lock(0, 2, 23) -> 8", "renew(0, 2, 3) -> ISE", "renew(0, 2, 1) -> 20",
            "lock(0, 2, 0) -> 23", "ask(1, 2, 0) -> 4", "renew(0, 2, 1) -> ISE",
            "lock(0, 2, 8) -> 0", "renew(0, 2, 1) -> UOE", "lock(0, 2, 0) -> 8",
            "answer(0, 2, false) -> 0", "renew(0, 2, 1) -> 30", "balance(0) -> 0.0",
            "pass(4) -> 4", "delete(0, 2) -> 1", "renew(0, 2, 1) -> UOE", "pass(6) -> 10",
            "renew(0, 2, 1) -> UOE");
        Runs.check("10: only the last one has its grace, for three days",
            "deposit(0, 50.0) -> 50.0", "contact(0) -> 0", "create(0, 2, 1, 0, 0) -> 10",
            "pass(4) -> 4", "renew(0, 2, 2) -> 30", "domain(2, 7) -> 2", "pass(1) -> 5",
            "renew(0, 2, 1) -> 40", "pass(3) -> 8", "domain(2, 7) -> 2", "balance(0) -> 46.0",
            "delete(0, 2) -> 1", "balance(0) -> 47.0", "domain(2, 1) -> 40", "domain(2, 7) -> 0",
            "restore(0, 2) -> 40", "pass(1) -> 9", "renew(0, 2, 1) -> 50", "pass(4) -> 13",
            "domain(2, 7) -> 0", "balance(0) -> 45.0", "delete(0, 2) -> 1", "balance(0) -> 45.0");
    }

    private static void promise11Delete() {
        Runs.check("11: wrong inputs and locks",
            "deposit(0, 50.0) -> 50.0", "contact(0) -> 0", "create(0, 2, 1, 0, 0) -> 10",
            "delete(-1, 2) -> IAE", "delete(4, 2) -> IAE", "delete(0, -1) -> IAE",
            "delete(0, 10) -> IAE", "delete(0, 3) -> NSE", "delete(1, 2) -> UOE",
            "lock(0, 2, 2) -> 0", "delete(0, 2) -> UOE", "lock(0, 2, 0) -> 2", "ask(1, 2, 0) -> 4",
            "delete(0, 2) -> ISE", "lock(0, 2, 2) -> 0", "delete(0, 2) -> UOE",
            "lock(0, 2, 29) -> 2", "answer(0, 2, false) -> 0", "balance(0) -> 49.0",
            "count(1) -> 1", "delete(0, 2) -> 2", "balance(0) -> 50.0", "delete(0, 2) -> NSE",
            "count(1) -> 0", "message(0) -> 12", "acknowledge(0) -> 0");
        Runs.check("11: within the grace of CREATE all that is on comes back and it is gone",
            "deposit(0, 102.0) -> 102.0", "contact(0) -> 0", "pass(2) -> 2",
            "price(0, 2.0) -> 0", "create(0, 2, 2, 0, 0) -> 22", "balance(0) -> 98.5",
            "host(0, 2, 1) -> 0", "host(0, 2, 2) -> 1", "host(0, -1, 0) -> 2",
            "change(0, 2, 1, 0, true) -> 1", "change(0, 2, 1, 2, true) -> 2",
            "renew(0, 2, 2) -> 42", "balance(0) -> 96.5", "pass(3) -> 5", "domain(2, 7) -> 3",
            "delete(0, 2) -> 2", "balance(0) -> 102.0", "paid(0, 0) -> 3.5", "paid(0, 1) -> 2.0",
            "count(1) -> 0", "count(3) -> 1", "thing(0, 0) -> NSE", "thing(1, 0) -> NSE",
            "thing(2, 3) -> 0", "count(4) -> 0", "remove(0, 0, 0) -> 0");
        Runs.check("11: later it is in redemption for five days, without grace",
            "deposit(0, 50.0) -> 50.0", "contact(0) -> 0", "create(0, 2, 1, 0, 0) -> 10",
            "pass(3) -> 3", "renew(0, 2, 1) -> 20", "pass(1) -> 4", "delete(0, 2) -> 1",
            "balance(0) -> 49.0", "domain(2, 3) -> 1", "domain(2, 1) -> 20", "domain(2, 7) -> 0",
            "delete(0, 2) -> UOE", "pass(5) -> 9", "domain(2, 3) -> 1", "pass(1) -> 10",
            "domain(2, 3) -> 2", "delete(0, 2) -> UOE", "pass(1) -> 11", "domain(2, 3) -> 2",
            "count(4) -> 0", "pass(1) -> 12", "domain(2, 3) -> NSE", "message(0) -> 42");
        Runs.check("11: on the last day of AUTO's grace the year and its cost come back",
            "deposit(0, 50.0) -> 50.0", "contact(0) -> 0", "price(1, 4.0) -> 0",
            "create(0, 2, 1, 0, 0) -> 10", "pass(15) -> 15", "domain(2, 7) -> 16",
            "domain(2, 1) -> 20", "balance(0) -> 45.0", "price(1, 9.0) -> 0", "delete(0, 2) -> 1",
            "balance(0) -> 49.0", "domain(2, 1) -> 10", "paid(0, 1) -> 4.0");
        Runs.check("11: a day later neither does",
            "deposit(0, 50.0) -> 50.0", "contact(0) -> 0", "create(0, 2, 1, 0, 0) -> 10",
            "pass(16) -> 16", "domain(2, 7) -> 0", "delete(0, 2) -> 1", "balance(0) -> 48.0",
            "domain(2, 1) -> 20");
        Runs.check("11: AUTO's and RENEW's graces are both on: both costs, but one year",
            "deposit(0, 50.0) -> 50.0", "contact(0) -> 0", "create(0, 2, 1, 0, 0) -> 10",
            "pass(12) -> 12", "renew(0, 2, 2) -> 40", "domain(2, 7) -> 18", "balance(0) -> 46.0",
            "delete(0, 2) -> 1", "balance(0) -> 49.0", "domain(2, 1) -> 30");
        Runs.check("11: TRANSFER's cost comes back to the new owner, the year stays",
            "deposit(0, 50.0) -> 50.0", "deposit(1, 50.0) -> 50.0", "contact(0) -> 0",
            "create(0, 2, 1, 0, 0) -> 10", "price(2, 3.0) -> 0", "ask(1, 2, 0) -> 4",
            "answer(0, 2, true) -> 1", "pass(3) -> 3", "delete(1, 2) -> 1", "balance(1) -> 50.0",
            "balance(0) -> 49.0", "domain(2, 1) -> 20", "domain(2, 0) -> 1");
        Runs.check("11: not while another domain alone uses a host under it",
            "deposit(0, 50.0) -> 50.0", "contact(0) -> 0", "create(0, 2, 1, 0, 0) -> 10",
            "create(0, 0, 1, 0, 0) -> 10", "host(0, 2, 1) -> 0", "change(0, 0, 1, 0, true) -> 1",
            "delete(0, 2) -> ISE", "balance(0) -> 48.0", "change(0, 0, 1, 0, false) -> 0",
            "delete(0, 2) -> 2", "balance(0) -> 49.0");
        Runs.check("11: not while another domain, in any state, uses a host under it",
            "deposit(0, 50.0) -> 50.0", "deposit(1, 50.0) -> 50.0", "contact(0) -> 0",
            "create(0, 2, 1, 0, 0) -> 10", "create(1, 3, 1, 0, 0) -> 10", "host(0, 2, 1) -> 0",
            "host(0, 2, 2) -> 1", "change(0, 2, 1, 0, true) -> 1", "change(0, 2, 1, 1, true) -> 2",
            "change(1, 3, 1, 1, true) -> 1", "delete(0, 2) -> ISE", "pass(4) -> 4",
            "delete(1, 3) -> 1", "delete(0, 2) -> ISE", "domain(2, 3) -> 0", "pass(8) -> 12",
            "count(1) -> 1", "domain(2, 7) -> 16", "delete(0, 2) -> 1", "thing(1, 3) -> 1");
    }

    private static void promise12Restore() {
        Runs.check("12: wrong inputs and states",
            "deposit(0, 50.0) -> 50.0", "contact(0) -> 0", "create(0, 2, 2, 0, 0) -> 20",
            "restore(-1, 2) -> IAE", "restore(4, 2) -> IAE", "restore(0, -1) -> IAE",
            "restore(0, 10) -> IAE", "restore(0, 3) -> NSE", "restore(0, 2) -> UOE",
            "pass(4) -> 4", "delete(0, 2) -> 1", "restore(1, 2) -> UOE", "price(3, 2.5) -> 0",
            "pass(5) -> 9", "restore(0, 2) -> 20", "balance(0) -> 45.5", "paid(0, 3) -> 2.5",
            "domain(2, 3) -> 0", "domain(2, 7) -> 0", "restore(0, 2) -> UOE", "pass(3) -> 12",
            "domain(2, 3) -> 0", "delete(0, 2) -> 1", "balance(0) -> 45.5", "pass(6) -> 18",
            "restore(0, 2) -> UOE", "balance(0) -> 45.5");
        Runs.check("12: it can't be paid, it stays in redemption",
            "deposit(0, 2.0) -> 2.0", "contact(0) -> 0", "create(0, 2, 2, 0, 0) -> 20",
            "pass(4) -> 4", "lock(0, 2, 29) -> 0", "delete(0, 2) -> 1", "restore(0, 2) -> ISE",
            "domain(2, 3) -> 1", "paid(0, 3) -> 0.0", "deposit(0, 0.875) -> 0.875",
            "restore(0, 2) -> ISE", "deposit(0, 0.125) -> 1.0", "restore(0, 2) -> 20",
            "balance(0) -> 0.0", "domain(2, 2) -> 29");
        Runs.check("12: the eighth less at 100.0",
            "deposit(0, 101.0) -> 101.0", "contact(0) -> 0", "price(0, 1.0) -> 0",
            "create(0, 2, 1, 0, 0) -> 10", "pass(4) -> 4", "delete(0, 2) -> 1",
            "restore(0, 2) -> 10", "balance(0) -> 99.25", "paid(0, 3) -> 0.875");
        Runs.check("12: an expiry before the day is renewed as days pass, a year each",
            "deposit(0, 50.0) -> 50.0", "contact(0) -> 0", "create(0, 2, 1, 0, 0) -> 10",
            "pass(15) -> 15", "domain(2, 1) -> 20", "delete(0, 2) -> 1", "balance(0) -> 49.0",
            "pass(5) -> 20", "domain(2, 1) -> 10", "restore(0, 2) -> 10", "domain(2, 1) -> 10",
            "balance(0) -> 48.0", "pass(1) -> 21", "domain(2, 1) -> 20", "balance(0) -> 47.0",
            "pass(1) -> 22", "domain(2, 1) -> 30", "balance(0) -> 46.0", "pass(1) -> 23",
            "domain(2, 1) -> 30", "delete(0, 2) -> 1", "balance(0) -> 47.0", "domain(2, 1) -> 20");
        Runs.check("12: the redemption that follows a restore has its own days",
            "deposit(0, 50.0) -> 50.0", "contact(0) -> 0", "create(0, 2, 3, 0, 0) -> 30",
            "pass(4) -> 4", "delete(0, 2) -> 1", "pass(5) -> 9", "restore(0, 2) -> 30",
            "delete(0, 2) -> 1", "pass(5) -> 14", "domain(2, 3) -> 1", "pass(1) -> 15",
            "domain(2, 3) -> 2");
    }

    private static void promise13Ask() {
        Runs.check("13: wrong inputs and locks",
            "deposit(0, 50.0) -> 50.0", "contact(0) -> 0", "create(0, 2, 1, 42, 0) -> 10",
            "ask(-1, 2, 42) -> IAE", "ask(4, 2, 42) -> IAE", "ask(1, -1, 42) -> IAE",
            "ask(1, 10, 42) -> IAE", "ask(1, 2, -1) -> IAE", "ask(1, 2, 100) -> IAE",
            "ask(1, 3, 100) -> IAE", "ask(1, 3, 42) -> NSE", "ask(0, 3, 42) -> NSE",
            "ask(0, 2, 42) -> UOE", "ask(1, 2, 41) -> UOE", "lock(0, 2, 4) -> 0",
            "ask(1, 2, 42) -> UOE", "lock(0, 2, 27) -> 4", "count(4) -> 0", "domain(2, 6) -> -1",
            "ask(1, 2, 42) -> 4", "domain(2, 6) -> 1", "count(4) -> 1", "message(0) -> 12",
            "ask(2, 2, 42) -> ISE", "ask(1, 2, 42) -> ISE", "ask(2, 2, 41) -> UOE",
            "ask(0, 2, 42) -> UOE", "lock(0, 2, 4) -> 27", "ask(2, 2, 42) -> UOE",
            "count(4) -> 1", "domain(2, 6) -> 1", "balance(1) -> 0.0");
        Runs.check("13: from the day on, and only while active",
            "deposit(0, 50.0) -> 50.0", "contact(0) -> 0", "create(0, 2, 3, 0, 0) -> 30",
            "pass(6) -> 6", "ask(3, 2, 0) -> 10", "domain(2, 6) -> 3", "answer(0, 2, false) -> 0",
            "domain(2, 6) -> -1", "ask(2, 2, 0) -> 10", "answer(2, 2, false) -> 0",
            "delete(0, 2) -> 1", "ask(2, 2, 0) -> UOE", "pass(6) -> 12", "ask(2, 2, 0) -> UOE");
    }

    private static void promise14Answer() {
        String[] asked = {
            "deposit(0, 50.0) -> 50.0", "deposit(1, 4.0) -> 4.0", "price(2, 4.0) -> 0",
            "contact(0) -> 0", "create(0, 2, 1, 0, 0) -> 10", "host(0, 2, 5) -> 0",
            "host(0, -1, 0) -> 1", "renew(0, 2, 1) -> 20", "pass(1) -> 1", "ask(1, 2, 0) -> 5",
        };
        Runs.check("14: who may answer", Runs.joined(asked,
            "answer(-1, 2, true) -> IAE", "answer(4, 2, false) -> IAE", "answer(0, -1, true) -> IAE",
            "answer(0, 10, true) -> IAE", "answer(0, 3, true) -> NSE", "answer(2, 2, false) -> UOE",
            "answer(2, 2, true) -> UOE", "answer(1, 2, true) -> UOE", "domain(2, 6) -> 1",
            "count(4) -> 1", "answer(1, 2, false) -> 0", "domain(2, 6) -> -1", "message(1) -> 32",
            "count(4) -> 2", "answer(2, 2, false) -> NSE", "answer(1, 2, true) -> NSE",
            "answer(0, 2, true) -> NSE", "domain(2, 0) -> 0", "domain(2, 1) -> 20",
            "domain(2, 7) -> 3", "balance(1) -> 4.0"));
        Runs.check("14: no", Runs.joined(asked,
            "answer(0, 2, false) -> 0", "message(1) -> 32", "acknowledge(1) -> 0",
            "acknowledge(0) -> 0", "domain(2, 0) -> 0", "domain(2, 6) -> -1"));
        Runs.check("14: yes", Runs.joined(asked,
            "lock(0, 2, 31) -> 0", "answer(0, 2, true) -> 1", "domain(2, 0) -> 1",
            "domain(2, 1) -> 30", "domain(2, 2) -> 31", "domain(2, 6) -> -1", "domain(2, 7) -> 4",
            "domain(2, 8) -> 0", "thing(0, 0) -> 1", "thing(1, 0) -> 0", "thing(100, 0) -> 0",
            "balance(1) -> 0.0", "paid(1, 2) -> 4.0", "balance(0) -> 48.0", "count(4) -> 3",
            "message(1) -> 22", "acknowledge(1) -> 0", "acknowledge(0) -> 1", "message(0) -> 22",
            "answer(1, 2, true) -> NSE", "pass(3) -> 4", "domain(2, 7) -> 4", "pass(1) -> 5",
            "domain(2, 7) -> 0"));
        Runs.check("14: it can't be paid and waits still", Runs.joined(asked,
            "price(2, 4.125) -> 0", "answer(0, 2, true) -> ISE", "domain(2, 6) -> 1",
            "domain(2, 0) -> 0", "count(4) -> 1", "answer(1, 2, true) -> UOE",
            "deposit(1, 0.125) -> 4.125", "answer(0, 2, true) -> 1", "balance(1) -> 0.0",
            "domain(2, 0) -> 1"));
        Runs.check("14: all hosts under it go over, no others", Runs.joined(asked,
            "create(0, 3, 1, 0, 0) -> 11", "host(0, 3, 6) -> 2", "host(0, 2, 7) -> 3",
            "host(0, 2, 8) -> 4", "remove(0, 1, 3) -> 4", "answer(0, 2, true) -> 1",
            "thing(0, 0) -> 1", "thing(1, 0) -> 0", "thing(2, 0) -> 0", "thing(3, 0) -> NSE",
            "thing(4, 0) -> 1"));
        Runs.check("14: the one it is for gets the eighth less, not the owner",
            "deposit(0, 50.0) -> 50.0", "deposit(3, 100.0) -> 100.0", "contact(0) -> 0",
            "create(0, 2, 1, 0, 0) -> 10", "ask(3, 2, 0) -> 4", "answer(0, 2, true) -> 1",
            "balance(3) -> 99.125", "balance(0) -> 49.0", "ask(0, 2, 0) -> 4",
            "answer(3, 2, true) -> 1", "balance(0) -> 48.0", "domain(2, 0) -> 0",
            "domain(2, 1) -> 30", "domain(2, 7) -> 4", "delete(0, 2) -> 1", "balance(0) -> 49.0");
        Runs.check("14: a transfer may take the expiry beyond five years",
            "deposit(0, 50.0) -> 50.0", "deposit(1, 50.0) -> 50.0", "contact(0) -> 0",
            "create(0, 2, 3, 0, 0) -> 30", "renew(0, 2, 2) -> 50", "ask(1, 2, 0) -> 4",
            "answer(0, 2, true) -> 1", "domain(2, 1) -> 60");
    }

    private static void promise15Pass() {
        Runs.check("15: ranges",
            "pass(0) -> IAE", "pass(-1) -> IAE", "pass(21) -> IAE", "pass(2147483647) -> IAE",
            "count(0) -> 0", "pass(1) -> 1", "pass(20) -> 21", "count(0) -> 21");
        Runs.check("15: a transfer that no one answers is done when its day is over",
            "deposit(0, 5.0) -> 5.0", "deposit(1, 5.0) -> 5.0", "contact(0) -> 0",
            "create(0, 2, 1, 0, 0) -> 10", "host(0, 2, 3) -> 0", "lock(0, 2, 4) -> 0",
            "lock(0, 2, 0) -> 4", "ask(1, 2, 0) -> 4", "lock(0, 2, 31) -> 0", "pass(4) -> 4",
            "domain(2, 0) -> 0", "domain(2, 6) -> 1", "pass(1) -> 5", "domain(2, 0) -> 1",
            "domain(2, 6) -> -1", "domain(2, 1) -> 20", "thing(0, 0) -> 1", "balance(1) -> 4.0",
            "domain(2, 7) -> 4", "message(1) -> 22", "acknowledge(0) -> 1", "message(0) -> 22",
            "pass(3) -> 8", "domain(2, 7) -> 4", "pass(1) -> 9", "domain(2, 7) -> 0");
        Runs.check("15: or ends if it can't be paid",
            "deposit(0, 5.0) -> 5.0", "deposit(1, 0.875) -> 0.875", "contact(0) -> 0",
            "create(0, 2, 1, 0, 0) -> 10", "ask(1, 2, 0) -> 4", "pass(5) -> 5",
            "domain(2, 0) -> 0", "domain(2, 1) -> 10", "domain(2, 6) -> -1", "message(1) -> 32",
            "count(4) -> 2", "balance(1) -> 0.875");
        Runs.check("15: a transfer comes before the renewing of its name",
            "deposit(0, 5.0) -> 5.0", "deposit(1, 5.0) -> 5.0", "contact(0) -> 0",
            "create(0, 2, 1, 0, 0) -> 10", "create(0, 3, 1, 0, 0) -> 10", "pass(6) -> 6",
            "ask(1, 2, 0) -> 10", "pass(1) -> 7", "ask(1, 3, 0) -> 11", "pass(4) -> 11",
            "domain(2, 0) -> 1", "domain(2, 1) -> 20", "domain(2, 7) -> 4", "domain(3, 0) -> 0",
            "domain(3, 1) -> 20", "domain(3, 7) -> 16", "balance(0) -> 2.0", "balance(1) -> 4.0",
            "pass(1) -> 12", "domain(3, 0) -> 1", "domain(3, 1) -> 30", "domain(3, 7) -> 4",
            "balance(1) -> 3.0", "balance(0) -> 2.0");
        Runs.check("15: a transfer that can't be paid: the old owner pays the renewing",
            "deposit(0, 5.0) -> 5.0", "contact(0) -> 0", "create(0, 2, 1, 0, 0) -> 10",
            "pass(6) -> 6", "ask(1, 2, 0) -> 10", "pass(5) -> 11", "domain(2, 0) -> 0",
            "domain(2, 1) -> 20", "balance(0) -> 3.0", "balance(1) -> 0.0", "message(1) -> 32");
        Runs.check("15: names go from 0 on, each with all that it does",
            "deposit(0, 5.0) -> 5.0", "deposit(1, 2.0) -> 2.0", "contact(0) -> 0",
            "create(1, 1, 1, 0, 0) -> 10", "create(0, 2, 1, 0, 0) -> 10", "pass(6) -> 6",
            "ask(1, 2, 0) -> 10", "pass(5) -> 11", "domain(1, 1) -> 20", "balance(1) -> 0.0",
            "domain(2, 0) -> 0", "message(1) -> 32");
        Runs.check("15: a name before is transferred first and leaves less for the renewing behind it",
            "deposit(0, 5.0) -> 5.0", "deposit(1, 2.0) -> 2.0", "contact(0) -> 0",
            "create(1, 3, 1, 0, 0) -> 10", "create(0, 2, 1, 0, 0) -> 10", "pass(6) -> 6",
            "ask(1, 2, 0) -> 10", "pass(5) -> 11", "domain(2, 0) -> 1", "domain(3, 1) -> 20",
            "balance(1) -> -1.0", "paid(1, 1) -> 1.0", "paid(1, 2) -> 1.0", "message(1) -> 22");
        Runs.check("15: AUTO year by year, below 0, with four days of grace",
            "deposit(0, 1.0) -> 1.0", "contact(0) -> 0", "create(0, 0, 1, 0, 0) -> 10",
            "lock(0, 0, 31) -> 0", "pass(10) -> 10", "domain(0, 1) -> 10", "balance(0) -> 0.0",
            "pass(1) -> 11", "domain(0, 1) -> 20", "balance(0) -> -1.0", "domain(0, 7) -> 16",
            "pass(4) -> 15", "domain(0, 7) -> 16", "pass(1) -> 16", "domain(0, 7) -> 0",
            "pass(4) -> 20", "balance(0) -> -1.0", "pass(1) -> 21", "balance(0) -> -2.0",
            "paid(0, 1) -> 2.0", "price(0, 0.0) -> 0", "create(0, 1, 1, 0, 0) -> ISE",
            "deposit(0, 2.0) -> 0.0", "create(0, 1, 1, 0, 0) -> 31", "count(4) -> 0");
        Runs.check("15: AUTO takes the eighth less at 100.0, but not below",
            "deposit(0, 102.0) -> 102.0", "contact(0) -> 0", "price(0, 0.0) -> 0",
            "price(1, 8.0) -> 0", "create(0, 0, 1, 0, 0) -> 10", "create(0, 1, 1, 0, 0) -> 10",
            "pass(11) -> 11", "balance(0) -> 87.0", "delete(0, 0) -> 1", "balance(0) -> 94.0",
            "delete(0, 1) -> 1", "balance(0) -> 102.0");
        Runs.check("15: redemption, leaving and gone, all in one call as in many",
            "deposit(0, 5.0) -> 5.0", "contact(0) -> 0", "create(0, 0, 1, 0, 0) -> 10",
            "create(0, 1, 1, 0, 0) -> 10", "pass(4) -> 4", "delete(0, 0) -> 1", "pass(7) -> 11",
            "domain(0, 3) -> 2", "domain(0, 1) -> 10", "pass(1) -> 12", "domain(0, 3) -> NSE",
            "delete(0, 1) -> 1", "pass(20) -> 32", "count(1) -> 0", "message(0) -> 40",
            "acknowledge(0) -> 1", "message(0) -> 41", "balance(0) -> 3.0");
        Runs.check("15: hosts under a domain go with it, out of all domains",
            "deposit(0, 5.0) -> 5.0", "deposit(1, 5.0) -> 5.0", "contact(0) -> 0",
            "create(0, 4, 1, 0, 0) -> 10", "create(1, 5, 3, 0, 0) -> 30", "host(0, 4, 1) -> 0",
            "host(1, 5, 2) -> 1", "pass(4) -> 4", "delete(0, 4) -> 1", "host(0, 4, 3) -> 2",
            "change(1, 5, 1, 0, true) -> 1", "change(1, 5, 1, 1, true) -> 2",
            "change(1, 5, 1, 2, true) -> 3", "pass(7) -> 11", "domain(5, 5) -> 3", "count(3) -> 3",
            "pass(1) -> 12", "domain(5, 5) -> 1", "domain(5, 11) -> 1", "domain(5, 12) -> -1",
            "count(3) -> 1", "thing(0, 3) -> NSE", "thing(2, 3) -> NSE", "thing(1, 3) -> 1",
            "message(0) -> 44", "count(4) -> 1");
        Runs.check("15: out of the domains of the first and of the last name too",
            "deposit(0, 9.0) -> 9.0", "contact(0) -> 0", "create(0, 0, 3, 0, 0) -> 30",
            "create(0, 4, 1, 0, 0) -> 10", "create(0, 9, 3, 0, 0) -> 30", "pass(4) -> 4",
            "delete(0, 4) -> 1", "host(0, 4, 1) -> 0", "change(0, 0, 1, 0, true) -> 1",
            "change(0, 9, 1, 0, true) -> 1", "count(5) -> 2", "pass(8) -> 12", "domain(0, 5) -> 0",
            "domain(9, 5) -> 0", "count(5) -> 0", "create(0, 4, 1, 0, 0) -> 22",
            "host(0, 4, 1) -> 1", "count(3) -> 1");
    }

    private static void promise16Message() {
        Runs.check("16: the oldest, which stays",
            "message(-1) -> IAE", "message(4) -> IAE", "message(2) -> NSE",
            "deposit(2, 5.0) -> 5.0", "contact(2) -> 0", "create(2, 9, 1, 0, 0) -> 10",
            "create(2, 0, 1, 0, 0) -> 10", "ask(3, 9, 0) -> 4", "ask(3, 0, 0) -> 4",
            "message(2) -> 19", "message(2) -> 19", "message(3) -> NSE", "message(0) -> NSE",
            "answer(2, 9, false) -> 0", "message(3) -> 39", "answer(3, 0, false) -> 0",
            "message(3) -> 39", "acknowledge(3) -> 1", "message(3) -> 30",
            "acknowledge(2) -> 1", "message(2) -> 10");
        Runs.check("16: of thirteen the oldest is lost, of that registrar alone",
            "deposit(0, 50.0) -> 50.0", "contact(0) -> 0", "create(0, 1, 1, 0, 0) -> 10",
            "create(0, 2, 1, 0, 0) -> 10", "create(0, 3, 1, 0, 0) -> 10",
            "ask(1, 1, 0) -> 4", "answer(1, 1, false) -> 0", "ask(2, 2, 0) -> 4",
            "answer(2, 2, false) -> 0", "ask(2, 3, 0) -> 4", "answer(2, 3, false) -> 0",
            "ask(2, 3, 0) -> 4", "answer(2, 3, false) -> 0", "ask(2, 3, 0) -> 4",
            "answer(2, 3, false) -> 0", "ask(2, 3, 0) -> 4", "answer(2, 3, false) -> 0",
            "ask(2, 3, 0) -> 4", "answer(2, 3, false) -> 0", "ask(2, 3, 0) -> 4",
            "answer(2, 3, false) -> 0", "ask(2, 3, 0) -> 4", "answer(2, 3, false) -> 0",
            "ask(2, 3, 0) -> 4", "answer(2, 3, false) -> 0", "ask(2, 3, 0) -> 4",
            "answer(2, 3, false) -> 0", "ask(3, 3, 0) -> 4", "answer(3, 3, false) -> 0",
            "count(4) -> 24", "message(0) -> 11", "ask(1, 2, 0) -> 4", "count(4) -> 24",
            "message(0) -> 12", "message(1) -> 31", "message(2) -> 32", "acknowledge(0) -> 11",
            "message(0) -> 13", "ask(1, 1, 0) -> 4", "message(0) -> 13", "count(4) -> 24",
            "ask(3, 3, 0) -> 4", "acknowledge(0) -> 11");
    }

    private static void promise17Acknowledge() {
        Runs.check("17: one after the other",
            "acknowledge(-1) -> IAE", "acknowledge(4) -> IAE", "acknowledge(0) -> NSE",
            "deposit(0, 5.0) -> 5.0", "deposit(1, 5.0) -> 5.0", "contact(0) -> 0",
            "create(0, 1, 1, 0, 0) -> 10", "create(0, 2, 1, 0, 0) -> 10", "ask(1, 2, 0) -> 4",
            "ask(1, 1, 0) -> 4", "answer(0, 1, true) -> 1", "count(4) -> 4",
            "acknowledge(0) -> 2", "message(0) -> 11", "acknowledge(0) -> 1", "message(0) -> 21",
            "message(1) -> 21", "acknowledge(0) -> 0", "message(0) -> NSE", "acknowledge(0) -> NSE",
            "count(4) -> 1", "acknowledge(1) -> 0", "count(4) -> 0");
    }

    private static void promise18Balance() {
        Runs.check("18: the balance",
            "balance(-1) -> IAE", "balance(4) -> IAE", "deposit(3, 7.125) -> 7.125",
            "balance(3) -> 7.125", "balance(2) -> 0.0", "contact(0) -> 0", "price(0, 2.375) -> 0",
            "create(3, 0, 3, 0, 0) -> 30", "balance(3) -> 0.0", "delete(3, 0) -> 2",
            "balance(3) -> 7.125", "deposit(3, 1000.0) -> 1007.125", "create(3, 0, 1, 0, 0) -> 10",
            "balance(3) -> 1005.046875");
    }

    private static void promise19Paid() {
        Runs.check("19: in all, by kind, AUTO with RENEW, what comes back stays",
            "paid(-1, 0) -> IAE", "paid(4, 0) -> IAE", "paid(0, -1) -> IAE", "paid(0, 4) -> IAE",
            "deposit(0, 50.0) -> 50.0", "deposit(1, 50.0) -> 50.0", "contact(0) -> 0",
            "price(0, 1.0) -> 0", "price(1, 2.0) -> 0", "price(2, 3.0) -> 0", "price(3, 4.0) -> 0",
            "create(0, 0, 2, 0, 0) -> 20", "delete(0, 0) -> 2", "create(0, 0, 1, 0, 0) -> 10",
            "paid(0, 0) -> 3.0", "renew(0, 0, 1) -> 20", "paid(0, 1) -> 2.0", "pass(20) -> 20",
            "paid(0, 1) -> 2.0", "pass(1) -> 21", "paid(0, 1) -> 4.0", "delete(0, 0) -> 1",
            "paid(0, 1) -> 4.0", "restore(0, 0) -> 20", "paid(0, 3) -> 4.0", "ask(1, 0, 0) -> 25",
            "answer(0, 0, true) -> 1", "paid(1, 2) -> 3.0", "paid(0, 2) -> 0.0",
            "delete(1, 0) -> 1", "paid(1, 2) -> 3.0", "paid(1, 0) -> 0.0", "paid(0, 0) -> 3.0",
            "balance(0) -> 43.0", "balance(1) -> 50.0");
    }

    private static void promise20Domain() {
        Runs.check("20: wrong inputs",
            "domain(-1, 0) -> IAE", "domain(10, 0) -> IAE", "domain(0, -1) -> IAE",
            "domain(0, 14) -> IAE", "domain(0, 0) -> NSE", "domain(0, 13) -> NSE");
        Runs.check("20: all of a domain",
            "deposit(1, 90.0) -> 90.0", "contact(0) -> 0", "contact(0) -> 1", "contact(0) -> 2",
            "host(0, -1, 0) -> 0", "host(0, -1, 0) -> 1", "host(0, -1, 0) -> 2", "pass(2) -> 2",
            "create(1, 5, 2, 3, 2) -> 22", "change(1, 5, 0, 0, true) -> 2",
            "change(1, 5, 0, 1, true) -> 3", "change(1, 5, 1, 1, true) -> 1",
            "change(1, 5, 1, 2, true) -> 2", "lock(1, 5, 9) -> 0", "ask(3, 5, 3) -> 6",
            "domain(5, 0) -> 1", "domain(5, 1) -> 22", "domain(5, 2) -> 9", "domain(5, 3) -> 0",
            "domain(5, 4) -> 3", "domain(5, 5) -> 2", "domain(5, 6) -> 3", "domain(5, 7) -> 1",
            "domain(5, 8) -> 2", "domain(5, 9) -> 0", "domain(5, 10) -> 1", "domain(5, 11) -> 1",
            "domain(5, 12) -> 2", "domain(5, 13) -> -1", "domain(4, 0) -> NSE",
            "change(1, 5, 1, 0, true) -> UOE", "lock(1, 5, 0) -> 9", "change(1, 5, 1, 0, true) -> 3",
            "domain(5, 13) -> 0");
        Runs.check("20: graces on, each till its day is over",
            "deposit(0, 90.0) -> 90.0", "deposit(1, 90.0) -> 90.0", "contact(0) -> 0",
            "create(0, 0, 1, 0, 0) -> 10", "pass(1) -> 1", "renew(0, 0, 1) -> 20",
            "domain(0, 7) -> 3", "pass(2) -> 3", "domain(0, 7) -> 3", "pass(1) -> 4",
            "domain(0, 7) -> 2", "pass(1) -> 5", "domain(0, 7) -> 0", "pass(16) -> 21",
            "domain(0, 7) -> 16", "renew(0, 0, 1) -> 40", "domain(0, 7) -> 18",
            "ask(1, 0, 0) -> 25", "answer(0, 0, true) -> 1", "domain(0, 7) -> 4",
            "renew(1, 0, 1) -> 60", "domain(0, 7) -> 6", "pass(3) -> 24", "domain(0, 7) -> 6",
            "pass(1) -> 25", "domain(0, 7) -> 0");
    }

    private static void promise21Thing() {
        Runs.check("21: wrong inputs",
            "thing(-1, 0) -> IAE", "thing(8, 0) -> IAE", "thing(99, 0) -> IAE",
            "thing(108, 0) -> IAE", "thing(-2147483648, 0) -> IAE", "thing(2147483647, 0) -> IAE",
            "thing(0, -1) -> IAE", "thing(0, 4) -> IAE", "thing(107, 4) -> IAE",
            "thing(0, 0) -> NSE", "thing(7, 3) -> NSE", "thing(100, 1) -> NSE", "thing(107, 0) -> NSE");
        Runs.check("21: hosts and contacts",
            "deposit(2, 50.0) -> 50.0", "contact(3) -> 0", "contact(1) -> 1",
            "create(2, 6, 1, 0, 0) -> 10", "create(2, 7, 1, 0, 0) -> 10", "host(0, -1, 0) -> 0",
            "host(2, 6, 123) -> 1", "thing(0, 0) -> 0", "thing(0, 1) -> 0", "thing(0, 2) -> -1",
            "thing(0, 3) -> 0", "thing(1, 0) -> 2", "thing(1, 1) -> 123", "thing(1, 2) -> 6",
            "thing(1, 3) -> 0", "change(2, 6, 1, 1, true) -> 1", "change(2, 7, 1, 1, true) -> 1",
            "thing(1, 3) -> 2", "thing(100, 0) -> 3", "thing(100, 1) -> -1", "thing(100, 2) -> -1",
            "thing(100, 3) -> 2", "thing(101, 0) -> 1", "thing(101, 3) -> 0",
            "change(2, 7, 0, 1, true) -> 2", "change(2, 7, 0, 0, false) -> 1", "thing(100, 3) -> 1",
            "thing(101, 3) -> 1", "change(2, 7, 1, 1, false) -> 0", "thing(1, 3) -> 1",
            "delete(2, 7) -> 2", "thing(101, 3) -> 0", "pass(4) -> 4", "delete(2, 6) -> 1",
            "thing(1, 3) -> 1", "thing(100, 3) -> 1");
    }

    private static void promise22Zone() {
        Runs.check("22: hosts in their order, then addresses by number, name by name",
            "deposit(0, 50.0) -> 50.0", "contact(0) -> 0", "create(0, 9, 1, 0, 0) -> 10",
            "create(0, 0, 1, 0, 0) -> 10", "create(0, 3, 1, 0, 0) -> 10", "zone(0) -> NSE",
            "host(0, 9, 1) -> 0", "host(0, 0, 1) -> 1", "host(0, 9, 2) -> 2", "host(0, 9, 3) -> 3",
            "host(0, -1, 0) -> 4", "count(5) -> 0", "change(0, 9, 1, 4, true) -> 1",
            "change(0, 9, 1, 3, true) -> 2", "change(0, 9, 1, 1, true) -> 3", "count(5) -> 4",
            "zone(0) -> 9004", "zone(1) -> 9003", "zone(2) -> 9001", "zone(3) -> 9103",
            "zone(4) -> NSE", "zone(-1) -> NSE", "zone(2147483647) -> NSE", "zone(-2147483648) -> NSE",
            "change(0, 0, 1, 0, true) -> 1", "count(5) -> 7", "zone(0) -> 0", "zone(1) -> 101",
            "zone(2) -> 9004", "zone(3) -> 9003", "zone(4) -> 9001", "zone(5) -> 9100",
            "zone(6) -> 9103", "zone(7) -> NSE");
        Runs.check("22: neither held nor deleted domains, but what they use is used",
            "deposit(0, 50.0) -> 50.0", "contact(0) -> 0", "create(0, 1, 1, 0, 0) -> 10",
            "create(0, 2, 1, 0, 0) -> 10", "host(0, 2, 1) -> 0", "host(0, 1, 1) -> 1",
            "change(0, 1, 1, 0, true) -> 1", "change(0, 2, 1, 1, true) -> 1", "count(5) -> 4",
            "zone(0) -> 1000", "zone(1) -> 1101", "zone(2) -> 2001", "zone(3) -> 2100",
            "lock(0, 1, 15) -> 0", "count(5) -> 4", "lock(0, 1, 16) -> 15", "count(5) -> 2",
            "zone(0) -> 2001", "zone(1) -> 2100", "lock(0, 1, 31) -> 16", "count(5) -> 2",
            "lock(0, 1, 0) -> 31", "change(0, 2, 1, 1, false) -> 0", "count(5) -> 1",
            "zone(0) -> 1000", "zone(1) -> NSE", "pass(4) -> 4", "delete(0, 1) -> 1", "count(5) -> 0",
            "host(0, -1, 0) -> 2", "change(0, 2, 1, 2, true) -> 1", "count(5) -> 2",
            "zone(0) -> 2002", "zone(1) -> 2100", "pass(6) -> 10", "domain(1, 3) -> 2",
            "zone(1) -> 2100", "pass(2) -> 12", "count(5) -> 1", "zone(0) -> 2002",
            "zone(1) -> NSE");
        Runs.check("22: a restored domain is back",
            "deposit(0, 50.0) -> 50.0", "contact(0) -> 0", "create(0, 1, 1, 0, 0) -> 10",
            "host(0, 1, 1) -> 0", "change(0, 1, 1, 0, true) -> 1", "pass(4) -> 4",
            "delete(0, 1) -> 1", "zone(0) -> NSE", "restore(0, 1) -> 10", "zone(0) -> 1000",
            "zone(1) -> 1100", "zone(2) -> NSE");
    }

    private static void promise23Count() {
        Runs.check("23: what is counted",
            "count(-1) -> -1", "count(6) -> -1", "count(2147483647) -> -1",
            "count(-2147483648) -> -1", "deposit(0, 50.0) -> 50.0", "contact(0) -> 0",
            "contact(1) -> 1", "contact(2) -> 2", "host(3, -1, 0) -> 0", "host(3, -1, 0) -> 1",
            "create(0, 0, 1, 0, 0) -> 10", "change(0, 0, 1, 0, true) -> 1", "ask(1, 0, 0) -> 4",
            "pass(3) -> 3", "count(0) -> 3", "count(1) -> 1", "count(2) -> 3", "count(3) -> 2",
            "count(4) -> 1", "count(5) -> 1", "answer(1, 0, false) -> 0", "count(4) -> 2",
            "remove(2, 0, 2) -> 2", "count(2) -> 2", "remove(3, 1, 1) -> 1", "count(3) -> 1",
            "pass(1) -> 4", "delete(0, 0) -> 1", "count(1) -> 1", "count(5) -> 0", "pass(8) -> 12",
            "count(0) -> 12", "count(1) -> 0", "count(4) -> 3", "count(3) -> 1");
    }
}
