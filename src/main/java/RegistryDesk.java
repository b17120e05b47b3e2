import java.util.NoSuchElementException;

/**
 * The desk of a registry of names. The words in capitals and the order of the exceptions are those
 * of the document's terms: every method looks at the ranges first, then at what is there, then at
 * who may do it, then at what stands in the way, and only then changes anything.
 */
public final class RegistryDesk {
    public static final int ACTIVE = 0;
    public static final int REDEMPTION = 1;
    public static final int LEAVING = 2;
    public static final int ASKED = 1;
    public static final int DONE = 2;
    public static final int ENDED = 3;
    public static final int GONE = 4;

    private static final int NONE = -1;
    private static final int REGISTRARS = 4;
    private static final int NAMES = 10;
    private static final int MOST_MESSAGES = 12;
    private static final int MOST_MADE = 8;
    private static final int MOST_IN_ROW = 3;
    private static final int MOST_ADDRESS = 999;
    private static final int MOST_CODE = 99;
    private static final int ALL_LOCKS = 31;
    private static final int MOST_AMOUNT = 1000;

    private static final int CONTACTS = 0;
    private static final int HOSTS = 1;
    private static final int CONTACT_OFFSET = 100;

    private static final int CREATE = 0;
    private static final int RENEW = 1;
    private static final int TRANSFER = 2;
    private static final int RESTORE = 3;
    private static final int AUTO = 4;
    private static final int PRICES = 4;
    private static final int GRACES = 5;

    private static final int NO_UPDATES = 1;
    private static final int NO_REMOVING = 2;
    private static final int NO_TRANSFERS = 4;
    private static final int NO_RENEWING = 8;
    private static final int HELD = 16;

    private static final int YEAR = 10;
    private static final int MOST_YEARS = 3;
    private static final int MOST_DAYS_AHEAD = 50;
    private static final int MOST_DAYS_PASSED = 20;
    private static final int GRACE_DAYS = 3;
    private static final int AUTO_GRACE_DAYS = 4;
    private static final int REDEMPTION_DAYS = 5;
    private static final int LEAVING_DAYS = 2;
    private static final int TRANSFER_DAYS = 4;

    private final double[] prices;
    private final Account[] accounts;
    private final Shelf[] shelves;
    private final Domain[] domains;
    private int today;

    public RegistryDesk() {
        prices = new double[PRICES];
        for (int kind = 0; kind < PRICES; kind++) {
            prices[kind] = 1.0;
        }
        accounts = new Account[REGISTRARS];
        for (int registrar = 0; registrar < REGISTRARS; registrar++) {
            accounts[registrar] = new Account();
        }
        shelves = new Shelf[2];
        shelves[CONTACTS] = new Shelf();
        shelves[HOSTS] = new Shelf();
        domains = new Domain[NAMES];
        for (int name = 0; name < NAMES; name++) {
            domains[name] = new Domain();
        }
        today = 0;
    }

    public int price(int kind, double amount) throws IllegalArgumentException,
            NoSuchElementException, UnsupportedOperationException, IllegalStateException {
        requireRange(kind, 0, PRICES - 1);
        requireAmount(amount);
        prices[kind] = amount;
        return 0;
    }

    public double deposit(int registrar, double amount) throws IllegalArgumentException,
            NoSuchElementException, UnsupportedOperationException, IllegalStateException {
        requireRegistrar(registrar);
        requireAmount(amount);
        requireAboveZero(amount);
        accounts[registrar].balance += amount;
        return accounts[registrar].balance;
    }

    public int contact(int by) throws IllegalArgumentException,
            NoSuchElementException, UnsupportedOperationException, IllegalStateException {
        requireRegistrar(by);
        requireShelfRoom(shelves[CONTACTS]);
        return shelves[CONTACTS].make(by, NONE, 0);
    }

    public int host(int by, int under, int address) throws IllegalArgumentException,
            NoSuchElementException, UnsupportedOperationException, IllegalStateException {
        requireRegistrar(by);
        requireRange(under, NONE, NAMES - 1);
        if (under == NONE) {
            requireRange(address, 0, 0);
        } else {
            requireRange(address, 1, MOST_ADDRESS);
            requireOwner(domainThere(under).owner, by);
        }
        requireShelfRoom(shelves[HOSTS]);
        return shelves[HOSTS].make(by, under, address);
    }

    public int remove(int by, int kind, int number) throws IllegalArgumentException,
            NoSuchElementException, UnsupportedOperationException, IllegalStateException {
        requireRegistrar(by);
        requireRange(kind, CONTACTS, HOSTS);
        Thing thing = thingThere(kind, number);
        requireOwner(thing.owner, by);
        if (usesOf(kind, number) > 0) {
            throw new IllegalStateException("a domain uses it");
        }
        thing.there = false;
        return shelves[kind].howManyThere();
    }

    public int create(int by, int name, int years, int code, int contact)
            throws IllegalArgumentException,
            NoSuchElementException, UnsupportedOperationException, IllegalStateException {
        requireRegistrar(by);
        requireName(name);
        requireRange(years, 1, MOST_YEARS);
        requireRange(code, 0, MOST_CODE);
        thingThere(CONTACTS, contact);
        Domain domain = domains[name];
        if (domain.there) {
            throw new IllegalStateException("the domain is there already");
        }
        double cost = payFor(by, CREATE, years);
        domain.open(by, today + years * YEAR, code, contact);
        domain.setGrace(CREATE, cost, today + GRACE_DAYS);
        return domain.expiry;
    }

    public int change(int by, int name, int kind, int number, boolean add)
            throws IllegalArgumentException,
            NoSuchElementException, UnsupportedOperationException, IllegalStateException {
        requireRegistrar(by);
        requireName(name);
        requireRange(kind, CONTACTS, HOSTS);
        Domain domain = domainThere(name);
        thingThere(kind, number);
        requireOwner(domain.owner, by);
        requireState(domain, ACTIVE);
        requireUnlocked(domain, NO_UPDATES);
        Row row = domain.rows[kind];
        if (add) {
            requireAddable(row, number);
            row.append(number);
        } else {
            requireTakeable(row, number, kind == CONTACTS ? 1 : 0);
            row.takeOff(number);
        }
        return row.size;
    }

    public int lock(int by, int name, int locks) throws IllegalArgumentException,
            NoSuchElementException, UnsupportedOperationException, IllegalStateException {
        requireRegistrar(by);
        requireName(name);
        requireRange(locks, 0, ALL_LOCKS);
        Domain domain = domainThere(name);
        requireOwner(domain.owner, by);
        requireState(domain, ACTIVE);
        int old = domain.locks;
        domain.locks = locks;
        return old;
    }

    public int renew(int by, int name, int years) throws IllegalArgumentException,
            NoSuchElementException, UnsupportedOperationException, IllegalStateException {
        requireRegistrar(by);
        requireName(name);
        requireRange(years, 1, MOST_YEARS);
        Domain domain = domainThere(name);
        requireOwner(domain.owner, by);
        requireState(domain, ACTIVE);
        requireUnlocked(domain, NO_RENEWING);
        requireNoTransfer(domain);
        int expiry = domain.expiry + years * YEAR;
        if (expiry > today + MOST_DAYS_AHEAD) {
            throw new IllegalStateException("the expiry would lie too far ahead");
        }
        double cost = payFor(by, RENEW, years);
        domain.expiry = expiry;
        domain.setGrace(RENEW, cost, today + GRACE_DAYS);
        return expiry;
    }

    public int delete(int by, int name) throws IllegalArgumentException,
            NoSuchElementException, UnsupportedOperationException, IllegalStateException {
        requireRegistrar(by);
        requireName(name);
        Domain domain = domainThere(name);
        requireOwner(domain.owner, by);
        requireState(domain, ACTIVE);
        requireUnlocked(domain, NO_REMOVING);
        requireNoTransfer(domain);
        if (othersUseHostsUnder(name)) {
            throw new IllegalStateException("another domain uses a host that lies under it");
        }
        accounts[by].balance += domain.graceCosts(today);
        if (domain.graceIsOn(CREATE, today)) {
            dropDomain(name);
            return 2;
        }
        if (domain.graceIsOn(AUTO, today)) {
            domain.expiry -= YEAR;
        }
        domain.clearGraces();
        domain.enter(REDEMPTION, today + REDEMPTION_DAYS);
        return 1;
    }

    public int restore(int by, int name) throws IllegalArgumentException,
            NoSuchElementException, UnsupportedOperationException, IllegalStateException {
        requireRegistrar(by);
        requireName(name);
        Domain domain = domainThere(name);
        requireOwner(domain.owner, by);
        requireState(domain, REDEMPTION);
        payFor(by, RESTORE, 1);
        domain.enter(ACTIVE, NONE);
        return domain.expiry;
    }

    public int ask(int by, int name, int code) throws IllegalArgumentException,
            NoSuchElementException, UnsupportedOperationException, IllegalStateException {
        requireRegistrar(by);
        requireName(name);
        requireRange(code, 0, MOST_CODE);
        Domain domain = domainThere(name);
        if (domain.owner == by || domain.code != code) {
            throw new UnsupportedOperationException("only another registrar with the code may ask");
        }
        requireState(domain, ACTIVE);
        requireUnlocked(domain, NO_TRANSFERS);
        requireNoTransfer(domain);
        domain.transferFor = by;
        domain.transferTill = today + TRANSFER_DAYS;
        accounts[domain.owner].tell(ASKED, name);
        return domain.transferTill;
    }

    public int answer(int by, int name, boolean yes) throws IllegalArgumentException,
            NoSuchElementException, UnsupportedOperationException, IllegalStateException {
        requireRegistrar(by);
        requireName(name);
        Domain domain = domainThere(name);
        if (domain.transferFor == NONE) {
            throw new NoSuchElementException("no transfer waits");
        }
        if (by != domain.owner && (yes || by != domain.transferFor)) {
            throw new UnsupportedOperationException("that answer is another registrar's to give");
        }
        if (!yes) {
            endTransfer(name);
            return 0;
        }
        requireMeans(domain.transferFor, costOf(domain.transferFor, TRANSFER, 1));
        finishTransfer(name);
        return 1;
    }

    public int pass(int days) throws IllegalArgumentException,
            NoSuchElementException, UnsupportedOperationException, IllegalStateException {
        requireRange(days, 1, MOST_DAYS_PASSED);
        for (int passed = 0; passed < days; passed++) {
            passDay();
        }
        return today;
    }

    public int message(int registrar) throws IllegalArgumentException,
            NoSuchElementException, UnsupportedOperationException, IllegalStateException {
        requireRegistrar(registrar);
        requireMessage(accounts[registrar]);
        return accounts[registrar].messages[0];
    }

    public int acknowledge(int registrar) throws IllegalArgumentException,
            NoSuchElementException, UnsupportedOperationException, IllegalStateException {
        requireRegistrar(registrar);
        requireMessage(accounts[registrar]);
        accounts[registrar].dropOldest();
        return accounts[registrar].messageCount;
    }

    public double balance(int registrar) throws IllegalArgumentException,
            NoSuchElementException, UnsupportedOperationException, IllegalStateException {
        requireRegistrar(registrar);
        return accounts[registrar].balance;
    }

    public double paid(int registrar, int kind) throws IllegalArgumentException,
            NoSuchElementException, UnsupportedOperationException, IllegalStateException {
        requireRegistrar(registrar);
        requireRange(kind, 0, PRICES - 1);
        return accounts[registrar].spent[kind];
    }

    public int domain(int name, int what) throws IllegalArgumentException,
            NoSuchElementException, UnsupportedOperationException, IllegalStateException {
        requireName(name);
        requireRange(what, 0, 13);
        Domain domain = domainThere(name);
        switch (what) {
            case 0:
                return domain.owner;
            case 1:
                return domain.expiry;
            case 2:
                return domain.locks;
            case 3:
                return domain.state;
            case 4:
                return domain.rows[CONTACTS].size;
            case 5:
                return domain.rows[HOSTS].size;
            case 6:
                return domain.transferFor;
            case 7:
                return domain.gracesOn(today);
            case 8:
            case 9:
            case 10:
                return domain.rows[CONTACTS].at(what - 8);
            default:
                return domain.rows[HOSTS].at(what - 11);
        }
    }

    public int thing(int number, int what) throws IllegalArgumentException,
            NoSuchElementException, UnsupportedOperationException, IllegalStateException {
        int kind = number < CONTACT_OFFSET ? HOSTS : CONTACTS;
        int ownNumber = kind == HOSTS ? number : number - CONTACT_OFFSET;
        requireRange(ownNumber, 0, MOST_MADE - 1);
        requireRange(what, 0, 3);
        Thing thing = thingThere(kind, ownNumber);
        if (what == 0) {
            return thing.owner;
        }
        if (what == 3) {
            return usesOf(kind, ownNumber);
        }
        if (kind == CONTACTS) {
            return NONE;
        }
        return what == 1 ? thing.address : thing.under;
    }

    public int zone(int k) throws IllegalArgumentException,
            NoSuchElementException, UnsupportedOperationException, IllegalStateException {
        int row = k >= 0 ? zoneRow(k) : NONE;
        if (row == NONE) {
            throw new NoSuchElementException("the zone has no such row");
        }
        return row;
    }

    public int count(int what) {
        switch (what) {
            case 0:
                return today;
            case 1:
                return domainsThere();
            case 2:
                return shelves[CONTACTS].howManyThere();
            case 3:
                return shelves[HOSTS].howManyThere();
            case 4:
                return messagesOfAll();
            case 5:
                return zoneRows();
            default:
                return -1;
        }
    }

    private static void requireRange(int number, int least, int most) {
        if (number < least || number > most) {
            throw new IllegalArgumentException("a number is out of range");
        }
    }

    private static void requireRegistrar(int registrar) {
        requireRange(registrar, 0, REGISTRARS - 1);
    }

    private static void requireName(int name) {
        requireRange(name, 0, NAMES - 1);
    }

    private static void requireAmount(double amount) {
        // Asked this way round, so that NaN is refused too.
        if (!(amount >= 0.0 && amount <= MOST_AMOUNT)) {
            throw new IllegalArgumentException("an amount is out of range");
        }
    }

    private static void requireAboveZero(double amount) {
        if (amount <= 0.0) {
            throw new IllegalArgumentException("the amount is not above 0");
        }
    }

    private Domain domainThere(int name) {
        if (!domains[name].there) {
            throw new NoSuchElementException("the domain is not there");
        }
        return domains[name];
    }

    private Thing thingThere(int kind, int number) {
        if (!shelves[kind].has(number)) {
            throw new NoSuchElementException("the contact or host is not there");
        }
        return shelves[kind].things[number];
    }

    private static void requireMessage(Account account) {
        if (account.messageCount == 0) {
            throw new NoSuchElementException("there is no message");
        }
    }

    private static void requireOwner(int owner, int by) {
        if (owner != by) {
            throw new UnsupportedOperationException("only the owner may do that");
        }
    }

    private static void requireState(Domain domain, int state) {
        if (domain.state != state) {
            throw new UnsupportedOperationException("the state of the domain forbids that");
        }
    }

    private static void requireUnlocked(Domain domain, int lock) {
        if ((domain.locks & lock) != 0) {
            throw new UnsupportedOperationException("a lock forbids that");
        }
    }

    private static void requireNoTransfer(Domain domain) {
        if (domain.transferFor != NONE) {
            throw new IllegalStateException("a transfer waits");
        }
    }

    private static void requireShelfRoom(Shelf shelf) {
        if (shelf.made >= MOST_MADE) {
            throw new IllegalStateException("all numbers have been given");
        }
    }

    private static void requireAddable(Row row, int number) {
        if (row.placeOf(number) != NONE || row.size >= MOST_IN_ROW) {
            throw new IllegalStateException("the domain has it already or has no room");
        }
    }

    private static void requireTakeable(Row row, int number, int leastLeft) {
        if (row.placeOf(number) == NONE || row.size <= leastLeft) {
            throw new IllegalStateException("the domain has it not or needs it");
        }
    }

    private void requireMeans(int registrar, double cost) {
        if (accounts[registrar].balance < cost) {
            throw new IllegalStateException("it can't be paid");
        }
    }

    private double costOf(int registrar, int kind, int years) {
        double full = prices[kind] * years;
        return accounts[registrar].balance >= 100.0 ? full * 0.875 : full;
    }

    private double payFor(int registrar, int kind, int years) {
        double cost = costOf(registrar, kind, years);
        requireMeans(registrar, cost);
        accounts[registrar].spend(kind, cost);
        return cost;
    }

    private void finishTransfer(int name) {
        Domain domain = domains[name];
        int oldOwner = domain.owner;
        int newOwner = domain.transferFor;
        double cost = costOf(newOwner, TRANSFER, 1);
        accounts[newOwner].spend(TRANSFER, cost);
        domain.transferFor = NONE;
        domain.owner = newOwner;
        domain.expiry += YEAR;
        domain.clearGraces();
        domain.setGrace(TRANSFER, cost, today + GRACE_DAYS);
        shelves[HOSTS].handOverUnder(name, newOwner);
        accounts[oldOwner].tell(DONE, name);
        accounts[newOwner].tell(DONE, name);
    }

    private void endTransfer(int name) {
        Domain domain = domains[name];
        int asker = domain.transferFor;
        domain.transferFor = NONE;
        accounts[asker].tell(ENDED, name);
    }

    private void passDay() {
        today++;
        for (int name = 0; name < NAMES; name++) {
            if (domains[name].there) {
                settleTransfer(name);
                moveOn(name);
            }
        }
    }

    private void settleTransfer(int name) {
        Domain domain = domains[name];
        int asker = domain.transferFor;
        if (asker == NONE || domain.transferTill >= today) {
            return;
        }
        if (accounts[asker].balance < costOf(asker, TRANSFER, 1)) {
            endTransfer(name);
        } else {
            finishTransfer(name);
        }
    }

    private void moveOn(int name) {
        Domain domain = domains[name];
        if (domain.state == ACTIVE) {
            if (domain.expiry < today) {
                renewByItself(domain);
            }
        } else if (domain.stateEnd < today) {
            if (domain.state == REDEMPTION) {
                domain.enter(LEAVING, domain.stateEnd + LEAVING_DAYS);
            } else {
                dropDomain(name);
                accounts[domain.owner].tell(GONE, name);
            }
        }
    }

    private void renewByItself(Domain domain) {
        // No look at the balance: this is the one payment that may take it below 0.
        double cost = costOf(domain.owner, RENEW, 1);
        accounts[domain.owner].spend(RENEW, cost);
        domain.expiry += YEAR;
        domain.setGrace(AUTO, cost, today + AUTO_GRACE_DAYS);
    }

    private void dropDomain(int name) {
        domains[name].there = false;
        for (int number = 0; number < MOST_MADE; number++) {
            if (shelves[HOSTS].liesUnder(number, name)) {
                dropHost(number);
            }
        }
    }

    private void dropHost(int number) {
        shelves[HOSTS].things[number].there = false;
        for (int name = 0; name < NAMES; name++) {
            domains[name].rows[HOSTS].takeOff(number);
        }
    }

    private int usesOf(int kind, int number) {
        int uses = 0;
        for (int name = 0; name < NAMES; name++) {
            if (domains[name].uses(kind, number)) {
                uses++;
            }
        }
        return uses;
    }

    private boolean othersUseHostsUnder(int name) {
        for (int number = 0; number < MOST_MADE; number++) {
            int own = domains[name].uses(HOSTS, number) ? 1 : 0;
            if (shelves[HOSTS].liesUnder(number, name) && usesOf(HOSTS, number) > own) {
                return true;
            }
        }
        return false;
    }

    private int domainsThere() {
        int there = 0;
        for (int name = 0; name < NAMES; name++) {
            if (domains[name].there) {
                there++;
            }
        }
        return there;
    }

    private int messagesOfAll() {
        int all = 0;
        for (int registrar = 0; registrar < REGISTRARS; registrar++) {
            all += accounts[registrar].messageCount;
        }
        return all;
    }

    private int zoneRows() {
        int rows = 0;
        for (int name = 0; name < NAMES; name++) {
            rows += zoneRowsOf(name);
        }
        return rows;
    }

    private int zoneRow(int k) {
        int left = k;
        for (int name = 0; name < NAMES; name++) {
            int rows = zoneRowsOf(name);
            if (left < rows) {
                return zoneRowOf(name, left);
            }
            left -= rows;
        }
        return NONE;
    }

    private int zoneRowsOf(int name) {
        if (!domains[name].isDelegated()) {
            return 0;
        }
        int rows = domains[name].rows[HOSTS].size;
        for (int number = 0; number < MOST_MADE; number++) {
            if (showsAddress(name, number)) {
                rows++;
            }
        }
        return rows;
    }

    private int zoneRowOf(int name, int k) {
        Row hosts = domains[name].rows[HOSTS];
        if (k < hosts.size) {
            return 1000 * name + hosts.at(k);
        }
        int left = k - hosts.size;
        for (int number = 0; number < MOST_MADE; number++) {
            if (showsAddress(name, number)) {
                if (left == 0) {
                    return 1000 * name + 100 + number;
                }
                left--;
            }
        }
        return NONE;
    }

    private boolean showsAddress(int name, int number) {
        return shelves[HOSTS].liesUnder(number, name) && usesOf(HOSTS, number) > 0;
    }

    /** What a registrar has: its money and its messages, the oldest first. */
    private static final class Account {
        final double[] spent;
        final int[] messages;
        double balance;
        int messageCount;

        Account() {
            spent = new double[PRICES];
            messages = new int[MOST_MESSAGES];
            balance = 0.0;
            messageCount = 0;
        }

        void spend(int kind, double cost) {
            balance -= cost;
            spent[kind] += cost;
        }

        void tell(int kind, int name) {
            if (messageCount >= MOST_MESSAGES) {
                dropOldest();
            }
            messages[messageCount] = 10 * kind + name;
            messageCount++;
        }

        void dropOldest() {
            if (messageCount > 0) {
                messageCount--;
                for (int k = 0; k < messageCount; k++) {
                    messages[k] = messages[k + 1];
                }
            }
        }
    }

    /** A contact or a host; a contact lies under no name and has no address. */
    private static final class Thing {
        boolean there;
        int owner;
        int under;
        int address;

        Thing() {
            there = false;
            owner = NONE;
            under = NONE;
            address = 0;
        }
    }

    /** All contacts or all hosts by their numbers; those that were removed keep their place. */
    private static final class Shelf {
        final Thing[] things;
        int made;

        Shelf() {
            things = new Thing[MOST_MADE];
            for (int number = 0; number < MOST_MADE; number++) {
                things[number] = new Thing();
            }
            made = 0;
        }

        int make(int owner, int under, int address) {
            Thing thing = things[made];
            thing.there = true;
            thing.owner = owner;
            thing.under = under;
            thing.address = address;
            made++;
            return made - 1;
        }

        boolean has(int number) {
            return number >= 0 && number < made && things[number].there;
        }

        boolean liesUnder(int number, int name) {
            return has(number) && things[number].under == name;
        }

        int howManyThere() {
            int there = 0;
            for (int number = 0; number < made; number++) {
                if (things[number].there) {
                    there++;
                }
            }
            return there;
        }

        void handOverUnder(int name, int newOwner) {
            for (int number = 0; number < made; number++) {
                if (liesUnder(number, name)) {
                    things[number].owner = newOwner;
                }
            }
        }
    }

    /** The contacts or the hosts that a domain uses, in the order of adding. */
    private static final class Row {
        final int[] numbers;
        int size;

        Row() {
            numbers = new int[MOST_IN_ROW];
            size = 0;
        }

        int at(int k) {
            return k >= 0 && k < size ? numbers[k] : NONE;
        }

        int placeOf(int number) {
            for (int k = 0; k < size; k++) {
                if (numbers[k] == number) {
                    return k;
                }
            }
            return NONE;
        }

        void append(int number) {
            if (size < MOST_IN_ROW) {
                numbers[size] = number;
                size++;
            }
        }

        void takeOff(int number) {
            int place = placeOf(number);
            if (place != NONE) {
                size--;
                for (int k = place; k < size; k++) {
                    numbers[k] = numbers[k + 1];
                }
            }
        }
    }

    /** The place of a name, used again for each domain that the name gets. */
    private static final class Domain {
        final Row[] rows;
        final double[] graceCost;
        final int[] graceEnd;
        boolean there;
        int owner;
        int expiry;
        int code;
        int locks;
        int state;
        int stateEnd;
        int transferFor;
        int transferTill;

        Domain() {
            rows = new Row[2];
            rows[CONTACTS] = new Row();
            rows[HOSTS] = new Row();
            graceCost = new double[GRACES];
            graceEnd = new int[GRACES];
            there = false;
        }

        void open(int newOwner, int newExpiry, int newCode, int firstContact) {
            there = true;
            owner = newOwner;
            expiry = newExpiry;
            code = newCode;
            locks = 0;
            enter(ACTIVE, NONE);
            transferFor = NONE;
            transferTill = NONE;
            rows[CONTACTS].size = 0;
            rows[CONTACTS].append(firstContact);
            rows[HOSTS].size = 0;
            clearGraces();
        }

        void enter(int newState, int end) {
            state = newState;
            stateEnd = end;
        }

        boolean uses(int kind, int number) {
            return there && rows[kind].placeOf(number) != NONE;
        }

        boolean isDelegated() {
            return there && state == ACTIVE && (locks & HELD) == 0 && rows[HOSTS].size > 0;
        }

        void setGrace(int kind, double cost, int end) {
            graceCost[kind] = cost;
            graceEnd[kind] = end;
        }

        void clearGraces() {
            for (int kind = 0; kind < GRACES; kind++) {
                setGrace(kind, 0.0, NONE);
            }
        }

        boolean graceIsOn(int kind, int day) {
            return day <= graceEnd[kind];
        }

        int gracesOn(int day) {
            int sum = 0;
            for (int kind = 0; kind < GRACES; kind++) {
                if (graceIsOn(kind, day)) {
                    sum += 1 << kind;
                }
            }
            return sum;
        }

        double graceCosts(int day) {
            double sum = 0.0;
            for (int kind = 0; kind < GRACES; kind++) {
                if (graceIsOn(kind, day)) {
                    sum += graceCost[kind];
                }
            }
            return sum;
        }
    }
}
