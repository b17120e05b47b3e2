import java.util.ArrayList;
import java.util.List;
import java.util.Map;
import java.util.NoSuchElementException;
import java.util.TreeMap;

/**
 * The document a second time, word by word and with the Java library, to compare the class with.
 * Money is held in sixty-fourths, as whole numbers: amounts are multiples of 0.125, of which at
 * most seven eighths are taken.
 */
public final class Model {
    private static final double PARTS = 64.0;

    final Map<Integer, Thing> contacts = new TreeMap<>();
    final Map<Integer, Thing> hosts = new TreeMap<>();
    final Map<Integer, Domain> domains = new TreeMap<>();
    private final long[] prices = {64, 64, 64, 64};
    private final long[] balances = new long[4];
    private final long[][] paid = new long[4][4];
    private final List<List<Integer>> messages = new ArrayList<>();
    private int contactsMade = 0;
    private int hostsMade = 0;
    private int day = 0;

    static final class Thing {
        int owner;
        int under = -1;
        int address = 0;
    }

    static final class Grace {
        final long cost;
        final int lastDay;

        Grace(long cost, int lastDay) {
            this.cost = cost;
            this.lastDay = lastDay;
        }
    }

    static final class Domain {
        final List<Integer> contacts = new ArrayList<>();
        final List<Integer> hosts = new ArrayList<>();
        final Map<Integer, Grace> graces = new TreeMap<>();
        int owner;
        int expiry;
        int code;
        int locks = 0;
        int state = 0;
        int ends = 0;
        int asker = -1;
        int waitsTill = 0;
    }

    public Model() {
        for (int registrar = 0; registrar < 4; registrar++) {
            messages.add(new ArrayList<>());
        }
    }

    public int price(int kind, double amount) {
        within(kind, 0, 3);
        argument(amount >= 0 && amount <= 1000);
        prices[kind] = (long) (amount * PARTS);
        return 0;
    }

    public double deposit(int registrar, double amount) {
        within(registrar, 0, 3);
        argument(amount > 0 && amount <= 1000);
        balances[registrar] += (long) (amount * PARTS);
        return balances[registrar] / PARTS;
    }

    public int contact(int by) {
        within(by, 0, 3);
        possible(contactsMade < 8);
        Thing made = new Thing();
        made.owner = by;
        contacts.put(contactsMade, made);
        return contactsMade++;
    }

    public int host(int by, int under, int address) {
        within(by, 0, 3);
        within(under, -1, 9);
        within(address, 0, 999);
        argument((under == -1) == (address == 0));
        if (under != -1) {
            there(domains.containsKey(under));
            allowed(domains.get(under).owner == by);
        }
        possible(hostsMade < 8);
        Thing made = new Thing();
        made.owner = by;
        made.under = under;
        made.address = address;
        hosts.put(hostsMade, made);
        return hostsMade++;
    }

    public int remove(int by, int kind, int number) {
        within(by, 0, 3);
        within(kind, 0, 1);
        Map<Integer, Thing> all = kind == 0 ? contacts : hosts;
        there(all.containsKey(number));
        allowed(all.get(number).owner == by);
        possible(users(kind, number).isEmpty());
        all.remove(number);
        return all.size();
    }

    public int create(int by, int name, int years, int code, int contact) {
        within(by, 0, 3);
        within(name, 0, 9);
        within(years, 1, 3);
        within(code, 0, 99);
        there(contacts.containsKey(contact));
        possible(!domains.containsKey(name));
        possible(canPay(by, 0, years));
        Domain domain = new Domain();
        domain.owner = by;
        domain.expiry = day + 10 * years;
        domain.code = code;
        domain.contacts.add(contact);
        domain.graces.put(0, new Grace(pay(by, 0, years), day + 3));
        domains.put(name, domain);
        return domain.expiry;
    }

    public int change(int by, int name, int kind, int number, boolean add) {
        within(by, 0, 3);
        within(name, 0, 9);
        within(kind, 0, 1);
        there(domains.containsKey(name));
        there((kind == 0 ? contacts : hosts).containsKey(number));
        Domain domain = ownedActive(by, name);
        allowed((domain.locks & 1) == 0);
        List<Integer> used = kind == 0 ? domain.contacts : domain.hosts;
        if (add) {
            possible(!used.contains(number));
            possible(used.size() < 3);
            used.add(number);
        } else {
            possible(used.contains(number));
            possible(kind == 1 || used.size() > 1);
            used.remove(Integer.valueOf(number));
        }
        return used.size();
    }

    public int lock(int by, int name, int locks) {
        within(by, 0, 3);
        within(name, 0, 9);
        within(locks, 0, 31);
        Domain domain = ownedActive(by, name);
        int old = domain.locks;
        domain.locks = locks;
        return old;
    }

    public int renew(int by, int name, int years) {
        within(by, 0, 3);
        within(name, 0, 9);
        within(years, 1, 3);
        Domain domain = ownedActive(by, name);
        allowed((domain.locks & 8) == 0);
        possible(domain.asker == -1);
        possible(domain.expiry + 10 * years - day <= 50);
        possible(canPay(by, 1, years));
        domain.graces.put(1, new Grace(pay(by, 1, years), day + 3));
        domain.expiry += 10 * years;
        return domain.expiry;
    }

    public int delete(int by, int name) {
        within(by, 0, 3);
        within(name, 0, 9);
        Domain domain = ownedActive(by, name);
        allowed((domain.locks & 2) == 0);
        possible(domain.asker == -1);
        for (Map.Entry<Integer, Thing> host : hosts.entrySet()) {
            List<Integer> users = users(1, host.getKey());
            users.remove(Integer.valueOf(name));
            possible(host.getValue().under != name || users.isEmpty());
        }
        for (Grace grace : domain.graces.values()) {
            balances[by] += day <= grace.lastDay ? grace.cost : 0;
        }
        if (isOn(domain, 0)) {
            goes(name);
            return 2;
        }
        domain.expiry -= isOn(domain, 4) ? 10 : 0;
        domain.graces.clear();
        domain.state = 1;
        domain.ends = day + 5;
        return 1;
    }

    public int restore(int by, int name) {
        within(by, 0, 3);
        within(name, 0, 9);
        there(domains.containsKey(name));
        Domain domain = domains.get(name);
        allowed(domain.owner == by);
        allowed(domain.state == 1);
        possible(canPay(by, 3, 1));
        pay(by, 3, 1);
        domain.state = 0;
        return domain.expiry;
    }

    public int ask(int by, int name, int code) {
        within(by, 0, 3);
        within(name, 0, 9);
        within(code, 0, 99);
        there(domains.containsKey(name));
        Domain domain = domains.get(name);
        allowed(domain.owner != by);
        allowed(domain.code == code);
        allowed((domain.locks & 4) == 0);
        allowed(domain.state == 0);
        possible(domain.asker == -1);
        domain.asker = by;
        domain.waitsTill = day + 4;
        tell(domain.owner, 1, name);
        return domain.waitsTill;
    }

    public int answer(int by, int name, boolean yes) {
        within(by, 0, 3);
        within(name, 0, 9);
        there(domains.containsKey(name));
        Domain domain = domains.get(name);
        there(domain.asker != -1);
        allowed(by == domain.owner || by == domain.asker && !yes);
        possible(!yes || canPay(domain.asker, 2, 1));
        return settle(name, yes);
    }

    public int pass(int days) {
        within(days, 1, 20);
        for (int passed = 0; passed < days; passed++) {
            day++;
            for (int name = 0; name < 10; name++) {
                if (domains.containsKey(name)) {
                    dayFor(name, domains.get(name));
                }
            }
        }
        return day;
    }

    public int message(int registrar) {
        within(registrar, 0, 3);
        there(!messages.get(registrar).isEmpty());
        return messages.get(registrar).get(0);
    }

    public int acknowledge(int registrar) {
        within(registrar, 0, 3);
        there(!messages.get(registrar).isEmpty());
        messages.get(registrar).remove(0);
        return messages.get(registrar).size();
    }

    public double balance(int registrar) {
        within(registrar, 0, 3);
        return balances[registrar] / PARTS;
    }

    public double paid(int registrar, int kind) {
        within(registrar, 0, 3);
        within(kind, 0, 3);
        return paid[registrar][kind] / PARTS;
    }

    public int domain(int name, int what) {
        within(name, 0, 9);
        within(what, 0, 13);
        there(domains.containsKey(name));
        Domain domain = domains.get(name);
        int graces = 0;
        for (int kind : domain.graces.keySet()) {
            graces += isOn(domain, kind) ? new int[] {1, 2, 4, 0, 16}[kind] : 0;
        }
        int[] first = {
            domain.owner, domain.expiry, domain.locks, domain.state, domain.contacts.size(),
            domain.hosts.size(), domain.asker, graces,
        };
        if (what < 8) {
            return first[what];
        }
        List<Integer> used = what < 11 ? domain.contacts : domain.hosts;
        int k = (what - 8) % 3;
        return k < used.size() ? used.get(k) : -1;
    }

    public int thing(int number, int what) {
        argument(number >= 0 && number <= 7 || number >= 100 && number <= 107);
        within(what, 0, 3);
        int kind = number < 100 ? 1 : 0;
        Thing thing = kind == 1 ? hosts.get(number) : contacts.get(number - 100);
        there(thing != null);
        int uses = users(kind, number % 100).size();
        return kind == 1 ? new int[] {thing.owner, thing.address, thing.under, uses}[what]
                : new int[] {thing.owner, -1, -1, uses}[what];
    }

    public int zone(int k) {
        there(k >= 0 && k < zoneRows().size());
        return zoneRows().get(k);
    }

    public int count(int what) {
        int all = 0;
        for (List<Integer> row : messages) {
            all += row.size();
        }
        int[] counts = {
            day, domains.size(), contacts.size(), hosts.size(), all, zoneRows().size(),
        };
        return what >= 0 && what <= 5 ? counts[what] : -1;
    }

    private List<Integer> zoneRows() {
        List<Integer> rows = new ArrayList<>();
        for (Map.Entry<Integer, Domain> entry : domains.entrySet()) {
            Domain domain = entry.getValue();
            if (domain.state == 0 && domain.locks < 16 && !domain.hosts.isEmpty()) {
                int first = 1000 * entry.getKey();
                for (int host : domain.hosts) {
                    rows.add(first + host);
                }
                for (Map.Entry<Integer, Thing> host : hosts.entrySet()) {
                    if (host.getValue().under == entry.getKey()
                            && !users(1, host.getKey()).isEmpty()) {
                        rows.add(first + 100 + host.getKey());
                    }
                }
            }
        }
        return rows;
    }

    private void dayFor(int name, Domain domain) {
        if (domain.asker != -1 && domain.waitsTill < day) {
            settle(name, canPay(domain.asker, 2, 1));
        }
        if (domain.state == 0 && domain.expiry < day) {
            domain.expiry += 10;
            domain.graces.put(4, new Grace(pay(domain.owner, 1, 1), day + 4));
        } else if (domain.state == 1 && domain.ends < day) {
            domain.state = 2;
            domain.ends += 2;
        } else if (domain.state == 2 && domain.ends < day) {
            goes(name);
            tell(domain.owner, 4, name);
        }
    }

    private int settle(int name, boolean done) {
        Domain domain = domains.get(name);
        int asker = domain.asker;
        domain.asker = -1;
        if (!done) {
            tell(asker, 3, name);
            return 0;
        }
        int old = domain.owner;
        domain.graces.clear();
        domain.graces.put(2, new Grace(pay(asker, 2, 1), day + 3));
        domain.expiry += 10;
        domain.owner = asker;
        for (Thing host : hosts.values()) {
            host.owner = host.under == name ? asker : host.owner;
        }
        tell(old, 2, name);
        tell(asker, 2, name);
        return 1;
    }

    private void goes(int name) {
        domains.remove(name);
        for (Integer host : new ArrayList<>(hosts.keySet())) {
            if (hosts.get(host).under == name) {
                hosts.remove(host);
                for (Domain domain : domains.values()) {
                    domain.hosts.remove(host);
                }
            }
        }
    }

    private void tell(int registrar, int kind, int name) {
        List<Integer> row = messages.get(registrar);
        row.add(10 * kind + name);
        if (row.size() == 13) {
            row.remove(0);
        }
    }

    private boolean isOn(Domain domain, int grace) {
        return domain.graces.containsKey(grace) && day <= domain.graces.get(grace).lastDay;
    }

    private List<Integer> users(int kind, int number) {
        List<Integer> users = new ArrayList<>();
        for (Map.Entry<Integer, Domain> entry : domains.entrySet()) {
            List<Integer> used = kind == 0 ? entry.getValue().contacts : entry.getValue().hosts;
            if (used.contains(number)) {
                users.add(entry.getKey());
            }
        }
        return users;
    }

    private long cost(int registrar, int kind, int years) {
        long full = prices[kind] * years;
        return balances[registrar] >= 100 * 64 ? full * 7 / 8 : full;
    }

    private boolean canPay(int registrar, int kind, int years) {
        return balances[registrar] >= cost(registrar, kind, years);
    }

    private long pay(int registrar, int kind, int years) {
        long cost = cost(registrar, kind, years);
        balances[registrar] -= cost;
        paid[registrar][kind] += cost;
        return cost;
    }

    private Domain ownedActive(int by, int name) {
        there(domains.containsKey(name));
        allowed(domains.get(name).owner == by);
        allowed(domains.get(name).state == 0);
        return domains.get(name);
    }

    private static void within(int number, int least, int most) {
        argument(number >= least && number <= most);
    }

    private static void argument(boolean holds) {
        if (!holds) {
            throw new IllegalArgumentException();
        }
    }

    private static void there(boolean holds) {
        if (!holds) {
            throw new NoSuchElementException();
        }
    }

    private static void allowed(boolean holds) {
        if (!holds) {
            throw new UnsupportedOperationException();
        }
    }

    private static void possible(boolean holds) {
        if (!holds) {
            throw new IllegalStateException();
        }
    }
}
