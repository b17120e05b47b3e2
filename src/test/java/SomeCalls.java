import java.util.ArrayList;
import java.util.List;
import java.util.Map;

/**
 * Mixed calls, the same ones for the same seed, so that a fault can be seen again. Most fit the
 * state that the model is in; the others have a stranger's number, or one out of its range.
 */
final class SomeCalls {
    private static final int[] FAR = {
        -2147483648, -2, -1, 3, 4, 8, 9, 10, 31, 32, 99, 100, 999, 1000, 2147483647,
    };
    private static final String[] FAR_AMOUNTS = {
        "NaN", "Infinity", "-Infinity", "-0.125", "0.0", "1000.0", "1000.125",
    };
    private static final int[] DAYS = {1, 1, 1, 1, 1, 1, 2, 2, 3, 3, 4, 5, 6, 7, 10, 20};

    private final Model model;
    private final int names;
    private long seed;

    SomeCalls(Model model, long seed) {
        this.model = model;
        this.seed = seed;
        this.names = 2 + below(4);
    }

    String next() {
        int kind = below(28);
        int name = kind > 6 && kind < 11 ? below(10) % (2 * names) : oneDomain();
        int owner = ownerOf(name);
        switch (kind) {
            case 0:
                return call("price", or(below(4)), amount(12));
            case 1:
            case 2:
                return call("deposit", or(below(4)), amount(below(3) == 0 ? 900 : 60));
            case 3:
                return call("contact", or(below(4)));
            case 4:
            case 5:
                return below(2) == 0 ? call("host", or(below(4)), or(-1), or(0))
                        : call("host", or(owner), or(name), or(1 + below(999)));
            case 6:
                return remove();
            case 7:
            case 8:
            case 9:
            case 10:
                return call("create", or(below(4)), or(name), or(1 + below(3)), or(below(2)),
                        or(one(model.contacts)));
            case 11:
            case 12:
            case 13:
                return change(name, owner);
            case 14:
                return call("lock", or(owner), or(name), or(below(2) == 0 ? 0 : below(32)));
            case 15:
            case 16:
                return call("renew", or(owner), or(name), or(1 + below(3)));
            case 17:
            case 18:
                return call("delete", or(owner), or(name));
            case 19:
                return restore();
            case 20:
            case 21:
                return call("ask", or(below(4)), or(name), or(codeOf(name)));
            case 22:
                return answer();
            case 23:
            case 24:
                return call("pass", or(DAYS[below(DAYS.length)]));
            default:
                return look(name);
        }
    }

    private String remove() {
        int kind = below(2);
        Map<Integer, Model.Thing> all = kind == 0 ? model.contacts : model.hosts;
        int number = one(all);
        int by = all.containsKey(number) ? all.get(number).owner : below(4);
        return call("remove", or(by), or(kind), or(number));
    }

    private String change(int name, int owner) {
        int kind = below(3) == 0 ? 0 : 1;
        return call("change", or(owner), or(name), or(kind),
                or(one(kind == 0 ? model.contacts : model.hosts)), below(3) != 0);
    }

    private String restore() {
        int name = oneOf(namesWhere(true));
        return call("restore", or(ownerOf(name)), or(name));
    }

    private String answer() {
        int name = oneOf(namesWhere(false));
        Model.Domain domain = model.domains.get(name);
        boolean takenBack = domain != null && below(4) == 0;
        return call("answer", or(takenBack ? domain.asker : ownerOf(name)), or(name), below(2) == 0);
    }

    private String look(int name) {
        switch (below(8)) {
            case 0:
                return call("message", or(below(4)));
            case 1:
                return call("acknowledge", or(below(4)));
            case 2:
                return call("balance", or(below(4)));
            case 3:
                return call("paid", or(below(4)), or(below(4)));
            case 4:
                return call("domain", or(name), or(below(14)));
            case 5:
                return call("thing", or(below(2) * 100 + below(8)), or(below(4)));
            case 6:
                return call("zone", or(below(8)));
            default:
                return call("count", or(below(6)));
        }
    }

    private int ownerOf(int name) {
        return model.domains.containsKey(name) ? model.domains.get(name).owner : below(4);
    }

    private int codeOf(int name) {
        return model.domains.containsKey(name) ? model.domains.get(name).code : below(2);
    }

    private int one(Map<Integer, Model.Thing> things) {
        return oneOf(new ArrayList<>(things.keySet()));
    }

    private int oneDomain() {
        return below(8) == 0 ? below(10) : oneOf(new ArrayList<>(model.domains.keySet()));
    }

    private List<Integer> namesWhere(boolean redeemable) {
        List<Integer> found = new ArrayList<>();
        for (Map.Entry<Integer, Model.Domain> entry : model.domains.entrySet()) {
            Model.Domain domain = entry.getValue();
            if (redeemable ? domain.state == 1 : domain.asker != -1) {
                found.add(entry.getKey());
            }
        }
        return found;
    }

    private int oneOf(List<Integer> numbers) {
        return numbers.isEmpty() ? below(8) : numbers.get(below(numbers.size()));
    }

    private String amount(int eighths) {
        return below(8) == 0 ? FAR_AMOUNTS[below(FAR_AMOUNTS.length)]
                : String.valueOf(0.125 * (1 + below(eighths)));
    }

    /** The number given or, now and then, another one. */
    private int or(int number) {
        int luck = below(40);
        return luck == 0 ? FAR[below(FAR.length)] : luck == 1 ? below(4) : number;
    }

    private static String call(String name, Object... values) {
        StringBuilder text = new StringBuilder(name).append('(');
        for (int i = 0; i < values.length; i++) {
            text.append(i == 0 ? "" : ", ").append(values[i]);
        }
        return text.append(')').toString();
    }

    private int below(int bound) {
        seed = seed * 6364136223846793005L + 1442695040888963407L;
        return (int) ((seed >>> 33) % bound);
    }
}
