import java.util.ArrayList;
import java.util.List;
import java.util.Map;
import java.util.TreeMap;

/**
 * Long runs of mixed calls, up to the last one that the document promises anything about: the class
 * answers each as the model of the document does, all looks at the end among them. In shorter runs no call that throws changes anything.
 */
public final class ModelTest {
    private static final int LONG_RUNS = 1500;
    private static final int MOST_CALLS = 512;
    private static final int SHORT_RUNS = 12;
    private static final int SHORT_CALLS = 100;

    private static final Map<String, Integer> ANSWERED = new TreeMap<>();
    private static int wrong = 0;

    private ModelTest() {
    }

    public static void main(String[] args) {
        for (int run = 0; run < LONG_RUNS; run++) {
            asTheModel(run);
        }
        for (int run = 0; run < SHORT_RUNS; run++) {
            refusedWithoutChange(LONG_RUNS + run);
        }
        System.out.println(ANSWERED + "; " + wrong + " faults");
        if (wrong != 0 || ANSWERED.isEmpty()) {
            System.exit(1);
        }
    }

    private static void asTheModel(int run) {
        RegistryDesk desk = new RegistryDesk();
        Model model = new Model();
        SomeCalls calls = new SomeCalls(model, run);
        List<String> looks = looks();
        for (int i = 0; i < MOST_CALLS - looks.size(); i++) {
            if (!compare(run, desk, model, calls.next())) {
                return;
            }
        }
        for (String look : looks) {
            compare(run, desk, model, look);
        }
    }

    private static boolean compare(int run, RegistryDesk desk, Model model, String call) {
        String due = Runs.answerTo(model, call);
        String got = Runs.answerTo(desk, call);
        String method = call.substring(0, call.indexOf('('));
        ANSWERED.merge(Runs.isRefusal(due) ? method + " " + due : method, 1, Integer::sum);
        if (Runs.isSame(got, due)) {
            return true;
        }
        tell(run, call + " answered " + got + ", due is " + due);
        return false;
    }

    private static void refusedWithoutChange(int run) {
        Model model = new Model();
        SomeCalls calls = new SomeCalls(model, run);
        List<String> taken = new ArrayList<>();
        for (int i = 0; i < SHORT_CALLS; i++) {
            String call = calls.next();
            if (!Runs.isRefusal(Runs.answerTo(model, call))) {
                taken.add(call);
            } else if (!Sights.of(taken, null).equals(Sights.of(taken, call))) {
                tell(run, call + " threw and changed something: "
                        + Sights.difference(Sights.of(taken, null), Sights.of(taken, call)));
            }
        }
    }

    private static List<String> looks() {
        List<String> looks = new ArrayList<>();
        for (int registrar = 0; registrar < 4; registrar++) {
            looks.add("balance(" + registrar + ")");
            looks.add("message(" + registrar + ")");
            for (int kind = 0; kind < 4; kind++) {
                looks.add("paid(" + registrar + ", " + kind + ")");
            }
        }
        for (int name = 0; name < 10; name++) {
            for (int what = 0; what < 14; what++) {
                looks.add("domain(" + name + ", " + what + ")");
            }
        }
        for (int number = 0; number < 8; number++) {
            for (int what = 0; what < 4; what++) {
                looks.add("thing(" + number + ", " + what + ")");
                looks.add("thing(" + (100 + number) + ", " + what + ")");
            }
        }
        for (int what = -1; what < 7; what++) {
            looks.add("count(" + what + ")");
        }
        for (int k = 0; k < 24; k++) {
            looks.add("zone(" + k + ")");
        }
        return looks;
    }

    private static void tell(int run, String fault) {
        wrong++;
        System.out.println("run " + run + ": " + fault);
    }
}
