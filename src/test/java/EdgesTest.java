import java.lang.reflect.InvocationTargetException;
import java.lang.reflect.Method;
import java.util.Map;
import java.util.Set;
import java.util.TreeMap;
import java.util.TreeSet;

/**
 * Each edge that the document names, in a test of its own that bears its promise's number; and that no promise, and no
 * STATUS that a promise names, is left out.
 */
public final class EdgesTest {
    private static final Class<?>[] EDGES = {TrayEdges.class, BenchTextEdges.class, SeasonTextEdges.class,
        FeltEdges.class, VoteEdges.class, NeededEdges.class,
        LifeEdges.class, TermsEdges.class};
    private static final int PROMISES = 70;
    private static final String STATUSES = "tray 1;write 1 2 3;read 1 2 3;pour 1 2 8 3;bench 1 9;season 1 9;told 1;"
            + "farmer 1 6;dislikes 1;weather 1;should 1;twinges 1;twinge 1;feel 1;lie 1;cure 1;brandy 1;day 1 4;tells 1 6;"
            + "wrongs 1;says 1 6;tips 1 6;right 1;trust 1 6;kept;learn 1;weigh 1;truest 6;odds 1 7;hay 1 7;wedding 1;"
            + "seats 6;seatAt 6;fewest 1 6;lag 1;fits 1;stairs 1 2 3 5;spell 1;believers 1;alike 1;toldBy 1;flips 1 6;"
            + "span 1;rival 1 6;quiet 1;useful 1;mood 1;foe 1 6;silent;sure 1 6;bestLaw;keptBy 1;streak 1;clashes 1;"
            + "fever 6;lies 1;nextWrong 1 6;warned 1;agrees 1;live 1 6;lived 1 6;mean 1 6;mark 4;back 6;"
            + "status;top;bottom;feed;fault";

    public static void main(String[] args) {
        Set<Integer> promises = new TreeSet<>();
        for (Class<?> c : EDGES) {
            runAll(c, promises);
        }
        Run.C.begin("EdgesTest");
        for (int promise = 1; promise <= PROMISES; promise++) {
            Run.C.due("promise " + promise + " has tests of its edges", promises.contains(promise), true);
        }
        Set<String> due = new TreeSet<>();
        for (String call : STATUSES.split(";")) {
            String[] parts = call.split(" ");
            due.add(parts[0]);
            for (int i = 1; i < parts.length; i++) {
                due.add(parts[0] + " " + parts[i]);
            }
        }
        Run.C.due("what was answered and refused is all that the promises name: " + Run.SEEN + " and " + due,
                Run.SEEN.equals(due), true);
        Run.C.finish();
    }

    private static void runAll(Class<?> c, Set<Integer> promises) {
        Map<String, Method> tests = new TreeMap<>();
        for (Method m : c.getDeclaredMethods()) {
            if (m.getName().startsWith("promise")) {
                tests.put(m.getName(), m);
            }
        }
        for (Method m : tests.values()) {
            for (String number : m.getName().replace("And", "promise").split("promise")) {
                if (number.length() > 1 && Character.isDigit(number.charAt(0))) {
                    promises.add(Integer.parseInt(number.substring(0, 2)));
                }
            }
            runOne(m);
        }
    }

    private static void runOne(Method m) {
        Run.C.begin(m.getName());
        try {
            m.invoke(null);
        } catch (IllegalAccessException | InvocationTargetException e) {
            e.printStackTrace();
            Run.C.due("the test ends", false, true);
        }
    }
}
