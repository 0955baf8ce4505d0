import java.lang.reflect.InvocationTargetException;
import java.lang.reflect.Method;
import java.util.Arrays;
import java.util.HashMap;
import java.util.Map;
import java.util.Random;
import java.util.TreeMap;

/** Long runs of drawn calls, each answer held against that of Model (promises 1 to 70). */
public final class ModelTest {
    private static final int RUNS = 1500;
    private static final int CALLS = 450;
    private static final String[] NAMES = {"a", "b", "c", "dd", "e", "hans", "abcdefgh", "z"};
    private static final String[] BAD_BITS = {"", " ", ";", "x", "rain", "end", "12345", "99", "A", "<", "farmer",
            "abcdefghi", "1", "vote", "a", "weather", "\n", "=", "d", "loop", "when"};
    /** What each parameter of a call is: f farmer, d day that may be there, t day to be told of, .. */
    private static final Map<String, String> KINDS = new TreeMap<>();

    static {
        String all = "status top bottom tray:ysm write:ypv read:yp pour:ypypm bench season fault:w told:w farmer:fw "
                + "dislikes:ff weather:d should:fd twinges:fd twinge:fdz feel:e lie:fd cure:ft brandy:fx day:o "
                + "tells:ft wrongs:fo says:t tips:t right:f trust:f kept learn:d weigh:fg truest odds:tx hay:tox "
                + "wedding:tt seats seatAt:f fewest:q lag:f fits:fl stairs:fyr spell:o believers:t alike:ff toldBy:f "
                + "flips:t span:tt rival:f quiet:f useful:f mood:f foe:f silent sure:t bestLaw keptBy:w streak:f "
                + "clashes:ff fever lies:o nextWrong:t warned:o agrees:f live:e lived:w mean:ex mark back";
        for (String one : all.split(" ")) {
            String[] parts = one.split(":");
            KINDS.put(parts[0], parts.length > 1 ? parts[1] : "");
        }
    }

    private final Random random;
    private final Map<String, Method> methods = new HashMap<>();
    private final Map<String, Integer> zeros = new TreeMap<>();
    private final Check check = new Check("ModelTest");
    private KneeBench real;
    private Model model;
    private StringBuilder story;

    private ModelTest(long seed) {
        random = new Random(seed);
        for (Method m : KneeBench.class.getDeclaredMethods()) {
            methods.put(m.getName(), m);
        }
    }

    public static void main(String[] args) {
        ModelTest test = new ModelTest(args.length > 0 ? Long.parseLong(args[0]) : 20261118L);
        test.runAll(args.length > 1 ? Integer.parseInt(args[1]) : RUNS);
    }

    private void runAll(int runs) {
        for (int run = 0; run < runs; run++) {
            real = new KneeBench();
            model = new Model();
            story = new StringBuilder();
            String[] names = KINDS.keySet().toArray(new String[0]);
            if (random.nextInt(10) > 0) {
                text(true);
            }
            for (int i = 0; i < CALLS; i++) {
                int kind = random.nextInt(100);
                if (kind == 0) {
                    text(true);
                } else if (kind < 4) {
                    text(false);
                } else if (kind == 4) {
                    fillTray();
                } else {
                    one(names[random.nextInt(names.length)]);
                }
            }
        }
        // A promise whose call was never answered with STATUS 0 would not be tested at all.
        for (String name : KINDS.keySet()) {
            check.due(name + " was answered", zeros.getOrDefault(name, 0) > 10, true);
        }
        check.finish();
    }

    private void one(String name) {
        if ((name.equals("cure") || name.equals("back") || name.equals("day")) && random.nextInt(3) > 0) {
            return;
        }
        if (name.equals("lies") && random.nextInt(4) > 0) {
            return;
        }
        String kinds = KINDS.get(name);
        long[] a = new long[kinds.length()];
        for (int i = 0; i < a.length; i++) {
            a[i] = random.nextInt(60) == 0 ? wild() : drawn(kinds.charAt(i));
        }
        if (name.equals("bench") || name.equals("season")) {
            a = new long[] {random.nextInt(3) - 1};
        }
        if (name.equals("hay") && random.nextInt(4) > 0) {
            a[1] = 1 + random.nextInt(3);
        }
        ask(name, a);
    }

    private long wild() {
        long[] wild = {-1, Integer.MAX_VALUE, Integer.MIN_VALUE, 61, 63, 64, 65, 100, -4, 4, 8, 17, 1000, 10000};
        return wild[random.nextInt(wild.length)];
    }

    private long drawn(char kind) {
        switch (kind) {
            case 'f':
                return random.nextInt(random.nextInt(3) == 0 ? 10 : 3) - (random.nextInt(20) == 0 ? 1 : 0);
            case 'd':
                return random.nextInt(random.nextBoolean() ? 12 : 61);
            case 't':
                return random.nextInt(random.nextBoolean() ? 12 : 64);
            case 'w':
                return random.nextInt(8) - (random.nextInt(20) == 0 ? 1 : 0);
            case 'y':
                return random.nextInt(4);
            case 's':
                return random.nextInt(4);
            case 'm':
                return random.nextInt(20) == 0 ? 61 : random.nextInt(random.nextBoolean() ? 8 : 61);
            case 'p':
                return random.nextInt(12) - (random.nextInt(20) == 0 ? 1 : 0);
            case 'v':
                return random.nextBoolean() ? random.nextLong() : random.nextInt(1010) - 5;
            case 'z':
                return random.nextInt(2);
            case 'e':
                return random.nextInt(10) == 0 ? 9975 + random.nextInt(28) : random.nextInt(10000);
            case 'x':
                return random.nextInt(18);
            case 'o':
                return random.nextInt(4) - (random.nextInt(20) == 0 ? 1 : 0);
            case 'g':
                return random.nextInt(67) - 1;
            case 'q':
                return random.nextInt(random.nextBoolean() ? 6 : 62);
            case 'l':
                return random.nextInt(9) - 4;
            default:
                return random.nextInt(1002);
        }
    }

    private void ask(String name, long... a) {
        long want = model.call(name, a);
        long got = answer(name, a);
        if (name.equals("feed") || model.status == 0) {
            zeros.merge(name, 1, Integer::sum);
        }
        story.append(name).append(Arrays.toString(a)).append('=').append(want).append('\n');
        boolean same = got == want && real.status() == model.status && real.top() == model.top
                && real.bottom() == model.bottom && real.fault(0) == model.fault && real.fault(1) == model.faultPlace;
        check.due(name + Arrays.toString(a) + " with all that follows", same, true);
        if (!same) {
            System.out.println(story);
            System.out.println("real " + got + " status " + real.status() + " fraction " + real.top() + "/"
                    + real.bottom() + " fault " + real.fault(0) + " at " + real.fault(1) + "; model " + want + " status "
                    + model.status + " fraction " + model.top + "/" + model.bottom + " fault " + model.fault + " at "
                    + model.faultPlace);
            check.finish();
        }
    }

    private long answer(String name, long[] a) {
        Method m = methods.get(name);
        Object[] args = new Object[a.length];
        for (int i = 0; i < a.length; i++) {
            Class<?> type = m.getParameterTypes()[i];
            if (type == long.class) {
                args[i] = a[i];
            } else if (type == boolean.class) {
                args[i] = (int) a[i] != 0;
            } else {
                args[i] = (int) a[i];
            }
        }
        try {
            Object result = m.invoke(real, args);
            return result instanceof Boolean ? (Boolean) result ? 1 : 0 : ((Number) result).longValue();
        } catch (IllegalAccessException | InvocationTargetException e) {
            System.out.println(story);
            throw new IllegalStateException(name + Arrays.toString(a), e);
        }
    }

    private void fillTray() {
        ask("tray", 1, 2, random.nextInt(10) == 0 ? random.nextInt(61) : 60);
        for (int i = 0; i < 20; i++) {
            ask("write", 1, random.nextInt(60), random.nextInt(1000));
        }
        ask("stairs", 0, 1, 1 + random.nextInt(300));
        ask("stairs", 1, 1, 1 + random.nextInt(30));
    }

    // ---- texts

    private void text(boolean isBench) {
        String text = isBench ? benchText() : seasonText();
        if (random.nextInt(3) == 0) {
            text = spoiled(text);
        }
        text = text.substring(0, Math.min(text.length(), 900));
        for (int i = 0; i < text.length(); i += 20) {
            ask("feed", Check.four(text, i), Check.four(text, i + 4), Check.four(text, i + 8),
                    Check.four(text, i + 12), Check.four(text, i + 16));
        }
        story.append('[').append(text).append("]\n");
        ask(isBench ? "bench" : "season", text.length());
        look();
        if (!isBench) {
            ask("live", random.nextInt(10000));
            for (int what = 0; what < 4; what++) {
                ask("lived", what);
            }
            look();
        }
    }

    /** All that can be seen of the farmers. */
    private void look() {
        for (int what = 0; what < 5; what++) {
            ask("told", what);
        }
        for (int f = 0; f < model.now.farmers.size(); f++) {
            for (int what = 0; what < 7; what++) {
                ask("farmer", f, what);
            }
            for (int d = 0; d < model.now.weather.length(); d++) {
                ask("twinges", f, d);
            }
        }
    }

    private String spoiled(String text) {
        StringBuilder b = new StringBuilder(text);
        int at = random.nextInt(b.length() + 1);
        String bit = BAD_BITS[random.nextInt(BAD_BITS.length)];
        switch (random.nextInt(4)) {
            case 0:
                b.setLength(at);
                break;
            case 1:
                b.insert(at, bit);
                break;
            case 2:
                b.replace(at, Math.min(b.length(), at + 1 + random.nextInt(4)), bit);
                break;
            default:
                String[] parts = text.split(" ", -1);
                parts[random.nextInt(parts.length)] = bit;
                return String.join(" ", parts);
        }
        return b.toString();
    }

    private String gap() {
        String[] gaps = {" ", " ", " ", " ", "\n", "  "};
        return gaps[random.nextInt(gaps.length)];
    }

    /** Between a word and a number no blank is needed. */
    private String mayGap() {
        return random.nextInt(8) == 0 ? "" : gap();
    }

    private String word(String w) {
        return w + gap();
    }

    private String number(int most) {
        String n = String.valueOf(random.nextInt(40) == 0 ? random.nextInt(120) : random.nextInt(most + 1));
        while (n.length() < 4 && random.nextInt(12) == 0) {
            n = "0" + n;
        }
        return mayGap() + n;
    }

    private String name(int farmers) {
        return NAMES[random.nextInt(random.nextInt(40) == 0 ? NAMES.length : Math.max(1, Math.min(8, farmers)))];
    }

    private String benchText() {
        int farmers = random.nextInt(4) == 0 ? random.nextInt(10) : 1 + random.nextInt(6);
        StringBuilder b = new StringBuilder();
        for (int f = 0; f < farmers; f++) {
            b.append(word("farmer")).append(word(f < 8 ? NAMES[f] : "q"));
            int lag = random.nextInt(3);
            b.append(lag > 0 ? "ahead" + number(3) : "behind" + mayGap() + (1 + random.nextInt(3))).append(mayGap());
            boolean isSure = random.nextInt(3) == 0;
            b.append("fails").append(number(isSure ? 0 : 16)).append(mayGap());
            b.append("false").append(number(isSure ? 0 : 16)).append(mayGap());
            b.append(random.nextInt(5) == 0 ? "elbow " : "");
            b.append(random.nextInt(5) == 0 ? "cured" + number(random.nextBoolean() ? 9 : 60) : "").append(mayGap());
            b.append(';').append(mayGap());
            if (random.nextInt(4) == 0) {
                b.append(weatherPart());
            }
        }
        for (int i = random.nextInt(8); i > 0; i--) {
            b.append(word("dislikes")).append(word(name(farmers))).append(name(farmers)).append(number(99)).append(';');
        }
        for (int i = random.nextInt(4); i > 0; i--) {
            b.append(weatherPart());
        }
        String[] laws = {"most", "weights", "any", "all"};
        if (random.nextInt(4) > 0) {
            b.append(word("vote")).append(laws[random.nextInt(4)]).append(mayGap()).append(';');
        }
        return b.toString();
    }

    private String weatherPart() {
        StringBuilder b = new StringBuilder(word("weather"));
        for (int i = random.nextInt(random.nextInt(4) == 0 ? 62 : 12); i >= 0; i--) {
            b.append("ddddrrrh".charAt(random.nextInt(8)));
        }
        return b.append(mayGap()).append(';').toString();
    }

    private String seasonText() {
        StringBuilder b = new StringBuilder();
        int steps = random.nextInt(random.nextInt(3) == 0 ? 32 : 10);
        int depth = 0;
        for (int i = 0; i < steps; i++) {
            int kind = random.nextInt(14);
            if (kind == 12 || kind == 13) {
                if (depth > 0) {
                    b.append("end").append(mayGap()).append(';');
                    depth--;
                }
                continue;
            }
            if ((kind == 10 || kind == 11) && depth < (random.nextInt(20) == 0 ? 4 : 3)) {
                depth++;
            } else if (kind >= 10) {
                kind = random.nextInt(9);
            }
            b.append(step(kind)).append(mayGap()).append(';').append(mayGap());
        }
        for (; depth > 0; depth--) {
            b.append("end;");
        }
        return b.toString();
    }

    private String step(int kind) {
        int farmers = model.now.farmers.size();
        switch (kind) {
            case 0:
                return "rain" + number(16);
            case 1:
                return "hail";
            case 2:
                return "dry";
            case 3:
                return "feel";
            case 4:
                return word("lie") + word(name(farmers)) + "on" + number(random.nextBoolean() ? 9 : 59);
            case 5:
                return word("cure") + word(name(farmers)) + "on" + number(60);
            case 6:
                return word("brandy") + name(farmers) + number(16);
            case 7:
            case 8:
                return "learn" + number(random.nextBoolean() ? 9 : 59);
            case 9:
                return random.nextInt(3) == 0 ? "stop" : "dry";
            case 10:
                return "loop" + mayGap() + (1 + random.nextInt(random.nextInt(3) == 0 ? 99 : 6));
            default:
                return word("when") + test(farmers);
        }
    }

    private String test(int farmers) {
        String sign = String.valueOf("<>=".charAt(random.nextInt(3)));
        switch (random.nextInt(3)) {
            case 0:
                return "says" + number(random.nextBoolean() ? 9 : 62);
            case 1:
                return word("trust") + name(farmers) + mayGap() + sign + number(64);
            default:
                return "days" + mayGap() + sign + number(60);
        }
    }
}
