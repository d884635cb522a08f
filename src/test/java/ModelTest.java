import java.lang.reflect.Method;
import java.lang.reflect.Modifier;
import java.nio.charset.StandardCharsets;
import java.util.ArrayList;
import java.util.Comparator;
import java.util.List;
import java.util.Map;
import java.util.Random;
import java.util.TreeMap;

/** Long runs of calls, the same on the class and on a model of the document: every answer must be the same. */
public final class ModelTest {
    private static final int RUNS = 2500;
    /** What an object answers behind its 512th call is free, so a run ends ahead of it. */
    private static final int MOST_CALLS = 450;
    private static final Map<String, Integer> seen = new TreeMap<>();
    private static final List<Method[]> pairs = new ArrayList<>();
    private static int wrong = 0;

    private final Random random;
    private final RerootStore store = new RerootStore();
    private final Model model = new Model();
    private final List<String> calls = new ArrayList<>();
    private final int run;
    private int versions = 0;

    private ModelTest(int run) {
        this.run = run;
        random = new Random(7919L * run + 1);
    }

    public static void main(String[] args) throws ReflectiveOperationException {
        for (Method m : RerootStore.class.getDeclaredMethods()) {
            if (Modifier.isPublic(m.getModifiers())) {
                Method twin = Model.class.getDeclaredMethod(m.getName(), m.getParameterTypes());
                twin.setAccessible(true);
                pairs.add(new Method[] {m, twin});
            }
        }
        pairs.sort(Comparator.comparing(p -> p[0].getName()));
        for (int run = 0; run < RUNS && wrong < 10; run++) {
            new ModelTest(run).go();
        }
        System.out.println("ModelTest: " + seen.values().stream().mapToInt(n -> n).sum() + " answers compared, " + wrong + " differ");
        // A run that never came to some answer would prove nothing of it.
        for (String must : new String[] {"store -4", "sets -5", "joins -5", "merges -5", "patches -5", "snaps -5", "reads -5", "search 2", "forward 2", "undo -5", "back -6", "back 0", "without +", "fault 3"}) {
            if (!seen.containsKey(must)) {
                System.out.println("no run came to: " + must);
                wrong++;
            }
        }
        if (wrong != 0) {
            System.exit(1);
        }
    }

    private void go() throws ReflectiveOperationException {
        boolean acting = random.nextInt(3) != 0;
        tellSomething();
        int left = 120 + random.nextInt(200);
        while (left > 0 && wrong < 10 && calls.size() < MOST_CALLS) {
            left--;
            if (random.nextInt(60) == 0 && calls.size() < MOST_CALLS - 40) {
                tellSomething();
            }
            Method[] pair = pairs.get(random.nextInt(pairs.size()));
            String name = pair[0].getName();
            boolean rare = name.equals("store") || name.equals("end") || name.equals("anew") || name.equals("undo");
            boolean moves = name.equals("back") || name.equals("image");
            if (rare && random.nextInt(acting ? 12 : 3) != 0 || moves && random.nextInt(4) != 0) {
                continue;
            }
            if (acting && random.nextInt(3) == 0) {
                pair = act();
            }
            ask(pair, arguments(pair[0]));
        }
        for (Method[] pair : pairs) {
            if (pair[0].getParameterCount() == 0 && !pair[0].getName().equals("store")) {
                ask(pair, new Object[0]);
            }
        }
    }

    private Method[] act() {
        String[] acts = {"sets", "sets", "sets", "joins", "reads", "finds", "snaps", "merges", "patches"};
        return named(acts[random.nextInt(acts.length)]);
    }

    private static Method[] named(String name) {
        for (Method[] pair : pairs) {
            if (pair[0].getName().equals(name)) {
                return pair;
            }
        }
        throw new IllegalArgumentException(name);
    }

    private Object[] arguments(Method m) {
        Class<?>[] types = m.getParameterTypes();
        Object[] args = new Object[types.length];
        for (int i = 0; i < types.length; i++) {
            args[i] = types[i] == long.class ? (Object) set() : (Object) number();
        }
        return args;
    }

    private long set() {
        return switch (random.nextInt(8)) {
            case 0 -> random.nextLong();
            case 1 -> 1L << random.nextInt(64);
            case 2 -> (1L << versions) - 1;
            case 3 -> 1L << versions;
            default -> random.nextLong() & (1L << versions) - 1;
        };
    }

    private int number() {
        return switch (random.nextInt(16)) {
            case 0 -> -1;
            case 1 -> random.nextInt();
            case 2 -> random.nextBoolean() ? Integer.MAX_VALUE : Integer.MIN_VALUE;
            case 3 -> versions;
            case 4, 5, 6, 7 -> random.nextInt(Math.max(versions, 1));
            case 8 -> random.nextInt(22);
            default -> random.nextInt(5);
        };
    }

    private long ask(Method[] pair, Object[] args) throws ReflectiveOperationException {
        calls.add(pair[0].getName() + java.util.Arrays.toString(args));
        long got = ((Number) pair[0].invoke(store, args)).longValue();
        long want = ((Number) pair[1].invoke(model, args)).longValue();
        String name = pair[0].getName();
        boolean byValue = name.equals("search") || name.equals("forward") ? (int) args[1] == 0 : name.equals("fault") ? (int) args[0] == 0 : true;
        seen.merge(name + " " + (want <= 0 || byValue && want < 4 ? want : "+"), 1, Integer::sum);
        if (name.equals("without") && want > 0) {
            seen.merge("without +", 1, Integer::sum);
        }
        if (got != want) {
            wrong++;
            System.out.println("run " + run + ": " + calls + ": answered " + got + ", the model says " + want);
        }
        versions = model.count(3);
        return got;
    }

    private void tellSomething() throws ReflectiveOperationException {
        String text = new Text(random).make();
        ask(named("end"), new Object[] {0});
        byte[] bytes = text.getBytes(StandardCharsets.ISO_8859_1);
        int length = Math.min(bytes.length, 500);
        for (int at = 0; at < length; at += 20) {
            Object[] n = new Object[5];
            for (int i = 0; i < 5; i++) {
                int word = 0;
                for (int j = 0; j < 4; j++) {
                    int k = at + 4 * i + j;
                    word = word << 8 | (k < bytes.length ? bytes[k] & 255 : 0);
                }
                n[i] = word;
            }
            ask(named("feed"), n);
        }
        ask(named("end"), new Object[] {length});
        calls.add("(" + text + ")");
        ask(named("store"), new Object[0]);
        ask(named("fault"), new Object[] {0});
        ask(named("fault"), new Object[] {1});
    }

    /** A text that is mostly right; a model of its own would be needed to keep it right, so it is tried. */
    private static final class Text {
        private final Random random;
        private int size;
        private int versions = 1;

        Text(Random random) {
            this.random = random;
        }

        String make() {
            size = random.nextInt(4) == 0 ? 1 + random.nextInt(12) : 3 + random.nextInt(6);
            StringBuilder text = new StringBuilder("store size " + size + " law " + random.nextInt(3) + " cut " + (random.nextInt(3) == 0 ? random.nextInt(21) : random.nextInt(4)) + ";");
            int lines = random.nextInt(40);
            int flavour = random.nextInt(4);
            List<String> paired = new ArrayList<>();
            if (random.nextInt(6) == 0) {
                text.append(clique(paired));
            }
            for (int i = 0; i < lines; i++) {
                String line = flavour == 0 || random.nextInt(4) == 0 ? pair(paired) : deed(flavour);
                String tried = text + line;
                if (line.isEmpty() || tried.length() > 500) {
                    continue;
                }
                // Most lines that the document refuses are left out, a few stand.
                if (random.nextInt(40) == 0 || standsIn(tried)) {
                    text.append(line);
                    versions += line.startsWith("set") || line.startsWith("join") ? 1 : 0;
                }
            }
            return random.nextInt(6) == 0 ? spoiled(text) : text.toString();
        }

        private boolean standsIn(String text) {
            RerootStore x = new RerootStore();
            return Due.tell(x, text) >= 0;
        }

        private int cell() {
            return random.nextInt(size);
        }

        private int version() {
            return random.nextInt(3) == 0 ? versions - 1 : random.nextInt(versions);
        }

        /** The last cells all paired: what stands ahead of them is coloured in vain, over and over. */
        private String clique(List<String> paired) {
            StringBuilder text = new StringBuilder();
            int least = Math.max(0, size - 3 - random.nextInt(3));
            for (int a = least; a < size; a++) {
                for (int b = a + 1; b < size; b++) {
                    paired.add(a + " " + b);
                    text.append("pair ").append(a).append(' ').append(b).append(';');
                }
            }
            return text.toString();
        }

        private String pair(List<String> paired) {
            int a = cell();
            int b = cell();
            String key = Math.min(a, b) + " " + Math.max(a, b);
            if (paired.contains(key) && random.nextInt(20) != 0) {
                return "";
            }
            paired.add(key);
            return "pair " + a + " " + b + ";";
        }

        private String deed(int flavour) {
            return switch (random.nextInt(flavour == 1 ? 6 : 9)) {
                case 0, 1, 2 -> "set " + version() + " " + cell() + " " + cell() + ";";
                case 3, 4 -> "join " + version() + " " + cell() + " " + cell() + ";";
                case 5, 6 -> "read " + version() + " " + cell() + ";";
                case 7 -> "find " + version() + " " + cell() + ";";
                default -> "snap " + version() + ";";
            };
        }

        private String spoiled(StringBuilder text) {
            int many = 1 + random.nextInt(3);
            for (int i = 0; i < many && text.length() > 0; i++) {
                int at = random.nextInt(text.length());
                String signs = " \n;09az3\t\u00e9A-.0000";
                switch (random.nextInt(5)) {
                    case 0 -> text.deleteCharAt(at);
                    case 1 -> text.setCharAt(at, signs.charAt(random.nextInt(signs.length())));
                    case 2 -> text.insert(at, signs.charAt(random.nextInt(signs.length())));
                    case 3 -> text.insert(at, "  \n ");
                    default -> text.setLength(at);
                }
            }
            return text.toString();
        }
    }
}
