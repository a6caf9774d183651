import java.lang.reflect.InvocationTargetException;
import java.lang.reflect.Method;
import java.util.ArrayList;
import java.util.Arrays;
import java.util.List;
import java.util.Random;

/** Long runs of calls by chance (the same ones each time), each answered by the model too. */
public final class ModelTest {
    private static final int RUNS = 400;
    private static final int CALLS = 500;

    /** Each call, how often it comes, and what its arguments are. */
    private static final String[] CALLS_BY_CHANCE = {
        "phone 3 place charge room swell", "move 14 lot phone tick place", "say 30 phone kind life person place when number",
        "undo 8 phone life word", "ticks 12 ticks", "look 12 phone what8", "copy 30 phone word what6",
        "word 12 word what11", "had 5 word", "way 8 word hop", "late 3 word", "rumour 8 word",
        "sayings 8 person known bool", "speed 3 speed", "could 8 person tick known", "least 8 person known bool",
        "judge 6 word bool", "weight 4 phone", "sure 10 person place", "describe 4 name name coat", "apart 2 apart",
        "heaps 4 what2", "heap 4 what7", "stones 2 place percent percent fade dig", "gang 2 place percent",
        "saved 3 what4 what5", "send 4 what4", "hide 4 person bool", "ask 8 person bool", "far 5 word tick",
        "tear 5 what8 mask", "check 3", "image 1", "back 1", "count 14 what12", "fault 3", "feed 1 any any any any any",
        "end 1 any", "rules 1", "would 1 word", "TEXT 3 rules", "TEXT 6 would"};

    private final Random random;
    private final QuakeNet net = new QuakeNet();
    private final Model model = new Model();
    private final List<String> told = new ArrayList<>();
    private final int[] places;
    private boolean good = true;

    private ModelTest(long seed) {
        random = new Random(seed);
        places = random.ints(1 + random.nextInt(3), 0, 16).toArray();
    }

    public static void main(String[] args) throws Exception {
        int wrong = 0;
        for (int seed = 0; seed < RUNS && wrong < 3; seed++) {
            ModelTest test = new ModelTest(seed);
            test.run();
            wrong += test.good ? 0 : 1;
        }
        System.out.println(wrong == 0 ? RUNS + " runs by chance went as in the model" : wrong + " runs went wrong");
        if (wrong != 0) {
            System.exit(1);
        }
    }

    private void run() throws Exception {
        int phones = random.nextInt(8) == 0 ? 0 : 1 + random.nextInt(10);
        for (int i = 0; i < phones; i++) {
            call("phone", aPlace(), random.nextInt(4) == 0 ? random.nextInt(6) : random.nextInt(1001),
                    1 + random.nextInt(random.nextBoolean() ? 3 : 12), random.nextInt(3) * random.nextInt(5));
        }
        if (random.nextInt(4) > 0) {
            text("rules", aText());
        }
        int quiet = random.nextInt(60);
        for (int i = 0; i < CALLS - 60 && good; i++) {
            byChance(i < quiet);
        }
    }

    private void byChance(boolean quiet) throws Exception {
        int sum = Arrays.stream(CALLS_BY_CHANCE).mapToInt(c -> Integer.parseInt(c.split(" ")[1])).sum();
        int left = random.nextInt(sum);
        for (String call : CALLS_BY_CHANCE) {
            String[] parts = call.split(" ");
            left -= Integer.parseInt(parts[1]);
            if (left < 0) {
                if (quiet && (parts[0].equals("ticks") || parts[0].equals("image"))) {
                    return;
                }
                if (parts[0].equals("TEXT")) {
                    text(parts[2], aText());
                    return;
                }
                Object[] args = new Object[parts.length - 2];
                for (int i = 0; i < args.length; i++) {
                    args[i] = parts[i + 2].equals("bool") ? (Object) random.nextBoolean() : (Object) argument(parts[i + 2]);
                }
                call(parts[0], args);
                return;
            }
        }
    }

    private int aPlace() {
        return random.nextInt(8) == 0 ? random.nextInt(16) : places[random.nextInt(places.length)];
    }

    private int argument(String kind) {
        if (random.nextInt(40) == 0) {
            int[] odd = {-1, -2, 10, 12, 13, 16, 30, 101, 201, 401, 1001, 10000, Integer.MAX_VALUE, Integer.MIN_VALUE, 0};
            return odd[random.nextInt(odd.length)];
        }
        int now = net.count(0);
        switch (kind) {
            case "place": return aPlace();
            case "charge": return random.nextInt(1001);
            case "room": return 1 + random.nextInt(12);
            case "swell": return random.nextInt(10);
            case "lot": return random.nextInt(3) == 0 ? 0 : random.nextInt(4);
            case "phone": return random.nextInt(Math.max(1, net.count(1)));
            case "word": return random.nextInt(Math.max(1, net.count(2)));
            case "tick": return now + 1 + random.nextInt(8) - random.nextInt(2) * random.nextInt(Math.max(1, now));
            case "known": return now - random.nextInt(3) * random.nextInt(5);
            case "kind": return random.nextInt(5);
            case "life": return random.nextBoolean() ? 1 + random.nextInt(10) : 1 + random.nextInt(200);
            case "person": return random.nextInt(3) == 0 ? random.nextInt(16) : random.nextInt(2);
            case "when": return Math.max(0, now - random.nextInt(2) * random.nextInt(10));
            case "number": return random.nextInt(3) == 0 ? 9990 + random.nextInt(11) : random.nextInt(40);
            case "ticks": return random.nextInt(10) == 0 ? random.nextInt(42) : random.nextInt(3);
            case "hop": return random.nextInt(5) - 1;
            case "speed": return 1 + random.nextInt(8);
            case "name": return random.nextInt(4) == 0 ? -1 : random.nextInt(30);
            case "coat": return random.nextInt(11) - 1;
            case "apart": return random.nextInt(40);
            case "percent": return random.nextInt(102);
            case "fade": return random.nextInt(3) == 0 ? random.nextInt(22) : random.nextInt(3);
            case "dig": return random.nextInt(300);
            case "mask": return random.nextInt(3);
            case "any": return random.nextInt();
            default: return random.nextInt(Integer.parseInt(kind.substring(4)));
        }
    }

    private void text(String use, String text) throws Exception {
        call("end", 0);
        List<Object[]> feeds = new ArrayList<>();
        Tapes.feedAll(text, (a, b, c, d, e) -> feeds.add(new Object[] {a, b, c, d, e}));
        for (Object[] feed : feeds) {
            call("feed", feed);
        }
        call("end", text.length());
        told.add("the TAPE is now: " + text);
        if (use.equals("rules")) {
            call("rules");
        } else {
            call("would", argument("word"));
        }
        call("fault");
    }

    private String aText() {
        List<String> lines = new ArrayList<>();
        for (int n = random.nextInt(6) + (random.nextInt(20) == 0 ? 6 : 0); n > 0; n--) {
            lines.add(aLine());
        }
        StringBuilder text = new StringBuilder(String.join(random.nextBoolean() ? "; " : " ;", lines));
        if (random.nextInt(12) == 0 && text.length() > 0) {
            spoil(text);
        }
        return text.length() > 400 ? text.substring(0, 400) : text.toString();
    }

    private void spoil(StringBuilder text) {
        int at = random.nextInt(text.length());
        String[] odd = {" ", "x", ")", "(", "12345", ";", "not ", "A", "<", "" + (char) 233, "or"};
        if (random.nextBoolean()) {
            text.setLength(at);
        } else {
            text.insert(at, odd[random.nextInt(odd.length)]);
        }
    }

    private String aLine() {
        String condition = random.nextInt(3) == 0 ? "" : " if " + aCondition(0);
        switch (random.nextInt(7)) {
            case 0: return "pass" + condition;
            case 1: return "cost " + random.nextInt(random.nextInt(10) == 0 ? 102 : 4);
            case 2: return "show" + condition;
            default: return "first " + random.nextInt(random.nextInt(10) == 0 ? 10050 : 5) + condition;
        }
    }

    private String aCondition(int deep) {
        int chance = random.nextInt(deep < 7 ? 11 : 4);
        if (chance < 4) {
            String[] tags = {"alive", "seen", "need", "asked", "order", "undone", "kin"};
            String[] facts = {"age", "hops", "have", "charge", "number"};
            return random.nextBoolean() ? tags[random.nextInt(7)]
                    : facts[random.nextInt(5)] + (random.nextBoolean() ? "<" : " > ") + random.nextInt(6);
        }
        String first = aCondition(deep + 1);
        return chance < 6 ? "not " + first : chance < 8 ? "(" + first + ")"
                : first + (chance == 8 ? " or " : " and ") + aCondition(deep + 1);
    }

    private void call(String name, Object... args) throws Exception {
        String got = answer(net, name, args);
        String due = answer(model, name, args);
        told.add(name + Arrays.toString(args) + " -> " + got);
        if (!got.equals(due) && good) {
            good = false;
            told.forEach(System.out::println);
            System.out.println("due is " + due);
        }
    }

    private static String answer(Object target, String name, Object[] args) throws Exception {
        for (Method method : target.getClass().getDeclaredMethods()) {
            if (method.getName().equals(name) && method.getParameterCount() == args.length) {
                try {
                    Object answer = method.invoke(target, args);
                    return String.valueOf(answer);
                } catch (InvocationTargetException e) {
                    return "throws " + e.getCause().getClass().getName();
                }
            }
        }
        throw new AssertionError("no method " + name);
    }
}
