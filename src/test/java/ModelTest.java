import java.lang.reflect.InvocationTargetException;
import java.lang.reflect.Method;
import java.util.ArrayList;
import java.util.HashMap;
import java.util.List;
import java.util.Map;
import java.util.Random;

/** All promises: long runs of calls, each answered by the class as by the model. */
public final class ModelTest {
    private static final int RUNS = 400;
    // With the digest behind each of them these are the 512 calls that an object is good for.
    private static final int CALLS = 256;

    // Each method, the kinds of its arguments, and how often it is called.
    private static final String[] METHODS = {
        "addKey cfve 14", "removeKey ck 2", "setKey ckve 4", "moveKey ckf 4", "setTangent ckms 6",
        "lock ckb 2", "stretch cffp 4", "copy cco 2", "reduce ct 1", "key ckw 3", "value cf 4",
        "sum cff 2", "extreme cffx 3", "crossings cl 2", "difference cc 1", "mean c 1",
        "error ck 3", "greatestStretch cff 3", "leastEase ck 3", "append y 1", "clearText - 1",
        "parse c 3", "undo - 3", "digest - 1", "TEXT - 3"};

    private final Random random;
    private final int frames;
    private final int values;
    private final boolean withTexts;
    private final EaseCurves x = new EaseCurves();
    private final Model model = new Model();
    private final List<String> calls = new ArrayList<>();
    private boolean good = true;

    private ModelTest(long seed) {
        random = new Random(seed);
        frames = new int[] {12, 40, 300, 1000}[random.nextInt(4)];
        values = new int[] {3, 50, 1000, 10000}[random.nextInt(4)];
        withTexts = random.nextInt(3) == 0;
    }

    public static void main(String[] args) {
        int runs = args.length > 0 ? Integer.parseInt(args[0]) : RUNS;
        Map<String, Integer> answers = new HashMap<>();
        for (int run = 0; run < runs; run++) {
            ModelTest test = new ModelTest(run);
            test.go(answers);
            if (!test.good) {
                System.out.println("run " + run + " fails");
                System.exit(1);
            }
        }
        if (args.length > 1) {
            answers.entrySet().stream().sorted(Map.Entry.comparingByKey())
                    .forEach(System.out::println);
        }
        System.out.println(runs + " runs, all as the model");
    }

    private void go(Map<String, Integer> answers) {
        List<String> bag = new ArrayList<>();
        for (String method : METHODS) {
            for (int i = Integer.parseInt(method.split(" ")[2]); i > 0; i--) {
                bag.add(method);
            }
        }
        while (good && calls.size() < CALLS) {
            String[] method = bag.get(random.nextInt(bag.size())).split(" ");
            if (!withTexts && (method[0].equals("TEXT") || method[0].equals("parse"))) {
                continue;
            }
            if (method[0].equals("TEXT")) {
                writeText();
                continue;
            }
            List<Object> arguments = new ArrayList<>();
            for (char kind : method[1].replace("-", "").toCharArray()) {
                arguments.add(argument(kind));
            }
            orderFrames(method[1].indexOf("ff"), arguments);
            String answer = both(method[0], arguments.toArray());
            answers.merge(method[0] + (answer.startsWith("throws") ? " " + answer : ""), 1,
                    Integer::sum);
        }
    }

    private void orderFrames(int from, List<Object> arguments) {
        if (from >= 0 && random.nextInt(12) != 0
                && (Integer) arguments.get(from) > (Integer) arguments.get(from + 1)) {
            Object later = arguments.set(from, arguments.get(from + 1));
            arguments.set(from + 1, later);
        }
    }

    private void writeText() {
        both("clearText");
        for (char c : text().toCharArray()) {
            if (calls.size() < CALLS) {
                both("append", (int) c);
            }
        }
        if (calls.size() < CALLS) {
            both("parse", random.nextInt(4));
        }
    }

    private String text() {
        StringBuilder text = new StringBuilder();
        int frame = random.nextInt(3);
        int keys = random.nextInt(10) == 0 ? 18 : random.nextInt(9);
        for (int i = 0; i < keys; i++) {
            text.append(random.nextInt(6) == 0 ? "0" : "").append(frame).append(',')
                    .append(random.nextInt(2 * values) - values).append(',')
                    .append(random.nextInt(6)).append(random.nextInt(9) == 0 ? "l" : "")
                    .append(new String[] {"", "", "s", "v"}[random.nextInt(4)]).append(';');
            frame += (random.nextInt(12) == 0 ? 0 : 1) + random.nextInt(1 + frames / 16);
        }
        if (random.nextInt(3) == 0 && text.length() > 0) {
            int place = random.nextInt(text.length());
            switch (random.nextInt(3)) {
                case 0 -> text.setLength(place);
                case 1 -> text.deleteCharAt(place);
                default -> text.insert(place, "0123459,;-lsv x".charAt(random.nextInt(15)));
            }
        }
        return text.length() > 150 ? text.substring(0, 150) : text.toString();
    }

    private Object argument(char kind) {
        return switch (kind) {
            case 'c' -> number(0, 3, 60);
            case 'f' -> random.nextInt(20) == 0 ? number(0, 999, 6) : number(0, frames - 1, 90);
            case 'v' -> number(-Math.min(values, 9999), Math.min(values, 9999), 60);
            case 'e' -> random.nextInt(3) == 0 ? Integer.valueOf(5) : number(0, 5, 60);
            case 'k' -> random.nextInt(8) == 0 ? number(-1, 15, 9) : number(0, 5, 60);
            case 'm' -> number(0, 2, 30);
            case 's' -> random.nextInt(2) == 0 ? number(-99999, 99999, 9) : number(-999, 999, 90);
            case 'b' -> random.nextInt(3) == 0;
            case 'p' -> random.nextInt(3) == 0 ? number(10, 500, 20) : number(60, 200, 60);
            case 'o' -> random.nextInt(4) == 0 ? number(-9999, 9999, 9) : number(-30, 30, 90);
            case 't' -> random.nextInt(4) == 0 ? number(0, 9999, 9) : number(0, values / 8, 90);
            case 'w' -> number(0, 6, 30);
            case 'x' -> number(0, 4, 30);
            case 'l' -> random.nextInt(4) == 0 ? number(-99999, 99999, 9) : number(-5, values, 60);
            default -> number(0, 127, 9);
        };
    }

    /** A number of the range, and now and then one about its ends or far from it. */
    private Integer number(int low, int high, int rarely) {
        if (random.nextInt(rarely) == 0) {
            int[] odd = {low - 1, high + 1, low, high, Integer.MIN_VALUE, Integer.MAX_VALUE};
            return odd[random.nextInt(odd.length)];
        }
        return low + random.nextInt(high - low + 1);
    }

    private String both(String name, Object... arguments) {
        String got = answer(x, name, arguments);
        String want = answer(model, name, arguments);
        calls.add(name + List.of(arguments) + " " + got);
        compare(got, want);
        compare(answer(x, "digest"), answer(model, "digest"));
        return want;
    }

    private void compare(String got, String want) {
        if (good && !got.equals(want)) {
            good = false;
            calls.forEach(System.out::println);
            System.out.println("the last one, or the digest behind it: " + got + ", due is " + want);
        }
    }

    private static String answer(Object object, String name, Object... arguments) {
        try {
            return String.valueOf(method(object, name).invoke(object, arguments));
        } catch (InvocationTargetException e) {
            return "throws." + e.getCause().getClass().getSimpleName();
        } catch (IllegalAccessException e) {
            throw new AssertionError(e);
        }
    }

    private static Method method(Object object, String name) {
        for (Method m : object.getClass().getMethods()) {
            if (m.getName().equals(name)) {
                return m;
            }
        }
        throw new AssertionError(name);
    }
}
