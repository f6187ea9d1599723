import java.lang.reflect.InvocationTargetException;
import java.lang.reflect.Method;
import java.util.ArrayList;
import java.util.Arrays;
import java.util.Comparator;
import java.util.List;
import java.util.Random;

/** Promises 1 to 50: runs of calls drawn from fixed seeds, each answer compared with that of a model. */
public final class ModelTest {
    private static final int RUNS = 1500;
    private static final int CALLS = 512;
    private static final List<String> OFTEN = List.of("addWind", "addBallot", "addBallot", "addBallot", "rank", "rank",
            "rank", "rank", "recount", "removeBallot", "votesIn", "undo");
    private static final String[] WORDS =
            {"wind", "withdraw", "ballot", "rank", "remove", "recount", "spin", "certify"};

    private final Random random;
    private final WindElection election = new WindElection();
    private final Model model = new Model();
    private final List<String> told = new ArrayList<>();
    private boolean agrees = true;

    private ModelTest(int seed) {
        random = new Random(seed);
    }

    public static void main(String[] args) throws Exception {
        Method[] methods = WindElection.class.getDeclaredMethods();
        methods = Arrays.stream(methods).filter(m -> java.lang.reflect.Modifier.isPublic(m.getModifiers()))
                .sorted(Comparator.comparing(Method::getName)).toArray(Method[]::new);
        int wrong = 0;
        for (int seed = 0; seed < RUNS && wrong < 5; seed++) {
            ModelTest run = new ModelTest(seed);
            run.go(methods);
            if (!run.agrees) {
                wrong++;
                System.out.println("the run with seed " + seed + ":");
                run.told.forEach(System.out::println);
            }
        }
        System.out.println(RUNS + " runs, " + wrong + " of them wrong");
        if (wrong != 0) {
            System.exit(1);
        }
    }

    private void go(Method[] methods) throws Exception {
        int certifyEvery = 1 + random.nextInt(6);
        while (told.size() < CALLS && agrees) {
            String name = random.nextInt(3) == 0 ? OFTEN.get(random.nextInt(OFTEN.size()))
                    : methods[random.nextInt(methods.length)].getName();
            boolean leaves = name.equals("certify") || name.equals("withdraw") || name.equals("restore");
            if (leaves && random.nextInt(certifyEvery) != 0) {
                continue;
            }
            if (name.equals("execute") && random.nextInt(4) != 0) {
                typeText();
            }
            if (name.equals("type") && random.nextInt(4) != 0) {
                continue;
            }
            Method method = Arrays.stream(methods).filter(m -> m.getName().equals(name)).findFirst().orElseThrow();
            call(method, arguments(method));
            if (name.startsWith("write")) {
                readLine();
            }
        }
    }

    private void typeText() throws Exception {
        String text = text();
        for (int i = 0; i < text.length() && told.size() < CALLS; i++) {
            call(WindElection.class.getMethod("type", char.class), text.charAt(i));
        }
    }

    private void readLine() throws Exception {
        for (int i = -1; i <= 16 && told.size() < CALLS; i++) {
            call(WindElection.class.getMethod("lineAt", int.class), i);
        }
    }

    private String text() {
        StringBuilder text = new StringBuilder();
        int commands = 1 + random.nextInt(4);
        for (int i = 0; i < commands; i++) {
            text.append(i > 0 ? ";" : "").append(command(WORDS[random.nextInt(WORDS.length)]));
        }
        if (random.nextInt(3) == 0) {
            int at = random.nextInt(text.length());
            String signs = " ;>0129wirbcst~";
            char sign = signs.charAt(random.nextInt(signs.length()));
            switch (random.nextInt(4)) {
                case 0 -> text.setCharAt(at, sign);
                case 1 -> text.insert(at, sign);
                case 2 -> text.deleteCharAt(at);
                default -> text.setLength(at);
            }
        }
        return text.toString();
    }

    private String command(String word) {
        int winds = Math.max(1, election.windCount());
        int ballots = Math.max(1, election.ballotCount());
        String wind = " " + (random.nextInt(20) == 0 ? random.nextInt(10) : random.nextInt(winds));
        String ballot = " " + (random.nextInt(20) == 0 ? random.nextInt(100) : random.nextInt(ballots));
        String weight = " " + (random.nextInt(2) == 0 ? "0" + random.nextInt(10) : "" + random.nextInt(100));
        return switch (word) {
            case "withdraw" -> word + wind;
            case "ballot" -> word + weight + wind + further(winds);
            case "rank" -> word + ballot + wind;
            case "remove" -> word + ballot;
            case "recount" -> word + ballot + weight;
            default -> word;
        };
    }

    private String further(int winds) {
        StringBuilder text = new StringBuilder();
        for (int i = random.nextInt(4); i > 0; i--) {
            text.append('>').append(random.nextInt(winds));
        }
        return text.toString();
    }

    private Object[] arguments(Method method) {
        Object[] arguments = new Object[method.getParameterCount()];
        for (int i = 0; i < arguments.length; i++) {
            arguments[i] = method.getParameterTypes()[i] == char.class ? (Object) (char) (30 + random.nextInt(100))
                    : (Object) number(isWeight(method.getName(), i));
        }
        return arguments;
    }

    private static boolean isWeight(String name, int parameter) {
        return name.equals("addBallot") && parameter == 0 || name.equals("recount") && parameter == 1;
    }

    private int number(boolean isWeight) {
        switch (random.nextInt(40)) {
            case 0:
                return Integer.MIN_VALUE;
            case 1:
                return Integer.MAX_VALUE;
            case 2:
                return -1;
            case 3:
                return random.nextInt(120) - 10;
            default:
                break;
        }
        if (isWeight) {
            return random.nextInt(3) == 0 ? 1 + random.nextInt(99) : 1 + random.nextInt(4);
        }
        return random.nextInt(random.nextInt(4) == 0 ? 21 : 1 + Math.max(1, election.windCount()));
    }

    private void call(Method method, Object... arguments) throws Exception {
        Method same = Model.class.getMethod(method.getName(), method.getParameterTypes());
        String got = answer(method, election, arguments);
        String want = answer(same, model, arguments);
        told.add(method.getName() + Arrays.toString(arguments) + " answered " + got + ", due is " + want);
        agrees = got.equals(want);
    }

    private static String answer(Method method, Object object, Object[] arguments) throws Exception {
        try {
            return String.valueOf(method.invoke(object, arguments));
        } catch (InvocationTargetException e) {
            return "throws." + e.getCause().getClass().getSimpleName();
        }
    }
}
