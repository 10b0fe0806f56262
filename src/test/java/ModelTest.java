import java.lang.reflect.InvocationTargetException;
import java.lang.reflect.Method;
import java.util.ArrayList;
import java.util.List;
import java.util.Random;

/** All promises: long runs of calls, made from fixed seeds, on the class and on the model. */
public final class ModelTest {
    private static final int RUNS = 600;
    private static final int CALLS = 512;

    private final Random random;
    private final BergPatrol patrol = new BergPatrol();
    private final Model model = new Model();
    private final List<String> told = new ArrayList<>();
    private final int kind;
    private final int middle;
    private boolean same = true;

    private ModelTest(long seed) {
        random = new Random(seed);
        kind = (int) (seed % 6);
        middle = random.nextInt(280);
    }

    public static void main(String[] args) throws Exception {
        for (int run = 0; run < RUNS; run++) {
            ModelTest test = new ModelTest(run);
            test.run();
            Check.same("run " + run, test.same, true);
        }
        Check.end();
    }

    private void run() throws Exception {
        if (kind == 2 || kind == 5) {
            stir();
        }
        while (told.size() < CALLS && same) {
            next();
        }
    }

    private int square() {
        int r = random.nextInt(100);
        if (r < 2) {
            return new int[] {-1, 280, Integer.MIN_VALUE, Integer.MAX_VALUE}[random.nextInt(4)];
        }
        if (r < 30) {
            return random.nextInt(280);
        }
        int x = middle % 20 + random.nextInt(5) - 2;
        int y = middle / 20 + random.nextInt(5) - 2;
        return 20 * Math.max(0, Math.min(13, y)) + Math.max(0, Math.min(19, x));
    }

    private int number(int least, int most) {
        if (random.nextInt(50) == 0) {
            return new int[] {least - 1, most + 1, Integer.MIN_VALUE, Integer.MAX_VALUE}[random.nextInt(4)];
        }
        return random.nextInt(12) == 0 ? (random.nextBoolean() ? least : most) : least + random.nextInt(most - least + 1);
    }

    private int berg() throws Exception {
        return number(0, Math.max(0, model.count(1) - 1));
    }

    private int warning() throws Exception {
        return number(0, Math.max(0, model.count(3) - 1));
    }

    private int step() throws Exception {
        return model.count(0) + random.nextInt(9) - 6;
    }

    private void stir() throws Exception {
        for (int i = 0; i < 90; i++) {
            call("water", square(), number(-2, 2), number(-2, 2), number(0, kind == 2 ? 3 : 50));
        }
        for (int i = 0; i < 60; i++) {
            call("land", square(), random.nextInt(3) > 0);
        }
    }

    private void next() throws Exception {
        int r = random.nextInt(26);
        switch (r) {
            case 0, 1 -> call("tell", square(), random.nextInt(3) > 0 ? number(1, 60) : number(1, 1000));
            case 2, 3 -> call("step", random.nextInt(4) > 0 ? number(0, 2) : kind == 3 ? number(0, 50) : number(0, 6));
            case 4 -> call("look", square(), number(0, 100));
            case 5 -> lookMuch();
            case 6 -> call("parts", berg(), square());
            case 7 -> call("berg", berg(), number(0, 5));
            case 8 -> call("limit");
            case 9 -> allCorners();
            case 10 -> warnSeldom();
            case 11, 12, 13 -> readText();
            case 14 -> call("fault");
            case 15 -> call("cancel", warning());
            case 16 -> call("force", warning(), step());
            case 17 -> writeAndRead();
            case 18 -> call("taped", number(0, Math.max(0, model.count(6))));
            case 19, 20 -> call("way", square(), square(), step());
            case 21 -> call("flight");
            case 22 -> call("count", number(0, 7));
            case 23 -> call("water", square(), number(-2, 2), number(-2, 2), number(0, 50));
            case 24 -> call("land", square(), random.nextInt(3) > 0);
            default -> feedAndEnd();
        }
    }

    private void lookMuch() throws Exception {
        for (int i = random.nextInt(8); i > 0; i--) {
            call("look", square(), 90 + random.nextInt(11));
        }
    }

    private void allCorners() throws Exception {
        for (int k = -1; k <= model.limit(); k++) {
            call("corner", k, random.nextBoolean());
        }
    }

    private void warnSeldom() throws Exception {
        if (kind == 1 || random.nextInt(4) == 0) {
            call("warn");
        }
    }

    private void writeAndRead() throws Exception {
        call("write", warning());
        for (int i = 0; i < 5; i++) {
            call("taped", number(0, Math.max(0, model.count(6) - 1)));
        }
        if (random.nextInt(3) == 0) {
            call("end", number(0, Math.max(0, model.count(6))));
        }
        if (random.nextInt(3) == 0) {
            call("read");
            call("fault");
        }
    }

    private void feedAndEnd() throws Exception {
        call("feed", random.nextInt(), random.nextInt(), random.nextInt(), random.nextInt(), random.nextInt());
        call("end", number(0, model.count(6)));
        call("taped", number(0, model.count(6)));
    }

    private void readText() throws Exception {
        String text = text();
        call("end", 0);
        for (int i = 0; i < text.length(); i += 20) {
            Object[] five = new Object[5];
            for (int k = 0; k < 5; k++) {
                int n = 0;
                for (int b = 4 * k; b < 4 * k + 4; b++) {
                    n = n << 8 | (i + b < text.length() ? text.charAt(i + b) : 0);
                }
                five[k] = n;
            }
            call("feed", five);
        }
        call("end", text.length());
        call("read");
        call("fault");
        call("count", 6);
    }

    private String blanks() {
        return " ".repeat(random.nextInt(6) == 0 ? random.nextInt(3) : 0);
    }

    private String text() {
        int corners = random.nextInt(12) == 0 ? 36 + random.nextInt(7) : 2 + random.nextInt(6);
        StringBuilder s = new StringBuilder(blanks() + "ring ");
        for (int i = 0; i < corners; i++) {
            s.append(i > 0 ? "," : "").append(blanks()).append(written(20)).append(' ').append(blanks());
            s.append(written(14)).append(blanks());
        }
        s.append(random.nextBoolean() ? " end" : "end").append(blanks());
        if (random.nextInt(3) == 0) {
            spoil(s);
        }
        return s.length() > 400 ? s.substring(0, 400) : s.toString();
    }

    private String written(int most) {
        int n = random.nextInt(40) == 0 ? most + 1 : random.nextInt(most + 1);
        return (random.nextInt(20) == 0 ? "0" : "") + n;
    }

    private void spoil(StringBuilder s) {
        int at = random.nextInt(s.length());
        switch (random.nextInt(4)) {
            case 0 -> s.deleteCharAt(at);
            case 1 -> s.insert(at, " ,0a9end".charAt(random.nextInt(8)));
            case 2 -> s.setCharAt(at, (char) random.nextInt(256));
            default -> s.setLength(at);
        }
    }

    private void call(String name, Object... values) throws Exception {
        if (!same || told.size() >= CALLS) {
            return;
        }
        String got = answer(patrol, name, values);
        String due = answer(model, name, values);
        told.add(name + java.util.Arrays.toString(values) + " -> " + got);
        if (!got.equals(due)) {
            same = false;
            told.forEach(System.out::println);
            System.out.println("due is " + due);
        }
    }

    private static String answer(Object object, String name, Object[] values) throws Exception {
        for (Method m : object.getClass().getDeclaredMethods()) {
            if (m.getName().equals(name) && java.lang.reflect.Modifier.isPublic(m.getModifiers())) {
                try {
                    return String.valueOf(m.invoke(object, values));
                } catch (InvocationTargetException e) {
                    return "throws " + Check.thrown(e.getCause());
                }
            }
        }
        throw new IllegalStateException("no method " + name);
    }
}
