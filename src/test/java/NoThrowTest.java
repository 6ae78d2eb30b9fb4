import java.lang.reflect.InvocationTargetException;
import java.lang.reflect.Method;
import java.util.Arrays;
import java.util.Comparator;
import java.util.NoSuchElementException;
import java.util.Random;

/** Whatever the arguments and the state: no call throws, but man() what the document names. */
public final class NoThrowTest {
    private static final int[] EDGES = {Integer.MIN_VALUE, -1000000, -33, -2, -1, 0, 1, 2, 5, 6, 7, 8, 12, 31, 32, 33, 255,
        256, 941, 1000000, Integer.MAX_VALUE};
    private static final String[] TEXTS = {
        "part a 0;part b 3;fact f;fact g;man m 3 1;man n 5 2;man o 4 3;act;scene a b;shows f;act;scene a;act;scene b;",
        "part a 0;part b 0;part c 0;part d 0;part e 0;part f 0;man m 3 1;man n 5 2;man o 4 3;man p 1 1;man q 2 2;"
            + "man r 3 3;man s 4 4;man t 9 9;rest;act;scene a b c;act;scene a b c d e f;act;scene f;foes m n;",
        "best;curtain;best;curtain;", "m as a;n as b;curtain;", "plays or not (sure and skill > 3)", "man man 1 1;", ""};

    public static void main(String[] args) throws Exception {
        Check check = new Check();
        Method[] calls = RecastStage.class.getDeclaredMethods();
        calls = Arrays.stream(calls).filter(m -> java.lang.reflect.Modifier.isPublic(m.getModifiers()))
                .sorted(Comparator.comparing(Method::getName)).toArray(Method[]::new);
        Random random = new Random(11);
        for (int run = 0; run < 170; run++) {
            RecastStage x = Check.stage(TEXTS[random.nextInt(2)]);
            for (int k = 0; k < 340; k++) {
                if (random.nextInt(30) == 0) {
                    x.end(0);
                    Check.tape(x, TEXTS[random.nextInt(TEXTS.length)]);
                }
                one(check, x, calls[random.nextInt(calls.length)], random);
            }
        }
        check.finish();
    }

    private static void one(Check check, RecastStage x, Method call, Random random) throws Exception {
        Object[] values = new Object[call.getParameterCount()];
        for (int k = 0; k < values.length; k++) {
            values[k] = random.nextInt(3) == 0 ? EDGES[random.nextInt(EDGES.length)] : random.nextInt(4);
        }
        String thrown = "nothing";
        try {
            call.invoke(x, values);
        } catch (InvocationTargetException e) {
            boolean named = call.getName().equals("man") && e.getCause() instanceof NoSuchElementException;
            thrown = named ? "nothing" : e.getCause().toString();
        }
        check.row(call.getName() + Arrays.toString(values) + " throws", thrown, "nothing");
    }
}
