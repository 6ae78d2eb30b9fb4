import java.lang.reflect.Constructor;
import java.lang.reflect.Field;
import java.lang.reflect.Method;
import java.lang.reflect.Modifier;
import java.util.ArrayList;
import java.util.Arrays;
import java.util.Collections;
import java.util.List;

/** The face: just the document's members can be seen, and no private method bears the name of a public one. */
public final class FaceTest {
    private static final String[] METHODS = {"int feed 5", "boolean end 1", "int play 0", "int fault 0", "int part 2",
        "int man 2", "int act 2", "int scene 2", "int now 1", "int why 2", "int cast 2", "int drop 1", "int curtain 0",
        "boolean whisper 2", "int undo 0", "int best 0", "int bestAs 1", "int casts 0", "int bowed 1", "int surely 0",
        "int lacks 0", "int least 0", "int whispers 0", "int suspects 1", "int sure 0", "int tells 1", "int prices 0",
        "int price 1", "int wants 1", "int goesOn 0", "int joy 0", "int favourite 1", "int drawn 1", "int odds 2",
        "int book 1", "int booked 1", "int sentence 0", "int said 1", "boolean image 1", "boolean restore 1",
        "int count 1"};

    public static void main(String[] args) throws Exception {
        Check check = new Check();
        Class<?> face = RecastStage.class;
        check.due("public and final", face.getModifiers(), Modifier.PUBLIC | Modifier.FINAL);
        check.due("NONE", RecastStage.NONE, -1);

        List<String> seen = new ArrayList<>();
        List<String> publicNames = new ArrayList<>();
        List<String> privateNames = new ArrayList<>();
        for (Method method : face.getDeclaredMethods()) {
            if (Modifier.isPrivate(method.getModifiers())) {
                privateNames.add(method.getName());
                continue;
            }
            check.due(method + " is public alone", method.getModifiers(), Modifier.PUBLIC);
            seen.add(method.getReturnType() + " " + method.getName() + " " + method.getParameterCount());
            publicNames.add(method.getName());
            for (Class<?> type : method.getParameterTypes()) {
                check.due(method + " takes ints", type == int.class, true);
            }
        }
        List<String> wanted = new ArrayList<>(Arrays.asList(METHODS));
        Collections.sort(wanted);
        Collections.sort(seen);
        check.row("methods", seen.toString(), wanted.toString());
        check.due("a private method with a public one's name", Collections.disjoint(publicNames, privateNames), true);

        for (Class<?> inside : face.getDeclaredClasses()) {
            int seenFrom = inside.getModifiers() & (Modifier.PUBLIC | Modifier.PROTECTED);
            check.due(inside + " is private or package-visible", seenFrom, 0);
            check.due(inside + " is static", Modifier.isStatic(inside.getModifiers()), true);
            for (Method method : inside.getDeclaredMethods()) {
                boolean hidden = Modifier.isPrivate(method.getModifiers());
                check.due(method + " has a name of its own", hidden && publicNames.contains(method.getName()), false);
            }
        }
        for (Field field : face.getDeclaredFields()) {
            boolean known = field.getName().equals("NONE") || Modifier.isPrivate(field.getModifiers());
            check.due(field + " is of the face or private", known, true);
        }
        for (Constructor<?> maker : face.getDeclaredConstructors()) {
            check.due(maker + " is the public one", maker.getParameterCount() == 0
                    && Modifier.isPublic(maker.getModifiers()), true);
        }
        check.due("man throws what the document names", face.getMethod("man", int.class, int.class)
                .getExceptionTypes()[0] == java.util.NoSuchElementException.class, true);
        check.finish();
    }
}
