import java.lang.reflect.Constructor;
import java.lang.reflect.Field;
import java.lang.reflect.Method;
import java.lang.reflect.Modifier;
import java.util.Arrays;
import java.util.Set;
import java.util.TreeSet;

/** The public face: its constants, its methods, and nothing else that is not private. */
public final class FaceTest {
    private static final Check CHECK = new Check();
    private static final String[] METHODS = {
        "drive(int)", "moveReel(int,boolean)", "moveGenerator(int,boolean)", "fuel(int,int)", "renew(int)",
        "setPrice(int)", "show(int)", "nextDay()", "type(char)", "clearText()", "perform()", "stopped(int)",
        "undo()", "keep()", "restore()", "reel(int,int)", "generator(int,int)", "barn(int,int)", "bestBarn()",
        "ifPrice(int,int)", "showOf(int,int)", "count(int)"};

    public static void main(String[] args) {
        constants();
        methods();
        CHECK.due("public and final", BarnPictures.class.getModifiers(), Modifier.PUBLIC | Modifier.FINAL);
        for (Constructor<?> constructor : BarnPictures.class.getDeclaredConstructors()) {
            CHECK.due("public constructor", constructor.getModifiers(), Modifier.PUBLIC);
            CHECK.due("without arguments", constructor.getParameterCount(), 0);
        }
        CHECK.end();
    }

    private static void constants() {
        CHECK.due("UNKNOWN", BarnPictures.UNKNOWN, -10000001);
        CHECK.due("BAD_VALUE", BarnPictures.BAD_VALUE, -10000002);
        CHECK.due("FULL", BarnPictures.FULL, -10000003);
        CHECK.due("NOT_POSSIBLE", BarnPictures.NOT_POSSIBLE, -10000004);
        CHECK.due("NONE", BarnPictures.NONE, -10000005);
        CHECK.due("NO_SHOW", BarnPictures.NO_SHOW, -10000010);
        int open = 0;
        for (Field field : BarnPictures.class.getDeclaredFields()) {
            if (!Modifier.isPrivate(field.getModifiers())) {
                open++;
                int constant = Modifier.PUBLIC | Modifier.STATIC | Modifier.FINAL;
                CHECK.due("modifiers of " + field.getName(), field.getModifiers(), constant);
            }
        }
        CHECK.due("constants", open, 6);
    }

    private static void methods() {
        Set<String> open = new TreeSet<>();
        for (Method method : BarnPictures.class.getDeclaredMethods()) {
            if (!Modifier.isPrivate(method.getModifiers())) {
                StringBuilder types = new StringBuilder();
                for (Class<?> type : method.getParameterTypes()) {
                    types.append(types.length() == 0 ? "" : ",").append(type.getName());
                }
                open.add(method.getName() + "(" + types + ")");
                CHECK.due("modifiers of " + method.getName(), method.getModifiers(), Modifier.PUBLIC);
                CHECK.due("an int of " + method.getName(), method.getReturnType() == int.class ? 1 : 0, 1);
            }
        }
        Set<String> due = new TreeSet<>(Arrays.asList(METHODS));
        CHECK.due("the methods " + open, open.equals(due) ? 1 : 0, 1);
    }
}
