import java.lang.reflect.Constructor;
import java.lang.reflect.Method;
import java.lang.reflect.Modifier;
import java.util.Arrays;
import java.util.TreeSet;

/** The public face, and every call of it with far numbers: it answers as Model does and throws nothing. */
public final class FaceTest {
    private static final String[] FACE = {
        "int all(1)", "int at(2)", "int back(0)", "int becomes(3)", "long centre(1)", "int clear(0)", "long digest(0)",
        "int drops(1)", "int fits(3)", "int free(2)", "int item(4)", "int keeps(1)", "int lays(3)", "int line(1)",
        "int of(2)", "int off(1)", "int otherwise(2)", "int packs(0)", "int reads(0)", "int sets(2)", "int sheet(2)",
        "int side(1)", "int sorted(2)", "int stays(0)", "int swaps(2)", "int takes(1)", "int tidies(0)", "int told(1)",
        "int type(1)", "int white(1)",
    };
    private static final int[] FAR = {Integer.MIN_VALUE, -1, 0, 1, 7, 8, 16, 1 << 28, Integer.MAX_VALUE};
    /** So that no object is used for more than 512 calls. */
    private static final int MOST_CALLS = 480;

    private static int wrong;
    private static int asked;
    private static PosterSheet sheet;
    private static Model model;
    private static int calls;

    public static void main(String[] args) throws ReflectiveOperationException {
        face();
        for (Method method : PosterSheet.class.getDeclaredMethods()) {
            if (Modifier.isPublic(method.getModifiers())) {
                begin();
                callWithAll(method, new Object[method.getParameterCount()], 0);
            }
        }
        System.out.println(asked + " answers, " + wrong + " not as due");
        if (wrong != 0) {
            System.exit(1);
        }
    }

    private static void due(String what, Object got, Object want) {
        asked++;
        if (!got.equals(want)) {
            wrong++;
            System.out.println(what + " is " + got + ", due is " + want);
        }
    }

    private static void face() throws ReflectiveOperationException {
        TreeSet<String> found = new TreeSet<>();
        for (Method method : PosterSheet.class.getDeclaredMethods()) {
            if (!Modifier.isPrivate(method.getModifiers())) {
                found.add(method.getReturnType() + " " + method.getName() + "(" + method.getParameterCount() + ")");
                for (Class<?> kind : method.getParameterTypes()) {
                    due("a number of " + method.getName(), kind, int.class);
                }
            }
        }
        due("the face", found, new TreeSet<>(Arrays.asList(FACE)));
        String[] constants = {"NONE", "BAD", "NO", "FULL"};
        for (int i = 0; i < constants.length; i++) {
            due(constants[i], PosterSheet.class.getField(constants[i]).get(null), -1 - i);
        }
        due("fields of the face", PosterSheet.class.getFields().length, 4);
        Constructor<?>[] constructors = PosterSheet.class.getDeclaredConstructors();
        due("constructors", constructors.length, 1);
        due("the public constructor", constructors[0].toGenericString(), "public PosterSheet()");
        due("the class", Modifier.toString(PosterSheet.class.getModifiers()), "public final");
    }

    private static void begin() {
        sheet = new PosterSheet();
        model = new Model();
        calls = 0;
        for (int k = 0; k < 7; k++) {
            sheet.item(k % 2, 1 + k % 6, 1 + k % 4, 1 + k % 3);
            model.item(k % 2, 1 + k % 6, 1 + k % 4, 1 + k % 3);
        }
        sheet.packs();
        model.packs();
        sheet.keeps(1);
        model.keeps(1);
    }

    private static void callWithAll(Method method, Object[] numbers, int from) throws ReflectiveOperationException {
        if (from < numbers.length) {
            for (int v : FAR) {
                numbers[from] = v;
                callWithAll(method, numbers, from + 1);
            }
            return;
        }
        if (calls++ >= MOST_CALLS) {
            begin();
        }
        Method due = Model.class.getMethod(method.getName(), method.getParameterTypes());
        String call = method.getName() + Arrays.toString(numbers);
        due(call, method.invoke(sheet, numbers), due.invoke(model, numbers));
        if (calls % 40 == 0) {
            due("digest() behind " + call, sheet.digest(), model.digest());
        }
    }
}
