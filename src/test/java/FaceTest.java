import java.lang.reflect.Constructor;
import java.lang.reflect.Field;
import java.lang.reflect.Method;
import java.lang.reflect.Modifier;
import java.util.ArrayList;
import java.util.Arrays;
import java.util.Collections;
import java.util.List;

/** The public face as the document prints it, and nothing else that others could reach. */
final class FaceTest {
    private static final String I = " IllegalArgumentException";
    private static final String X = " IndexOutOfBoundsException";
    private static final String U = " UnsupportedOperationException";
    private static final String N = " NoSuchElementException";
    private static final String S = " IllegalStateException";
    private static final String A = " ArithmeticException";

    private static final String[] FACE = {
        "int inflow(int)" + I, "int fine(int)" + I, "int gate(int)" + I + U,
        "int garden(int,int,int,int)" + X + I + U, "int open(int,int,int,boolean)" + X + I,
        "int pay(int,int)" + X + I, "boolean thief(int,boolean)" + X, "int complain(int,int)" + X + I + U,
        "int repair(int)" + X + U, "int pass(int)" + I, "int gateOf(int,int)" + X + I, "int nextOpen(int)" + X + N,
        "int gardenOf(int,int)" + X + I, "int thirsty(int,int)" + X + N, "int placeAgain(int)" + X,
        "int complaint(int,boolean)" + N, "char sign(int)" + X, "int part(int,int)" + X, "int ahead(int,int)" + X + I,
        "int dryIn()" + N, "int bestHour(int)" + X + N, "int append(char)" + S, "int read()" + I + U,
        "int errorPosition()", "int refusal(boolean)" + N, "int account(int)" + I, "boolean isWell()",
        "float share()" + A, "double meanThirst()" + A, "int undo()" + S, "int save()", "int restore()" + S
    };

    private FaceTest() {
    }

    public static void main(String[] args) {
        Script.check("the class is public and final",
                AcequiaGates.class.getModifiers() == (Modifier.PUBLIC | Modifier.FINAL));
        Constructor<?>[] constructors = AcequiaGates.class.getDeclaredConstructors();
        Script.check("one public constructor without exceptions", constructors.length == 1
                && Modifier.isPublic(constructors[0].getModifiers()) && constructors[0].getParameterCount() == 0
                && constructors[0].getExceptionTypes().length == 0);
        List<String> due = new ArrayList<>(Arrays.asList(FACE));
        List<String> got = new ArrayList<>();
        List<String> names = new ArrayList<>();
        List<String> hidden = new ArrayList<>();
        for (Method method : AcequiaGates.class.getDeclaredMethods()) {
            if (Modifier.isPrivate(method.getModifiers())) {
                hidden.add(method.getName());
            } else {
                got.add(told(method));
                names.add(method.getName());
            }
        }
        Collections.sort(due);
        Collections.sort(got);
        Script.check("the methods are those of the document: " + got, got.equals(due));
        Script.check("the document prints the same: " + Doc.face(), !Doc.isHere() || printed().equals(due));
        Script.check("no private method has the name of a public one", Collections.disjoint(hidden, names));
        for (Field field : AcequiaGates.class.getDeclaredFields()) {
            Script.check("the field is private: " + field.getName(), Modifier.isPrivate(field.getModifiers()));
        }
        Script.close("FaceTest");
    }

    /** The methods of the document's print, written as this test writes them. */
    private static List<String> printed() {
        List<String> printed = new ArrayList<>();
        for (String line : Doc.face()) {
            if (!line.equals("public AcequiaGates();")) {
                String[] parts = line.substring("public ".length(), line.length() - 1).split(" throws ");
                String types = parts[0].replaceAll(" \\w+(?=[,)])", "").replace(", ", ",");
                printed.add(parts.length == 1 ? types : types + " " + parts[1].replace(",", ""));
            }
        }
        Collections.sort(printed);
        return printed;
    }

    private static String told(Method method) {
        StringBuilder text = new StringBuilder(method.getReturnType().getName());
        text.append(' ').append(method.getName()).append('(');
        for (int i = 0; i < method.getParameterCount(); i++) {
            text.append(i > 0 ? "," : "").append(method.getParameterTypes()[i].getName());
        }
        text.append(')');
        for (Class<?> type : method.getExceptionTypes()) {
            text.append(' ').append(type.getSimpleName());
        }
        return text.toString();
    }
}
