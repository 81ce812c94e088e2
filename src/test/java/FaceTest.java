import java.lang.reflect.Constructor;
import java.lang.reflect.Field;
import java.lang.reflect.Method;
import java.lang.reflect.Modifier;
import java.util.Set;
import java.util.TreeSet;

/** The public face is the document's, and there is no other member that can be seen from outside. */
public final class FaceTest {
    private static final Set<String> FACE = Set.of(
        "issue/2", "pass/1", "value/2", "fee/2", "spend/2", "seal/1", "mark/2", "daysLeft/2",
        "lapse/0", "merge/2", "total/1", "paper/2", "count/1");

    public static void main(String[] args) {
        Due due = new Due();
        due.about("face");
        Class<?> office = VoucherOffice.class;
        due.holds("public", Modifier.isPublic(office.getModifiers()));
        due.holds("final", Modifier.isFinal(office.getModifiers()));
        Set<String> seen = new TreeSet<>();
        for (Method method : office.getDeclaredMethods()) {
            boolean open = !Modifier.isPrivate(method.getModifiers());
            if (open) {
                seen.add(method.getName() + "/" + method.getParameterCount());
                due.holds(method + " is public", Modifier.isPublic(method.getModifiers()));
                due.holds(method + " is of the object", !Modifier.isStatic(method.getModifiers()));
                due.holds(method + " answers an int", method.getReturnType() == int.class);
                due.holds(method + " tells no exceptions", method.getExceptionTypes().length == 0);
                for (Class<?> type : method.getParameterTypes()) {
                    due.holds(method + " takes ints", type == int.class);
                }
            }
        }
        due.holds("the methods are " + FACE + ", not " + seen, seen.equals(FACE));
        for (Field field : office.getDeclaredFields()) {
            due.holds(field + " is private", Modifier.isPrivate(field.getModifiers()));
            due.holds(field + " is no static state",
                !Modifier.isStatic(field.getModifiers()) || Modifier.isFinal(field.getModifiers()));
        }
        Constructor<?>[] made = office.getDeclaredConstructors();
        due.is("constructors", made.length, 1);
        due.holds("the constructor is public", Modifier.isPublic(made[0].getModifiers()));
        due.is("its parameters", made[0].getParameterCount(), 0);
        due.end();
    }
}
