import java.lang.reflect.Constructor;
import java.lang.reflect.Field;
import java.lang.reflect.Member;
import java.lang.reflect.Method;
import java.lang.reflect.Modifier;
import java.util.ArrayList;
import java.util.Arrays;
import java.util.HashSet;
import java.util.List;
import java.util.Set;

/** The face is the document's, and nothing of the class besides it can be seen from outside. */
public final class FaceTest {
    private static final String ARGUMENT = "java.lang.IllegalArgumentException";
    private static final String STATE = "java.lang.IllegalStateException";
    private static final String BOUNDS = "java.lang.IndexOutOfBoundsException";
    private static final String P = "public ";
    private static final String[] FACE = {
        P + "void InspectionOffice.setPlan(int,int) throws " + ARGUMENT,
        P + "void InspectionOffice.setWays(boolean,boolean,int) throws " + ARGUMENT,
        P + "boolean InspectionOffice.toggleMark(int) throws " + ARGUMENT,
        P + "int InspectionOffice.record(int,int,long) throws " + ARGUMENT + "," + STATE,
        P + "long InspectionOffice.correct(int,long) throws " + ARGUMENT + "," + STATE,
        P + "int InspectionOffice.strike(int) throws " + STATE,
        P + "int InspectionOffice.lots()",
        P + "int InspectionOffice.orderAt(int) throws " + BOUNDS,
        P + "int InspectionOffice.verdict(int) throws " + STATE,
        P + "int InspectionOffice.stateAt(int) throws " + STATE,
        P + "int InspectionOffice.state()",
        P + "boolean InspectionOffice.isSkipping()",
        P + "int InspectionOffice.inspected(int) throws " + STATE,
        P + "int InspectionOffice.badIn(int) throws " + STATE,
        P + "int InspectionOffice.count(int) throws " + ARGUMENT,
        P + "int InspectionOffice.letter(int) throws " + ARGUMENT,
        P + "int InspectionOffice.sample(int,int) throws " + ARGUMENT,
        P + "int InspectionOffice.accepting(int,int) throws " + ARGUMENT,
        P + "long InspectionOffice.samples(int,int) throws " + ARGUMENT,
        P + "long InspectionOffice.accepted(int,int,int,int) throws " + ARGUMENT,
        P + "long InspectionOffice.acceptedByListing(int,int,int,int) throws " + ARGUMENT,
        P + "long InspectionOffice.acceptedTwice(int,int,int,int) throws " + ARGUMENT,
    };

    private FaceTest() {
    }

    public static void main(String[] args) {
        Class<InspectionOffice> office = InspectionOffice.class;
        Check.due("public and final", Modifier.PUBLIC | Modifier.FINAL, office.getModifiers());
        constructors(office);
        methods(office);
        for (Field field : office.getDeclaredFields()) {
            duePrivate(field);
            Check.due(field + " is final if static", true,
                    !Modifier.isStatic(field.getModifiers())
                    || Modifier.isFinal(field.getModifiers()));
        }
        for (Class<?> inside : office.getDeclaredClasses()) {
            Check.due(inside + " is static", true, Modifier.isStatic(inside.getModifiers()));
            Check.due(inside + " is public", false, Modifier.isPublic(inside.getModifiers()));
        }
        Check.end();
    }

    private static void duePrivate(Member member) {
        Check.due(member + " is private", true, Modifier.isPrivate(member.getModifiers()));
    }

    private static void constructors(Class<?> office) {
        Constructor<?>[] all = office.getDeclaredConstructors();
        Check.due("constructors", 1, all.length);
        Check.due(all[0].toString(), true,
                all[0].toString().equals("public InspectionOffice()"));
    }

    private static void methods(Class<?> office) {
        List<String> seen = new ArrayList<>();
        Set<String> publicNames = new HashSet<>();
        for (Method method : office.getMethods()) {
            if (method.getDeclaringClass() == office) {
                seen.add(method.toString());
                publicNames.add(method.getName());
            }
        }
        List<String> face = Arrays.asList(FACE);
        Check.due("no more methods than " + face, true, face.containsAll(seen));
        Check.due("all methods of " + face, true, seen.containsAll(face));
        for (Method method : office.getDeclaredMethods()) {
            if (!face.contains(method.toString())) {
                duePrivate(method);
                Check.due(method + " has a name of its own", false,
                        publicNames.contains(method.getName()));
            }
        }
    }
}
