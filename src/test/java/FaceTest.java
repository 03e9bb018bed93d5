import java.lang.reflect.Field;
import java.lang.reflect.Method;
import java.lang.reflect.Modifier;
import java.util.Arrays;
import java.util.Set;
import java.util.TreeSet;

/** The public face is the document's and no more; what LANGUAGE.md says of members holds. */
public final class FaceTest {
    private static final String[] FACE = {
        "int train(int,int,int)", "int of(int,int)", "int price(int,int,int)", "int isBarred(int,int,int,int)", "int held(int,int,int)",
        "int terms(int,int)", "int feed(int,int,int,int,int)", "int end(int)", "int row()", "int delays()", "int law()", "int orders()",
        "int fault()", "int stopped()", "int force(int)", "int buy(int,int,int)", "int ride(int,int)", "int save(int)", "int pass()",
        "int undo()", "int cheapest(int,int,int,int)", "int byAtMost(int,int,int,int)", "int fewest(int,int,int)", "int ways(int,int,int)",
        "int thereAndBack(int,int,int,int)", "int saved(int,int,int)", "int bestTrain(int,int)", "int mostSaved(int,int)", "int purseEnd()",
        "int used(int,int,int)", "int told(int,int)", "int forget()", "int canBe()", "int ask(int)", "long few(int,int)",
        "int compare(int,int,int)", "int months(int,int)", "int drawn(int)", "int image(int)", "int back(int)", "int count(int)", "int status()"};

    private static int wrong = 0;

    public static void main(String[] args) {
        Class<?> office = SplitFares.class;
        check(Modifier.isPublic(office.getModifiers()) && Modifier.isFinal(office.getModifiers()), "the class is public and final");
        check(office.getDeclaredConstructors().length == 1 && Modifier.isPublic(office.getDeclaredConstructors()[0].getModifiers())
            && office.getDeclaredConstructors()[0].getParameterCount() == 0, "one public constructor without parameters");
        Set<String> found = new TreeSet<>();
        Set<String> names = new TreeSet<>();
        for (Method m : office.getDeclaredMethods()) {
            if (!Modifier.isPrivate(m.getModifiers())) {
                check(Modifier.isPublic(m.getModifiers()) && !Modifier.isStatic(m.getModifiers()), m + " is public and no static one");
                String parameters = Arrays.toString(Arrays.stream(m.getParameterTypes()).map(Class::getName).toArray());
                found.add(m.getReturnType() + " " + m.getName() + parameters.replace("[", "(").replace("]", ")").replace(" ", ""));
                names.add(m.getName());
            }
        }
        Set<String> due = new TreeSet<>(Arrays.asList(FACE));
        check(found.equals(due), "the face is " + due + ", it is " + found);
        members(office, names);
        for (Class<?> inside : office.getDeclaredClasses()) {
            int how = inside.getModifiers();
            check(Modifier.isStatic(how) && !Modifier.isPublic(how) && !Modifier.isProtected(how), inside + " is static, private or package-visible");
            members(inside, names);
        }
        check(office.getDeclaredClasses().length <= 12, "some twelve classes");
        System.out.println("FaceTest: " + wrong + " wrong");
        if (wrong != 0) {
            System.exit(1);
        }
    }

    private static void members(Class<?> where, Set<String> publicNames) {
        int fields = 0;
        for (Field f : where.getDeclaredFields()) {
            int how = f.getModifiers();
            if (where == SplitFares.class && !f.getName().equals("NONE")) {
                check(Modifier.isPrivate(how), f + " is private");
            }
            if (Modifier.isStatic(how)) {
                check(Modifier.isFinal(how), f + " is final");
            } else {
                fields++;
            }
        }
        check(fields <= 20, where + " has some twenty fields");
        for (Method m : where.getDeclaredMethods()) {
            check(m.getParameterCount() <= 7, m + " takes seven parameters at most");
            boolean own = where == SplitFares.class && Modifier.isPublic(m.getModifiers());
            check(own || !publicNames.contains(m.getName()), m + " bears no public name");
        }
    }

    private static void check(boolean good, String what) {
        if (!good) {
            wrong++;
            System.out.println("FaceTest: it is not so that " + what);
        }
    }
}
