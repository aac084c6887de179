import java.lang.reflect.Constructor;
import java.lang.reflect.Field;
import java.lang.reflect.Method;
import java.lang.reflect.Modifier;
import java.util.Set;
import java.util.TreeSet;

/** The public face: just the members that the document lists, and nothing else that can be seen. */
public final class FaceTest {
    private static final Check c = new Check("FaceTest");

    private static final String[] METHODS = {
        "int join()", "int issue(int,int)", "int setMilk(int,int)", "int setLitersPerShare(int)",
        "int setTreasuryLimit(int)", "int memberCount()", "int shares(int)", "long account(int)",
        "int requirement(int)", "int freeShares(int)", "int room(int)", "int allShares()", "int treasury()",
        "int setBooks(int,int)", "int addSurplus(int)", "int valuate()", "int price()", "int parValue()",
        "int offer(int,int,int,int)", "int claim(int,int,int)", "int withdraw(int)", "int passDays(int)",
        "int offerCount()", "int stage(int)", "int remaining(int)", "int daysLeft(int)", "int sold(int,int)",
        "int claimOf(int,int)", "int setVoting(int,int)", "int propose(int,int)", "int vote(int,int,int)",
        "int closeMotion(int)", "int votes(int)", "int motionState(int)", "int votesFor(int)", "int day()",
        "int historySize()", "int undo()"
    };
    private static final String[] CONSTANTS = {"INVALID_ARGUMENT", "ILLEGAL_STATE", "CAPACITY_EXCEEDED", "NONE"};

    public static void main(String[] args) {
        Class<?> face = DairyShares.class;
        c.holds("public and final", Modifier.isPublic(face.getModifiers()) && Modifier.isFinal(face.getModifiers()));
        methods(face);
        constants(face);
        Constructor<?>[] made = face.getDeclaredConstructors();
        c.due("one constructor", made.length, 1);
        c.holds("public, without arguments", Modifier.isPublic(made[0].getModifiers()) && made[0].getParameterCount() == 0);
        for (Class<?> inside : face.getDeclaredClasses()) {
            int how = inside.getModifiers();
            c.holds(inside + " is static and not public",
                Modifier.isStatic(how) && !Modifier.isPublic(how) && !Modifier.isProtected(how));
        }
        c.end();
    }

    private static void methods(Class<?> face) {
        Set<String> due = new TreeSet<>(Set.of(METHODS));
        Set<String> seen = new TreeSet<>();
        Set<String> hidden = new TreeSet<>();
        for (Method m : face.getDeclaredMethods()) {
            if (Modifier.isPrivate(m.getModifiers())) {
                hidden.add(m.getName());
                continue;
            }
            StringBuilder text = new StringBuilder(m.getReturnType() + " " + m.getName() + "(");
            for (Class<?> p : m.getParameterTypes()) {
                text.append(text.charAt(text.length() - 1) == '(' ? "" : ",").append(p);
            }
            seen.add(text.append(")").toString());
            c.holds(m + " is public and of the object",
                Modifier.isPublic(m.getModifiers()) && !Modifier.isStatic(m.getModifiers()));
        }
        c.holds("methods: " + seen, seen.equals(due));
        for (String line : due) {
            String name = line.substring(line.indexOf(' ') + 1, line.indexOf('('));
            c.holds("no private method named " + name, !hidden.contains(name));
        }
    }

    private static void constants(Class<?> face) {
        Set<String> seen = new TreeSet<>();
        for (Field f : face.getDeclaredFields()) {
            int how = f.getModifiers();
            if (Modifier.isStatic(how)) {
                c.holds(f + " is final", Modifier.isFinal(how));
            }
            if (!Modifier.isPrivate(how)) {
                seen.add(f.getName());
                c.holds(f + " is a constant", Modifier.isPublic(how) && Modifier.isStatic(how) && f.getType() == int.class);
            }
        }
        c.holds("constants: " + seen, seen.equals(new TreeSet<>(Set.of(CONSTANTS))));
    }
}
