import java.lang.reflect.Constructor;
import java.lang.reflect.Field;
import java.lang.reflect.Method;
import java.lang.reflect.Modifier;
import java.util.Arrays;
import java.util.HashSet;
import java.util.List;
import java.util.NoSuchElementException;
import java.util.Set;
import java.util.TreeSet;
import java.util.regex.Matcher;
import java.util.regex.Pattern;

/** The face is the document's and no more; promise 1: what a new object answers. */
public final class FaceTest {
    private static final Pattern METHOD = Pattern.compile("public (\\w+ \\w+)\\(([^)]*)\\)");
    private static final List<String> FACE = List.of(
            "int feed(int,int,int,int,int)", "int customs(int)", "int fault(int)", "int grade(int)",
            "int kind(int,int,int,int,int)", "int man(int)", "int boulder(int,int,int)",
            "boolean share(int,int,int,int)", "int bid(int,int,int)", "int open(int)", "int sale(int)",
            "int cut(int)", "int sell(int)", "int look(int,int)", "int parts(int,int)", "int purse(int)",
            "long rest(int,int)", "long best(int,int)", "long likely(int,int,int)", "int count(int)");

    public static void main(String[] args) {
        documentsFace();
        methods();
        declaredExceptions();
        fieldsAndConstructors();
        newObject();
        twoObjectsShareNothing();
        Check.end();
    }

    private static void documentsFace() {
        Edge.says("The public face", "public final class StoneHall { public static final int NONE = -1; public StoneHall();");
        String section = Edge.section("The public face");
        Set<String> told = new TreeSet<>();
        Matcher method = METHOD.matcher(section);
        while (method.find()) {
            String types = method.group(2).replaceAll(" \\w+(?=,|$)", "").replace(", ", ",");
            told.add(method.group(1) + "(" + types + ")");
        }
        Edge.due("these methods: " + told, section.isEmpty() || told.equals(new TreeSet<>(FACE)), true);
    }

    private static void declaredExceptions() {
        Edge.says("The public face", "public int look(int boulder, int what) throws IndexOutOfBoundsException, NoSuchElementException;");
        for (Method m : StoneHall.class.getDeclaredMethods()) {
            List<Class<?>> due = m.getName().equals("look")
                    ? List.of(IndexOutOfBoundsException.class, NoSuchElementException.class) : List.of();
            Edge.due("exceptions of " + m.getName(), Arrays.asList(m.getExceptionTypes()).equals(due), true);
        }
    }

    private static void methods() {
        Set<String> open = new TreeSet<>();
        Set<String> openNames = new HashSet<>();
        Set<String> privateNames = new HashSet<>();
        for (Method m : StoneHall.class.getDeclaredMethods()) {
            if (Modifier.isPrivate(m.getModifiers())) {
                privateNames.add(m.getName());
                continue;
            }
            StringBuilder text = new StringBuilder(m.getReturnType().getName()).append(' ').append(m.getName()).append('(');
            for (int i = 0; i < m.getParameterCount(); i++) {
                text.append(i == 0 ? "" : ",").append(m.getParameterTypes()[i].getName());
            }
            open.add(text.append(')').toString());
            openNames.add(m.getName());
            Check.due(m + " is public and not static", m.getModifiers(), Modifier.PUBLIC);
        }
        Check.due("the methods of the face: " + open, open.equals(new TreeSet<>(FACE)), true);
        privateNames.retainAll(openNames);
        Check.due("private methods with a public one's name: " + privateNames, privateNames.size(), 0);
    }

    private static void fieldsAndConstructors() {
        Check.due("modifiers of the class", StoneHall.class.getModifiers(), Modifier.PUBLIC | Modifier.FINAL);
        for (Field f : StoneHall.class.getDeclaredFields()) {
            boolean constant = f.getName().equals("NONE");
            Check.due(f + " is private", Modifier.isPrivate(f.getModifiers()), !constant);
            if (Modifier.isStatic(f.getModifiers())) {
                Check.due(f + " is final", Modifier.isFinal(f.getModifiers()), true);
            }
        }
        Check.due("NONE", StoneHall.NONE, -1);
        Constructor<?>[] all = StoneHall.class.getDeclaredConstructors();
        Check.due("constructors: " + Arrays.toString(all), all.length, 1);
        Check.due("the constructor is public", Modifier.isPublic(all[0].getModifiers()), true);
        Check.due("its parameters", all[0].getParameterCount(), 0);
        for (Class<?> inner : StoneHall.class.getDeclaredClasses()) {
            Check.due(inner + " is static", Modifier.isStatic(inner.getModifiers()), true);
            Check.due(inner + " is public", Modifier.isPublic(inner.getModifiers()), false);
        }
    }

    private static void newObject() {
        StoneHall x = new StoneHall();
        for (int what = 0; what <= 4; what++) {
            Check.due("count(" + what + ")", x.count(what), 0);
        }
        Check.due("fault(0)", x.fault(0), 0);
        Check.due("fault(1)", x.fault(1), -1);
        Check.due("fault(2)", x.fault(2), -1);
        Check.due("sale(0)", x.sale(0), -1);
        Check.due("customs(1)", x.customs(1), -2);
        Check.due("purse(0)", x.purse(0), -1);
        Check.due("parts(0, 0)", x.parts(0, 0), -1);
        Check.due("look(0, 0)", Check.look(x, 0, 0), -101);
        Check.due("share", x.share(0, 0, 1, 1), false);
        Check.due("bid", x.bid(0, 0, 1), -1);
        Check.due("open", x.open(0), -2);
        Check.due("cut", x.cut(0), -1);
        Check.due("sell", x.sell(0), -1);
        Check.due("rest", x.rest(0, 0), -1);
        Check.due("best", x.best(0, 0), Check.NO_BEST);
        Check.due("likely", x.likely(0, 0, 0), -1);
        Check.due("kind without grades", x.kind(1, 16, 0, 0, 0), -1);
        Check.due("customs(0)", x.customs(0), 0);
        Check.due("feed", x.feed(0, 0, 0, 0, 0), 20);
    }

    private static void twoObjectsShareNothing() {
        StoneHall a = new StoneHall();
        StoneHall b = new StoneHall();
        a.grade(5);
        a.man(7);
        a.feed(0, 0, 0, 0, 0);
        Check.customs(a, "tax");
        Check.due("grades of the other", b.count(0), 0);
        Check.due("men of the other", b.count(2), 0);
        Check.due("tape of the other", b.customs(1), -2);
        Check.due("fault of the other", b.fault(0), 0);
    }
}
