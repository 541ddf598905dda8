import java.lang.reflect.Constructor;
import java.lang.reflect.Field;
import java.lang.reflect.Method;
import java.lang.reflect.Modifier;
import java.util.ArrayList;
import java.util.Arrays;
import java.util.List;
import java.util.Set;
import java.util.TreeSet;
import java.util.stream.Collectors;

/** "The public face" of the document, name by name, and what of LANGUAGE.md can be seen in the class as it was compiled. */
public final class FaceTest {
    private static final String[] FACE = {
        "int path(int, int, int)", "int walk(int, int)", "int constable(int, int, int)", "int feed(int, int, int, int, int)",
        "boolean end(int)", "int fault(int)", "int beat()", "int beaten(int, int)", "boolean begin(int, int)",
        "boolean draw(int, int, int)", "boolean ill(int, boolean)", "int tick(int)", "int about(int, int)", "int was(int, int)",
        "int point(int, int, int)", "boolean cause(int, int)", "int causes(int, int)", "int find(int, int, int, int, int)",
        "int act(int)", "int force(int, int)", "int sighting(int, int)", "int should(int, int)", "int heard(int)", "int open(int)",
        "boolean need(int, int)", "boolean want(int, int)", "int state(int, int, int, boolean)", "int withdraw(int)",
        "int fact(int, int, int)", "int cased(int, int, int)", "int story(int, int, int)", "int next(int)", "int good(boolean, int)",
        "boolean least(int)", "int joining()", "int joined(int)", "int rivals(int)", "int sure(int)", "int watch(int, int, int)",
        "int sees(int, int)", "int safe(int)", "int share(int, int)", "int fair(int, int, int)", "int lending(int)", "int lent(int)",
        "void fairs()", "int pay(int)", "boolean rank(int, int, int)", "int ranked(int, int, int)", "int paid(int, int, int)",
        "int book()", "int line(int, int)", "boolean mark(int, int, int)", "boolean size(int)", "int habit(int, int)",
        "int complain(int, int, int, int)", "int count(int)"};

    public static void main(String[] args) throws IllegalAccessException {
        theClass();
        methods();
        fields();
        classesInside();
        Due.finish("FaceTest");
    }

    private static void holds(String what, boolean is) {
        Due.due(what, is, true);
    }

    private static void theClass() {
        Class<?> face = CountyWatch.class;
        holds("the class is public", Modifier.isPublic(face.getModifiers()));
        holds("the class is final", Modifier.isFinal(face.getModifiers()));
        holds("the class has no package", face.getPackageName().isEmpty());
        holds("the class has no class above it", face.getSuperclass() == Object.class && face.getInterfaces().length == 0);
        Constructor<?>[] makers = face.getDeclaredConstructors();
        Due.due("constructors", makers.length, 1);
        holds("the constructor is public", Modifier.isPublic(makers[0].getModifiers()));
        Due.due("what the constructor is told", makers[0].getParameterCount(), 0);
        Due.due("what the constructor throws", makers[0].getExceptionTypes().length, 0);
    }

    private static String written(Method method) {
        String told = Arrays.stream(method.getParameterTypes()).map(Class::getName).collect(Collectors.joining(", "));
        return method.getReturnType().getName() + " " + method.getName() + "(" + told + ")";
    }

    private static void methods() {
        Set<String> left = new TreeSet<>(Arrays.asList(FACE));
        Due.due("methods of the document", left.size(), 57);
        for (Method method : CountyWatch.class.getDeclaredMethods()) {
            if (Modifier.isPrivate(method.getModifiers())) {
                continue;
            }
            String name = written(method);
            holds(name + " is of the document", left.remove(name));
            Due.due(name + " is public, and nothing else", method.getModifiers(), Modifier.PUBLIC);
            boolean may = name.startsWith("int about(");
            List<Class<?>> thrown = Arrays.asList(method.getExceptionTypes());
            holds(name + " throws", may ? thrown.equals(List.of(java.util.NoSuchElementException.class)) : thrown.isEmpty());
        }
        holds("not there: " + left, left.isEmpty());
    }

    private static void fields() throws IllegalAccessException {
        List<String> seen = new ArrayList<>();
        for (Field field : CountyWatch.class.getDeclaredFields()) {
            if (!Modifier.isPrivate(field.getModifiers())) {
                int all = Modifier.PUBLIC | Modifier.STATIC | Modifier.FINAL;
                Due.due(field.getName() + " is public, static and final", field.getModifiers(), all);
                holds(field.getName() + " is an int", field.getType() == int.class);
                seen.add(field.getName() + " = " + field.getInt(null));
            }
        }
        holds("constants " + seen, seen.equals(List.of("NONE = -1", "HIDDEN = -1000000")));
    }

    private static void classesInside() {
        Class<?>[] inside = CountyWatch.class.getDeclaredClasses();
        holds("some twelve classes", inside.length + 1 <= 12);
        for (Class<?> one : inside) {
            holds(one + " is static", Modifier.isStatic(one.getModifiers()));
            holds(one + " is private or package-visible", !Modifier.isPublic(one.getModifiers() & ~Modifier.PRIVATE));
            holds(one + " is not protected", !Modifier.isProtected(one.getModifiers()));
        }
        List<Class<?>> all = new ArrayList<>(Arrays.asList(inside));
        all.add(CountyWatch.class);
        for (Class<?> one : all) {
            keepsToTheRules(one);
        }
    }

    private static void keepsToTheRules(Class<?> one) {
        Set<String> face = Arrays.stream(FACE).map(f -> f.substring(f.indexOf(' ') + 1, f.indexOf('('))).collect(Collectors.toSet());
        int own = 0;
        for (Field field : one.getDeclaredFields()) {
            boolean isStatic = Modifier.isStatic(field.getModifiers());
            holds(one + "." + field.getName() + ": static fields are final", !isStatic || Modifier.isFinal(field.getModifiers()));
            own += isStatic ? 0 : 1;
        }
        holds(one + " has some twenty fields: " + own, own <= 20);
        for (Method method : one.getDeclaredMethods()) {
            String name = one.getName() + "." + method.getName();
            holds(name + " takes seven parameters at most", method.getParameterCount() <= 7);
            boolean ofTheFace = Modifier.isPublic(method.getModifiers());
            holds(name + " bears no name of the face", ofTheFace || !face.contains(method.getName()));
            holds(name + " is no lambda", !method.isSynthetic());
        }
    }
}
