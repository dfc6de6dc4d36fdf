import java.lang.reflect.Constructor;
import java.lang.reflect.Field;
import java.lang.reflect.Member;
import java.lang.reflect.Method;
import java.lang.reflect.Modifier;
import java.util.ArrayList;
import java.util.Arrays;
import java.util.List;
import java.util.Set;
import java.util.TreeSet;
import java.util.stream.Collectors;

/** The class has the document's face and no other member that can be seen, and no name of it stands a second time. */
public final class FaceTest {
    private static final String[] FACE = {
        "int days(int)", "boolean view(int)", "int feed(long,long,long)", "int law()", "int wish(int)",
        "boolean withdraw(int)", "boolean house(int,int)", "int allowed(int)", "int rule(int)", "int line(int,int)",
        "int look(int,int)", "int ground(int)", "int held(int,int)", "int group(int,int)", "int clash(int,int)",
        "int together(int)", "int least(int)", "int leastSet(int,int)", "int draft(int,int)", "int why(int,int,int)",
        "boolean vote(int,int,boolean)", "int votes(int)", "int favour(int,int)", "int gain(int)", "int world(int)",
        "int cases(int,int)", "int blamed(int,int)", "int idle(int)", "int fewest(int)", "int beside(int,int)",
        "int count(int)"};

    public static void main(String[] args) {
        List<String> wrong = new ArrayList<>();
        Class<?> face = WishRoom.class;
        if (!Modifier.isFinal(face.getModifiers()) || !Modifier.isPublic(face.getModifiers())) {
            wrong.add("the class is not public and final");
        }
        Set<String> seen = new TreeSet<>();
        Set<String> names = new TreeSet<>();
        for (Method method : face.getDeclaredMethods()) {
            if (Modifier.isPublic(method.getModifiers())) {
                seen.add(shown(method));
                names.add(method.getName());
            }
        }
        if (!seen.equals(new TreeSet<>(Arrays.asList(FACE)))) {
            wrong.add("the public methods are " + seen);
        }
        checkMembers(face, wrong);
        checkNames(face, names, wrong);
        for (Class<?> inside : face.getDeclaredClasses()) {
            checkNames(inside, names, wrong);
            checkStatics(inside, wrong);
            if (!Modifier.isStatic(inside.getModifiers()) || Modifier.isPublic(inside.getModifiers())) {
                wrong.add(inside + " is not static, or public");
            }
        }
        checkStatics(face, wrong);
        wrong.forEach(System.out::println);
        System.out.println("the face: " + wrong.size() + " wrong");
        if (!wrong.isEmpty()) {
            System.exit(1);
        }
    }

    private static String shown(Method method) {
        return method.getReturnType().getName() + " " + method.getName() + "("
            + Arrays.stream(method.getParameterTypes()).map(Class::getName).collect(Collectors.joining(",")) + ")";
    }

    private static boolean isHidden(Member member) {
        return Modifier.isPrivate(member.getModifiers()) || member.isSynthetic();
    }

    private static void checkMembers(Class<?> face, List<String> wrong) {
        for (Constructor<?> made : face.getDeclaredConstructors()) {
            if (made.getParameterCount() != 0 || !Modifier.isPublic(made.getModifiers())) {
                wrong.add("a constructor that is not the document's: " + made);
            }
        }
        for (Field field : face.getDeclaredFields()) {
            if (!isHidden(field) && !field.getName().equals("NONE")) {
                wrong.add("a field that can be seen: " + field);
            }
        }
        for (Method method : face.getDeclaredMethods()) {
            if (!isHidden(method) && !Modifier.isPublic(method.getModifiers())) {
                wrong.add("a method that can be seen: " + method);
            }
        }
    }

    private static void checkNames(Class<?> type, Set<String> names, List<String> wrong) {
        for (Method method : type.getDeclaredMethods()) {
            boolean ofTheFace = type == WishRoom.class && Modifier.isPublic(method.getModifiers());
            if (!ofTheFace && names.contains(method.getName())) {
                wrong.add("a name of the face: " + method);
            }
            if (method.getParameterCount() > 7) {
                wrong.add("more than seven parameters: " + method);
            }
        }
    }

    private static void checkStatics(Class<?> type, List<String> wrong) {
        for (Field field : type.getDeclaredFields()) {
            if (Modifier.isStatic(field.getModifiers()) && !Modifier.isFinal(field.getModifiers())) {
                wrong.add("static state: " + field);
            }
        }
    }
}
