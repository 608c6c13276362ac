import java.lang.reflect.Constructor;
import java.lang.reflect.Field;
import java.lang.reflect.Method;
import java.lang.reflect.Modifier;
import java.util.Arrays;
import java.util.Set;
import java.util.TreeSet;

/** The class shows the document's face and nothing more. */
public final class FaceTest {
    private static final String[] METHODS = {
        "int feed(int)", "int end(int)", "int text()", "int fault()", "int rule(int)", "int law(int,int)",
        "int worth(int)", "int write(int,boolean)", "int home(int,boolean)", "int stop(int,boolean)",
        "int need(int,int,boolean)", "int bar(int,int,boolean)", "int pay(int,int)", "int cut(int)",
        "int brings(int)", "int day(int)", "int round(int,int)", "int days(int)", "int first()", "int less()",
        "int begins(int)", "int pure(int)", "int wrote(int,int)", "int could(int)", "int fewest(int,boolean,int)",
        "int police(int,int)", "int comes()", "int richest(int)", "long odds(int,int,int)", "long none(int,int)",
        "long mean(int,int)", "int see(int,boolean)", "int forget(int)", "int fits(int)", "int ask(int)",
        "int drift(int,int,int)", "int keep(int)", "int back(int)", "int sheet(int,int,int)", "int lay(int,int,int)",
        "int read(int,int,int,int)", "int torn()", "int count(int)"};
    private static int wrong = 0;

    private static void check(boolean right, String what) {
        if (!right) {
            wrong++;
            System.out.println("FaceTest: " + what);
        }
    }

    private static String signature(Method m) {
        StringBuilder s = new StringBuilder(m.getReturnType().getName() + " " + m.getName() + "(");
        for (int i = 0; i < m.getParameterCount(); i++) {
            s.append(i == 0 ? "" : ",").append(m.getParameterTypes()[i].getName());
        }
        return s.append(")").toString();
    }

    public static void main(String[] args) {
        Class<?> c = YesterStreet.class;
        check(Modifier.isPublic(c.getModifiers()) && Modifier.isFinal(c.getModifiers()), "public and final");
        Set<String> shown = new TreeSet<>(), names = new TreeSet<>();
        for (Method m : c.getDeclaredMethods()) {
            if (Modifier.isPrivate(m.getModifiers())) continue;
            check(Modifier.isPublic(m.getModifiers()) && !Modifier.isStatic(m.getModifiers()), m + " is neither");
            shown.add(signature(m));
            names.add(m.getName());
        }
        Set<String> due = new TreeSet<>(Arrays.asList(METHODS));
        check(METHODS.length == 43 && shown.equals(due), "the methods are " + shown + ", due are " + due);
        constants(c);
        Constructor<?>[] makers = c.getDeclaredConstructors();
        check(makers.length == 1 && makers[0].getParameterCount() == 0 && Modifier.isPublic(makers[0].getModifiers()),
            "one public constructor without parameters");
        noNameTwice(c, names);
        for (Class<?> inner : c.getDeclaredClasses()) {
            check(Modifier.isStatic(inner.getModifiers()) && !Modifier.isPublic(inner.getModifiers()), inner + " is shown");
            noNameTwice(inner, names);
        }
        System.out.println(wrong == 0 ? "FaceTest: the face is as due" : "FaceTest: " + wrong + " wrong");
        if (wrong != 0) System.exit(1);
    }

    private static void constants(Class<?> c) {
        Set<String> shown = new TreeSet<>();
        for (Field f : c.getDeclaredFields()) {
            check(!Modifier.isStatic(f.getModifiers()) || Modifier.isFinal(f.getModifiers()), f + " is static, not final");
            if (!Modifier.isPrivate(f.getModifiers())) shown.add(Modifier.toString(f.getModifiers()) + " " + f.getType() + " " + f.getName());
        }
        String head = "public static final int ";
        check(shown.equals(new TreeSet<>(Arrays.asList(head + "BAD", head + "STATE", head + "FULL", head + "NONE"))),
            "the constants are " + shown);
        check(YesterStreet.BAD == -1 && YesterStreet.STATE == -2 && YesterStreet.FULL == -3 && YesterStreet.NONE == -4,
            "the constants' values");
    }

    private static void noNameTwice(Class<?> c, Set<String> publicNames) {
        for (Method m : c.getDeclaredMethods()) {
            check(Modifier.isPublic(m.getModifiers()) || !publicNames.contains(m.getName()),
                m + " bears the name of a public one");
        }
    }
}
