import java.lang.reflect.Constructor;
import java.lang.reflect.Field;
import java.lang.reflect.Method;
import java.lang.reflect.Modifier;
import java.util.TreeSet;

/** The class has the document's public face and no other member that is not private. */
public final class FaceTest {
    private static final String[] FACE = {
        "NONE", "TombstoneSites(int)", "sites()", "insert(int,int,int)", "erase(int,int)",
        "deliver(int,int,int)", "arrive(int,long)", "sync(int,int)", "code(int,int)",
        "executed(int,int)", "waiting(int)", "place(int,int,int)", "length(int)", "at(int,int)",
        "cells(int)", "cell(int,int)", "stable(int,int)"
    };

    public static void main(String[] args) {
        Sentences face = new Sentences("FaceTest");
        face.holds("the public face", FaceTest::members);
        face.holds("NONE = -1", due -> due.is("NONE", TombstoneSites.NONE, -1));
        face.finish();
    }

    private static void members(Due due) {
        Class<?> c = TombstoneSites.class;
        TreeSet<String> face = new TreeSet<>();
        for (Field f : c.getDeclaredFields()) {
            if (!Modifier.isPrivate(f.getModifiers())) {
                face.add(f.getName());
            }
        }
        for (Constructor<?> k : c.getDeclaredConstructors()) {
            if (!Modifier.isPrivate(k.getModifiers())) {
                face.add(k.getName() + parameters(k.getParameterTypes()));
            }
        }
        for (Method m : c.getDeclaredMethods()) {
            if (!Modifier.isPrivate(m.getModifiers())) {
                face.add(m.getName() + parameters(m.getParameterTypes()));
                Class<?> answer = m.getName().equals("code") ? long.class : int.class;
                due.same(m.getName() + " answers", m.getReturnType().getName(), answer.getName());
            }
        }
        due.same("the face", face.toString(), new TreeSet<>(java.util.List.of(FACE)).toString());
        due.is("the class is public and final", c.getModifiers(), Modifier.PUBLIC | Modifier.FINAL);
    }

    private static String parameters(Class<?>[] types) {
        StringBuilder text = new StringBuilder("(");
        for (int i = 0; i < types.length; i++) {
            text.append(i == 0 ? "" : ",").append(types[i].getName());
        }
        return text.append(")").toString();
    }
}
