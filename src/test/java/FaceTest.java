import java.lang.management.ManagementFactory;
import java.lang.reflect.Constructor;
import java.lang.reflect.Field;
import java.lang.reflect.Method;
import java.lang.reflect.Modifier;
import java.util.Arrays;
import java.util.NoSuchElementException;
import java.util.Random;
import java.util.TreeSet;

/** The face of the class, calls with any numbers, and how much a run makes. */
public final class FaceTest {
    private static final String[] FACE = {"feed int int int int int : int", "end int : boolean", "lake : int", "fault : int",
        "lesson int int : int", "step int int : int", "boat int int : int", "height int : int", "now int : int",
        "show int int : int", "ring int : int", "sail int int : int", "days int : int", "undo : int", "does int int : int",
        "waves int int : int", "dry int : int", "havens int : int", "learnt : int", "surely : int", "never : int",
        "ask : int", "teach int : int", "taught : int", "apart int : int", "lasts int : int", "forgets int : int",
        "pupils int : int", "ice : int", "still int : int", "drawn int int : int", "odds int int int : int",
        "diary int : int", "told int : int", "sentence : int", "said int : int", "image int : boolean",
        "restore int : boolean", "count int : int"};
    private static final String POND = "cells 8;shown 2;keeps 9;nights 4;ice 30 5;cue a;cue b;cue c;cue d;cue e;cue f;"
        + "lesson g a 0 1 1 2 2 3 7 1;lesson h a 0 3 1 2;lesson i a 2 2;lesson j b 5 1 5 1;lesson k b 6 3;lesson l c 1 1;"
        + "lesson m d 3 3;lesson n e;teacher o;teacher p;teacher q;teacher r;boat s 1;boat t 0;boat u 2;boat v 3;"
        + "boat w 4;boat x 7;";

    public static void main(String[] args) throws Exception {
        face();
        anyNumbers();
        small();
        Check.close("FaceTest");
    }

    private static void face() throws Exception {
        TreeSet<String> found = new TreeSet<>();
        for (Method m : LakeLearns.class.getDeclaredMethods()) {
            boolean hidden = Modifier.isPrivate(m.getModifiers());
            if (!hidden && !m.isSynthetic()) {
                StringBuilder text = new StringBuilder(m.getName());
                for (Class<?> p : m.getParameterTypes()) {
                    text.append(' ').append(p);
                }
                found.add(text.append(" : ").append(m.getReturnType()).toString());
                Check.due(m + " is public and no static", m.getModifiers(), Modifier.PUBLIC);
            }
        }
        Check.due("the methods: " + found, found.equals(new TreeSet<>(Arrays.asList(FACE))), true);
        for (Field f : LakeLearns.class.getDeclaredFields()) {
            boolean none = f.getName().equals("NONE");
            Check.due(f + " is private, but for NONE", Modifier.isPrivate(f.getModifiers()), !none);
        }
        Constructor<?>[] makers = LakeLearns.class.getDeclaredConstructors();
        Check.due("one constructor", makers.length, 1);
        Check.due("NONE", LakeLearns.NONE, -1);
        Check.due("the class", LakeLearns.class.getModifiers(), Modifier.PUBLIC | Modifier.FINAL);
    }

    /** Nothing but lesson()'s NoSuchElementException may be thrown, whatever the numbers are. */
    private static void anyNumbers() throws Exception {
        Random random = new Random(7);
        Method[] methods = LakeLearns.class.getDeclaredMethods();
        Arrays.sort(methods, (a, b) -> a.toString().compareTo(b.toString()));
        int[] edges = {-1, 0, 1, 2, 3, 7, 8, 9, 31, 32, 33, 60, 255, 256, -2, Integer.MAX_VALUE, Integer.MIN_VALUE};
        for (int run = 0; run < 300; run++) {
            LakeLearns x = run % 3 == 0 ? new LakeLearns() : Check.lakeOf(POND);
            for (int call = 0; call < 450; call++) {
                Method m = methods[random.nextInt(methods.length)];
                if (!Modifier.isPublic(m.getModifiers()) || m.getName().equals("lake") && random.nextInt(20) > 0) {
                    continue;
                }
                Object[] numbers = new Object[m.getParameterCount()];
                for (int i = 0; i < numbers.length; i++) {
                    numbers[i] = random.nextInt(9) == 0 ? random.nextInt() : edges[random.nextInt(edges.length)];
                }
                Throwable thrown = null;
                try {
                    m.invoke(x, numbers);
                } catch (java.lang.reflect.InvocationTargetException e) {
                    thrown = e.getCause();
                }
                boolean fine = thrown == null || thrown instanceof NoSuchElementException && m.getName().equals("lesson");
                if (!fine) {
                    thrown.printStackTrace(System.out);
                }
                Check.due(m.getName() + Arrays.toString(numbers) + " throws " + thrown, fine, true);
            }
        }
    }

    /** An object is made once; its calls make nothing. */
    private static void small() {
        com.sun.management.ThreadMXBean beans = (com.sun.management.ThreadMXBean) ManagementFactory.getThreadMXBean();
        long id = Thread.currentThread().getId();
        beans.getThreadAllocatedBytes(id);
        long before = beans.getThreadAllocatedBytes(id);
        LakeLearns x = new LakeLearns();
        long made = beans.getThreadAllocatedBytes(id) - before;
        Check.due("bytes of a new object: " + made, made < 40000, true);
        Check.lake(x, POND);
        before = beans.getThreadAllocatedBytes(id);
        for (int i = 0; i < 40; i++) {
            x.odds(0, 30, i);
            x.drawn(1, i);
            x.teach(0);
            x.learnt();
            x.diary(1);
            x.sentence();
            x.image(0);
            x.undo();
            x.restore(0);
            x.lake();
        }
        made = beans.getThreadAllocatedBytes(id) - before;
        Check.due("bytes that calls make: " + made, made < 5000, true);
    }
}
