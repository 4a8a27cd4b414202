import java.lang.reflect.Constructor;
import java.lang.reflect.Field;
import java.lang.reflect.Method;
import java.lang.reflect.Modifier;
import java.util.Arrays;
import java.util.List;
import java.util.TreeSet;

/** The public face is the document's, and promise 1. */
public final class FaceTest {
    private static final List<String> METHODS = List.of("feed(long,long,long)int", "abbey()int", "years()int",
        "thought(int,int)int", "tenant(int,int)int", "keeps(int,int)int", "think(int,int)int", "gate(int)int",
        "pool(int,int)boolean", "undo()boolean", "judged(int)int!", "best(int,int,int)int!", "tithed(int,int)int",
        "ways(int,int,int)int", "safe(int)int", "holders(int)int", "poorest()int", "lacks()int", "givers()int",
        "dowry(int)int", "match(int)int", "guess(int,boolean)boolean", "fits()int", "ask()int", "chance(int,int)int",
        "dead()int", "ring(int)int", "rests(int,int,int,int)int!", "other(int)int", "lives(int,int,int)int!",
        "mark(int,boolean)boolean", "count(int)int");

    public static void main(String[] args) {
        face();
        newObject();
        Check.finish();
    }

    private static void face() {
        Class<?> c = TithedThoughts.class;
        Check.yes("public final", Modifier.isPublic(c.getModifiers()) && Modifier.isFinal(c.getModifiers()));
        TreeSet<String> found = new TreeSet<>();
        TreeSet<String> hidden = new TreeSet<>();
        for (Method m : c.getDeclaredMethods()) {
            if (!Modifier.isPrivate(m.getModifiers())) {
                StringBuilder s = new StringBuilder(m.getName()).append('(');
                for (Class<?> p : m.getParameterTypes()) {
                    s.append(s.charAt(s.length() - 1) == '(' ? "" : ",").append(p.getName());
                }
                s.append(')').append(m.getReturnType().getName()).append(m.getExceptionTypes().length > 0 ? "!" : "");
                found.add(s.toString());
                Check.yes(m.getName() + " is public", Modifier.isPublic(m.getModifiers()));
            } else {
                hidden.add(m.getName());
            }
        }
        Check.yes("methods " + found, found.equals(new TreeSet<>(METHODS)));
        for (String m : METHODS) {
            Check.no("a private method " + m, hidden.contains(m.substring(0, m.indexOf('('))));
        }
        for (Field f : c.getDeclaredFields()) {
            Check.yes("field " + f.getName(), Modifier.isPrivate(f.getModifiers()) || f.getName().equals("NONE"));
        }
        Constructor<?>[] constructors = c.getDeclaredConstructors();
        Check.due("constructors " + Arrays.toString(constructors), constructors.length, 1);
        Check.due("parameters of the constructor", constructors[0].getParameterCount(), 0);
        for (Class<?> inner : c.getDeclaredClasses()) {
            Check.yes("static " + inner, Modifier.isStatic(inner.getModifiers()));
            Check.no("not public " + inner, Modifier.isPublic(inner.getModifiers()));
        }
        Check.due("NONE", TithedThoughts.NONE, -1);
    }

    private static void newObject() {
        TithedThoughts t = new TithedThoughts();
        int[] counts = {0, 0, 10, 10, 3, 0, 0, 0, 0, 0, 0, 0};
        for (int i = 0; i < counts.length; i++) {
            Check.due("new: count " + i, t.count(i), counts[i]);
        }
        Check.due("new: thought", t.thought(0, 0), -1);
        Check.due("new: tenant", t.tenant(0, 0), -1000);
        Check.due("new: think", t.think(0, 0), -1);
        Check.due("new: gate", t.gate(0), -1);
        Check.no("new: pool", t.pool(0, 0));
        Check.no("new: undo", t.undo());
        Check.due("new: lacks", t.lacks(), 7);
        Check.due("new: givers", t.givers(), -1);
        Check.due("new: poorest", t.poorest(), -1);
        Check.due("new: match", t.match(-1), 0);
        Check.due("new: match of 0", t.match(0), -2);
        Check.no("new: guess", t.guess(0, true));
        Check.due("new: fits", t.fits(), 0);
        Check.due("new: ask", t.ask(), -1);
        Check.due("new: dead", t.dead(), 0);
        Check.due("new: judged 0", t.judged(0), -1);
        Check.due("new: judged 1", t.judged(1), -1);
        Check.due("new: judged 2", t.judged(2), 0);
        Check.due("new: other", t.other(2), 0);
        Check.due("new: lives", t.lives(0, 99, 0), 0);
        Check.no("new: mark that is not laid", t.mark(0, true));
        Check.due("new: empty abbey", t.abbey(), 0);
        Check.due("new: empty years", t.years(), 0);
    }
}
