import java.lang.reflect.Constructor;
import java.lang.reflect.Field;
import java.lang.reflect.Method;
import java.lang.reflect.Modifier;
import java.util.Arrays;
import java.util.Set;
import java.util.TreeSet;

/** The public face, the room that calls need, and that no call throws, whatever it is asked. */
public final class FaceTest {
    private static final Due DUE = new Due();

    private static final String METHODS = "glove4 told2 as2 turns2 set3 fits2 value2 deal1 seed1 best1 partner1 adds1 leaves1 "
        + "loss1 days1 behind2 keepHome1 fine0 worn2 forget0 joins0 sure1 better1 feed3 trim1 text0 textTold2 why1 "
        + "sheet3 mark3 pour1 reads1 copy5 lay3 ask2 item2 rest2 tell1 check1 keep0 back0 count1";

    public static void main(String[] args) throws ReflectiveOperationException {
        constants();
        members();
        oddArguments();
        room();
        DUE.end();
    }

    private static void constants() {
        DUE.is("BAD", TwoGuilds.BAD, -1000000001);
        DUE.is("NO", TwoGuilds.NO, -1000000002);
        DUE.is("FULL", TwoGuilds.FULL, -1000000003);
        DUE.is("NONE", TwoGuilds.NONE, -1000000005);
        DUE.is("NOTHING", TwoGuilds.NOTHING, -1000000011);
        DUE.is("KIND", TwoGuilds.KIND, -1000000012);
        DUE.is("INDEX", TwoGuilds.INDEX, -1000000013);
        DUE.is("SIZE", TwoGuilds.SIZE, -1000000014);
    }

    private static void members() {
        Class<?> face = TwoGuilds.class;
        DUE.holds("the class is public and final", face.getModifiers() == (Modifier.PUBLIC | Modifier.FINAL));
        Set<String> open = new TreeSet<>();
        Set<String> names = new TreeSet<>();
        Set<String> hidden = new TreeSet<>();
        for (Method m : face.getDeclaredMethods()) {
            if (Modifier.isPrivate(m.getModifiers())) {
                hidden.add(m.getName());
            } else {
                open.add(m.getName() + m.getParameterCount());
                names.add(m.getName());
                DUE.holds(m + " answers an int to ints", m.getReturnType() == int.class
                    && Arrays.stream(m.getParameterTypes()).allMatch(t -> t == int.class)
                    && m.getModifiers() == Modifier.PUBLIC);
            }
        }
        DUE.holds("the methods are " + open, open.equals(new TreeSet<>(Arrays.asList(METHODS.split(" ")))));
        for (Class<?> inside : face.getDeclaredClasses()) {
            DUE.holds(inside + " is private and static", Modifier.isStatic(inside.getModifiers()) && Modifier.isPrivate(inside.getModifiers()));
            for (Method m : inside.getDeclaredMethods()) {
                hidden.add(m.getName());
            }
        }
        hidden.retainAll(names);
        DUE.holds("no method inside bears a public name, but these do: " + hidden, hidden.isEmpty());
        Constructor<?>[] makers = face.getDeclaredConstructors();
        DUE.is("constructors", makers.length, 1);
        DUE.is("its parameters", makers[0].getParameterCount(), 0);
        DUE.holds("it is public", Modifier.isPublic(makers[0].getModifiers()));
        int constants = 0;
        for (Field f : face.getDeclaredFields()) {
            if (!Modifier.isPrivate(f.getModifiers())) {
                constants++;
            }
        }
        DUE.is("constants", constants, 8);
    }

    /** All pairs and more of odd arguments, on objects that are empty and on ones that are full. */
    private static void oddArguments() throws ReflectiveOperationException {
        int[] odd = {Integer.MIN_VALUE, -32769, -2, -1, 0, 1, 5, 10, 24, 25, 97, 1024, Integer.MAX_VALUE, TwoGuilds.NONE};
        for (Method m : TwoGuilds.class.getDeclaredMethods()) {
            if (Modifier.isPrivate(m.getModifiers())) {
                continue;
            }
            TwoGuilds empty = new TwoGuilds();
            TwoGuilds full = full();
            long ways = 1;
            for (int i = 0; i < m.getParameterCount(); i++) {
                ways *= odd.length;
            }
            long step = ways > 40000 ? 13 : 1;
            for (long way = 0; way < ways; way += step) {
                Object[] args = new Object[m.getParameterCount()];
                long code = way;
                for (int i = 0; i < args.length; i++) {
                    args[i] = odd[(int) (code % odd.length)];
                    code /= odd.length;
                }
                // what is thrown inside comes out here and ends the test
                m.invoke(empty, args);
                m.invoke(full, args);
            }
        }
        DUE.holds("no call throws", true);
    }

    private static TwoGuilds full() {
        TwoGuilds x = new TwoGuilds();
        x.deal(10);
        for (int i = 0; i < 14; i++) {
            Tapes.text(x, i % 2 == 0 ? "pair a*b/(w-w)" : "wear p/(x-4)");
        }
        for (int i = 0; i < 10; i++) {
            x.worn(1, 3);
        }
        for (int i = 0; i < 4; i++) {
            x.sheet(i, i % 2, 24);
            x.lay(i, i, i);
        }
        for (int i = 0; i < 8; i++) {
            x.feed(i, -1, 0);
        }
        for (int i = 0; i < 60; i++) {
            x.tell(i);
        }
        x.keep();
        return x;
    }

    /** Calls must make next to nothing: one run has room for few objects. */
    private static void room() {
        if (!(java.lang.management.ManagementFactory.getThreadMXBean() instanceof com.sun.management.ThreadMXBean)) {
            return;
        }
        com.sun.management.ThreadMXBean threads =
            (com.sun.management.ThreadMXBean) java.lang.management.ManagementFactory.getThreadMXBean();
        TwoGuilds x = full();
        allCalls(x);
        long before = threads.getCurrentThreadAllocatedBytes();
        for (int i = 0; i < 20; i++) {
            allCalls(x);
        }
        long made = threads.getCurrentThreadAllocatedBytes() - before;
        DUE.holds("calls make no rows, but made " + made + " bytes", made < 20000);
    }

    private static void allCalls(TwoGuilds x) {
        x.seed(1);
        x.best(1023);
        x.partner(9);
        x.adds(3);
        x.leaves(0);
        x.days(3);
        x.behind(50, 0);
        x.keepHome(30);
        x.fine();
        x.joins();
        x.sure(0);
        x.better(0);
        x.trim(0);
        x.feed(0x70616972, 0x20612b62, 0x2b772b31);
        x.text();
        x.sheet(0, 1, 24);
        x.mark(0, 0, 9);
        x.copy(0, 0, 0, 1, 23);
        x.pour(0);
        x.reads(0);
        x.lay(4, 2, 0);
        x.lay(4, 1, 0);
        x.ask(4, 0);
        x.tell(1);
        x.check(30);
        x.keep();
        x.back();
    }
}
