import java.lang.reflect.Constructor;
import java.lang.reflect.Field;
import java.lang.reflect.Method;
import java.math.BigInteger;
import java.util.ArrayList;
import java.util.List;

/**
 * The numbers inside the class against the library's, where calls of the face seldom lead: round the
 * ends of limbs and of blocks, and where sums of long numbers are short. They are reached by reflection.
 */
public final class NumbersTest {
    private static final Check CHECK = new Check("Numbers");
    private static final int BITS = 60;
    private static final int BLOCK_BITS = 32 * BITS;
    private static final BigInteger GREATEST = BigInteger.valueOf(Long.MAX_VALUE);
    private static final BigInteger LEAST = BigInteger.valueOf(Long.MIN_VALUE);

    private final Object numbers;
    private final Dice dice = new Dice(1);
    private final List<Long> named = new ArrayList<>();

    private NumbersTest() throws ReflectiveOperationException {
        Constructor<?> constructor = Class.forName("OctagonDesk$Numbers").getDeclaredConstructor(int.class);
        constructor.setAccessible(true);
        numbers = constructor.newInstance(40);
    }

    public static void main(String[] args) throws ReflectiveOperationException {
        NumbersTest test = new NumbersTest();
        List<BigInteger> all = test.interesting();
        for (BigInteger a : all) {
            test.alone(a);
        }
        int pairs = args.length > 0 ? Integer.parseInt(args[0]) : 1000;
        for (int i = 0; i < pairs && CHECK.isClean(); i++) {
            BigInteger a = all.get(test.dice.below(all.size()));
            BigInteger b = test.dice.oneIn(3) ? a.negate().add(test.small()) : all.get(test.dice.below(all.size()));
            test.together(a, b);
        }
        test.roomGivenBack(all);
        CHECK.finish();
    }

    private Object call(String name, long... x) throws ReflectiveOperationException {
        Class<?>[] types = new Class<?>[x.length];
        Object[] values = new Object[x.length];
        for (int i = 0; i < x.length; i++) {
            types[i] = long.class;
            values[i] = x[i];
        }
        Method method = numbers.getClass().getDeclaredMethod(name, types);
        method.setAccessible(true);
        return method.invoke(numbers, values);
    }

    private int field(String name) throws ReflectiveOperationException {
        Field field = numbers.getClass().getDeclaredField(name);
        field.setAccessible(true);
        return field.getInt(numbers);
    }

    /** From here on it is named, as if it stood in a cell. */
    private long keep(Object number) throws ReflectiveOperationException {
        call("replace", 0, (Long) number);
        named.add((Long) number);
        return (Long) number;
    }

    private void letAllGo() throws ReflectiveOperationException {
        for (long number : named) {
            call("replace", number, 0);
        }
        named.clear();
    }

    /** By doubling, with numbers below 2 to the power of 50 added. */
    private long of(BigInteger value) throws ReflectiveOperationException {
        int parts = value.abs().bitLength() / 50 + 1;
        long[] cell = {0};
        for (int i = parts - 1; i >= 0; i--) {
            for (int j = 0; j < 50; j++) {
                put(cell, call("sum", cell[0], cell[0]));
            }
            long part = value.abs().shiftRight(50 * i).longValue() & (1L << 50) - 1;
            put(cell, call("sum", cell[0], value.signum() * part));
        }
        named.add(cell[0]);
        return cell[0];
    }

    private void put(long[] cell, Object number) throws ReflectiveOperationException {
        cell[0] = (Long) call("replace", cell[0], (Long) number);
    }

    private void dueNumber(String what, Object got, BigInteger want) throws ReflectiveOperationException {
        long number = keep(got);
        long due = of(want);
        boolean same = !(Boolean) call("isLess", number, due) && !(Boolean) call("isLess", due, number);
        CHECK.due(what + " is as due", same, true);
        boolean plain = want.bitLength() <= BITS;
        CHECK.due(what + " is plain or not", number < 1L << 62, plain);
        CHECK.due(what + ", nearest long", (Long) call("nearestLong", number),
            want.min(GREATEST).max(LEAST).longValueExact());
    }

    private BigInteger small() {
        return BigInteger.valueOf(dice.from(-2, 2));
    }

    private BigInteger random(int bits) {
        BigInteger value = BigInteger.ZERO;
        for (int i = 0; i < bits; i += 16) {
            value = value.shiftLeft(16).add(BigInteger.valueOf(dice.below(65536)));
        }
        return value.shiftRight(value.bitLength() > bits ? value.bitLength() - bits : 0);
    }

    private List<BigInteger> interesting() {
        List<BigInteger> all = new ArrayList<>();
        for (int bits : new int[] {0, 1, 2, 58, 59, 60, 61, 62, 63, 64, 119, 120, 121, 180, 600,
            BLOCK_BITS - BITS, BLOCK_BITS - 1, BLOCK_BITS, BLOCK_BITS + 1, BLOCK_BITS + BITS,
            2 * BLOCK_BITS - 1, 2 * BLOCK_BITS, 2 * BLOCK_BITS + 1, 5 * BLOCK_BITS, 5 * BLOCK_BITS + 3}) {
            for (int more = -2; more <= 2; more++) {
                BigInteger value = BigInteger.ONE.shiftLeft(bits).add(BigInteger.valueOf(more));
                all.add(value);
                all.add(value.negate());
            }
            BigInteger value = random(bits);
            all.add(value);
            all.add(value.negate());
            all.add(value.shiftLeft(BITS));
        }
        return all;
    }

    private void alone(BigInteger a) throws ReflectiveOperationException {
        String name = "a number of " + a.bitLength() + " bits, sign " + a.signum();
        long x = of(a);
        dueNumber(name, x, a);
        dueNumber("half of " + name, call("half", x), a.shiftRight(1));
        dueNumber("minus " + name, call("negative", x), a.negate());
        dueNumber(name + " and itself", call("sum", x, x), a.add(a));
        CHECK.due(name + " is negative", (Boolean) call("isNegative", x), a.signum() < 0);
        CHECK.due(name + " is less than infinite", (Boolean) call("isLess", x, Long.MAX_VALUE), true);
        CHECK.due("infinite is less than " + name, (Boolean) call("isLess", Long.MAX_VALUE, x), false);
        CHECK.due(name + " and infinite", (Long) call("sum", x, Long.MAX_VALUE), Long.MAX_VALUE);
        CHECK.due("infinite and " + name, (Long) call("sum", Long.MAX_VALUE, x), Long.MAX_VALUE);
        letAllGo();
    }

    private void together(BigInteger a, BigInteger b) throws ReflectiveOperationException {
        String name = "numbers of " + a.bitLength() + " and " + b.bitLength() + " bits, signs " + a.signum() + " and "
            + b.signum();
        long x = of(a);
        long y = of(b);
        dueNumber("the sum of " + name, call("sum", x, y), a.add(b));
        CHECK.due("less: " + name, (Boolean) call("isLess", x, y), a.compareTo(b) < 0);
        for (int more = -1; more <= 1; more++) {
            BigInteger limit = a.add(b).add(BigInteger.valueOf(more));
            long z = of(limit);
            CHECK.due("sum less: " + name + ", " + more, (Boolean) call("isSumLess", x, y, z), more > 0);
        }
        BigInteger other = random(dice.below(3 * BLOCK_BITS));
        other = dice.oneIn(2) ? other : other.negate();
        CHECK.due("sum less than another: " + name, (Boolean) call("isSumLess", x, y, of(other)),
            a.add(b).compareTo(other) < 0);
        letAllGo();
    }

    /** The same numbers again need no block more, and there are never more numbers than are named. */
    private void roomGivenBack(List<BigInteger> all) throws ReflectiveOperationException {
        int blocks = field("blockCount");
        int giants = field("giantCount");
        for (int i = 0; i < 3; i++) {
            for (BigInteger a : all) {
                alone(a);
            }
        }
        CHECK.due("blocks made when the same is done again", field("blockCount"), blocks);
        CHECK.due("giants made when the same is done again", field("giantCount"), giants);
    }
}
