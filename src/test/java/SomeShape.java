import java.math.BigInteger;

/** What a plain desk needs of a shape; each way of working shapes out has a class S of its own. */
interface SomeShape<S> {
    boolean isEmpty();

    S act(int kind, int a, int b, int c);

    S forget(int i);

    S meet(S other);

    S join(S other);

    S widen(S other);

    boolean isInside(S other);

    /** Null without a greatest. */
    BigInteger most(int p, int q);

    int bounds();

    BigInteger first(int i);

    int places();
}
