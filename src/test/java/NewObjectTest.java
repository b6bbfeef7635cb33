/** Promise 1: what each of the other calls answers of a new object; each is asked of an object of its own. */
public final class NewObjectTest {
    public static void main(String[] args) {
        numbers();
        samples();
        nothingIsCoded();
        contextsAndRunIndex();
        firstCalls();
        objectsAreApart();
        Check.end();
    }

    // "A picture of width and height 1, MAXVAL 255, NEAR 0".
    private static void numbers() {
        int[] due = {1, 1, 255, 0, 256, 8, 32, 3, 7, 21};
        for (int what = 0; what < due.length; what++) {
            Check.same("new: number(" + what + ")", new GradientCoder().number(what), due[what]);
        }
        Check.same("new: number(-1)", new GradientCoder().number(-1), -1);
        Check.same("new: number(10)", new GradientCoder().number(10), -1);
    }

    // "its sample 0", and there is no other one.
    private static void samples() {
        Check.same("new: sample(0, 0)", new GradientCoder().sample(0, 0), 0);
        Check.same("new: rebuilt(0, 0)", new GradientCoder().rebuilt(0, 0), 0);
        for (int[] place : new int[][] {{1, 0}, {0, 1}, {1, 1}, {-1, 0}, {0, -1}, {7, 7}}) {
            Check.same("new: sample", new GradientCoder().sample(place[0], place[1]), -1);
            Check.same("new: rebuilt", new GradientCoder().rebuilt(place[0], place[1]), -1);
        }
    }

    // "nothing is coded: the code is empty".
    private static void nothingIsCoded() {
        Check.same("new: size()", new GradientCoder().size(), 0);
        for (int i = -1; i <= 8; i++) {
            GradientCoder coder = new GradientCoder();
            int byteAt = i;
            Check.same("new: code(" + i + ")", coder.code(i), -1);
            Check.refused("new: poke(" + i + ", 0)", coder, () -> coder.poke(byteAt, 0));
        }
        GradientCoder coder = new GradientCoder();
        Check.refused("new: cut(-1)", coder, () -> coder.cut(-1));
        Check.refused("new: cut(1)", coder, () -> coder.cut(1));
        Check.yes("new: cut(0)", coder.cut(0));
        Check.same("new: size() behind cut(0)", coder.size(), 0);
        Check.unreadable("the empty code of a new object", new GradientCoder());
    }

    // "the contexts as at first, the run index 0".
    private static void contextsAndRunIndex() {
        GradientCoder coder = new GradientCoder();
        Check.asAtFirst("new", coder, 4);
        Check.same("new: context(367, 0)", coder.context(367, 0), -1000000);
        Check.same("new: context(-1, 0)", coder.context(-1, 0), -1000000);
        Check.same("new: runIndex()", new GradientCoder().runIndex(), 0);
    }

    // A new object has a picture, so frame need not come first.
    private static void firstCalls() {
        GradientCoder coder = new GradientCoder();
        Check.same("new: encode()", coder.encode(), 9);
        Check.same("new: the code", Face.code(coder), "255 216 1 1 255 0 128 255 217");
        GradientCoder other = new GradientCoder();
        Check.yes("new: row(0)", other.row(0, Face.row(255)));
        Check.same("new: sample behind row", other.sample(0, 0), 255);
        GradientCoder third = new GradientCoder();
        Check.refused("new: row(1)", third, () -> third.row(1, 0));
        Check.refused("new: row(-1)", third, () -> third.row(-1, 0));
        Check.yes("new: frame", new GradientCoder().frame(8, 8, 255, 3));
        Check.no("new: frame out of bounds", new GradientCoder().frame(0, 0, 0, 0));
    }

    private static void objectsAreApart() {
        GradientCoder one = new GradientCoder();
        GradientCoder other = new GradientCoder();
        String first = Face.all(other);
        one.frame(3, 2, 99, 1);
        one.row(1, Face.row(5, 77, 3));
        one.encode();
        Check.same("another object stays as it was", Face.all(other), first);
        Check.same("a later object is a new one", Face.all(new GradientCoder()), first);
    }
}
