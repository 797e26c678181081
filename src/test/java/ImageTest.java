/** Promises 38 and 39: images of all that is told. */
public final class ImageTest {
    public static void main(String[] args) {
        promise38Image();
        promise39Again();
        allThatIsTold();
        Due.finish();
    }

    private static void promise38Image() {
        HookUps x = new HookUps();
        Due.due("image(-1)", x.image(-1), false);
        Due.due("image(3)", x.image(3), false);
        Due.due("again(0)", x.again(0), false);
        Due.due("image(0)", x.image(0), true);
        x.town();
        Due.due("image(2)", x.image(2), true);
        x.town();
        Due.due("again(2)", x.again(2), true);
        Due.due("one town", x.count(0), 1);
        Due.due("again(0)", x.again(0), true);
        Due.due("no town", x.count(0), 0);
        Due.due("again(2)", x.again(2), true);
        Due.due("other images stay", x.count(0), 1);
        x.town();
        x.image(0);
        Due.due("image(0) anew", x.again(0), true);
        Due.due("two towns", x.count(0), 2);
    }

    private static void promise39Again() {
        HookUps x = new HookUps();
        Due.due("again(-1)", x.again(-1), false);
        Due.due("again(3)", x.again(3), false);
        Due.due("again(1)", x.again(1), false);
        x.image(1);
        x.town();
        Due.due("again(1)", x.again(1), true);
        x.town();
        Due.due("again(1) twice", x.again(1), true);
        Due.due("no town", x.count(0), 0);
    }

    private static HookUps full() {
        HookUps x = new HookUps();
        x.town();
        x.town();
        x.wire(0, 1, 30, 2);
        x.station(1, 1, 40);
        x.summer(1, 2, 4);
        x.day(2);
        x.join(0, 0, 0);
        Due.contract(x, 0, "clear;pay 6;");
        x.hour(0, 3, 10, 2, 0, 1, 1);
        x.cut(0, 3, 11, 11, 4);
        x.own(0, 8);
        x.hands(2);
        x.calls(0, 10, 5);
        x.piece(3);
        x.worth(0, 4, 77);
        x.view(2);
        Due.contract(x, 1, "nonsense;");
        x.feed(1, 2, 3, 4, 5);
        x.end(13);
        return x;
    }

    private static void dueFull(String when, HookUps x) {
        int[] want = {2, 1, 1, 1, 1, 1, 1, 1, 2, 2, 2, 0, 0, 2};
        for (int what = 0; what < want.length; what++) {
            Due.due(when + " count(" + what + ")", x.count(what), want[what]);
        }
        Due.due(when + " fault", x.fault(0), 1);
        Due.due(when + " place", x.fault(1), 0);
        Due.due(when + " string", x.string(0, 0), 1);
        Due.due(when + " miles", x.miles(0, 0), 30);
        Due.due(when + " break", x.sends(0, 3, 11), 100);
        Due.due(when + " own", x.sends(0, 3, 18), 200);
        Due.due(when + " paid", x.paid(0, 0, 9), 6);
        Due.due(when + " local", x.local(1, 3, 0), 144);
        Due.due(when + " member", x.member(0, 50), 0);
        Due.due(when + " share", x.call(0, 3), 500);
        Due.due(when + " plan", x.plan(0), 77);
        Due.due(when + " turn", x.plan(1), 4);
        Due.due(when + " tape", x.end(14), -1);
        Due.due(when + " tape", x.end(13), 13);
    }

    private static void changeAll(HookUps x) {
        x.town();
        x.wire(1, 0, 1, 1);
        x.station(0, 0, 1);
        x.summer(1, 9, 8);
        x.day(9);
        x.view(-1);
        x.join(0, 2, 0);
        x.end(0);
        Due.contract(x, 0, "");
        Due.contract(x, 1, "clear;");
        x.hour(0, 3, 10, 2, 0, 1, 1);
        x.cut(-1, 3, 0, 47, 9);
        x.own(0, 0);
        x.hands(1);
        x.calls(0, 10, 10);
        x.worth(0, 4, 0);
        x.piece(3);
        x.worth(0, 0, 1000);
        x.feed(9, 9, 9, 9, 9);
    }

    private static void allThatIsTold() {
        HookUps x = full();
        dueFull("first", x);
        x.image(1);
        dueFull("with the image", x);
        changeAll(x);
        Due.due("changed", x.count(0), 3);
        Due.due("again", x.again(1), true);
        dueFull("again", x);
        changeAll(x);
        x.image(0);
        x.again(1);
        dueFull("again", x);
        x.again(0);
        Due.due("the other image", x.count(0), 3);
        // The bytes of the tape come again, too, not only how many there are.
        HookUps y = new HookUps();
        Due.type(y, "clear;");
        y.image(2);
        y.end(0);
        Due.type(y, "nonsense");
        y.again(2);
        Due.due("the tape as it was", y.contract(0), 1);
    }
}
