/** Each promise of the document: ordinary inputs, the edges that it names, and wrong inputs. */
public final class PromisesTest {
    private static final int MIN = Integer.MIN_VALUE;
    private static final int MAX = Integer.MAX_VALUE;

    public static void main(String[] args) {
        newObject();
        coat();
        act();
        wear();
        rip();
        lose();
        coatOf();
        actOf();
        open();
        best();
        work();
        seamstress();
        bring();
        sew();
        spangle();
        letOut();
        tent();
        trunkAndPack();
        unpackAndPacked();
        train();
        goOn();
        tightIn();
        pass();
        append();
        read();
        readOrders();
        errorPosition();
        refusal();
        sign();
        account();
        isWell();
        means();
        undo();
        saveAndRestore();
        examples();
        Check.end();
    }

    private static void newObject() {
        Check.part("promise 1, a new object");
        CircusCoats x = new CircusCoats();
        int[] due = {0, 0, 0, 0, 0, 0, 0, 200, 100, 20, 0, 0, 0, 0, 200, 0, 0, 0, 0};
        for (int what = 0; what < due.length; what++) {
            Check.is(x.account(what), due[what]);
        }
        Check.is(x.isWell(), true);
        Check.is(x.tornShare(), 0f);
        Check.is(x.errorPosition(), -1);
        Check.none(x, () -> x.refusal(false));
        Check.none(x, () -> x.refusal(true));
        Check.none(x, () -> x.torn(0));
        Check.none(x, () -> x.onTrain(0));
        Check.state(x, () -> x.undo());
        Check.state(x, () -> x.restore());
    }

    private static void coat() {
        Check.part("promise 2, coat");
        CircusCoats x = new CircusCoats();
        for (int size : new int[] {29, 61, 0, -1, MIN, MAX}) {
            Check.illegal(x, () -> x.coat(size));
        }
        for (int i = 0; i < 12; i++) {
            Check.is(x.coat(i == 0 ? 30 : 60), i);
        }
        Check.is(x.coatOf(0, 0), 30);
        Check.is(x.coatOf(11, 0), 60);
        Check.refused(x, 1, 12, () -> x.coat(45));
        Check.illegal(x, () -> x.coat(61));
        Check.is(x.account(1), 12);
    }

    private static void act() {
        Check.part("promise 3, act");
        CircusCoats x = new CircusCoats();
        for (int size : new int[] {29, 61, MIN, MAX}) {
            Check.illegal(x, () -> x.act(size, 0));
        }
        for (int growth : new int[] {-1, 4, MIN, MAX}) {
            Check.illegal(x, () -> x.act(40, growth));
        }
        for (int i = 0; i < 6; i++) {
            Check.is(x.act(i == 0 ? 30 : 60, i % 4), i);
        }
        Check.is(x.actOf(0, 0), 30);
        Check.is(x.actOf(5, 0), 60);
        Check.is(x.actOf(3, 1), 3);
        Check.refused(x, 1, 6, () -> x.act(45, 0));
        Check.illegal(x, () -> x.act(45, 4));
    }

    private static void wear() {
        Check.part("promise 4, wear");
        CircusCoats x = room(3, 2, 0, 1);
        for (int no : new int[] {-1, MIN, MAX}) {
            Check.outOfBounds(x, () -> x.wear(no, 0));
            Check.outOfBounds(x, () -> x.wear(0, no));
        }
        Check.outOfBounds(x, () -> x.wear(2, 0));
        Check.outOfBounds(x, () -> x.wear(0, 3));
        Check.is(x.wear(1, 0), -1);
        Check.refused(x, 2, 1, () -> x.wear(0, 0));
        Check.is(x.wear(1, 0), 0);
        Check.is(x.coatOf(0, 3), 1);
        Check.is(x.account(18), 8);
        Check.is(x.wear(1, 2), 0);
        Check.is(x.coatOf(0, 3), -1);
        Check.is(x.coatOf(2, 3), 1);
        Check.is(x.actOf(1, 2), 2);
        x.pack(0, 0);
        Check.is(x.wear(0, 0), -1);
        Check.is(x.actOf(0, 2), 0);
    }

    private static void rip() {
        Check.part("promise 5, rip");
        CircusCoats x = room(2, 0, 0, 1);
        Check.outOfBounds(x, () -> x.rip(-1, 0));
        Check.outOfBounds(x, () -> x.rip(2, 1));
        Check.outOfBounds(x, () -> x.rip(MIN, 1));
        for (int rips : new int[] {0, -1, 10, MIN, MAX}) {
            Check.illegal(x, () -> x.rip(0, rips));
        }
        Check.is(x.rip(0, 1), 1);
        Check.is(x.rip(0, 7), 8);
        Check.is(x.rip(0, 9), 9);
        Check.is(x.rip(0, 1), 9);
        x.pack(1, 0);
        Check.is(x.rip(1, 9), 9);
        Check.is(x.account(10), 18);
    }

    private static void lose() {
        Check.part("promise 6, lose");
        CircusCoats x = room(2, 0, 0, 1);
        Check.outOfBounds(x, () -> x.lose(-1, 0));
        Check.outOfBounds(x, () -> x.lose(2, 61));
        for (int spangles : new int[] {0, -1, 61, MIN, MAX}) {
            Check.illegal(x, () -> x.lose(0, spangles));
        }
        Check.is(x.lose(0, 1), 1);
        Check.is(x.lose(0, 58), 59);
        Check.is(x.lose(0, 60), 60);
        Check.is(x.account(13), 60);
        x.pack(1, 0);
        Check.is(x.lose(1, 60), 60);
        Check.is(x.account(13), 120);
        Check.is(x.account(11), 120);
        Check.is(x.account(7), 200);
        Check.is(x.isWell(), true);
    }

    private static void coatOf() {
        Check.part("promise 7, coatOf");
        CircusCoats x = room(2, 2, 0, 2);
        Check.outOfBounds(x, () -> x.coatOf(-1, 6));
        Check.outOfBounds(x, () -> x.coatOf(2, 0));
        Check.outOfBounds(x, () -> x.coatOf(MAX, 0));
        for (int what : new int[] {-1, 6, MIN, MAX}) {
            Check.illegal(x, () -> x.coatOf(0, what));
        }
        is(new int[] {x.coatOf(1, 0), x.coatOf(1, 1), x.coatOf(1, 2), x.coatOf(1, 3), x.coatOf(1, 4), x.coatOf(1, 5)},
            40, 0, 0, -1, -1, 0);
        x.wear(1, 1);
        x.goOn(1);
        x.rip(1, 2);
        x.lose(1, 5);
        x.pack(1, 1);
        is(new int[] {x.coatOf(1, 0), x.coatOf(1, 1), x.coatOf(1, 2), x.coatOf(1, 3), x.coatOf(1, 4), x.coatOf(1, 5)},
            40, 3, 9, 1, 1, 1);
        is(new int[] {x.coatOf(0, 1), x.coatOf(0, 2), x.coatOf(0, 3), x.coatOf(0, 4), x.coatOf(0, 5)},
            0, 0, -1, -1, 0);
    }

    private static void actOf() {
        Check.part("promise 8, actOf");
        CircusCoats x = room(2, 1, 0, 0);
        x.act(39, 2);
        Check.outOfBounds(x, () -> x.actOf(-1, 4));
        Check.outOfBounds(x, () -> x.actOf(2, 0));
        for (int what : new int[] {-1, 4, MIN, MAX}) {
            Check.illegal(x, () -> x.actOf(0, what));
        }
        is(new int[] {x.actOf(1, 0), x.actOf(1, 1), x.actOf(1, 2), x.actOf(1, 3)}, 39, 2, -1, 0);
        x.wear(1, 0);
        x.goOn(1);
        x.goOn(1);
        is(new int[] {x.actOf(1, 0), x.actOf(1, 1), x.actOf(1, 2), x.actOf(1, 3)}, 39, 2, 0, 2);
        is(new int[] {x.actOf(0, 2), x.actOf(0, 3)}, -1, 0);
    }

    private static void open() {
        Check.part("promise 9, open");
        CircusCoats x = room(3, 2, 0, 0);
        Check.outOfBounds(x, () -> x.open(3, 0));
        Check.outOfBounds(x, () -> x.open(0, 2));
        Check.outOfBounds(x, () -> x.open(-1, 0));
        Check.outOfBounds(x, () -> x.open(0, MIN));
        Check.is(x.open(0, 0), false);
        x.lose(0, 10);
        Check.is(x.open(0, 0), false);
        x.lose(0, 1);
        Check.is(x.open(0, 0), true);
        x.rip(1, 1);
        Check.is(x.open(1, 0), true);
        x.act(41, 0);
        Check.is(x.open(2, 2), true);
        x.act(39, 0);
        Check.is(x.open(2, 3), false);
    }

    private static void best() {
        Check.part("promise 10, best");
        CircusCoats x = new CircusCoats();
        x.act(45, 0);
        x.act(30, 0);
        x.trunk();
        Check.none(x, () -> x.best(0));
        Check.outOfBounds(x, () -> x.best(2));
        Check.outOfBounds(x, () -> x.best(-1));
        x.coat(44);
        Check.none(x, () -> x.best(0));
        x.coat(60);
        Check.is(x.best(0), 1);
        x.coat(45);
        x.coat(45);
        Check.is(x.best(0), 2);
        x.pack(2, 0);
        Check.is(x.best(0), 2);
        x.wear(1, 2);
        Check.is(x.best(0), 3);
        Check.is(x.best(1), 0);
        x.wear(0, 3);
        Check.is(x.best(0), 3);
        x.rip(3, 1);
        Check.is(x.best(0), 1);
        x.lose(1, 11);
        Check.none(x, () -> x.best(0));
    }

    private static void work() {
        Check.part("promises 11 and 12, work and workAgain");
        CircusCoats x = new CircusCoats();
        x.coat(30);
        x.coat(60);
        x.act(40, 0);
        x.act(60, 3);
        Check.outOfBounds(x, () -> x.work(2, 0));
        Check.outOfBounds(x, () -> x.work(0, 2));
        Check.outOfBounds(x, () -> x.work(-1, 0));
        Check.outOfBounds(x, () -> x.workAgain(2, 0));
        Check.outOfBounds(x, () -> x.workAgain(0, 2));
        Check.outOfBounds(x, () -> x.workAgain(0, MIN));
        hours(x, 0, 0, 20);
        hours(x, 1, 0, 0);
        x.rip(1, 9);
        hours(x, 1, 0, 9);
        x.lose(1, 10);
        hours(x, 1, 0, 9);
        x.lose(1, 1);
        hours(x, 1, 0, 10);
        x.lose(1, 9);
        hours(x, 1, 0, 10);
        x.lose(1, 1);
        hours(x, 1, 0, 11);
        x.lose(1, 39);
        hours(x, 1, 0, 14);
        x.pass(21);
        Check.is(x.actOf(1, 0), 69);
        hours(x, 1, 1, 32);
        x.act(60, 1);
        x.pass(60);
        x.pass(10);
        Check.is(x.actOf(2, 0), 70);
        hours(x, 0, 2, 80);
        x.pass(7);
        Check.none(x, () -> x.work(0, 2));
        Check.none(x, () -> x.workAgain(0, 2));
        Check.none(x, () -> x.work(1, 1));
        Check.outOfBounds(x, () -> x.work(5, 1));
    }

    private static void hours(CircusCoats x, int coat, int act, int due) {
        Check.is(x.work(coat, act), due);
        Check.is(x.workAgain(coat, act), due);
    }

    private static void seamstress() {
        Check.part("promises 13 and 14, seamstress and seamstressOf");
        CircusCoats x = room(2, 0, 0, 0);
        for (int i = 0; i < 4; i++) {
            Check.is(x.seamstress(), i);
        }
        Check.refused(x, 1, 4, () -> x.seamstress());
        Check.outOfBounds(x, () -> x.seamstressOf(4, 3));
        Check.outOfBounds(x, () -> x.seamstressOf(-1, 0));
        for (int what : new int[] {-1, 3, MIN, MAX}) {
            Check.illegal(x, () -> x.seamstressOf(0, what));
        }
        x.rip(0, 1);
        x.lose(0, 11);
        x.tear(0);
        x.sew(3, 0);
        x.spangle(3, 0, 11);
        x.letOut(3, 0);
        x.patch(3);
        is(new int[] {x.seamstressOf(3, 0), x.seamstressOf(3, 1), x.seamstressOf(3, 2)}, 2, 4, 6);
        is(new int[] {x.seamstressOf(2, 0), x.seamstressOf(2, 1), x.seamstressOf(2, 2)}, 8, 0, 0);
        x.pass(1);
        is(new int[] {x.seamstressOf(3, 0), x.seamstressOf(3, 1), x.seamstressOf(3, 2)}, 8, 2, 6);
    }

    private static void bring() {
        Check.part("promise 15, bring");
        CircusCoats x = new CircusCoats();
        for (int no : new int[] {-1, 3, MIN, MAX}) {
            Check.illegal(x, () -> x.bring(no, 1));
        }
        for (int no : new int[] {0, -1, 100, MIN, MAX}) {
            Check.illegal(x, () -> x.bring(0, no));
        }
        Check.is(x.bring(0, 1), 201);
        Check.is(x.bring(1, 99), 199);
        Check.is(x.bring(2, 99), 119);
        is(new int[] {x.account(7), x.account(8), x.account(9), x.account(14)}, 201, 199, 119, 201);
        for (int i = 0; i < 8; i++) {
            x.bring(0, 99);
        }
        Check.is(x.bring(0, 99), 999);
        Check.is(x.account(14), 999);
        Check.is(x.bring(0, 1), 999);
        Check.is(x.account(14), 999);
        for (int i = 0; i < 10; i++) {
            x.bring(1, 99);
            x.bring(2, 99);
        }
        is(new int[] {x.account(7), x.account(8), x.account(9), x.account(14)}, 999, 999, 999, 999);
        Check.is(x.isWell(), true);
    }

    private static void sew() {
        Check.part("promise 16, sew");
        CircusCoats x = room(3, 0, 2, 1);
        Check.outOfBounds(x, () -> x.sew(2, 0));
        Check.outOfBounds(x, () -> x.sew(0, 3));
        Check.outOfBounds(x, () -> x.sew(-1, 0));
        Check.outOfBounds(x, () -> x.sew(0, MAX));
        x.rip(0, 9);
        Check.is(x.sew(0, 0), 8);
        is(new int[] {x.seamstressOf(0, 0), x.seamstressOf(0, 1), x.account(8)}, 7, 1, 99);
        Check.refused(x, 6, 1, () -> x.sew(0, 1));
        for (int i = 0; i < 5; i++) {
            Check.is(x.sew(0, 0), 7 - i);
        }
        Check.refused(x, 4, 1, () -> x.sew(0, 0));
        Check.refused(x, 4, 1, () -> x.sew(0, 1));
        x.pack(0, 0);
        Check.refused(x, 3, 0, () -> x.sew(0, 0));
        x.pack(2, 0);
        Check.refused(x, 3, 0, () -> x.sew(1, 2));
        x.lose(1, 60);
        x.spangle(1, 1, 60);
        x.letOut(1, 1);
        Check.is(x.seamstressOf(1, 0), 0);
        Check.refused(x, 6, 1, () -> x.sew(1, 1));
        x.rip(1, 1);
        Check.refused(x, 5, 1, () -> x.sew(1, 1));
        useThread(x, 1);
        Check.refused(x, 7, 1, () -> x.sew(2, 1));
        x.bring(1, 1);
        Check.is(x.sew(2, 1), 0);
        Check.is(x.account(8), 0);
    }

    /** Adds the seamstress 2 and uses all thread, so that she is not sore at last and has 8 hours. */
    private static void useThread(CircusCoats x, int coat) {
        x.seamstress();
        while (x.account(8) > 0) {
            x.lose(coat, 60);
            x.bring(0, 60);
            int spangles = Math.min(60, x.account(8) * 5);
            x.spangle(2, coat, spangles);
            x.pass(1);
        }
        x.pass(1);
    }

    private static void spangle() {
        Check.part("promise 17, spangle");
        CircusCoats x = room(3, 0, 2, 2);
        Check.outOfBounds(x, () -> x.spangle(2, 0, 0));
        Check.outOfBounds(x, () -> x.spangle(0, 3, 0));
        Check.outOfBounds(x, () -> x.spangle(-1, 0, 1));
        for (int no : new int[] {0, -1, 61, MIN, MAX}) {
            Check.illegal(x, () -> x.spangle(0, 0, no));
        }
        x.lose(0, 60);
        Check.is(x.spangle(0, 0, 1), 59);
        is(new int[] {x.seamstressOf(0, 0), x.seamstressOf(0, 1), x.account(8), x.account(7)}, 7, 1, 99, 199);
        Check.is(x.spangle(0, 0, 10), 49);
        is(new int[] {x.seamstressOf(0, 0), x.seamstressOf(0, 1), x.account(8), x.account(7)}, 6, 2, 97, 189);
        Check.is(x.spangle(0, 0, 11), 38);
        is(new int[] {x.seamstressOf(0, 0), x.seamstressOf(0, 1), x.account(8), x.account(7)}, 4, 3, 94, 178);
        Check.is(x.account(12), 22);
        Check.refused(x, 8, 38, () -> x.spangle(0, 0, 39));
        x.lose(0, 22);
        Check.refused(x, 5, 2, () -> x.spangle(0, 0, 60));
        x.pack(0, 1);
        Check.refused(x, 3, 1, () -> x.spangle(0, 0, 60));
        Check.illegal(x, () -> x.spangle(0, 0, 61));
        Check.is(x.isWell(), true);
        spangleShort();
    }

    private static void spangleShort() {
        CircusCoats x = room(3, 0, 2, 0);
        while (x.account(7) >= 60) {
            x.lose(0, 60);
            x.spangle(0, 0, 60);
            x.pass(3);
        }
        Check.is(x.account(7), 20);
        x.lose(0, 60);
        Check.refused(x, 9, 40, () -> x.spangle(0, 0, 60));
        for (int i = 0; i < 6; i++) {
            x.spangle(0, 0, 1);
        }
        Check.refused(x, 4, 1, () -> x.spangle(0, 0, 60));
        Check.refused(x, 8, 0, () -> x.spangle(1, 1, 60));
        x.rip(1, 5);
        for (int i = 0; i < 5; i++) {
            x.sew(1, 1);
        }
        Check.refused(x, 9, 40, () -> x.spangle(1, 0, 54));
        x.bring(0, 99);
        Check.refused(x, 5, 3, () -> x.spangle(1, 0, 54));
        x.pass(2);
        while (x.account(8) > 7) {
            x.letOut(1, 2);
            x.pass(1);
        }
        Check.is(x.account(8), 5);
        x.pass(3);
        Check.refused(x, 7, 6, () -> x.spangle(1, 0, 54));
        Check.is(x.spangle(1, 0, 25), 29);
        Check.is(x.account(8), 0);
    }

    private static void letOut() {
        Check.part("promise 18, letOut");
        CircusCoats x = new CircusCoats();
        x.coat(60);
        x.coat(30);
        x.seamstress();
        x.seamstress();
        x.trunk();
        x.bring(1, 1);
        Check.outOfBounds(x, () -> x.letOut(2, 0));
        Check.outOfBounds(x, () -> x.letOut(0, 2));
        Check.outOfBounds(x, () -> x.letOut(0, -1));
        Check.is(x.letOut(0, 0), 61);
        is(new int[] {x.seamstressOf(0, 0), x.seamstressOf(0, 1), x.account(8)}, 6, 1, 98);
        Check.is(x.letOut(0, 0), 62);
        Check.is(x.letOut(0, 0), 63);
        x.rip(1, 1);
        x.sew(0, 1);
        Check.refused(x, 5, 1, () -> x.letOut(0, 0));
        for (int i = 0; i < 7; i++) {
            x.pass(2);
            Check.is(x.letOut(0, 0), 64 + i);
        }
        Check.refused(x, 10, 70, () -> x.letOut(0, 0));
        x.rip(1, 9);
        for (int i = 0; i < 6; i++) {
            x.sew(1, 1);
        }
        Check.refused(x, 4, 1, () -> x.letOut(1, 0));
        x.pack(0, 0);
        Check.refused(x, 3, 0, () -> x.letOut(1, 0));
        x.pass(5);
        while (x.account(8) > 2) {
            x.letOut(0, 1);
            x.pass(1);
        }
        Check.is(x.account(8), 1);
        Check.refused(x, 7, 2, () -> x.letOut(0, 1));
        x.bring(1, 2);
        x.letOut(1, 1);
        Check.is(x.account(8), 0);
    }

    private static void tent() {
        Check.part("promises 19 to 21, tear, patch, torn");
        CircusCoats x = room(1, 0, 2, 0);
        for (int no : new int[] {-1, 32, MIN, MAX}) {
            Check.outOfBounds(x, () -> x.tear(no));
            Check.outOfBounds(x, () -> x.torn(no));
        }
        Check.outOfBounds(x, () -> x.patch(2));
        Check.outOfBounds(x, () -> x.patch(-1));
        Check.refused(x, 11, 0, () -> x.patch(0));
        Check.is(x.tear(31), 1);
        Check.is(x.tear(0), 2);
        Check.is(x.tear(5), 3);
        Check.is(x.tear(5), 3);
        is(new int[] {x.torn(0), x.torn(1), x.torn(5), x.torn(6), x.torn(31)}, 0, 5, 5, 31, 31);
        Check.is(x.patch(0), 0);
        is(new int[] {x.seamstressOf(0, 0), x.seamstressOf(0, 1), x.account(9), x.account(15)}, 7, 1, 19, 2);
        Check.is(x.patch(0), 5);
        Check.is(x.patch(0), 31);
        Check.none(x, () -> x.torn(31));
        patchShort(x);
    }

    private static void patchShort(CircusCoats x) {
        for (int i = 0; i < 17; i++) {
            x.tear(9);
            x.patch(0);
            x.pass(1);
        }
        Check.is(x.account(9), 0);
        Check.refused(x, 11, 0, () -> x.patch(0));
        x.tear(2);
        Check.refused(x, 12, 0, () -> x.patch(0));
        x.lose(0, 60);
        x.spangle(0, 0, 60);
        x.lose(0, 20);
        x.spangle(0, 0, 20);
        Check.is(x.seamstressOf(0, 0), 0);
        Check.refused(x, 12, 0, () -> x.patch(0));
        x.bring(2, 1);
        Check.refused(x, 5, 1, () -> x.patch(0));
        x.rip(0, 6);
        for (int i = 0; i < 6; i++) {
            x.sew(1, 0);
        }
        Check.refused(x, 4, 1, () -> x.patch(1));
        x.undo();
        Check.is(x.patch(1), 2);
        Check.refused(x, 4, 1, () -> x.patch(1));
    }

    private static void trunkAndPack() {
        Check.part("promises 22 and 23, trunk and pack");
        CircusCoats x = room(7, 0, 0, 0);
        for (int i = 0; i < 4; i++) {
            Check.is(x.trunk(), i);
        }
        Check.refused(x, 1, 4, () -> x.trunk());
        Check.outOfBounds(x, () -> x.pack(7, 0));
        Check.outOfBounds(x, () -> x.pack(0, 4));
        Check.outOfBounds(x, () -> x.pack(-1, 0));
        Check.outOfBounds(x, () -> x.pack(0, MIN));
        for (int i = 0; i < 5; i++) {
            Check.is(x.pack(6 - i, 3), i + 1);
        }
        Check.refused(x, 1, 5, () -> x.pack(0, 3));
        Check.refused(x, 3, 3, () -> x.pack(6, 3));
        Check.is(x.pack(0, 2), 1);
        x.load(0);
        x.load(3);
        Check.refused(x, 3, 2, () -> x.pack(0, 3));
        Check.refused(x, 16, 1, () -> x.pack(1, 3));
        x.unload();
        Check.refused(x, 16, 0, () -> x.pack(1, 3));
        Check.is(x.pack(1, 0), 1);
        Check.is(x.account(6), 7);
        Check.is(x.isWell(), true);
    }

    private static void unpackAndPacked() {
        Check.part("promises 24 and 25, unpack and packed");
        CircusCoats x = room(6, 0, 0, 2);
        for (int i = 0; i < 5; i++) {
            x.pack(i, 1);
        }
        Check.outOfBounds(x, () -> x.unpack(6));
        Check.outOfBounds(x, () -> x.unpack(-1));
        Check.refused(x, 18, 5, () -> x.unpack(5));
        Check.outOfBounds(x, () -> x.packed(2, 0));
        Check.outOfBounds(x, () -> x.packed(-1, 0));
        for (int no : new int[] {-1, 5, MIN, MAX}) {
            Check.none(x, () -> x.packed(1, no));
        }
        Check.none(x, () -> x.packed(0, 0));
        Check.is(x.unpack(1), 1);
        is(new int[] {x.packed(1, 0), x.packed(1, 1), x.packed(1, 2), x.packed(1, 3)}, 0, 2, 3, 4);
        Check.none(x, () -> x.packed(1, 4));
        Check.is(x.unpack(4), 3);
        Check.is(x.unpack(0), 0);
        is(new int[] {x.packed(1, 0), x.packed(1, 1)}, 2, 3);
        Check.is(x.coatOf(0, 4), -1);
        Check.is(x.pack(0, 1), 3);
        Check.is(x.packed(1, 2), 0);
        x.load(0);
        x.load(1);
        Check.refused(x, 16, 1, () -> x.unpack(3));
        Check.refused(x, 18, 5, () -> x.unpack(5));
        x.unload();
        Check.refused(x, 16, 0, () -> x.unpack(3));
        x.unload();
        Check.is(x.unpack(3), 1);
        Check.is(x.account(6), 2);
    }

    private static void train() {
        Check.part("promises 26 to 29, load, unload, onTrain, unloads");
        CircusCoats x = room(4, 0, 0, 4);
        x.pack(0, 2);
        x.pack(1, 2);
        x.pack(2, 1);
        Check.outOfBounds(x, () -> x.load(4));
        Check.outOfBounds(x, () -> x.load(-1));
        Check.refused(x, 17, 0, () -> x.unload());
        Check.is(x.load(3), 1);
        Check.is(x.load(2), 2);
        Check.is(x.load(0), 3);
        Check.refused(x, 16, 1, () -> x.load(2));
        Check.refused(x, 16, 2, () -> x.load(0));
        is(new int[] {x.onTrain(0), x.onTrain(1), x.onTrain(2)}, 3, 2, 0);
        for (int no : new int[] {-1, 3, MIN, MAX}) {
            Check.none(x, () -> x.onTrain(no));
        }
        Check.outOfBounds(x, () -> x.unloads(4));
        Check.outOfBounds(x, () -> x.unloads(-1));
        is(new int[] {x.unloads(0), x.unloads(1), x.unloads(2), x.unloads(3)}, 2, 2, 0, 0);
        Check.is(x.unload(), 3);
        is(new int[] {x.onTrain(0), x.onTrain(1), x.unloads(0), x.account(5)}, 2, 0, 1, 2);
        Check.is(x.load(3), 3);
        Check.is(x.load(1), 4);
        is(new int[] {x.unloads(2), x.onTrain(3)}, 4, 1);
        is(new int[] {x.unload(), x.unload(), x.unload(), x.unload()}, 2, 0, 3, 1);
        Check.refused(x, 17, 0, () -> x.unload());
        Check.is(x.unloads(2), 0);
    }

    private static void goOn() {
        Check.part("promise 30, goOn");
        CircusCoats x = room(2, 2, 1, 1);
        Check.outOfBounds(x, () -> x.goOn(2));
        Check.outOfBounds(x, () -> x.goOn(-1));
        Check.refused(x, 13, 1, () -> x.goOn(1));
        x.letOut(0, 0);
        x.wear(1, 0);
        is(new int[] {x.goOn(1), x.goOn(1), x.goOn(1)}, 4, 8, 12);
        is(new int[] {x.coatOf(0, 1), x.coatOf(0, 5), x.actOf(1, 3), x.actOf(0, 3), x.account(16)}, 0, 3, 3, 0, 3);
        Check.is(x.account(13), 12);
        Check.refused(x, 14, 1, () -> x.goOn(1));
        x.rip(0, 1);
        Check.refused(x, 14, 0, () -> x.goOn(1));
        x.wear(0, 1);
        Check.is(x.goOn(0), 4);
        Check.is(x.coatOf(1, 1), 1);
        x.sew(0, 1);
        goOnEdges(x);
    }

    private static void goOnEdges(CircusCoats x) {
        x.lose(1, 6);
        for (int panel = 0; panel < 8; panel++) {
            x.tear(panel * 4);
        }
        Check.is(x.goOn(0), 14);
        x.undo();
        x.tear(1);
        Check.refused(x, 15, 9, () -> x.goOn(0));
        x.tear(2);
        Check.refused(x, 15, 10, () -> x.goOn(0));
        x.rip(1, 1);
        Check.refused(x, 14, 0, () -> x.goOn(0));
        x.pack(1, 0);
        Check.refused(x, 3, 0, () -> x.goOn(0));
        Check.is(x.account(16), 4);
        CircusCoats y = new CircusCoats();
        y.coat(40);
        y.act(41, 0);
        y.wear(0, 0);
        Check.refused(y, 14, 2, () -> y.goOn(0));
        y.lose(0, 60);
        Check.refused(y, 14, 1, () -> y.goOn(0));
        y.rip(0, 9);
        Check.refused(y, 14, 0, () -> y.goOn(0));
    }

    private static void tightIn() {
        Check.part("promise 31, tightIn");
        CircusCoats x = new CircusCoats();
        x.coat(45);
        x.coat(39);
        x.coat(40);
        x.act(40, 2);
        x.act(40, 0);
        Check.outOfBounds(x, () -> x.tightIn(2));
        Check.outOfBounds(x, () -> x.tightIn(-1));
        Check.none(x, () -> x.tightIn(0));
        x.wear(0, 0);
        Check.is(x.tightIn(0), 21);
        x.pass(1);
        Check.is(x.tightIn(0), 20);
        x.pass(5);
        Check.is(x.tightIn(0), 15);
        x.pass(1);
        Check.is(x.tightIn(0), 14);
        x.pass(13);
        Check.is(x.tightIn(0), 1);
        Check.is(x.open(0, 0), false);
        x.pass(1);
        Check.is(x.tightIn(0), 0);
        Check.is(x.open(0, 0), true);
        x.wear(1, 2);
        Check.none(x, () -> x.tightIn(1));
        x.wear(1, 1);
        Check.is(x.tightIn(1), 0);
    }

    private static void pass() {
        Check.part("promise 32, pass");
        CircusCoats x = room(1, 0, 2, 0);
        for (int no : new int[] {0, -1, 61, MIN, MAX}) {
            Check.illegal(x, () -> x.pass(no));
        }
        x.act(60, 3);
        x.act(30, 1);
        Check.is(x.pass(6), 0);
        Check.is(x.pass(1), 4);
        Check.is(x.pass(60), 32);
        is(new int[] {x.actOf(0, 0), x.actOf(1, 0), x.account(0)}, 87, 39, 67);
        Check.is(x.pass(21), 12);
        Check.is(x.actOf(0, 0), 96);
        Check.is(x.pass(7), 4);
        Check.is(x.actOf(0, 0), 99);
        Check.is(x.pass(7), 1);
        x.act(59, 3);
        x.pass(60);
        x.pass(29);
        is(new int[] {x.account(0), x.actOf(2, 0), x.actOf(1, 0)}, 191, 98, 57);
        Check.is(x.pass(5), 2);
        is(new int[] {x.actOf(2, 0), x.actOf(0, 0)}, 99, 99);
        x.rip(0, 9);
        for (int i = 0; i < 6; i++) {
            x.sew(1, 0);
        }
        x.sew(0, 0);
        x.pass(1);
        is(new int[] {x.seamstressOf(0, 0), x.seamstressOf(0, 1), x.seamstressOf(1, 1)}, 8, 0, 4);
        x.pass(2);
        Check.is(x.seamstressOf(1, 1), 0);
    }

    private static void append() {
        Check.part("promise 33, append");
        CircusCoats x = new CircusCoats();
        for (int i = 1; i <= 60; i++) {
            Check.is(x.append(i == 3 ? (char) 0 : (char) (i * 1000)), i);
        }
        Check.state(x, () -> x.append('u'));
        Check.is(x.account(17), 60);
        Check.illegal(x, () -> x.read());
        Check.is(x.account(17), 0);
        Check.is(x.append((char) 0), 1);
        Check.illegal(x, () -> x.read());
        Check.is(x.errorPosition(), 0);
    }

    private static void read() {
        Check.part("promise 34, read");
        CircusCoats x = room(2, 1, 1, 2);
        Check.type(x, "u");
        Check.refused(x, 17, 0, () -> x.read());
        Check.is(x.errorPosition(), -1);
        Check.is(x.account(17), 0);
        x.rip(0, 2);
        Check.type(x, "s0@0;s0@00;w0:0;g0;k0>0;l0;u;p06");
        Check.is(x.read(), 8);
        is(new int[] {x.account(17), x.account(0), x.coatOf(0, 4), x.actOf(0, 2), x.coatOf(0, 1), x.account(16)},
            0, 6, 0, 0, 1, 1);
        Check.is(x.account(18), 8);
        x.undo();
        is(new int[] {x.account(0), x.coatOf(0, 4), x.actOf(0, 2), x.coatOf(0, 1), x.account(17)}, 0, -1, -1, 2, 0);
        Check.type(x, "l1;l1");
        Check.refused(x, 16, 0, () -> x.read());
        Check.is(x.errorPosition(), -1);
        Check.type(x, "p3;s0@0;s0@0;s0@0;u");
        Check.refused(x, 6, 0, () -> x.read());
        Check.type(x, "p3;l9;u");
        Check.illegal(x, () -> x.read());
        Check.is(x.refusal(false), 6);
        Check.type(x, "p3;u;l9");
        Check.refused(x, 17, 0, () -> x.read());
        Check.type(x, "l0;k1>0");
        Check.refused(x, 16, 0, () -> x.read());
        StringBuilder longest = new StringBuilder("p1");
        for (int i = 0; i < 14; i++) {
            longest.append(";p60");
        }
        Check.type(x, longest.toString());
        Check.is(x.read(), 15);
        Check.is(x.account(0), 841);
        Check.type(x, "l0;u;l0;u;l0;u;l0;u;l0;u;l0;u;l0;u;l0;u;l0;u;l0;u;l0;u;l0;u");
        Check.is(x.account(17), 59);
        Check.is(x.read(), 24);
    }

    private static void readOrders() {
        Check.part("promise 34, each order");
        String[] wrong = {"s1@0", "s0@2", "s0@99", "w1:0", "w0:2", "k2>0", "k0>2", "k99>0", "l2", "g1", "p0", "p00",
            "p61", "p99"};
        for (String text : wrong) {
            CircusCoats x = room(2, 1, 1, 2);
            Check.type(x, text);
            Check.illegal(x, () -> x.read());
            Check.is(x.errorPosition(), -1);
            Check.none(x, () -> x.refusal(false));
            Check.is(x.account(17), 0);
        }
        CircusCoats x = room(12, 2, 1, 2);
        x.wear(0, 11);
        Check.type(x, "w1:11");
        Check.refused(x, 2, 0, () -> x.read());
        Check.type(x, "k11>1;k10>1;k09>1;k8>1;k7>1;p60");
        Check.is(x.read(), 6);
        Check.is(x.packed(1, 4), 7);
        Check.type(x, "k6>1");
        Check.refused(x, 1, 5, () -> x.read());
        Check.type(x, "k11>0");
        Check.refused(x, 3, 1, () -> x.read());
        Check.type(x, "g1");
        Check.refused(x, 13, 1, () -> x.read());
        Check.type(x, "g0");
        Check.refused(x, 3, 1, () -> x.read());
        Check.is(x.account(0), 60);
    }

    private static void errorPosition() {
        Check.part("promise 35, errorPosition");
        at("", 0);
        at(";", 0);
        at("x", 0);
        at("S0@0", 0);
        at("u;", 2);
        at("u;;", 2);
        at("uu", 1);
        at("u0", 1);
        at(" u", 0);
        at("u ", 1);
        at("s", 1);
        at("s@", 1);
        at("s0", 2);
        at("s00", 2);
        at("s0:0", 2);
        at("s0@", 3);
        at("s0@/", 3);
        at("s0@:", 3);
        at("s0@123", 5);
        at("w0@0", 2);
        at("w0:", 3);
        at("w10:0", 2);
        at("w0:123", 5);
        at("k", 1);
        at("k>", 1);
        at("k1", 2);
        at("k12", 3);
        at("k123>0", 3);
        at("k12>", 4);
        at("k12>00", 5);
        at("k12:0", 3);
        at("l", 1);
        at("l00", 2);
        at("g", 1);
        at("g00", 2);
        at("p", 1);
        at("p-1", 1);
        at("p100", 3);
        at("p1;p1;q", 6);
        at("p99;s", 5);
        StringBuilder full = new StringBuilder();
        for (int i = 0; i < 30; i++) {
            full.append("u;");
        }
        at(full.toString(), 60);
        at(full.substring(0, 59) + "u", 59);
        CircusCoats x = room(1, 1, 1, 1);
        Check.type(x, "q");
        Check.illegal(x, () -> x.read());
        Check.is(x.errorPosition(), 0);
        Check.type(x, "l0");
        x.read();
        Check.is(x.errorPosition(), -1);
        Check.type(x, "l0q");
        Check.illegal(x, () -> x.read());
        Check.is(x.errorPosition(), 2);
        x.save();
        x.undo();
        x.restore();
        Check.is(x.errorPosition(), 2);
        Check.type(x, "l0");
        Check.refused(x, 16, 0, () -> x.read());
        Check.is(x.errorPosition(), -1);
    }

    private static void at(String text, int due) {
        CircusCoats x = room(1, 1, 1, 1);
        Check.type(x, text);
        Check.illegal(x, () -> x.read());
        Check.is(x.errorPosition(), due);
        Check.is(x.account(17), 0);
        Check.none(x, () -> x.refusal(true));
    }

    private static void refusal() {
        Check.part("promise 36, refusal");
        CircusCoats x = room(2, 2, 1, 1);
        Check.none(x, () -> x.refusal(true));
        Check.refused(x, 6, 1, () -> x.sew(0, 1));
        x.save();
        Check.refused(x, 13, 1, () -> x.goOn(1));
        Check.outOfBounds(x, () -> x.goOn(9));
        x.tear(3);
        is(new int[] {x.refusal(false), x.refusal(true)}, 13, 1);
        x.undo();
        is(new int[] {x.refusal(false), x.refusal(true)}, 13, 1);
        x.restore();
        is(new int[] {x.refusal(false), x.refusal(true)}, 13, 1);
    }

    private static void sign() {
        Check.part("promise 37, sign");
        CircusCoats x = room(1, 1, 1, 1);
        Check.outOfBounds(x, () -> x.sign(1));
        Check.outOfBounds(x, () -> x.sign(-1));
        Check.is(x.sign(0), 'c');
        x.lose(0, 10);
        Check.is(x.sign(0), 'c');
        x.wear(0, 0);
        Check.is(x.sign(0), 'w');
        x.lose(0, 1);
        Check.is(x.sign(0), 's');
        x.rip(0, 1);
        Check.is(x.sign(0), 'r');
        x.pack(0, 0);
        Check.is(x.sign(0), 't');
    }

    private static void account() {
        Check.part("promise 38, account");
        CircusCoats x = room(4, 2, 2, 3);
        for (int no : new int[] {-1, 19, MIN, MAX}) {
            Check.illegal(x, () -> x.account(no));
        }
        x.wear(0, 0);
        x.wear(1, 1);
        x.goOn(0);
        x.goOn(1);
        x.rip(2, 5);
        x.lose(2, 20);
        x.lose(1, 30);
        x.sew(0, 2);
        x.spangle(1, 2, 12);
        x.tear(4);
        x.tear(6);
        x.patch(1);
        x.pack(3, 0);
        x.pack(2, 2);
        x.load(2);
        x.bring(0, 50);
        x.bring(1, 9);
        x.bring(2, 3);
        x.pass(9);
        Check.type(x, "abc");
        int[] due = {9, 4, 2, 2, 3, 1, 2, 238, 105, 22, 6, 46, 12, 58, 250, 1, 2, 3, 8};
        for (int what = 0; what < due.length; what++) {
            Check.is(x.account(what), due[what]);
        }
    }

    private static void isWell() {
        Check.part("promise 39, isWell");
        CircusCoats x = room(6, 2, 2, 2);
        x.lose(0, 40);
        x.spangle(0, 0, 15);
        x.bring(0, 99);
        x.wear(0, 0);
        x.wear(0, 1);
        x.wear(1, 0);
        x.pack(0, 0);
        x.pack(1, 0);
        x.pack(2, 0);
        x.unpack(1);
        x.load(0);
        Check.is(x.isWell(), true);
        x.undo();
        x.undo();
        Check.is(x.isWell(), true);
    }

    private static void means() {
        Check.part("promises 40 and 41, meanThumb and tornShare");
        CircusCoats x = room(1, 0, 0, 0);
        Check.fails(x, ArithmeticException.class, () -> x.meanThumb());
        x.seamstress();
        Check.is(x.meanThumb(), 0.0);
        x.seamstress();
        x.seamstress();
        x.rip(0, 9);
        x.sew(0, 0);
        Check.is(x.meanThumb(), 1.0 / 3.0);
        x.sew(2, 0);
        Check.is(x.meanThumb(), 2.0 / 3.0);
        x.sew(2, 0);
        x.sew(2, 0);
        Check.is(x.meanThumb(), 4.0 / 3.0);
        Check.is(x.tornShare(), 0f);
        x.tear(0);
        Check.is(x.tornShare(), 1f / 32f);
        for (int panel = 0; panel < 32; panel++) {
            x.tear(panel);
            Check.is(x.tornShare(), (float) (panel + 1) / 32f);
        }
    }

    private static void undo() {
        Check.part("promise 42, undo");
        CircusCoats x = room(2, 1, 1, 1);
        Check.is(x.account(18), 5);
        Check.is(x.undo(), 4);
        Check.is(x.account(4), 0);
        x.trunk();
        x.rip(0, 1);
        String[] before = new String[12];
        for (int i = 0; i < 12; i++) {
            before[i] = state(x);
            change(x, i);
        }
        Check.is(x.account(18), 8);
        for (int i = 11; i >= 4; i--) {
            Check.is(x.undo(), i - 4);
            Check.is(state(x), before[i]);
        }
        Check.state(x, () -> x.undo());
        x.tear(0);
        x.tear(0);
        Check.is(x.undo(), 1);
        Check.is(x.account(15), 1);
        Check.is(x.undo(), 0);
        Check.is(x.account(15), 0);
        Check.state(x, () -> x.undo());
        Check.type(x, "l0;u");
        x.read();
        Check.type(x, "lq");
        Check.illegal(x, () -> x.read());
        Check.type(x, "l0;l0");
        Check.refused(x, 16, 0, () -> x.read());
        Check.type(x, "u");
        Check.is(x.account(18), 1);
        Check.is(x.undo(), 0);
        Check.is(x.account(17), 1);
    }

    private static void change(CircusCoats x, int which) {
        switch (which) {
            case 0: x.coat(33); break;
            case 1: x.act(44, 2); break;
            case 2: x.seamstress(); break;
            case 3: x.trunk(); break;
            case 4: x.wear(0, 1); break;
            case 5: x.bring(0, 7); break;
            case 6: x.sew(0, 0); break;
            case 7: x.letOut(0, 1); break;
            case 8: x.goOn(0); break;
            case 9: x.pack(1, 0); break;
            case 10: x.load(0); break;
            default: x.pass(60); break;
        }
    }

    private static void saveAndRestore() {
        Check.part("promises 43 and 44, save and restore");
        CircusCoats x = room(3, 2, 1, 2);
        x.wear(0, 1);
        x.pack(2, 1);
        x.load(1);
        Check.state(x, () -> x.restore());
        int kept = x.account(18);
        Check.is(x.save(), 3);
        Check.is(x.account(18), kept);
        String saved = state(x);
        Check.type(x, "zz");
        x.coat(50);
        x.unload();
        x.pass(8);
        x.tear(9);
        x.lose(0, 60);
        Check.is(x.undo(), 7);
        Check.is(x.restore(), 3);
        Check.is(state(x), saved);
        Check.is(x.account(17), 2);
        Check.is(x.account(18), 0);
        Check.state(x, () -> x.undo());
        x.coat(60);
        x.coat(60);
        Check.is(x.restore(), 3);
        Check.is(state(x), saved);
        x.coat(60);
        Check.is(x.save(), 4);
        Check.is(x.undo(), 0);
        Check.is(x.account(1), 3);
        Check.is(x.restore(), 4);
        Check.is(x.account(1), 4);
        Check.is(x.isWell(), true);
    }

    private static void examples() {
        Check.part("examples: coats, an act and a seam");
        CircusCoats x = new CircusCoats();
        is(new int[] {x.coat(40), x.coat(45), x.act(40, 1), x.best(0), x.wear(0, 0), x.goOn(0), x.coatOf(0, 1)},
            0, 1, 0, 0, -1, 4, 1);
        Check.refused(x, 14, 0, () -> x.goOn(0));
        is(new int[] {x.seamstress(), x.work(0, 0), x.sew(0, 0), x.goOn(0), x.tightIn(0), x.pass(7)},
            0, 1, 0, 8, 7, 1);
        Check.is(x.isWell(), true);
        Check.part("examples: trunks that are packed and loaded");
        CircusCoats y = new CircusCoats();
        is(new int[] {y.coat(40), y.coat(50), y.trunk(), y.trunk(), y.pack(1, 1), y.pack(0, 1), y.load(1), y.load(0),
            y.unloads(0)}, 0, 1, 0, 1, 1, 2, 1, 2, 1);
        Check.refused(y, 16, 0, () -> y.unpack(0));
        is(new int[] {y.unload(), y.unpack(1), y.packed(1, 0)}, 1, 0, 0);
        Check.is(y.sign(0), 't');
        Check.part("examples: what is refused by a new object");
        CircusCoats z = new CircusCoats();
        Check.outOfBounds(z, () -> z.goOn(0));
        Check.illegal(z, () -> z.coat(29));
        Check.refused(z, 17, 0, () -> z.unload());
        Check.none(z, () -> z.torn(0));
        Check.illegal(z, () -> z.read());
        Check.is(z.errorPosition(), 0);
        Check.fails(z, ArithmeticException.class, () -> z.meanThumb());
        Check.state(z, () -> z.undo());
        Check.state(z, () -> z.restore());
    }

    /** The print without the changes that can be undone. */
    private static String state(CircusCoats x) {
        String print = Check.print(x);
        int end = print.indexOf('\n');
        return print.substring(0, print.lastIndexOf(' ', end)) + print.substring(end);
    }

    /** A room with coats and acts of size 40 that do not grow. */
    private static CircusCoats room(int coats, int acts, int seamstresses, int trunks) {
        CircusCoats x = new CircusCoats();
        for (int i = 0; i < coats; i++) {
            x.coat(40);
        }
        for (int i = 0; i < acts; i++) {
            x.act(40, 0);
        }
        for (int i = 0; i < seamstresses; i++) {
            x.seamstress();
        }
        for (int i = 0; i < trunks; i++) {
            x.trunk();
        }
        return x;
    }

    private static void is(int[] answered, int... due) {
        Check.is(java.util.Arrays.toString(answered), java.util.Arrays.toString(due));
    }
}
