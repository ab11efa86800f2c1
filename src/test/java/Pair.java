/** An array and the model beside it: every call goes to both, and their answers are compared. */
final class Pair {
    private final Due due;
    private final String name;
    private final Model model;
    private final DualParityArray array;

    Pair(Due due, String name, int disks, int stripes, int spares) {
        this.due = due;
        this.name = name + ", new(" + disks + ", " + stripes + ", " + spares + "), ";
        this.model = new Model(disks, stripes, spares);
        this.array = new DualParityArray(disks, stripes, spares);
    }

    int disks() {
        return model.n;
    }

    int stripes() {
        return model.stripes;
    }

    int blocks() {
        return model.stripes * (model.n - 2);
    }

    void read(int block) {
        due.is(name + "read(" + block + ")", array.read(block), model.read(block));
    }

    void write(int block, int v) {
        due.is(name + "write(" + block + ", " + v + ")", array.write(block, v), model.writeRun(block, 1, v));
    }

    void writeRun(int block, int count, int v) {
        String what = name + "writeRun(" + block + ", " + count + ", " + v + ")";
        due.is(what, array.writeRun(block, count, v), model.writeRun(block, count, v));
    }

    void fail(int d) {
        due.is(name + "fail(" + d + ")", array.fail(d), model.fail(d) == 1);
    }

    void replace(int d) {
        due.is(name + "replace(" + d + ")", array.replace(d), model.replace(d) == 1);
    }

    void rebuild() {
        due.is(name + "rebuild()", array.rebuild(), model.rebuild());
    }

    void scrub(int s) {
        due.is(name + "scrub(" + s + ")", array.scrub(s), model.scrub(s));
    }

    void corrupt(int d, int s, int x) {
        String what = name + "corrupt(" + d + ", " + s + ", " + x + ")";
        due.is(what, array.corrupt(d, s, x), model.corrupt(d, s, x) == 1);
    }

    void arm(int k) {
        due.is(name + "arm(" + k + ")", array.arm(k), model.arm(k) == 1);
    }

    void crash() {
        due.is(name + "crash()", array.crash(), model.crash() == 1);
    }

    void restart() {
        due.is(name + "restart()", array.restart(), model.restart());
    }

    void peek(int d, int s) {
        due.is(name + "peek(" + d + ", " + s + ")", array.peek(d, s), model.peek(d, s));
    }

    void locate(int block) {
        due.is(name + "locate(" + block + ")", array.locate(block), model.locate(block));
    }

    void position(int d) {
        due.is(name + "position(" + d + ")", array.position(d), model.position(d));
    }

    void lookAtTheWhole() {
        for (int i = 0; i < 6; i++) {
            lookAtOne(i);
        }
    }

    /** One of the six calls that look at the whole array. */
    void lookAtOne(int i) {
        switch (i) {
            case 0 -> due.is(name + "mode()", array.mode(), model.mode());
            case 1 -> due.is(name + "logged()", array.logged(), model.logged());
            case 2 -> due.is(name + "reads()", array.reads(), model.reads());
            case 3 -> due.is(name + "writes()", array.writes(), model.writes());
            case 4 -> due.is(name + "faults()", array.faults(), model.faults());
            default -> due.is(name + "spares()", array.spares(), model.spares());
        }
    }

    void lookAtTheDisks() {
        for (int d = 0; d < disks(); d++) {
            position(d);
            for (int s = 0; s < stripes(); s++) {
                peek(d, s);
            }
        }
    }
}
