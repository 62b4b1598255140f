/** Long runs of calls, the same ones each time, whose answers are compared with the model's. */
public final class ModelTest {
    private static final int RUNS = 400;
    private static final int CALLS = 512;

    private long state;
    private final SlatCrates real = new SlatCrates();
    private final Model model = new Model();
    private final int run;
    private String text = "";
    private int call = 0;

    private ModelTest(int run) {
        this.run = run;
        this.state = run * 7919L + 1;
    }

    public static void main(String[] args) {
        for (int run = 0; run < RUNS; run++) {
            new ModelTest(run).play();
        }
        Due.end("ModelTest");
    }

    /** A fixed row of numbers that look mixed; no random source. */
    private int below(int bound) {
        state = state * 6364136223846793005L + 1442695040888963407L;
        return (int) ((state >>> 33) % bound);
    }

    private int crateNumber() {
        return below(40) == 0 ? odd() : below(Math.max(1, model.count(0)) + (below(12) == 0 ? 1 : 0));
    }

    private int odd() {
        int[] odd = {Integer.MIN_VALUE, -2, -1, 12, 13, 1000, Integer.MAX_VALUE};
        return odd[below(odd.length)];
    }

    private int number(int bound) {
        return below(40) == 0 ? odd() : below(bound);
    }

    private void due(String name, int got, int want) {
        Due.due("run " + run + ", call " + call + ": " + name, got, want);
    }

    private void play() {
        while (call < CALLS) {
            call++;
            if (!text.isEmpty() && below(20) > 0) {
                appendNext();
            } else if (below(2) == 0) {
                change(below(12));
            } else {
                look(below(16));
            }
        }
    }

    private void appendNext() {
        int code = below(150) == 0 ? odd() : text.charAt(0);
        text = text.substring(1);
        due("append(" + code + ")", real.append(code), model.append(code));
    }

    private int label() {
        int letters = 1 + below(4);
        int label = 0;
        for (int place = 0; place < letters; place++) {
            label = label * 27 + 1 + below(run % 3 == 0 ? 2 : 26);
        }
        return below(15) == 0 ? below(27 * 27 * 27 * 27 + 5) : label;
    }

    private void make() {
        int size = 1 + below(run % 4 == 0 ? 12 : 60);
        int room = size == 1 ? 0 : size - 1 - below(Math.min(size, 6));
        int gaps = below(3) == 0 ? 15 : below(16);
        int label = label();
        if (below(15) == 0) {
            size = number(63);
            room = number(62);
            gaps = number(17);
        }
        String name = "make(" + size + ", " + room + ", " + gaps + ", " + label + ")";
        due(name, real.make(size, room, gaps, label), model.make(size, room, gaps, label));
    }

    private void change(int which) {
        int crate = crateNumber();
        int into = crateNumber();
        switch (which) {
            case 0: case 1: make(); break;
            case 2: case 3: case 4:
                due("put(" + crate + ", " + into + ")", real.put(crate, into), model.put(crate, into));
                break;
            case 5: due("ground(" + crate + ")", real.ground(crate), model.ground(crate)); break;
            case 6: due("turn(" + crate + ")", real.turn(crate), model.turn(crate)); break;
            case 7: due("breakUp(" + crate + ")", real.breakUp(crate), model.breakUp(crate)); break;
            case 8: changeText(below(7)); break;
            case 9: due("undo()", real.undo(), model.undo()); break;
            case 10: due("save()", real.save(), model.save()); break;
            default: due("restore()", real.restore(), model.restore()); break;
        }
    }

    private void changeText(int which) {
        switch (which) {
            case 0: case 1: case 2:
                due("clear()", real.clear(), model.clear());
                text = nests(1 + below(3), 0);
                spoil();
                break;
            case 3: due("clear()", real.clear(), model.clear()); break;
            case 4: text = nests(1, 0); break;
            default: due("load()", real.load(), model.load()); break;
        }
    }

    private String nests(int many, int depth) {
        StringBuilder nests = new StringBuilder();
        for (int nest = 0; nest < many; nest++) {
            int letters = 1 + below(3) * below(2);
            for (int place = 0; place < letters; place++) {
                nests.append((char) ('A' + below(26)));
            }
            int size = 1 + below(60 >> depth);
            nests.append('s').append(size);
            nests.append('r').append(below(12) == 0 ? below(60) : size - 1);
            nests.append('g').append(below(16));
            if (depth < 4 && below(2) == 0) {
                nests.append('[').append(nests(1 + below(2), depth + 1)).append(']');
            }
        }
        return nests.toString();
    }

    /** Every other text gets a wrong, missing or other character. */
    private void spoil() {
        if (text.isEmpty() || below(2) == 0) {
            return;
        }
        String signs = "AZsrg[]0123456789@:/a!";
        int place = below(text.length());
        String ahead = text.substring(0, place);
        String sign = String.valueOf(signs.charAt(below(signs.length())));
        String behind = text.substring(place + below(2));
        text = below(3) == 0 ? ahead : ahead + sign + behind;
    }

    private void look(int which) {
        int crate = crateNumber();
        int place = number(5);
        int what = number(16);
        switch (which) {
            case 0: case 1: case 2: case 3:
                due("crate(" + crate + ", " + what + ")", real.crate(crate, what), model.crate(crate, what));
                break;
            case 4: lookAtText(crate); break;
            case 5: due("letter(" + crate + ", " + place + ")", real.letter(crate, place), model.letter(crate, place)); break;
            case 6: due("seen(" + crate + ", " + place + ")", real.seen(crate, place), model.seen(crate, place)); break;
            case 7: lookWhyNot(crate); break;
            case 8: lookAtEffort(); break;
            case 9: lookAlike(); break;
            case 10: due("nest(" + place + ")", real.nest(place), model.nest(place)); break;
            case 11: case 12: due("count(" + what + ")", real.count(what), model.count(what)); break;
            case 13: Due.due("run " + run + ", call " + call + ": full()", real.full(), model.full()); break;
            case 14: lookIfTurned(crate); break;
            default: due("bestTurn()", real.bestTurn(), model.bestTurn()); break;
        }
    }

    private void lookAtText(int crate) {
        if (below(2) == 0) {
            due("fault()", real.fault(), model.fault());
        } else {
            int place = number(below(2) == 0 ? 12 : 120);
            due("sign(" + crate + ", " + place + ")", real.sign(crate, place), model.sign(crate, place));
        }
    }

    private void lookWhyNot(int crate) {
        int into = crateNumber();
        due("whyNot(" + crate + ", " + into + ")", real.whyNot(crate, into), model.whyNot(crate, into));
    }

    private void lookAtEffort() {
        int size = below(4) == 0 ? number(63) : Math.max(1, model.crate(crateNumber(), 0));
        int way = below(30) == 0 ? odd() : below(2);
        due("effort(" + size + ", " + way + ")", real.effort(size, way), model.effort(size, way));
    }

    private int wanted(int crate, int place) {
        int sign = model.seen(crate, place);
        return below(2) == 0 ? 28 : sign >= 0 && below(4) > 0 ? sign : number(30);
    }

    private void lookAlike() {
        int crate = crateNumber();
        int first = wanted(crate, 0);
        int second = wanted(crate, 1);
        int third = wanted(crate, 2);
        int fourth = wanted(crate, 3);
        String name = "alike(" + first + ", " + second + ", " + third + ", " + fourth + ")";
        due(name, real.alike(first, second, third, fourth), model.alike(first, second, third, fourth));
    }

    private void lookIfTurned(int crate) {
        int what = below(30) == 0 ? odd() : below(2);
        due("ifTurned(" + crate + ", " + what + ")", real.ifTurned(crate, what), model.ifTurned(crate, what));
    }
}
