import java.util.ArrayList;
import java.util.Collections;
import java.util.List;
import java.util.Random;

/** Programs and numbers by chance, the same ones for the same seed. */
final class Chance {
    private final Random random;

    Chance(long seed) {
        random = new Random(seed);
    }

    int below(int n) {
        return random.nextInt(n);
    }

    int from(int least, int most) {
        return least + random.nextInt(most - least + 1);
    }

    boolean oneIn(int n) {
        return random.nextInt(n) == 0;
    }

    int anyInt() {
        return oneIn(2) ? from(-30, 30) : random.nextInt();
    }

    /**
     * Bytes of a program that mostly fit one another: the kinds on the stack are followed, and what
     * is put there is told by letters, i an int, p a pair (whose parts may be of any kind).
     */
    int[] program() {
        List<Integer> bytes = new ArrayList<>();
        StringBuilder kinds = new StringBuilder();
        if (oneIn(4)) {
            chain(bytes, kinds, from(1, 8));
        } else if (oneIn(4)) {
            countdown(bytes, from(2, 16));
        }
        int length = from(Math.max(10, bytes.size()), 46);
        while (bytes.size() < length) {
            fitting(bytes, kinds);
            if (oneIn(60)) {
                bytes.add(below(24));
            }
        }
        if (oneIn(2) && bytes.size() < 47) {
            bytes.add(Kit.JUMP);
            bytes.add(below(8));
        }
        int[] all = new int[Math.min(48, bytes.size())];
        for (int i = 0; i < all.length; i++) {
            all[i] = bytes.get(i);
        }
        return all;
    }

    /** Pairs that lie in one another, so that agents come near the most they may have. */
    private void chain(List<Integer> bytes, StringBuilder kinds, int pairs) {
        push(bytes, kinds, from(-9, 9));
        for (int i = 0; i < pairs; i++) {
            push(bytes, kinds, from(-9, 9));
            bytes.add(Kit.PAIR);
            drop(kinds, 1);
        }
        drop(kinds, 1);
        kinds.append('p');
    }

    /** Says n, n - 1 and so on to 1, so that agents come near the most they may say. */
    private void countdown(List<Integer> bytes, int n) {
        int[] loop = {Kit.PUSH, n, Kit.PICK, 0, Kit.SAY, Kit.PUSH, 1, Kit.SUB, Kit.PICK, 0, Kit.JUMP_IF, 2, Kit.DROP};
        for (int b : loop) {
            bytes.add(b);
        }
    }

    private void push(List<Integer> bytes, StringBuilder kinds, int value) {
        bytes.add(Kit.PUSH);
        bytes.add(value & 255);
        kinds.append('i');
    }

    private void drop(StringBuilder kinds, int n) {
        kinds.setLength(Math.max(0, kinds.length() - n));
    }

    private void fitting(List<Integer> bytes, StringBuilder kinds) {
        int depth = kinds.length();
        char top = depth > 0 ? kinds.charAt(depth - 1) : ' ';
        char below = depth > 1 ? kinds.charAt(depth - 2) : ' ';
        int choice = below(26);
        if (depth >= 6) {
            choice = top == 'i' ? 6 : 14;
        }
        if (choice <= 1) {
            push(bytes, kinds, from(-128, 127));
        } else if (choice <= 4 && top == 'i' && below == 'i') {
            bytes.add(choice);
            drop(kinds, 1);
        } else if (choice == 5 && depth > 0) {
            int x = below(depth);
            bytes.add(5);
            bytes.add(x);
            kinds.append(kinds.charAt(depth - 1 - x));
        } else if (choice == 6 && top == 'i') {
            bytes.add(oneIn(4) ? Kit.DROP : Kit.SAY);
            drop(kinds, 1);
        } else if (choice == 7) {
            bytes.add(Kit.TABLE);
            bytes.add(below(8));
            kinds.append('i');
        } else if (choice == 8 && top == 'i') {
            bytes.add(Kit.SAY);
            drop(kinds, 1);
        } else if (choice == 9 || choice == 20 || choice == 21) {
            push(bytes, kinds, below(4));
            bytes.add(Kit.GO);
            drop(kinds, 1);
        } else if (choice == 11 && top == 'i' && oneIn(2)) {
            bytes.add(Kit.JUMP_IF);
            bytes.add(oneIn(9) ? below(256) : Math.min(47, bytes.size() + 1 + below(4)));
            drop(kinds, 1);
        } else if (choice == 12 && oneIn(2)) {
            push(bytes, kinds, from(-2, 60));
            bytes.add(Kit.CLONE);
        } else if (choice == 13 && oneIn(2)) {
            push(bytes, kinds, below(4));
            bytes.add(Kit.WAIT);
            drop(kinds, 1);
        } else {
            pairs(bytes, kinds, choice);
        }
    }

    private void pairs(List<Integer> bytes, StringBuilder kinds, int choice) {
        int depth = kinds.length();
        char top = depth > 0 ? kinds.charAt(depth - 1) : ' ';
        char below = depth > 1 ? kinds.charAt(depth - 2) : ' ';
        if ((choice == 14 || choice == 10 || choice >= 22) && depth > 1) {
            bytes.add(Kit.PAIR);
            drop(kinds, 2);
            kinds.append('p');
        } else if ((choice == 15 || choice == 16) && top == 'p') {
            bytes.add(choice);
            drop(kinds, 1);
            kinds.append(oneIn(2) ? 'i' : 'p');
        } else if ((choice == 17 || choice == 18) && below == 'p') {
            bytes.add(choice);
            drop(kinds, 2);
        } else if ((choice == 17 || choice == 18) && top == 'p' && depth < 5) {
            Collections.addAll(bytes, Kit.PICK, 0, Kit.PUSH, from(-9, 9) & 255, choice);
        } else if (choice == 19 && depth > 1) {
            bytes.add(Kit.SAME);
            drop(kinds, 2);
            kinds.append('i');
        }
    }
}
