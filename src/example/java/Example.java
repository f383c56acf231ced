/** The example that README.md shows. */
public final class Example {
    private Example() {
    }

    public static void main(String[] args) {
        SteppedSpines spines = new SteppedSpines();
        spines.set(0, 3);                        // a book of three sheets: 0, 1 and 2
        spines.gather(1);
        spines.gather(0);
        spines.gather(2);
        System.out.println("fault " + spines.count(2) + " at the place " + spines.count(3));

        int move = spines.nextMove();            // 20 * from + to
        spines.move(move / 20, move % 20);
        System.out.println("fault " + spines.count(2) + ", place of it " + spines.count(3));
        System.out.println("books bound: " + spines.bind());

        String text = "g0;g1;f1;b;g2";           // the sheet 1 lies upside down, so the part 3 stops it
        for (int i = 0; i < text.length(); i++) {
            spines.append(text.charAt(i));
        }
        System.out.println("parts done: " + spines.work() + ", stop at the part " + spines.count(14));
        try {
            spines.bind();
        } catch (IllegalStateException e) {
            System.out.println("not bound, for the reason " + spines.count(2));
        }

        System.out.println("saved states left: " + spines.undo() + ", sheets: " + spines.count(0));
        if (spines.nextMove() == SteppedSpines.NONE) {
            System.out.println("no sheet has to be moved");
        }
    }
}
