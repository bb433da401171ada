/** Makes objects from short texts, and tells all that can be told of one. */
final class Votes {
    private Votes() { }

    /** People as "A21s" (A at 2, slow 1, silk) or "F09ch" (F at 0, slow 9, cotton, a hole), parted by blanks. */
    static UmbrellaVote of(String people, String chronicle) {
        UmbrellaVote x = new UmbrellaVote();
        stand(x, people);
        write(x, chronicle);
        return x;
    }

    static UmbrellaVote of(String people) {
        return of(people, "");
    }

    static void stand(UmbrellaVote x, String people) {
        for (String one : people.split(" ")) {
            if (!one.isEmpty()) {
                int party = one.charAt(3) == 'c' ? 1 : 0;
                x.stand(one.charAt(0) - 'A', one.charAt(1) - '0', one.charAt(2) - '0', party, one.endsWith("h"));
            }
        }
    }

    static void write(UmbrellaVote x, String text) {
        for (int i = 0; i < text.length(); i++) {
            x.say(text.charAt(i));
        }
    }

    /** Weights as ten digits; those above 0 first, since all together may at no time be 0. */
    static void weigh(UmbrellaVote x, String weights) {
        for (int place = 0; place < 10; place++) {
            if (weights.charAt(place) != '0') {
                x.weight(place, weights.charAt(place) - '0');
            }
        }
        for (int place = 0; place < 10; place++) {
            x.weight(place, weights.charAt(place) - '0');
        }
    }

    /** All that the calls tell, the images too; it is used up by that. */
    static String everything(UmbrellaVote x) {
        StringBuilder all = new StringBuilder("pad " + x.fault());
        for (int parts = -1; parts <= 41; parts++) {
            all.append(' ').append(x.reign(parts));
        }
        for (int of = 0; of < 10; of++) {
            all.append(' ').append(x.years(of));
        }
        all.append(" street ").append(street(x));
        all.append(" image 0 ").append(x.restore(0)).append(' ').append(street(x));
        all.append(" image 1 ").append(x.restore(1)).append(' ').append(street(x));
        return all.toString();
    }

    private static String street(UmbrellaVote x) {
        StringBuilder all = new StringBuilder();
        for (int what = 0; what < 80; what++) {
            all.append(x.told(what)).append(' ');
        }
        return all.append(x.fits()).append(' ').append(x.never()).append(' ').append(x.chance(6, 0)).toString();
    }
}
