theorem pure_ok : Pure1 := sorry
