theorem law_runs {L : Nat} (hL : L ≤ 3072) (xs : Nat → Int32) : mm_lawRuns L xs := sorry
