theorem law_runs {L : Nat} (hL : L ≤ 3072) (xs : Nat → Int32) : mm_lawRuns L xs := by
  obtain ⟨J', K', R', e⟩ := law_ends (L := L) hL xs
  have ei : mm_i (J00 xs) = mm_I0 xs := by
    funext a j
    exact iI_of _
  have el : mm_l K00 = mm_L0 := by
    funext a j
    rfl
  have e' : E 600 237 0 [some (.ref 0), none, none, none] [] (TS L 2) (mm_i (J00 xs)) (mm_l K00) mm_R0 = some (some (vi 1), SH L, mm_i J', mm_l K', R') := e
  rw [ei, el] at e'
  refine ⟨SH L, mm_i J', mm_l K', R', e', ?_, ?_⟩
  · show 110 ≤ 600000
    omega
  · have h1 : mm_sl (SH L) = L + mm_sl SHt := rfl
    have h2 : mm_sl SHt = 4754 := by decide
    omega
