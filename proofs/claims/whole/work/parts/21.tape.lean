/-! tapes -/
theorem jcmp_lo {x y : Int} : -2147483648 ≤ jcmp x y := by unfold jcmp; split <;> (try split) <;> omega
theorem jcmp_hi {x y : Int} : jcmp x y ≤ 2147483647 := by unfold jcmp; split <;> (try split) <;> omega
theorem jcmp_0 {x y : Int} : (jcmp x y = 0) = (x = y) := by unfold jcmp; apply propext; split <;> (try split) <;> omega
theorem jcmp_p {x y : Int} : (0 < jcmp x y) = (y < x) := by unfold jcmp; apply propext; split <;> (try split) <;> omega
theorem jcmp_n {x y : Int} : (jcmp x y < 0) = (x < y) := by unfold jcmp; apply propext; split <;> (try split) <;> omega
theorem jcmp_np {x y : Int} : (jcmp x y ≤ 0) = (x ≤ y) := by unfold jcmp; apply propext; split <;> (try split) <;> omega
theorem jcmp_nn {x y : Int} : (0 ≤ jcmp x y) = (y ≤ x) := by unfold jcmp; apply propext; split <;> (try split) <;> omega
theorem i32_r (x : Int32) : -2147483648 ≤ x.toInt ∧ x.toInt ≤ 2147483647 := ⟨Int32.le_toInt _, by have := Int32.toInt_lt x; omega⟩
theorem jl2i_r (x : Int) : -2147483648 ≤ jl2i x ∧ jl2i x ≤ 2147483647 := i32_r _
theorem ji2b_r (x : Int) : -2147483648 ≤ ji2b x ∧ ji2b x ≤ 2147483647 := i32_r _
theorem ji2s_r (x : Int) : -2147483648 ≤ ji2s x ∧ ji2s x ≤ 2147483647 := i32_r _
def isP (S : mm_S) (R : mm_R) (t a : Nat) : Prop := S[t]? = some (7, 3) ∧ R t 0 = some a ∧ S[a]? = some (21, 60) ∧ 2 ≤ a
/-- a worth as an item of the sort s -/
def itN (s v : Int) : Int := if s = 0 then ji2b (jl2i v) else if s = 1 then ji2s (jl2i v) else if s = 2 then jl2i v else if s = 3 then v else bi (v ≠ 0)
section
variable {d t a : Nat} {S : mm_S} {J K : mJ} {R : mm_R} {x y z i n v : Int}
theorem p_sort (h : isP S R t a) : EE d 57 0 [some (.ref t)] [] S J K R = ok (some (vi (J t 1))) S J K R := by
  obtain ⟨h1, h2, h3, h4⟩ := h
  simp (disch := first | assumption | omega | exact bi_lo | exact bi_hi | exact bi_01 | exact jcmp_lo | exact jcmp_hi | exact (ji2b_r _).1 | exact (ji2b_r _).2 | exact (ji2s_r _).1 | exact (ji2s_r _).2 | exact (jl2i_r _).1 | exact (jl2i_r _).2) only [x57_0, x57_1, x57_4, kb_some, kb_none, clr_vi, clr_ref, clr_null, clr_none, va_rf_some, va_rf_none]
theorem p_holdsNothing (h : isP S R t a) (hs : -1 ≤ J t 1 ∧ J t 1 ≤ 4) : EE d 58 0 [some (.ref t)] [] S J K R = ok (some (vi (bi (J t 1 = -1)))) S J K R := by
  obtain ⟨h1, h2, h3, h4⟩ := h
  by_cases c : J t 1 = -1
  · simp (disch := first | assumption | omega | exact bi_lo | exact bi_hi | exact bi_01 | exact jcmp_lo | exact jcmp_hi | exact (ji2b_r _).1 | exact (ji2b_r _).2 | exact (ji2s_r _).1 | exact (ji2s_r _).2 | exact (jl2i_r _).1 | exact (jl2i_r _).2) only [x58_0, x58_1, x58_4, x58_5, x58_8, x58_9, x58_12, x58_13, kb_some, kb_none, clr_vi, clr_ref, clr_null, clr_none, va_rf_some, va_rf_none, bi_t c, if_pos c, if_neg (show ¬ J t 1 ≠ -1 by omega)]
  · simp (disch := first | assumption | omega | exact bi_lo | exact bi_hi | exact bi_01 | exact jcmp_lo | exact jcmp_hi | exact (ji2b_r _).1 | exact (ji2b_r _).2 | exact (ji2s_r _).1 | exact (ji2s_r _).2 | exact (jl2i_r _).1 | exact (jl2i_r _).2) only [x58_0, x58_1, x58_4, x58_5, x58_8, x58_9, x58_12, x58_13, kb_some, kb_none, clr_vi, clr_ref, clr_null, clr_none, va_rf_some, va_rf_none, bi_f c, if_neg c, if_pos (show J t 1 ≠ -1 by omega)]
theorem p_has (h : isP S R t a) (hi : -2147483648 ≤ i ∧ i ≤ 2147483647) (hs : 0 ≤ J t 2 ∧ J t 2 ≤ 60) : EE d 59 0 [some (.ref t), some (vi i)] [] S J K R = ok (some (vi (bi (0 ≤ i ∧ i < J t 2)))) S J K R := by
  obtain ⟨h1, h2, h3, h4⟩ := h
  simp (disch := first | assumption | omega | exact bi_lo | exact bi_hi | exact bi_01 | exact jcmp_lo | exact jcmp_hi | exact (ji2b_r _).1 | exact (ji2b_r _).2 | exact (ji2s_r _).1 | exact (ji2s_r _).2 | exact (jl2i_r _).1 | exact (jl2i_r _).2) only [x59_0, x59_1, x59_4, x59_5, x59_6, x59_9, x59_12, x59_13, x59_16, x59_17, kb_some, kb_none, clr_vi, clr_ref, clr_null, clr_none, va_rf_some, va_rf_none]
  unfold bi
  repeat' split
  all_goals first | rfl | omega
theorem p_reaches (h : isP S R t a) (hi : -2147483648 ≤ i ∧ i ≤ 2147483647) (hn : -2147483648 ≤ n ∧ n ≤ 2147483647) (hs : 0 ≤ J t 2 ∧ J t 2 ≤ 60) : EE d 60 0 [some (.ref t), some (vi i), some (vi n)] [] S J K R = ok (some (vi (bi (0 ≤ i ∧ 0 ≤ n ∧ i + n ≤ J t 2)))) S J K R := by
  obtain ⟨h1, h2, h3, h4⟩ := h
  simp (disch := first | assumption | omega | exact bi_lo | exact bi_hi | exact bi_01 | exact jcmp_lo | exact jcmp_hi | exact (ji2b_r _).1 | exact (ji2b_r _).2 | exact (ji2s_r _).1 | exact (ji2s_r _).2 | exact (jl2i_r _).1 | exact (jl2i_r _).2) only [x60_0, x60_1, x60_4, x60_5, x60_8, x60_9, x60_10, x60_11, x60_12, x60_13, x60_14, x60_17, x60_18, x60_19, x60_22, x60_23, x60_26, x60_27, kb_some, kb_none, clr_vi, clr_ref, clr_null, clr_none, va_rf_some, va_rf_none, jcmp_0, jcmp_p, jcmp_n, jcmp_np, jcmp_nn]
  unfold bi
  repeat' split
  all_goals first | rfl | omega
theorem p_worth (h : isP S R t a) (hs : -1 ≤ J t 1 ∧ J t 1 ≤ 4) (hv : -9223372036854775808 ≤ v ∧ v ≤ 9223372036854775807) : EE d 64 0 [some (.ref t), some (vl v), none] [] S J K R = ok (some (vl (itN (J t 1) v))) S J K R := by
  obtain ⟨h1, h2, h3, h4⟩ := h
  unfold itN
  by_cases c0 : J t 1 = 0
  · simp (disch := first | assumption | omega | exact bi_lo | exact bi_hi | exact bi_01 | exact jcmp_lo | exact jcmp_hi | exact (ji2b_r _).1 | exact (ji2b_r _).2 | exact (ji2s_r _).1 | exact (ji2s_r _).2 | exact (jl2i_r _).1 | exact (jl2i_r _).2) only [x64_0, x64_1, x64_4_0, x64_4_1, x64_4_2, x64_4_3, x64_4o, x64_36, x64_37, x64_38, x64_39, x64_40, x64_41, x64_42, x64_43, x64_44, x64_45, x64_46, x64_47, x64_48, x64_49, x64_50, x64_51, x64_52, x64_53, x64_54, x64_55, x64_58, x64_59, x64_62, x64_63, kb_some, kb_none, clr_vi, clr_ref, clr_null, clr_none, va_rf_some, va_rf_none, c0, if_true]
  by_cases c1 : J t 1 = 1
  · simp (disch := first | assumption | omega | exact bi_lo | exact bi_hi | exact bi_01 | exact jcmp_lo | exact jcmp_hi | exact (ji2b_r _).1 | exact (ji2b_r _).2 | exact (ji2s_r _).1 | exact (ji2s_r _).2 | exact (jl2i_r _).1 | exact (jl2i_r _).2) only [x64_0, x64_1, x64_4_0, x64_4_1, x64_4_2, x64_4_3, x64_4o, x64_36, x64_37, x64_38, x64_39, x64_40, x64_41, x64_42, x64_43, x64_44, x64_45, x64_46, x64_47, x64_48, x64_49, x64_50, x64_51, x64_52, x64_53, x64_54, x64_55, x64_58, x64_59, x64_62, x64_63, kb_some, kb_none, clr_vi, clr_ref, clr_null, clr_none, va_rf_some, va_rf_none, c1, if_true, if_neg (show ¬ (1 : Int) = 0 by omega)]
  by_cases c2 : J t 1 = 2
  · simp (disch := first | assumption | omega | exact bi_lo | exact bi_hi | exact bi_01 | exact jcmp_lo | exact jcmp_hi | exact (ji2b_r _).1 | exact (ji2b_r _).2 | exact (ji2s_r _).1 | exact (ji2s_r _).2 | exact (jl2i_r _).1 | exact (jl2i_r _).2) only [x64_0, x64_1, x64_4_0, x64_4_1, x64_4_2, x64_4_3, x64_4o, x64_36, x64_37, x64_38, x64_39, x64_40, x64_41, x64_42, x64_43, x64_44, x64_45, x64_46, x64_47, x64_48, x64_49, x64_50, x64_51, x64_52, x64_53, x64_54, x64_55, x64_58, x64_59, x64_62, x64_63, kb_some, kb_none, clr_vi, clr_ref, clr_null, clr_none, va_rf_some, va_rf_none, c2, if_true, if_neg (show ¬ (2 : Int) = 0 by omega), if_neg (show ¬ (2 : Int) = 1 by omega)]
  by_cases c3 : J t 1 = 3
  · simp (disch := first | assumption | omega | exact bi_lo | exact bi_hi | exact bi_01 | exact jcmp_lo | exact jcmp_hi | exact (ji2b_r _).1 | exact (ji2b_r _).2 | exact (ji2s_r _).1 | exact (ji2s_r _).2 | exact (jl2i_r _).1 | exact (jl2i_r _).2) only [x64_0, x64_1, x64_4_0, x64_4_1, x64_4_2, x64_4_3, x64_4o, x64_36, x64_37, x64_38, x64_39, x64_40, x64_41, x64_42, x64_43, x64_44, x64_45, x64_46, x64_47, x64_48, x64_49, x64_50, x64_51, x64_52, x64_53, x64_54, x64_55, x64_58, x64_59, x64_62, x64_63, kb_some, kb_none, clr_vi, clr_ref, clr_null, clr_none, va_rf_some, va_rf_none, c3, if_true, if_neg (show ¬ (3 : Int) = 0 by omega), if_neg (show ¬ (3 : Int) = 1 by omega), if_neg (show ¬ (3 : Int) = 2 by omega)]
  · by_cases e : v = 0
    · simp (disch := first | assumption | omega | exact bi_lo | exact bi_hi | exact bi_01 | exact jcmp_lo | exact jcmp_hi | exact (ji2b_r _).1 | exact (ji2b_r _).2 | exact (ji2s_r _).1 | exact (ji2s_r _).2 | exact (jl2i_r _).1 | exact (jl2i_r _).2) only [x64_0, x64_1, x64_4_0, x64_4_1, x64_4_2, x64_4_3, x64_4o, x64_36, x64_37, x64_38, x64_39, x64_40, x64_41, x64_42, x64_43, x64_44, x64_45, x64_46, x64_47, x64_48, x64_49, x64_50, x64_51, x64_52, x64_53, x64_54, x64_55, x64_58, x64_59, x64_62, x64_63, kb_some, kb_none, clr_vi, clr_ref, clr_null, clr_none, va_rf_some, va_rf_none, jcmp_0, jcmp_p, jcmp_n, jcmp_np, jcmp_nn, if_neg c0, if_neg c1, if_neg c2, if_neg c3, if_pos e, bi_f (show ¬ v ≠ 0 by omega)]
    · simp (disch := first | assumption | omega | exact bi_lo | exact bi_hi | exact bi_01 | exact jcmp_lo | exact jcmp_hi | exact (ji2b_r _).1 | exact (ji2b_r _).2 | exact (ji2s_r _).1 | exact (ji2s_r _).2 | exact (jl2i_r _).1 | exact (jl2i_r _).2) only [x64_0, x64_1, x64_4_0, x64_4_1, x64_4_2, x64_4_3, x64_4o, x64_36, x64_37, x64_38, x64_39, x64_40, x64_41, x64_42, x64_43, x64_44, x64_45, x64_46, x64_47, x64_48, x64_49, x64_50, x64_51, x64_52, x64_53, x64_54, x64_55, x64_58, x64_59, x64_62, x64_63, kb_some, kb_none, clr_vi, clr_ref, clr_null, clr_none, va_rf_some, va_rf_none, jcmp_0, jcmp_p, jcmp_n, jcmp_np, jcmp_nn, if_neg c0, if_neg c1, if_neg c2, if_neg c3, if_neg e, bi_t (show v ≠ 0 by omega)]
theorem p_itemAt (h : isP S R t a) (hi : -2147483648 ≤ i ∧ i ≤ 2147483647) (hs : 0 ≤ J t 2 ∧ J t 2 ≤ 60) : EE (d + 1) 62 0 [some (.ref t), some (vi i)] [] S J K R = ok (some (vl (if 0 ≤ i ∧ i < J t 2 then K a i.toNat else 0))) S J K R := by
  have hh := p_has (d := d) (K := K) h hi hs
  obtain ⟨h1, h2, h3, h4⟩ := h
  by_cases c : 0 ≤ i ∧ i < J t 2
  · simp (disch := first | assumption | omega | exact bi_lo | exact bi_hi | exact bi_01 | exact jcmp_lo | exact jcmp_hi | exact (ji2b_r _).1 | exact (ji2b_r _).2 | exact (ji2s_r _).1 | exact (ji2s_r _).2 | exact (jl2i_r _).1 | exact (jl2i_r _).2) only [x62_0, x62_1, x62_2, x62_5, x62_8, x62_9, x62_12, x62_13, x62_14, x62_17, x62_18, kb_some, kb_none, clr_vi, clr_ref, clr_null, clr_none, va_rf_some, va_rf_none, hh, bi_t c, if_pos c, if_neg (show ¬ (1 : Int) = 0 by omega)]
  · simp (disch := first | assumption | omega | exact bi_lo | exact bi_hi | exact bi_01 | exact jcmp_lo | exact jcmp_hi | exact (ji2b_r _).1 | exact (ji2b_r _).2 | exact (ji2s_r _).1 | exact (ji2s_r _).2 | exact (jl2i_r _).1 | exact (jl2i_r _).2) only [x62_0, x62_1, x62_2, x62_5, x62_8, x62_9, x62_12, x62_13, x62_14, x62_17, x62_18, kb_some, kb_none, clr_vi, clr_ref, clr_null, clr_none, va_rf_some, va_rf_none, hh, bi_f c, if_neg c, if_true]
theorem p_keep (h : isP S R t a) (hi : 0 ≤ i ∧ i < J t 2) (hs : 0 ≤ J t 2 ∧ J t 2 ≤ 60) (hs' : -1 ≤ J t 1 ∧ J t 1 ≤ 4) (hv : -9223372036854775808 ≤ v ∧ v ≤ 9223372036854775807) : EE (d + 1) 63 0 [some (.ref t), some (vi i), some (vl v), none] [] S J K R = ok none S J (mm_up K a i.toNat (itN (J t 1) v)) R := by
  have hh := p_has (d := d) (K := K) h (show -2147483648 ≤ i ∧ i ≤ 2147483647 by omega) hs
  have hw := p_worth (d := d) (J := J) (K := K) h hs' hv
  obtain ⟨h1, h2, h3, h4⟩ := h
  simp (disch := first | assumption | omega | exact bi_lo | exact bi_hi | exact bi_01 | exact jcmp_lo | exact jcmp_hi | exact (ji2b_r _).1 | exact (ji2b_r _).2 | exact (ji2s_r _).1 | exact (ji2s_r _).2 | exact (jl2i_r _).1 | exact (jl2i_r _).2) only [x63_0, x63_1, x63_2, x63_5, x63_8, x63_9, x63_12, x63_13, x63_14, x63_15, x63_18, x63_19, kb_some, kb_none, clr_vi, clr_ref, clr_null, clr_none, va_rf_some, va_rf_none, hh, bi_t hi, if_neg (show ¬ (1 : Int) = 0 by omega), hw]
/-- a tape becomes: all its items 0 -/
def zf (k : Nat) (f : Nat → Int) : Nat → Int := fun j => if k ≤ j ∧ j < 60 then 0 else f j
theorem l_become (h : isP S R t a) : ∀ (i k : Nat) (K : mJ), 60 - k = i → k ≤ 60 → EE d 61 24 [some (.ref t), some (vi x), some (vi y), some (vi k)] [] S J K R = ok none S J (mm_rw K a (zf k (K a))) R := by
  obtain ⟨h1, h2, h3, h4⟩ := h
  intro i
  induction i with
  | zero =>
    intro k K hi hk
    have e : mm_rw K a (zf k (K a)) = K := by
      funext b j
      by_cases hb : b = a
      · subst hb; rw [rw_s]; unfold zf; rw [if_neg (by omega)]
      · rw [rw_a hb]
    rw [e]
    simp (disch := first | assumption | omega | exact bi_lo | exact bi_hi | exact bi_01 | exact jcmp_lo | exact jcmp_hi | exact (ji2b_r _).1 | exact (ji2b_r _).2 | exact (ji2s_r _).1 | exact (ji2s_r _).2 | exact (jl2i_r _).1 | exact (jl2i_r _).2) only [x61_24, x61_25, x61_26, x61_29, x61_29l, x61_29a, x61_30, x61_46, kb_some, kb_none, clr_vi, clr_ref, clr_null, clr_none, va_rf_some, va_rf_none, if_pos (show ((60 : Nat) : Int) ≤ (k : Int) by omega)]
  | succ i ih =>
    intro k K hi hk
    have e : mm_rw (mm_up K a k 0) a (zf (k + 1) (mm_up K a k 0 a)) = mm_rw K a (zf k (K a)) := by
      funext b j
      by_cases hb : b = a
      · subst hb; rw [rw_s, rw_s]; unfold zf
        by_cases hj : j = k
        · subst hj; rw [if_neg (by omega), if_pos (by omega), up_s]
        · rw [up_j hj]
          by_cases hk : k ≤ j ∧ j < 60
          · rw [if_pos hk, if_pos (by omega)]
          · rw [if_neg hk, if_neg (by omega)]
      · rw [rw_a hb, rw_a hb, up_a hb]
    have ih' := ih (k + 1) (mm_up K a k 0) (by omega) (by omega)
    rw [Int.natCast_succ, e] at ih'
    simp (disch := first | assumption | omega | exact bi_lo | exact bi_hi | exact bi_01 | exact jcmp_lo | exact jcmp_hi | exact (ji2b_r _).1 | exact (ji2b_r _).2 | exact (ji2s_r _).1 | exact (ji2s_r _).2 | exact (jl2i_r _).1 | exact (jl2i_r _).2) only [x61_24, x61_25, x61_26, x61_29, x61_29l, x61_29a, x61_30, kb_some, kb_none, clr_vi, clr_ref, clr_null, clr_none, va_rf_some, va_rf_none, if_neg (show ¬ ((60 : Nat) : Int) ≤ (k : Int) by omega)]
    simp (disch := first | assumption | omega | exact bi_lo | exact bi_hi | exact bi_01 | exact jcmp_lo | exact jcmp_hi | exact (ji2b_r _).1 | exact (ji2b_r _).2 | exact (ji2s_r _).1 | exact (ji2s_r _).2 | exact (jl2i_r _).1 | exact (jl2i_r _).2) only [x61_33, x61_34, x61_37, x61_38, x61_39, x61_40, x61_43, kb_some, kb_none, clr_vi, clr_ref, clr_null, clr_none, va_rf_some, va_rf_none, Int.toNat_natCast]
    exact ih'
theorem p_become (h : isP S R t a) (hn : -2147483648 ≤ n ∧ n ≤ 60) (hta : t ≠ a) : EE d 61 0 [some (.ref t), some (vi x), some (vi n), none] [] S J K R = ok none S (mm_up (mm_up J t 1 x) t 2 (if 0 < n then n else 0)) (mm_rw K a (zf 0 (K a))) R := by
  have hl := fun J => l_become (d := d) (J := J) (x := x) (y := n) h 60 0 K (by omega) (by omega)
  obtain ⟨h1, h2, h3, h4⟩ := h
  have e1 : (if ((60 : Nat) : Int) < n then ((60 : Nat) : Int) else n) = n := if_neg (by omega)
  simp (disch := first | assumption | omega | exact bi_lo | exact bi_hi | exact bi_01 | exact jcmp_lo | exact jcmp_hi | exact (ji2b_r _).1 | exact (ji2b_r _).2 | exact (ji2s_r _).1 | exact (ji2s_r _).2 | exact (jl2i_r _).1 | exact (jl2i_r _).2) only [x61_0, x61_1, x61_2, x61_5, x61_6, x61_7, x61_8, x61_9, x61_12, x61_12l, x61_12a, x61_13, x61_16, x61_19, x61_22, x61_23, kb_some, kb_none, clr_vi, clr_ref, clr_null, clr_none, va_rf_some, va_rf_none, e1]
  exact hl _
theorem p_copyFrom {t' a' : Nat} (h : isP S R t a) (h' : isP S R t' a') (hi : 0 ≤ x ∧ 0 ≤ n ∧ x + n ≤ J t' 2) (hj : 0 ≤ y ∧ 0 ≤ n ∧ y + n ≤ J t 2) (hs : 0 ≤ J t 2 ∧ J t 2 ≤ 60) (hs' : 0 ≤ J t' 2 ∧ J t' 2 ≤ 60) :
    EE (d + 1) 65 0 [some (.ref t), some (.ref t'), some (vi x), some (vi y), some (vi n)] [] S J K R = ok none S J (mm_rw K a (va_cpy (K a') (K a) x.toNat y.toNat n.toNat)) R := by
  have r1 := p_reaches (d := d) (K := K) h' (show -2147483648 ≤ x ∧ x ≤ 2147483647 by omega) (show -2147483648 ≤ n ∧ n ≤ 2147483647 by omega) hs'
  have r2 := p_reaches (d := d) (K := K) h (show -2147483648 ≤ y ∧ y ≤ 2147483647 by omega) (show -2147483648 ≤ n ∧ n ≤ 2147483647 by omega) hs
  obtain ⟨h1, h2, h3, h4⟩ := h
  obtain ⟨g1, g2, g3, g4⟩ := h'
  simp (disch := first | assumption | omega | exact bi_lo | exact bi_hi | exact bi_01 | exact jcmp_lo | exact jcmp_hi | exact (ji2b_r _).1 | exact (ji2b_r _).2 | exact (ji2s_r _).1 | exact (ji2s_r _).2 | exact (jl2i_r _).1 | exact (jl2i_r _).2) only [x65_0, x65_0n, x65_1, x65_2, x65_4, x65_7, x65_10, x65_11, x65_12, x65_14, x65_17, x65_20, x65_20n, x65_21, x65_24, x65_25, x65_26, x65_29, x65_30, x65_32, x65_35, kb_some, kb_none, clr_vi, clr_ref, clr_null, clr_none, va_rf_some, va_rf_none, r1, r2, bi_t hi, bi_t hj, if_neg (show ¬ (1 : Int) = 0 by omega), h2, g2]
end
