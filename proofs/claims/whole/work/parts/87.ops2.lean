/-! the calls, one by one: rows of two numbers -/
section
variable {L d : Nat} {J J' K K' : mJ} {R : mm_R} {x y z : Int}
theorem INV_W (h : INV J K R) (hW : IW J' 6 7 8 2 78 79 5 119 255 ∧ IW J' 9 10 11 5 80 81 10 2 119 ∧ IW J' 12 13 14 8 82 83 8 119 255) (h1 : ∀ a, a < 6 ∨ 14 < a → a < 78 ∨ 83 < a → a ≠ 76 → J' a = J a) (h2 : ∀ j, j ≠ 2 → j ≠ 5 → j ≠ 8 → j ≠ 11 → J' 76 j = J 76 j) : INV J' K R := by
  obtain ⟨g1, g2, g3, -, g7, g8, g9⟩ := h
  have kk := fun a (ha : (a < 6 ∨ 14 < a) ∧ (a < 78 ∨ 83 < a) ∧ a ≠ 76) => h1 a ha.1 ha.2.1 ha.2.2
  have k := fun j (hj : j ≠ 2 ∧ j ≠ 5 ∧ j ≠ 8 ∧ j ≠ 11) => h2 j hj.1 hj.2.1 hj.2.2.1 hj.2.2.2
  exact ⟨g1, IF_o g2 (by rw [kk 4 (by decide)]) (kk _ (by decide)) (k _ (by decide)) (kk _ (by decide)), IT_o g3 (by rw [kk 27 (by decide)]) (kk _ (by decide)) (k _ (by decide)) (kk _ (by decide)), hW, IG_o g7 ⟨kk 1 (by decide), by rw [kk 2 (by decide)]⟩ (k _ (by decide)) (kk _ (by decide)) (fun a p q => kk _ (by omega)), IX_o g8 (fun a p q => kk _ (by omega)), IK_o g9 (fun a p q => kk _ (by omega)) (kk _ (by decide)) (kk _ (by decide)) (kk _ (by decide))⟩
/-- one more in the rows, both -/
def pW (J : mJ) (r c1 c2 s m1 m2 : Nat) (n x y : Int) : mJ := mm_up (mm_up (mm_up (mm_up (mm_up (mm_up (mm_up J c1 n.toNat x) c2 n.toNat y) r 2 (n + 1)) 76 11 0) m1 n.toNat x) m2 n.toNat y) 76 s (n + 1)
theorem pW_o {r c1 c2 s m1 m2 a j : Nat} {n : Int} (h : ¬ (a = c1 ∨ a = c2 ∨ a = r ∨ a = m1 ∨ a = m2 ∨ (a = 76 ∧ (j = 11 ∨ j = s)))) : pW J r c1 c2 s m1 m2 n x y a j = J a j := by
  unfold pW mm_up
  rw [if_neg (by omega), if_neg (by omega), if_neg (by omega), if_neg (by omega), if_neg (by omega), if_neg (by omega), if_neg (by omega)]
theorem IW_put {r c1 c2 s m1 m2 : Nat} {n h1 h2 : Int} (h : IW J r c1 c2 s m1 m2 n h1 h2) (hn : J 76 s < n) (hx : 0 ≤ x ∧ x ≤ h1) (hy : 0 ≤ y ∧ y ≤ h2) (hd : s ≠ 11 ∧ r < c1 ∧ c1 < c2 ∧ c2 < 76 ∧ 76 < m1 ∧ m1 < m2) : IW (pW J r c1 c2 s m1 m2 (J 76 s) x y) r c1 c2 s m1 m2 n h1 h2 := by
  obtain ⟨a1, a2, a3⟩ := h
  have e1 : pW J r c1 c2 s m1 m2 (J 76 s) x y r 2 = J 76 s + 1 := by
    unfold pW; rw [up_ne (by omega), up_ne (by omega), up_ne (by omega), up_ne (by omega), up_s]
  have e2 : pW J r c1 c2 s m1 m2 (J 76 s) x y 76 s = J 76 s + 1 := up_s
  have e3 : ∀ i, pW J r c1 c2 s m1 m2 (J 76 s) x y c1 i = if i = (J 76 s).toNat then x else J c1 i := fun i => by
    unfold pW; rw [up_ne (by omega), up_ne (by omega), up_ne (by omega), up_ne (by omega), up_ne (by omega), up_ne (by omega)]; simp [mm_up]
  have e4 : ∀ i, pW J r c1 c2 s m1 m2 (J 76 s) x y c2 i = if i = (J 76 s).toNat then y else J c2 i := fun i => by
    unfold pW; rw [up_ne (by omega), up_ne (by omega), up_ne (by omega), up_ne (by omega), up_ne (by omega), up_row, fu, up_ne (by omega)]
  have e5 : ∀ i, pW J r c1 c2 s m1 m2 (J 76 s) x y m1 i = if i = (J 76 s).toNat then x else J m1 i := fun i => by
    unfold pW; rw [up_ne (by omega), up_ne (by omega), up_row, fu, up_ne (by omega), up_ne (by omega), up_ne (by omega), up_ne (by omega)]
  have e6 : ∀ i, pW J r c1 c2 s m1 m2 (J 76 s) x y m2 i = if i = (J 76 s).toNat then y else J m2 i := fun i => by
    unfold pW; rw [up_ne (by omega), up_row, fu, up_ne (by omega), up_ne (by omega), up_ne (by omega), up_ne (by omega), up_ne (by omega)]
  unfold IW
  rw [e1, e2]
  refine ⟨rfl, by omega, fun i hi => ?_⟩
  rw [e3, e4, e5, e6]
  by_cases ci : i = (J 76 s).toNat
  · rw [if_pos ci, if_pos ci, if_pos ci, if_pos ci]
    exact ⟨⟨rfl, hx⟩, ⟨rfl, hy⟩⟩
  · rw [if_neg ci, if_neg ci, if_neg ci, if_neg ci]
    exact a3 i (by omega)
theorem IW_0 {r c1 c2 s m1 m2 : Nat} {n h1 h2 : Int} (h : IW J r c1 c2 s m1 m2 n h1 h2) (e1 : J' r 2 = 0) (e2 : J' 76 s = 0) : IW J' r c1 c2 s m1 m2 n h1 h2 := by
  obtain ⟨a1, a2, a3⟩ := h
  exact ⟨by omega, by omega, fun i hi => by omega⟩
theorem c_toTell (h : -2147483648 ≤ x ∧ x ≤ 2147483647) {S : mm_S} : EE d 132 0 [some (vi x)] [] S J K R = ok (some (vi (bi (0 ≤ x ∧ x ≤ 119)))) S J K R := by
  by_cases c1 : x < 0
  · rw [bi_f (by omega)]
    simp (disch := first | assumption | omega | exact bi_lo | exact bi_hi | exact bi_01 | exact jcmp_lo | exact jcmp_hi | exact (jor_r _ _).1 | exact (jor_r _ _).2 | exact (jand_r _ _).1 | exact (jand_r _ _).2) only [x132_0, x132_1, x132_4, x132_5, x132_7, x132_10, x132_11, x132_14, x132_15, kb_some, kb_none, clr_vi, clr_ref, clr_null, clr_none, va_rf_some, va_rf_none, ↓bi_ite_t, ↓bi_ite_f, ↓jc_lt_t, ↓jc_lt_f, ↓jc_gt_t, ↓jc_gt_f, ↓jc_le_t, ↓jc_le_f, ↓jc_ge_t, ↓jc_ge_f, ↓jc_eq_t, ↓jc_eq_f, ↓if_pos, ↓if_neg]
  · by_cases c2 : 119 < x
    · rw [bi_f (by omega)]
      simp (disch := first | assumption | omega | exact bi_lo | exact bi_hi | exact bi_01 | exact jcmp_lo | exact jcmp_hi | exact (jor_r _ _).1 | exact (jor_r _ _).2 | exact (jand_r _ _).1 | exact (jand_r _ _).2) only [x132_0, x132_1, x132_4, x132_5, x132_7, x132_10, x132_11, x132_14, x132_15, kb_some, kb_none, clr_vi, clr_ref, clr_null, clr_none, va_rf_some, va_rf_none, ↓bi_ite_t, ↓bi_ite_f, ↓jc_lt_t, ↓jc_lt_f, ↓jc_gt_t, ↓jc_gt_f, ↓jc_le_t, ↓jc_le_f, ↓jc_ge_t, ↓jc_ge_f, ↓jc_eq_t, ↓jc_eq_f, ↓if_pos, ↓if_neg]
    · rw [bi_t (by omega)]
      simp (disch := first | assumption | omega | exact bi_lo | exact bi_hi | exact bi_01 | exact jcmp_lo | exact jcmp_hi | exact (jor_r _ _).1 | exact (jor_r _ _).2 | exact (jand_r _ _).1 | exact (jand_r _ _).2) only [x132_0, x132_1, x132_4, x132_5, x132_7, x132_10, x132_11, x132_14, x132_15, kb_some, kb_none, clr_vi, clr_ref, clr_null, clr_none, va_rf_some, va_rf_none, ↓bi_ite_t, ↓bi_ite_f, ↓jc_lt_t, ↓jc_lt_f, ↓jc_gt_t, ↓jc_gt_f, ↓jc_le_t, ↓jc_le_f, ↓jc_ge_t, ↓jc_ge_f, ↓jc_eq_t, ↓jc_eq_f, ↓if_pos, ↓if_neg]
theorem c_rowComes {S : mm_S} {r a b n : Nat} (h : isW S R r a b n) (hs : 0 ≤ J r 2 ∧ J r 2 ≤ n) (hx : -2147483648 ≤ x ∧ x ≤ 2147483647) (hy : -2147483648 ≤ y ∧ y ≤ 2147483647) :
    (x = -1 → EE (d + 1) 133 0 [some (.ref r), some (vi x), some (vi y)] [] S J K R = ok (some (vi 0)) S (mm_up J r 2 0) K R) ∧
    (x ≠ -1 → ¬ ((0 ≤ x ∧ x ≤ 119) ∧ 0 ≤ y ∧ y ≤ 255) → EE (d + 1) 133 0 [some (.ref r), some (vi x), some (vi y)] [] S J K R = ok (some (vi (-2))) S J K R) ∧
    (((0 ≤ x ∧ x ≤ 119) ∧ 0 ≤ y ∧ y ≤ 255) → J r 2 = n → EE (d + 1) 133 0 [some (.ref r), some (vi x), some (vi y)] [] S J K R = ok (some (vi (-4))) S J K R) ∧
    (((0 ≤ x ∧ x ≤ 119) ∧ 0 ≤ y ∧ y ≤ 255) → J r 2 < n → EE (d + 1) 133 0 [some (.ref r), some (vi x), some (vi y)] [] S J K R = ok (some (vi (J r 2 + 1))) S (mm_up (mm_up (mm_up J a (J r 2).toNat x) b (J r 2).toNat y) r 2 (J r 2 + 1)) K R) := by
  have st := h.1
  have ht := c_toTell (d := d) (J := J) (K := K) (R := R) (S := S) hx
  have hb := c_isByte (d := d) (J := J) (K := K) (R := R) (S := S) hy
  have he := w_becomeEmpty (d := d) (J := J) (K := K) h
  have hsz := fun J => w_size (d := d) (J := J) (K := K) h
  refine ⟨fun c => ?_, fun c c2 => ?_, fun c c2 => ?_, fun c c2 => ?_⟩
  · subst c
    simp (disch := first | assumption | omega | exact bi_lo | exact bi_hi | exact bi_01 | exact jcmp_lo | exact jcmp_hi | exact (jor_r _ _).1 | exact (jor_r _ _).2 | exact (jand_r _ _).1 | exact (jand_r _ _).2) only [x133_0, x133_1, x133_2, x133_5, x133_5n, x133_6, x133_9, x133_10, kb_some, kb_none, clr_vi, clr_ref, clr_null, clr_none, va_rf_some, va_rf_none, ↓bi_ite_t, ↓bi_ite_f, ↓jc_lt_t, ↓jc_lt_f, ↓jc_gt_t, ↓jc_gt_f, ↓jc_le_t, ↓jc_le_f, ↓jc_ge_t, ↓jc_ge_f, ↓jc_eq_t, ↓jc_eq_f, ↓if_pos, ↓if_neg, he]
  · by_cases c3 : 0 ≤ x ∧ x ≤ 119
    · rw [bi_t c3] at ht
      rw [bi_f (by omega)] at hb
      simp (disch := first | assumption | omega | exact bi_lo | exact bi_hi | exact bi_01 | exact jcmp_lo | exact jcmp_hi | exact (jor_r _ _).1 | exact (jor_r _ _).2 | exact (jand_r _ _).1 | exact (jand_r _ _).2) only [x133_0, x133_1, x133_2, x133_5, x133_5n, x133_6, x133_9, x133_10, x133_11, x133_12, x133_15, x133_18, x133_19, x133_22, x133_25, x133_27, kb_some, kb_none, clr_vi, clr_ref, clr_null, clr_none, va_rf_some, va_rf_none, ↓bi_ite_t, ↓bi_ite_f, ↓jc_lt_t, ↓jc_lt_f, ↓jc_gt_t, ↓jc_gt_f, ↓jc_le_t, ↓jc_le_f, ↓jc_ge_t, ↓jc_ge_f, ↓jc_eq_t, ↓jc_eq_f, ↓if_pos, ↓if_neg, ht, hb]
    · rw [bi_f c3] at ht
      simp (disch := first | assumption | omega | exact bi_lo | exact bi_hi | exact bi_01 | exact jcmp_lo | exact jcmp_hi | exact (jor_r _ _).1 | exact (jor_r _ _).2 | exact (jand_r _ _).1 | exact (jand_r _ _).2) only [x133_0, x133_1, x133_2, x133_5, x133_5n, x133_6, x133_9, x133_10, x133_11, x133_12, x133_15, x133_18, x133_19, x133_22, x133_25, x133_27, kb_some, kb_none, clr_vi, clr_ref, clr_null, clr_none, va_rf_some, va_rf_none, ↓bi_ite_t, ↓bi_ite_f, ↓jc_lt_t, ↓jc_lt_f, ↓jc_gt_t, ↓jc_gt_f, ↓jc_le_t, ↓jc_le_f, ↓jc_ge_t, ↓jc_ge_f, ↓jc_eq_t, ↓jc_eq_f, ↓if_pos, ↓if_neg, ht]
  · rw [bi_t c.1] at ht
    rw [bi_t c.2] at hb
    have ha := w_appendF (d := d) (J := J) (K := K) (x := x) (y := y) h c2
    simp (disch := first | assumption | omega | exact bi_lo | exact bi_hi | exact bi_01 | exact jcmp_lo | exact jcmp_hi | exact (jor_r _ _).1 | exact (jor_r _ _).2 | exact (jand_r _ _).1 | exact (jand_r _ _).2) only [x133_0, x133_1, x133_2, x133_5, x133_5n, x133_6, x133_9, x133_10, x133_11, x133_12, x133_15, x133_18, x133_19, x133_22, x133_25, x133_27, x133_28, x133_28n, x133_29, x133_30, x133_31, x133_34, x133_37, x133_37n, x133_38, x133_41, x133_44, x133_46, kb_some, kb_none, clr_vi, clr_ref, clr_null, clr_none, va_rf_some, va_rf_none, ↓bi_ite_t, ↓bi_ite_f, ↓jc_lt_t, ↓jc_lt_f, ↓jc_gt_t, ↓jc_gt_f, ↓jc_le_t, ↓jc_le_f, ↓jc_ge_t, ↓jc_ge_f, ↓jc_eq_t, ↓jc_eq_f, ↓if_pos, ↓if_neg, ht, hb, ha]
  · rw [bi_t c.1] at ht
    rw [bi_t c.2] at hb
    have ha := w_append (d := d) (J := J) (K := K) (x := x) (y := y) h (by omega)
    simp (disch := first | assumption | omega | exact bi_lo | exact bi_hi | exact bi_01 | exact jcmp_lo | exact jcmp_hi | exact (jor_r _ _).1 | exact (jor_r _ _).2 | exact (jand_r _ _).1 | exact (jand_r _ _).2) only [x133_0, x133_1, x133_2, x133_5, x133_5n, x133_6, x133_9, x133_10, x133_11, x133_12, x133_15, x133_18, x133_19, x133_22, x133_25, x133_27, x133_28, x133_28n, x133_29, x133_30, x133_31, x133_34, x133_37, x133_37n, x133_38, x133_41, x133_44, x133_46, kb_some, kb_none, clr_vi, clr_ref, clr_null, clr_none, va_rf_some, va_rf_none, ↓bi_ite_t, ↓bi_ite_f, ↓jc_lt_t, ↓jc_lt_f, ↓jc_gt_t, ↓jc_gt_f, ↓jc_le_t, ↓jc_le_f, ↓jc_ge_t, ↓jc_ge_f, ↓jc_eq_t, ↓jc_eq_f, ↓if_pos, ↓if_neg, ht, hb, ha, hsz, up_s]
end
