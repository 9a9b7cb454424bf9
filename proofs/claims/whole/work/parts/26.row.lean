/-! the class reads a row of bytes -/
def TB (t : Int) (J J' : mJ) : Prop := fr (fun a => a = 38 ∨ a = 42 ∨ a = 43) J J' ∧ (J 42 1 ≤ J' 42 1 ∧ J' 42 1 ≤ 120) ∧ (∀ j : Nat, (j : Int) ≠ t → J' 38 j = J 38 j) ∧ (∀ j : Nat, (j : Int) < J 42 1 → J' 43 j = J 43 j)
theorem TB_trans {t : Int} {J J' J'' : mJ} (h : TB t J J') (h' : TB t J' J'') : TB t J J'' := by
  obtain ⟨u1, u2, u3, u4⟩ := h
  obtain ⟨v1, v2, v3, v4⟩ := h'
  exact ⟨fr_trans u1 v1, by omega, fun j hj => (v3 j hj).trans (u3 j hj), fun j hj => (v4 j (by omega)).trans (u4 j hj)⟩
theorem RD_TB {L e c : Nat} {f : Int → Int} {v t : Int} {J J' : mJ} {R : mm_R} (h : RD L e c f v J R) (hf : TB t J J') : RD L e c f v J' R := by
  obtain ⟨u1, u2, u3, u4⟩ := hf
  have h36 := h.2.2.2.2.2.2.2.2.1
  have h42 := h.2.2.2.2.2.2.2.2.2
  refine RD_fr h (fr_mono u1 (by intro a ha; unfold A32; omega)) ?_ (by omega)
  rw [u1 36 (by omega)]; exact h36
section
variable {L d e c : Nat} {f : Int → Int} {ver : Int} {J K : mJ} {R : mm_R} {x t : Int}
theorem rd_takeByte (hR : wfR R) (h36 : 0 ≤ J 36 6 ∧ J 36 6 ≤ 40) (h42 : 0 ≤ J 42 1 ∧ J 42 1 ≤ 120) (ht : -1 ≤ t ∧ t < J 36 6) :
    wp (SH L) (EE (d + 1) 88 0 [some (.ref 36), some (vi t), some (vi x)] [] (SH L) J K R) fun v J' K' R' => v = none ∧ K' = K ∧ R' = R ∧ TB t J J' ∧ (0 ≤ t → J 42 1 < 120 → J' 42 1 = J 42 1 + 1 ∧ J' 38 t.toNat = J 38 t.toNat + 1 ∧ J' 43 (J 42 1).toNat = x) := by
  by_cases c1 : t < 0
  · rw [t_takeByteN (isT_36 (L := L) hR) h36 (by omega)]
    exact wp_ok ⟨rfl, rfl, rfl, ⟨fr_refl, by omega, fun _ _ => rfl, fun _ _ => rfl⟩, fun h => absurd h (by omega)⟩
  · by_cases c2 : J 42 1 < 120
    · rw [t_takeByte (isT_36 (L := L) hR) h36 ⟨h42.1, c2⟩ (by omega)]
      refine wp_ok ⟨rfl, rfl, rfl, ⟨fr_up (fr_up (fr_up fr_refl (by decide)) (by decide)) (by decide), ?_, ?_, ?_⟩, ?_⟩
      · simp [mm_up]; omega
      · intro j hj
        have : j ≠ t.toNat := by omega
        simp [mm_up, this]
      · intro j hj
        have : j ≠ (J 42 1).toNat := by omega
        simp [mm_up, this]
      · intro _ _
        simp [mm_up]
    · rw [t_takeByteF (isT_36 (L := L) hR) h36 (by omega) (by omega)]
      exact wp_ok ⟨rfl, rfl, rfl, ⟨fr_refl, by omega, fun _ _ => rfl, fun _ _ => rfl⟩, fun _ h => absurd h c2⟩
theorem l_row {ty pl en layer : Int} (hty : ty = 115 ∨ ty = 114) (hen : -1 ≤ en ∧ en ≤ 100000) : ∀ (i : Nat) (k : Int) (J : mJ) (l7 : Option Value), RD L e c f ver J R → (0 ≤ J 32 3 ∧ J 32 3 ≤ 6) → (-1 ≤ t ∧ t < J 36 6) → (en - k).toNat = i → 0 ≤ k ∧ k ≤ 100000 →
    wp (SH L) (EE (d + 2) 32 17 [some (.ref 31), some (vi ty), some (vi pl), some (vi en), some (vi layer), some (vi t), some (vi k), l7] [] (SH L) J K R) fun v J' K' R' => K' = K ∧ R' = R ∧
      if ty = 115 ∧ badW f i k ≠ -1 then v = some (vi 0) ∧ (∃ J1, TB t J J1 ∧ FRM J1 J' ∧ J' 36 = J1 36 ∧ J' 42 = J1 42) ∧ (∀ e : Fl, e.length < 6 → FH J e → FH J' (e ++ [(7, layer, badW f i k)]))
      else v = some (vi 1) ∧ TB t J J' ∧ (0 ≤ t → J 42 1 + i ≤ 120 → J' 42 1 = J 42 1 + i ∧ J' 38 t.toNat = J 38 t.toNat + i ∧ ∀ j : Nat, j < i → J' 43 ((J 42 1).toNat + j) = f (k + j)) := by
  intro i
  induction i with
  | zero =>
    intro k J l7 h h32 ht hi hk
    simp (disch := first | assumption | omega | exact bi_lo | exact bi_hi | exact bi_01 | exact jcmp_lo | exact jcmp_hi | exact (jor_r _ _).1 | exact (jor_r _ _).2 | exact (jand_r _ _).1 | exact (jand_r _ _).2) only [x32_17, x32_19, x32_20, x32_85, x32_86, kb_some, kb_none, clr_vi, clr_ref, clr_null, clr_none, va_rf_some, va_rf_none, if_pos (show en ≤ k by omega)]
    refine wp_ok ⟨rfl, rfl, ?_⟩
    rw [if_neg (by unfold badW; omega)]
    have h42 := h.2.2.2.2.2.2.2.2.2
    exact ⟨rfl, ⟨fr_refl, by omega, fun _ _ => rfl, fun _ _ => rfl⟩, fun _ _ => ⟨by omega, by omega, fun j hj => by omega⟩⟩
  | succ i ih =>
    intro k J l7 h h32 ht hi hk
    have hR := h.1
    have hs := h.2.1
    have hB := h.2.2.1.1
    have h36 := h.2.2.2.2.2.2.2.2.1
    have h42 := h.2.2.2.2.2.2.2.2.2
    have s31 : (SH L)[31]? = some (2, 5) := rfl; have r31_0 : R 31 0 = some 32 := rr_lk hR rfl; have r31_1 : R 31 1 = some 36 := rr_lk hR rfl; have s32 : (SH L)[32]? = some (1, 4) := rfl; have r32_0 : R 32 0 = some 33 := rr_lk hR rfl; have r32_1 : R 32 1 = some 34 := rr_lk hR rfl; have r32_2 : R 32 2 = some 35 := rr_lk hR rfl; have s36 : (SH L)[36]? = some (9, 7) := rfl; have r36_0 : R 36 0 = some 37 := rr_lk hR rfl; have r36_1 : R 36 1 = some 38 := rr_lk hR rfl; have r36_2 : R 36 2 = some 39 := rr_lk hR rfl; have r36_3 : R 36 3 = some 40 := rr_lk hR rfl; have r36_4 : R 36 4 = some 41 := rr_lk hR rfl; have r36_5 : R 36 5 = some 42 := rr_lk hR rfl
    have ha := RD_at (d := d + 1) (K := K) h k (by omega)
    have hr := RD_f h k
    simp (disch := first | assumption | omega | exact bi_lo | exact bi_hi | exact bi_01 | exact jcmp_lo | exact jcmp_hi | exact (jor_r _ _).1 | exact (jor_r _ _).2 | exact (jand_r _ _).1 | exact (jand_r _ _).2) only [x32_17, x32_19, x32_20, kb_some, kb_none, clr_vi, clr_ref, clr_null, clr_none, va_rf_some, va_rf_none, if_neg (show ¬ en ≤ k by omega)]
    by_cases cb : ty = 115 ∧ (f k < 32 ∨ 126 < f k)
    · have hb : badW f (i + 1) k = k := by unfold badW; rw [if_pos cb.2]
      have hra := rd_raise (d := d + 1) (K := K) (L := L) (J := J) (w := 7) (l := layer) (p := k) hR h32 h36 h42
      have hc : ty = 115 ∧ badW f (i + 1) k ≠ -1 := ⟨cb.1, by omega⟩
      simp only [if_pos hc]
      simp only [hb]
      have fin : wp (SH L) (kb (EE (d + 1) 11 0 [some (.ref 32), some (vi 7), some (vi layer), some (vi k)] [] (SH L) J K R) (d + 1) 32 67 [some (.ref 31), some (vi ty), some (vi pl), some (vi en), some (vi layer), some (vi t), some (vi k), some (vi (f k))] []) fun v J' K' R' => K' = K ∧ R' = R ∧ v = some (vi 0) ∧ (∃ J1, TB t J J1 ∧ FRM J1 J' ∧ J' 36 = J1 36 ∧ J' 42 = J1 42) ∧ (∀ e : Fl, e.length < 6 → FH J e → FH J' (e ++ [(7, layer, k)])) := by
        refine wp_kb hra ?_
        rintro v J' K' R' ⟨rfl, rfl, rfl, q4, q5, q6, q7⟩
        simp (disch := first | assumption | omega | exact bi_lo | exact bi_hi | exact bi_01 | exact jcmp_lo | exact jcmp_hi | exact (jor_r _ _).1 | exact (jor_r _ _).2 | exact (jand_r _ _).1 | exact (jand_r _ _).2) only [x32_67, kb_some, kb_none, clr_vi, clr_ref, clr_null, clr_none, va_rf_some, va_rf_none]
        exact wp_ok ⟨rfl, rfl, rfl, ⟨J, ⟨fr_refl, by omega, fun _ _ => rfl, fun _ _ => rfl⟩, q4, q5, q6⟩, q7⟩
      by_cases c1 : f k < 32
      · simp (disch := first | assumption | omega | exact bi_lo | exact bi_hi | exact bi_01 | exact jcmp_lo | exact jcmp_hi | exact (jor_r _ _).1 | exact (jor_r _ _).2 | exact (jand_r _ _).1 | exact (jand_r _ _).2) only [x32_23, x32_24, x32_27, x32_29, x32_32, x32_34, x32_35, x32_37, x32_40, x32_42, x32_44, x32_47, x32_49, x32_51, x32_54, x32_55, x32_58, x32_60, x32_62, x32_64, kb_some, kb_none, clr_vi, clr_ref, clr_null, clr_none, va_rf_some, va_rf_none, hs, ha, if_pos cb.1, if_pos c1]
        exact fin
      · simp (disch := first | assumption | omega | exact bi_lo | exact bi_hi | exact bi_01 | exact jcmp_lo | exact jcmp_hi | exact (jor_r _ _).1 | exact (jor_r _ _).2 | exact (jand_r _ _).1 | exact (jand_r _ _).2) only [x32_23, x32_24, x32_27, x32_29, x32_32, x32_34, x32_35, x32_37, x32_40, x32_42, x32_44, x32_47, x32_49, x32_51, x32_54, x32_55, x32_58, x32_60, x32_62, x32_64, kb_some, kb_none, clr_vi, clr_ref, clr_null, clr_none, va_rf_some, va_rf_none, hs, ha, if_pos cb.1, if_neg c1, if_neg (show ¬ f k ≤ 126 by omega)]
        exact fin
    · have hb : ty = 115 → badW f (i + 1) k = badW f i (k + 1) := by
        intro h115
        show (if f k < 32 ∨ 126 < f k then k else badW f i (k + 1)) = _
        rw [if_neg (fun h => cb ⟨h115, h⟩)]
      have hc : (ty = 115 ∧ badW f (i + 1) k ≠ -1) = (ty = 115 ∧ badW f i (k + 1) ≠ -1) := by
        apply propext
        constructor
        · intro ⟨a, b⟩; rw [hb a] at b; exact ⟨a, b⟩
        · intro ⟨a, b⟩; rw [← hb a] at b; exact ⟨a, b⟩
      have htb := rd_takeByte (d := d) (K := K) (L := L) (J := J) (x := f k) hR h36 h42 ht
      have fin : wp (SH L) (kb (EE (d + 1) 88 0 [some (.ref 36), some (vi t), some (vi (f k))] [] (SH L) J K R) (d + 1) 32 79 [some (.ref 31), some (vi ty), some (vi pl), some (vi en), some (vi layer), some (vi t), some (vi k), some (vi (f k))] []) fun v J' K' R' => K' = K ∧ R' = R ∧
          if ty = 115 ∧ badW f (i + 1) k ≠ -1 then v = some (vi 0) ∧ (∃ J1, TB t J J1 ∧ FRM J1 J' ∧ J' 36 = J1 36 ∧ J' 42 = J1 42) ∧ (∀ e : Fl, e.length < 6 → FH J e → FH J' (e ++ [(7, layer, badW f (i + 1) k)]))
          else v = some (vi 1) ∧ TB t J J' ∧ (0 ≤ t → J 42 1 + (i + 1 : Nat) ≤ 120 → J' 42 1 = J 42 1 + (i + 1 : Nat) ∧ J' 38 t.toNat = J 38 t.toNat + (i + 1 : Nat) ∧ ∀ j : Nat, j < i + 1 → J' 43 ((J 42 1).toNat + j) = f (k + j)) := by
        refine wp_kb htb ?_
        rintro v J1 K1 R1 ⟨rfl, rfl, rfl, q4, q5⟩
        simp (disch := first | assumption | omega | exact bi_lo | exact bi_hi | exact bi_01 | exact jcmp_lo | exact jcmp_hi | exact (jor_r _ _).1 | exact (jor_r _ _).2 | exact (jand_r _ _).1 | exact (jand_r _ _).2) only [x32_79, x32_82, kb_some, kb_none, clr_vi, clr_ref, clr_null, clr_none, va_rf_some, va_rf_none]
        have e32 : J1 32 = J 32 := q4.1 32 (by omega)
        have e33 : J1 33 = J 33 := q4.1 33 (by omega)
        have e34 : J1 34 = J 34 := q4.1 34 (by omega)
        have e35 : J1 35 = J 35 := q4.1 35 (by omega)
        have e36 : J1 36 = J 36 := q4.1 36 (by omega)
        refine wp_mono (ih (k + 1) J1 _ (RD_TB h q4) (by rw [e32]; exact h32) (by rw [e36]; exact ht) (by omega) (by omega)) ?_
        rintro v J' K' R' ⟨w1, w2, w3⟩
        refine ⟨w1, w2, ?_⟩
        simp only [hc]
        split
        · rename_i hcc
          rw [if_pos hcc] at w3
          obtain ⟨y1, ⟨J2, y2, y3, y4, y5⟩, y6⟩ := w3
          refine ⟨y1, ⟨J2, TB_trans q4 y2, y3, y4, y5⟩, ?_⟩
          intro e he hf
          rw [hb hcc.1]
          refine y6 e he ?_
          unfold FH at hf ⊢
          rw [e32, e33, e34, e35]; exact hf
        · rename_i hcc
          rw [if_neg hcc] at w3
          obtain ⟨y1, y2, y3⟩ := w3
          refine ⟨y1, TB_trans q4 y2, ?_⟩
          intro h0 hcap
          obtain ⟨z1, z2, z3⟩ := q5 h0 (by omega)
          obtain ⟨p1, p2, p3⟩ := y3 h0 (by omega)
          refine ⟨by omega, by omega, ?_⟩
          intro j hj
          by_cases ej : j = 0
          · subst ej
            rw [show (J 42 1).toNat + 0 = (J 42 1).toNat by omega, y2.2.2.2 _ (by omega), z3]
            simp
          · have := p3 (j - 1) (by omega)
            rw [z1, show (J 42 1 + 1).toNat + (j - 1) = (J 42 1).toNat + j by omega] at this
            rw [this, show k + 1 + ((j - 1 : Nat) : Int) = k + j by omega]
      by_cases c1 : ty = 115
      · simp (disch := first | assumption | omega | exact bi_lo | exact bi_hi | exact bi_01 | exact jcmp_lo | exact jcmp_hi | exact (jor_r _ _).1 | exact (jor_r _ _).2 | exact (jand_r _ _).1 | exact (jand_r _ _).2) only [x32_23, x32_24, x32_27, x32_29, x32_32, x32_34, x32_35, x32_37, x32_40, x32_42, x32_44, x32_47, x32_49, x32_51, x32_54, x32_55, x32_58, x32_60, x32_62, x32_64, x32_67, x32_68, x32_69, x32_72, x32_74, x32_76, kb_some, kb_none, clr_vi, clr_ref, clr_null, clr_none, va_rf_some, va_rf_none, hs, ha, if_pos c1, if_neg (show ¬ f k < 32 by omega), if_pos (show f k ≤ 126 by omega)]
        exact fin
      · simp (disch := first | assumption | omega | exact bi_lo | exact bi_hi | exact bi_01 | exact jcmp_lo | exact jcmp_hi | exact (jor_r _ _).1 | exact (jor_r _ _).2 | exact (jand_r _ _).1 | exact (jand_r _ _).2) only [x32_23, x32_24, x32_27, x32_29, x32_32, x32_34, x32_35, x32_37, x32_40, x32_42, x32_44, x32_47, x32_49, x32_51, x32_54, x32_55, x32_58, x32_60, x32_62, x32_64, x32_67, x32_68, x32_69, x32_72, x32_74, x32_76, kb_some, kb_none, clr_vi, clr_ref, clr_null, clr_none, va_rf_some, va_rf_none, hs, ha, if_neg c1]
        exact fin
end
