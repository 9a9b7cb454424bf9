/-! the class reads a row of bytes: whole -/
theorem FRM_TB {t : Int} {J J1 J2 : mJ} (h : FRM J J1) (h' : TB t J1 J2) (ht : t < 0 ∨ J 36 6 ≤ t) : FRM J J2 := by
  obtain ⟨u1, u2, u3, u4, u5, u6⟩ := h
  obtain ⟨v1, v2, v3, v4⟩ := h'
  have e32 : J2 32 = J1 32 := v1 32 (by omega)
  have e36 : J2 36 = J1 36 := v1 36 (by omega)
  refine ⟨fr_trans u1 (fr_mono v1 (by intro a ha; unfold A32; omega)), by rw [e36]; exact u2, by omega, by rw [e32]; exact u4, ?_, ?_⟩
  · intro j hj
    have := u5 j hj
    rw [v1 37 (by omega), v1 39 (by omega), v1 40 (by omega), v1 41 (by omega), v3 j (by omega)]
    exact this
  · intro j hj
    rw [v4 j (by omega)]; exact u6 j hj
section
variable {L d e c : Nat} {f : Int → Int} {ver : Int} {J K : mJ} {R : mm_R}
theorem rd_append (hR : wfR R) (h36 : 0 ≤ J 36 6 ∧ J 36 6 ≤ 40) (h42 : 0 ≤ J 42 1 ∧ J 42 1 ≤ 120) (h32 : 0 ≤ J 32 3 ∧ J 32 3 ≤ 6) {x y : Int} :
    ∃ J1 t, EE (d + 1) 86 0 [some (.ref 36), some (vi x), some (vi y)] [] (SH L) J K R = ok (some (vi t)) (SH L) J1 K R ∧ FRM J J1 ∧ J1 32 = J 32 ∧ J1 33 = J 33 ∧ J1 34 = J 34 ∧ J1 35 = J 35 ∧ J1 42 = J 42 ∧ (-1 ≤ t ∧ t < J1 36 6) ∧ (t < 0 ∨ J 36 6 = t) ∧
      (J 36 6 < 40 → t = J 36 6 ∧ J1 36 6 = J 36 6 + 1 ∧ J1 37 t.toNat = x ∧ J1 38 t.toNat = 0 ∧ J1 39 t.toNat = y ∧ J1 40 t.toNat = 1 ∧ J1 41 t.toNat = J 42 1) := by
  by_cases c40 : J 36 6 < 40
  · have hap := t_append (d := d) (J := J) (K := K) (x := x) (y := y) (isT_36 (L := L) hR) ⟨h36.1, c40⟩
    generalize hJ1 : mm_up (mm_up (mm_up (mm_up (mm_up (mm_up J 37 (J 36 6).toNat x) 38 (J 36 6).toNat 0) 39 (J 36 6).toNat y) 40 (J 36 6).toNat 1) 41 (J 36 6).toNat (J 42 1)) 36 6 (J 36 6 + 1) = J1 at hap
    have e6 : J1 36 6 = J 36 6 + 1 := by rw [← hJ1, up_s]
    refine ⟨J1, J 36 6, hap, ⟨?_, by omega, ?_, ?_, ?_, ?_⟩, ?_, ?_, ?_, ?_, ?_, by omega, Or.inr rfl, ?_⟩
    · rw [← hJ1]
      exact fr_up (fr_up (fr_up (fr_up (fr_up (fr_up fr_refl (by decide)) (by decide)) (by decide)) (by decide)) (by decide)) (by decide)
    · rw [← hJ1]; simp [mm_up]; omega
    · rw [← hJ1]; simp [mm_up]; omega
    · intro j hj
      have : j ≠ (J 36 6).toNat := by omega
      rw [← hJ1]; simp [mm_up, this]
    · intro j hj
      rw [← hJ1]; simp [mm_up]
    · rw [← hJ1]; funext j; simp [mm_up]
    · rw [← hJ1]; funext j; simp [mm_up]
    · rw [← hJ1]; funext j; simp [mm_up]
    · rw [← hJ1]; funext j; simp [mm_up]
    · rw [← hJ1]; funext j; simp [mm_up]
    · intro _
      rw [← hJ1]; simp [mm_up]
  · have hap := t_appendF (d := d) (J := J) (K := K) (x := x) (y := y) (isT_36 (L := L) hR) (by omega)
    exact ⟨J, -1, hap, ⟨fr_refl, by omega, by omega, by omega, fun _ _ => ⟨rfl, rfl, rfl, rfl, rfl⟩, fun _ _ => rfl⟩, rfl, rfl, rfl, rfl, rfl, by omega, Or.inl (by omega), fun h => absurd h c40⟩
theorem FH_eq {J J1 : mJ} (h1 : J1 32 = J 32) (h2 : J1 33 = J 33) (h3 : J1 34 = J 34) (h4 : J1 35 = J 35) (e : Fl) : FH J1 e = FH J e := by
  unfold FH; rw [h1, h2, h3, h4]
theorem rd_takesRow (h : RD L e c f ver J R) (h32 : 0 ≤ J 32 3 ∧ J 32 3 ≤ 6) {ty pl n layer : Int} (hty : ty = 115 ∨ ty = 114) (hpl : 0 ≤ pl ∧ pl ≤ 10000) (hn : 0 ≤ n ∧ n ≤ 20) :
    wp (SH L) (EE (d + 2) 32 0 [some (.ref 31), some (vi ty), some (vi pl), some (vi (pl + n)), some (vi layer), none, none, none] [] (SH L) J K R) fun v J' K' R' => K' = K ∧ R' = R ∧ FRM J J' ∧
      if ty = 115 ∧ badW f n.toNat pl ≠ -1 then v = some (vi 0) ∧ (∀ e : Fl, e.length < 6 → FH J e → FH J' (e ++ [(7, layer, badW f n.toNat pl)]))
      else v = some (vi 1) ∧ J' 32 3 = J 32 3 ∧ (J 36 6 < 40 → J 42 1 + n ≤ 120 → cN f (J' 42 1) (J' 37) (J' 38) (J' 39) (J' 40) (J' 41) (J' 43) (layer - 2) (ty, n, pl) 0 (J 36 6).toNat ∧ J' 36 6 = J 36 6 + 1 ∧ J' 42 1 = J 42 1 + n) := by
  have hR := h.1
  have hs := h.2.1
  have hB := h.2.2.1.1
  have h36 := h.2.2.2.2.2.2.2.2.1
  have h42 := h.2.2.2.2.2.2.2.2.2
  have s31 : (SH L)[31]? = some (2, 5) := rfl; have r31_0 : R 31 0 = some 32 := rr_lk hR rfl; have r31_1 : R 31 1 = some 36 := rr_lk hR rfl; have s32 : (SH L)[32]? = some (1, 4) := rfl; have r32_0 : R 32 0 = some 33 := rr_lk hR rfl; have r32_1 : R 32 1 = some 34 := rr_lk hR rfl; have r32_2 : R 32 2 = some 35 := rr_lk hR rfl; have s36 : (SH L)[36]? = some (9, 7) := rfl; have r36_0 : R 36 0 = some 37 := rr_lk hR rfl; have r36_1 : R 36 1 = some 38 := rr_lk hR rfl; have r36_2 : R 36 2 = some 39 := rr_lk hR rfl; have r36_3 : R 36 3 = some 40 := rr_lk hR rfl; have r36_4 : R 36 4 = some 41 := rr_lk hR rfl; have r36_5 : R 36 5 = some 42 := rr_lk hR rfl
  obtain ⟨J1, t, a1, a2, a3, a4, a5, a6, a7, a8, a9, a10⟩ := rd_append (d := d) (L := L) (K := K) (x := ty) (y := layer - 2) hR h36 h42 h32
  simp (disch := first | assumption | omega | exact bi_lo | exact bi_hi | exact bi_01 | exact jcmp_lo | exact jcmp_hi | exact (jor_r _ _).1 | exact (jor_r _ _).2 | exact (jand_r _ _).1 | exact (jand_r _ _).2) only [x32_0, x32_1, x32_4, x32_5, x32_7, x32_8, x32_9, x32_12, x32_14, x32_15, kb_some, kb_none, clr_vi, clr_ref, clr_null, clr_none, va_rf_some, va_rf_none, a1]
  refine wp_mono (l_row (d := d) (K := K) (layer := layer) (pl := pl) (t := t) hty (show -1 ≤ pl + n ∧ pl + n ≤ 100000 by omega) n.toNat pl J1 none (RD_FRM h a2) (by rw [a3]; exact h32) a8 (by omega) (by omega)) ?_
  rintro v J' K' R' ⟨w1, w2, w3⟩
  refine ⟨w1, w2, ?_⟩
  split
  · rename_i hc
    rw [if_pos hc] at w3
    obtain ⟨y1, ⟨J2, y2, y3, y4, y5⟩, y6⟩ := w3
    refine ⟨FRM_trans (FRM_TB a2 y2 (by omega)) y3, y1, ?_⟩
    intro e he hf
    exact y6 e he (by rw [FH_eq a3 a4 a5 a6]; exact hf)
  · rename_i hc
    rw [if_neg hc] at w3
    obtain ⟨y1, y2, y3⟩ := w3
    refine ⟨FRM_TB a2 y2 (by omega), y1, by rw [y2.1 32 (by omega), a3], ?_⟩
    intro c40 hcap
    obtain ⟨b1, b2, b3, b4, b5, b6, b7⟩ := a10 c40
    have e1 : J1 42 1 = J 42 1 := by rw [a7]
    obtain ⟨p1, p2, p3⟩ := y3 (by omega) (by omega)
    have ei : (J 36 6).toNat = t.toNat := by omega
    have f37 : J' 37 = J1 37 := y2.1 37 (by omega)
    have f39 : J' 39 = J1 39 := y2.1 39 (by omega)
    have f40 : J' 40 = J1 40 := y2.1 40 (by omega)
    have f41 : J' 41 = J1 41 := y2.1 41 (by omega)
    have f36 : J' 36 = J1 36 := y2.1 36 (by omega)
    rw [ei]
    refine ⟨⟨by rw [f37, b3], by rw [p2, b4]; show (0 : Int) + n.toNat = n; omega, by rw [f39, b5], by rw [f40, b6]; simp, ?_⟩, by rw [f36, b2], by omega⟩
    intro _
    rw [f41, b7]
    refine ⟨by omega, hn.1, show J 42 1 + n ≤ J' 42 1 by omega, ?_⟩
    intro k hk
    have := p3 k (by show k < n.toNat; have : (k : Int) < n := hk; omega)
    rw [e1] at this
    exact this
end
