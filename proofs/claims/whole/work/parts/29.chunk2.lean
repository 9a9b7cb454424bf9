section
variable {L d e c : Nat} {f : Int → Int} {ver : Int} {K : mJ} {R : mm_R}
theorem rd_group {D : Nat} (hch : CH L d e c f ver K R D) {J : mJ} {pl n layer : Int} (hl : layer + 1 = 5 - (D : Int)) (hD : D ≤ 3) (h : RD L e c f ver J R) (h32 : 0 ≤ J 32 3 ∧ J 32 3 ≤ 6) (hpl : 0 ≤ pl) (hn : 0 ≤ n) (hen : pl + n < J e 1) :
    wp (SH L) (EE (d + 2 * D + 4) 33 0 [some (.ref 31), some (vi pl), some (vi (pl + n)), some (vi layer), none, none, none, none] [] (SH L) J K R) fun v J' K' R' => K' = K ∧ R' = R ∧ CP (D + 1) f J (match grp f (chk f ver D) layer (pl + n) pl 6 pl with | .error e => .error e | .ok l => .ok ((103, (l.length : Int), pl), l)) v J' := by
  have hR := h.1
  have hs := h.2.1
  have hB := h.2.2.1.1
  have h36 := h.2.2.2.2.2.2.2.2.1
  have h42 := h.2.2.2.2.2.2.2.2.2
  have hn1 := h.2.2.2.2.1
  have hee := h.2.2.2.1
  have s31 : (SH L)[31]? = some (2, 5) := rfl; have r31_0 : R 31 0 = some 32 := rr_lk hR rfl; have r31_1 : R 31 1 = some 36 := rr_lk hR rfl; have s32 : (SH L)[32]? = some (1, 4) := rfl; have r32_0 : R 32 0 = some 33 := rr_lk hR rfl; have r32_1 : R 32 1 = some 34 := rr_lk hR rfl; have r32_2 : R 32 2 = some 35 := rr_lk hR rfl; have s36 : (SH L)[36]? = some (9, 7) := rfl; have r36_0 : R 36 0 = some 37 := rr_lk hR rfl; have r36_1 : R 36 1 = some 38 := rr_lk hR rfl; have r36_2 : R 36 2 = some 39 := rr_lk hR rfl; have r36_3 : R 36 3 = some 40 := rr_lk hR rfl; have r36_4 : R 36 4 = some 41 := rr_lk hR rfl; have r36_5 : R 36 5 = some 42 := rr_lk hR rfl
  obtain ⟨J1, t, a1, a2, a3, a4, a5, a6, a7, a8, a9, a10⟩ := rd_append (d := d + 2 * D + 2) (L := L) (K := K) (x := 103) (y := layer - 2) hR h36 h42 h32
  have h1 := RD_FRM h a2
  have hlo := l_group hch (t := t) (en := pl + n) hl hpl hD 6 pl J1 none h1 (by rw [a3]; exact h32) hpl (by omega) (by rw [a2.1 e (by unfold A32; omega)]; exact hen) (by omega)
  have e0 : (6 : Int) - ((6 : Nat) : Int) = 0 := by omega
  rw [e0] at hlo
  have go : EE (d + 2 * D + 4) 33 0 [some (.ref 31), some (vi pl), some (vi (pl + n)), some (vi layer), none, none, none, none] [] (SH L) J K R = EE (d + 2 * D + 4) 33 20 [some (.ref 31), some (vi pl), some (vi (pl + n)), some (vi layer), some (vi t), some (vi pl), some (vi 0), none] [] (SH L) J1 K R := by
    simp (disch := first | assumption | omega | exact bi_lo | exact bi_hi | exact bi_01 | exact jcmp_lo | exact jcmp_hi | exact (jor_r _ _).1 | exact (jor_r _ _).2 | exact (jand_r _ _).1 | exact (jand_r _ _).2) only [x33_0, x33_1, x33_4, x33_6, x33_7, x33_8, x33_9, x33_12, x33_14, x33_15, x33_17, x33_18, kb_some, kb_none, clr_vi, clr_ref, clr_null, clr_none, va_rf_some, va_rf_none, a1]
  rw [go]
  generalize grp f (chk f ver D) layer (pl + n) pl 6 pl = r at hlo ⊢
  cases r with
  | error e' =>
    simp only at hlo ⊢
    refine wp_mono hlo ?_
    rintro v J2 K2 R2 ⟨w1, w2, w3, w4, w5⟩
    exact ⟨w1, w2, FRM_trans a2 w3, w4, fun hf => w5 (by rw [FH_eq a3 a4 a5 a6]; exact hf)⟩
  | ok l =>
    simp only at hlo ⊢
    obtain ⟨J2, l7', e1, e2, e3, e4⟩ := hlo
    rw [e1]
    have h2 := RD_FRM h1 e2
    have g36 := h2.2.2.2.2.2.2.2.2.1
    have g42 := h2.2.2.2.2.2.2.2.2.2
    by_cases ct : t < 0
    · have hcl := t_closeGroupN (d := d + 2 * D + 2) (J := J2) (K := K) (i := t) (x := 0 + (l.length : Nat)) (isT_36 (L := L) hR) g36 (by omega)
      simp (disch := first | assumption | omega | exact bi_lo | exact bi_hi | exact bi_01 | exact jcmp_lo | exact jcmp_hi | exact (jor_r _ _).1 | exact (jor_r _ _).2 | exact (jand_r _ _).1 | exact (jand_r _ _).2) only [x33_157, x33_158, x33_161, x33_163, x33_165, x33_168, x33_169, kb_some, kb_none, clr_vi, clr_ref, clr_null, clr_none, va_rf_some, va_rf_none, hcl]
      refine wp_ok ⟨rfl, rfl, FRM_trans a2 e2, rfl, by rw [e3, a3], ?_⟩
      intro c1
      have := (a10 (by omega)).1
      omega
    · have hcl := t_closeGroup (d := d + 2 * D + 2) (J := J2) (K := K) (i := t) (x := 0 + (l.length : Nat)) (isT_36 (L := L) hR) g36 (by have := e2.2.1; omega)
      simp (disch := first | assumption | omega | exact bi_lo | exact bi_hi | exact bi_01 | exact jcmp_lo | exact jcmp_hi | exact (jor_r _ _).1 | exact (jor_r _ _).2 | exact (jand_r _ _).1 | exact (jand_r _ _).2) only [x33_157, x33_158, x33_161, x33_163, x33_165, x33_168, x33_169, kb_some, kb_none, clr_vi, clr_ref, clr_null, clr_none, va_rf_some, va_rf_none, hcl]
      have e36 : J 36 6 = t := by omega
      refine wp_ok ⟨rfl, rfl, ?_, rfl, ?_, ?_⟩
      · obtain ⟨u1, u2, u3, u4, u5, u6⟩ := FRM_trans a2 e2
        refine ⟨fr_up (fr_up u1 (by decide)) (by decide), ?_, ?_, ?_, ?_, ?_⟩
        · simp [mm_up]; omega
        · simp [mm_up]; omega
        · simp [mm_up]; omega
        · intro j hj
          have : j ≠ t.toNat := by omega
          have := u5 j hj
          simp_all [mm_up]
        · intro j hj
          have := u6 j hj
          simp_all [mm_up]
      · simp [mm_up]; rw [e3, a3]
      · intro c1 c2
        obtain ⟨b1, b2, b3, b4, b5, b6, b7⟩ := a10 (by omega)
        have e42 : J1 42 1 = J 42 1 := by rw [a7]
        have hb0 : byN (103, (l.length : Int), pl) = 0 := rfl
        have c1' : J 36 6 + ((1 + fsz (D + 1) l : Nat) : Int) ≤ 40 := c1
        have c2' : J 42 1 + ((0 + fby (D + 1) l : Nat) : Int) ≤ 120 := c2
        obtain ⟨d1, d2, d3⟩ := e4 (by omega) (by omega)
        obtain ⟨o1, o2, o3, o4, o5⟩ := e2.2.2.2.2.1 t.toNat (by omega)
        refine ⟨⟨⟨?_, ?_, ?_, ?_, ?_⟩, ?_⟩, ?_, ?_⟩
        · rw [e36]; simp [mm_up]; rw [o1, b3]
        · rw [e36]; simp [mm_up]
        · rw [e36]; simp [mm_up]; rw [o3, b5]; omega
        · show mm_up (mm_up J2 38 t.toNat (0 + (l.length : Nat))) 40 t.toNat (J2 36 6 - t) 40 (J 36 6).toNat = 1 + ((fsz (D + 1) l : Nat) : Int)
          rw [e36, up_s]; omega
        · intro hh; simp at hh
        · rw [show (J 36 6).toNat + 1 = (J1 36 6).toNat by omega, show (3 : Int) - ((D + 1 : Nat) : Int) + 1 = 3 - (D : Int) by omega]
          refine cF_congr (Int.le_of_eq ?_) ?_ _ _ _ _ d1 ?_
          · simp [mm_up]
          · intro j hj; simp [mm_up]
          · intro j j1 j2
            have : j ≠ t.toNat := by omega
            simp [mm_up, this]
        · show mm_up (mm_up J2 38 t.toNat (0 + (l.length : Nat))) 40 t.toNat (J2 36 6 - t) 36 6 = J 36 6 + ((1 + fsz (D + 1) l : Nat) : Int)
          rw [up_ne (by decide), up_ne (by decide)]; omega
        · show mm_up (mm_up J2 38 t.toNat (0 + (l.length : Nat))) 40 t.toNat (J2 36 6 - t) 42 1 = J 42 1 + ((0 + fby (D + 1) l : Nat) : Int)
          rw [up_ne (by decide), up_ne (by decide)]; omega
end
