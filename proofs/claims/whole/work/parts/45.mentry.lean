/-! the reference reads chunks: all levels -/
section
variable {L d : Nat} {f : Int → Int} {K : mJ} {R : mm_R} {x : Int}
theorem CL_leaf {D : Nat} {J J1 : mJ} {ty w st : Int} (hJ : J1 = addN J ty w st) (hk : 0 ≤ J 76 27) (ht : 0 ≤ J 76 18) (hq : 0 < J 76 27 → 0 ≤ J 93 (J 76 27 - 1).toNat ∧ J 93 (J 76 27 - 1).toNat < J 76 18) :
    ∃ J2, LH L d x K R 0 J1 = LH L d x K R 0 J2 ∧ KP (J 76 27) (parN J) J J2 ∧ J2 76 27 = J 76 27 ∧ J2 76 18 = J 76 18 + (1 + fsz D (fo0 D) : Nat) ∧ mF (J2 86) (J2 87) (J2 88) (J2 89) (D + 1) (parN J) ([((ty, w, st), fo0 D)] : List (Nd D)) (J 76 18).toNat ∧ (0 < J 76 27 → J2 87 (parN J).toNat = J 87 (parN J).toNat + 1) := by
  obtain ⟨h1, h2, h3, h4, h5⟩ := addN_KP (ty := ty) (w := w) (st := st) hk ht hq
  rw [← hJ] at h1 h2 h3 h4 h5
  exact ⟨J1, rfl, h1, h2, by rw [fsz_0, h3]; rfl, ⟨h4, mF_0, trivial⟩, h5⟩
theorem CL_err {D : Nat} {J : mJ} {w p : Int} (hk : J 76 27 ≤ 3) : ∃ J2, LH L d x K R 1 (wr J w p) = LH L d x K R 1 J2 ∧ KP (J 76 27) (parN J) J J2 ∧ EM (J 76 27) J2 [(w, 2 + J 76 27, p)] :=
  ⟨_, rfl, wr_KP, wr_EM hk (by simp) trivial⟩
theorem m_chunkD (D : Nat) (hD : D ≤ 3) (hg : ∀ D', D = D' + 1 → CL L d x K R f D') : CL L d x K R f D := by
  intro J tp lp pl h h2 h27 h18 hq htp hlp hpl hpn
  obtain ⟨-, yl⟩ := MR_at h (p := lp) (by omega) (by omega)
  have h1 := h.2.1
  have hc := m_chunk1 (L := L) (d := d) (K := K) h (by omega) (by omega) hq h2 htp hlp hpl hpn
  have hall : ∀ d', EE (d' + 2) 158 0 [some (.ref 76), some (vi tp), some (vi lp), some (vi pl), none, none] [] (SH L) J K R = EE (d + 2) 158 0 [some (.ref 76), some (vi tp), some (vi lp), some (vi pl), none, none] [] (SH L) J K R := fun d' => (m_chunk1 (d := d') h (by omega) (by omega) hq h2 htp hlp hpl hpn).trans hc.symm
  have e5 : (5 : Int) - (D : Int) = 2 + J 76 27 := by omega
  have herr := fun w p => CL_err (L := L) (d := d) (K := K) (R := R) (x := x) (D := D) (J := J) (w := w) (p := p) (by omega)
  have hleaf := fun ty w st => CL_leaf (L := L) (d := d) (K := K) (R := R) (x := x) (D := D) (J := J) (ty := ty) (w := w) (st := st) rfl (by omega) (by omega) hq
  unfold chk
  simp only
  rw [e5]
  by_cases c1 : ckf (f 2) f (f lp).toNat pl 0 ≠ f (pl + f lp)
  · rw [if_pos c1] at hc ⊢
    exact ⟨_, _, fun d' => (hall d').trans hc, Or.inr rfl, herr _ _⟩
  rw [if_neg c1] at hc ⊢
  by_cases c2 : f tp = 110
  · rw [if_pos c2] at hc ⊢
    by_cases c3 : 1 ≤ f lp ∧ f lp ≤ 4
    · rw [if_pos c3] at hc ⊢
      exact ⟨_, _, fun d' => (hall d').trans hc, Or.inl rfl, hleaf _ _ _⟩
    · rw [if_neg c3] at hc ⊢
      exact ⟨_, _, fun d' => (hall d').trans hc, Or.inr rfl, herr _ _⟩
  rw [if_neg c2] at hc ⊢
  by_cases c4 : f tp = 115 ∨ f tp = 114
  · rw [if_pos c4] at hc ⊢
    by_cases c5 : 20 < f lp
    · rw [if_pos c5] at hc ⊢
      exact ⟨_, _, fun d' => (hall d').trans hc, Or.inr rfl, herr _ _⟩
    rw [if_neg c5] at hc ⊢
    by_cases c6 : f tp = 115 ∧ badW f (f lp).toNat pl ≠ -1
    · rw [if_pos c6] at hc ⊢
      exact ⟨_, _, fun d' => (hall d').trans hc, Or.inr rfl, herr _ _⟩
    · rw [if_neg c6] at hc ⊢
      exact ⟨_, _, fun d' => (hall d').trans hc, Or.inl rfl, hleaf _ _ _⟩
  rw [if_neg c4] at hc ⊢
  by_cases c7 : f tp = 103
  · rw [if_pos c7] at hc ⊢
    cases D with
    | zero =>
      rw [if_pos (by omega)] at hc
      exact ⟨_, _, fun d' => (hall d').trans hc, Or.inr rfl, herr _ _⟩
    | succ D' =>
      rw [if_neg (by omega)] at hc
      obtain ⟨a1, a2, a3, a4, a5⟩ := addN_KP (J := J) (ty := 103) (w := 0) (st := pl) (by omega) (by omega) hq
      generalize addN J 103 0 pl = Ja at hc a1 a2 a3 a4 a5
      obtain ⟨⟨o0, o1⟩, o2, o3, o4, o5⟩ := opn_KP (J := Ja) (a := pl) (b := pl + f lp) (by omega)
      generalize opn Ja pl (pl + f lp) = J1 at hc o0 o1 o2 o3 o4 o5
      rw [a2] at o1 o2 o4
      have hkp : KP (J 76 27) (parN J) J J1 := by
        refine ⟨frm_trans a1.1 o0, fun j hj => ?_, by rw [o3, a3]; omega, o1.2.2.2.1.trans a1.2.2.2.1, o1.2.2.2.2.1.trans a1.2.2.2.2.1, fun j hj => ?_⟩
        · obtain ⟨b1, b2, b3, b4, b5⟩ := a1.2.1 j hj
          obtain ⟨c1, c2, c3, c4, c5⟩ := o1.2.1 j hj
          exact ⟨c1.trans b1, c2.trans b2, c3.trans b3, c4.trans b4, c5.trans b5⟩
        · obtain ⟨b1, b2, b3, b4⟩ := a1.2.2.2.2.2 j hj
          obtain ⟨c1, c2, c3, c4⟩ := o5 j
          exact ⟨c1.trans b1, fun hh => c2.trans (b2 hh), c3.trans b3, c4.trans b4⟩
      have hM1 := MR_frm h hkp.1
      have e1 : J1 76 1 = J 76 1 := hkp.1 76 1 (by unfold AR; omega)
      have hgr := l_mgroup (L := L) (d := d) (x := x) (K := K) (R := R) (f := f) (D := D') (by omega) (hg D' rfl) (k := J 76 27) (en := pl + f lp) (pl := pl) (gi := J 76 18) (by omega) 6 pl J1 hM1 (by omega) (by omega) (by omega) (by rw [o4.1]; omega) o4.2.1 o4.2.2.1 o4.2.2.2.1 (by rw [o4.2.2.2.2]; omega) (by omega) (by omega) (by omega)
      refine ⟨_, _, fun d' => (hall d').trans hc, Or.inl rfl, ?_⟩
      simp only
      generalize grp f (chk f (f 2) D') (2 + J 76 27) (pl + f lp) pl 6 pl = r at hgr ⊢
      cases r with
      | error e =>
        obtain ⟨J2, r1, r2, r3⟩ := hgr
        exact ⟨J2, r1, KP_trans hkp r2 (Or.inr (by omega)), r3⟩
      | ok l =>
        obtain ⟨J2, r1, r2, r3, r4, r5, r6⟩ := hgr
        have hi : (J1 76 18).toNat = (J 76 18).toNat + 1 := by rw [o3, a3]; omega
        rw [hi, ← Int.toNat_of_nonneg (show 0 ≤ J 76 18 by omega)] at r5
        rw [Int.toNat_natCast] at r5
        obtain ⟨t1, t2, t3, t4⟩ := r2.2.2.2.2.2 (J 76 18).toNat (by rw [o3, a3]; omega)
        obtain ⟨w1, w2, w3, w4⟩ := o5 (J 76 18).toNat
        refine ⟨J2, r1, KP_trans hkp r2 (Or.inr (by omega)), r3, ?_, ⟨⟨?_, ?_, ?_, ?_⟩, r5, trivial⟩, ?_⟩
        · show J2 76 18 = J 76 18 + ((1 + fsz (D' + 1) l : Nat) : Int)
          rw [r4, o3, a3]; omega
        · rw [t1, w1, a4.1]
        · show J2 87 (J 76 18).toNat = (l.length : Int)
          rw [r6, w2, a4.2.1]; omega
        · rw [t3, w3, a4.2.2.1]
        · rw [t4, w4, a4.2.2.2]
        · intro hk
          have hq' := hq hk
          have hp : parN J = J 93 (J 76 27 - 1).toNat := if_neg (by omega)
          obtain ⟨u1, u2, u3, u4⟩ := r2.2.2.2.2.2 (parN J).toNat (by rw [o3, a3]; omega)
          rw [u2 (by omega), (o5 _).2.1, a5 hk]
  · rw [if_neg c7] at hc ⊢
    exact ⟨_, _, fun d' => (hall d').trans hc, Or.inr rfl, herr _ _⟩
theorem m_chunk : ∀ (D : Nat), D ≤ 3 → CL L d x K R f D := by
  intro D
  induction D with
  | zero => exact fun h => m_chunkD 0 h (fun D' h => absurd h (by omega))
  | succ D ih =>
    intro h
    refine m_chunkD (D + 1) h ?_
    intro D' h'
    have e : D = D' := by omega
    subst e
    exact ih (by omega)
theorem m_entry {J : mJ} (h : MR f J R) (hx : 0 ≤ x ∧ 4 + 3 * x + 2 < J 76 1) (h18 : 0 ≤ J 76 18 ∧ 3 * J 76 18 + f (4 + 3 * x + 2) + 3 ≤ 180) (hp : f (4 + 3 * x + 1) + f (4 + 3 * x + 2) < J 76 1) :
    match chk f (f 2) 3 (4 + 3 * x) (4 + 3 * x + 2) (f (4 + 3 * x + 1)) with
    | .error e => ∃ J2, EE (d + 4) 160 0 [some (.ref 76), some (vi x), none] [] (SH L) J K R = ok (some (vi 1)) (SH L) J2 K R ∧ KP 0 (-1) J J2 ∧ EM 0 J2 e
    | .ok a => ∃ J2, EE (d + 4) 160 0 [some (.ref 76), some (vi x), none] [] (SH L) J K R = ok (some (vi 0)) (SH L) J2 K R ∧ KP 0 (-1) J J2 ∧ J2 76 18 = J 76 18 + (1 + fsz 3 a.2 : Nat) ∧ mF (J2 86) (J2 87) (J2 88) (J2 89) 4 (-1) ([a] : List (Nd 3)) (J 76 18).toNat := by
  have hR := h.1
  have h1 := h.2.1
  have s76 : (SH L)[76]? = some (11, 58) := rfl; have r76_0 : R 76 0 = some 77 := rr_lk hR rfl; have r76_3 : R 76 3 = some 78 := rr_lk hR rfl; have r76_4 : R 76 4 = some 79 := rr_lk hR rfl; have r76_6 : R 76 6 = some 80 := rr_lk hR rfl; have r76_7 : R 76 7 = some 81 := rr_lk hR rfl; have r76_9 : R 76 9 = some 82 := rr_lk hR rfl; have r76_10 : R 76 10 = some 83 := rr_lk hR rfl; have r76_12 : R 76 12 = some 84 := rr_lk hR rfl; have r76_13 : R 76 13 = some 85 := rr_lk hR rfl; have r76_19 : R 76 19 = some 86 := rr_lk hR rfl; have r76_20 : R 76 20 = some 87 := rr_lk hR rfl; have r76_21 : R 76 21 = some 88 := rr_lk hR rfl; have r76_22 : R 76 22 = some 89 := rr_lk hR rfl; have r76_24 : R 76 24 = some 90 := rr_lk hR rfl; have r76_25 : R 76 25 = some 91 := rr_lk hR rfl; have r76_26 : R 76 26 = some 92 := rr_lk hR rfl; have r76_28 : R 76 28 = some 93 := rr_lk hR rfl; have r76_29 : R 76 29 = some 94 := rr_lk hR rfl; have r76_30 : R 76 30 = some 95 := rr_lk hR rfl; have r76_31 : R 76 31 = some 96 := rr_lk hR rfl; have r76_32 : R 76 32 = some 97 := rr_lk hR rfl; have r76_36 : R 76 36 = some 98 := rr_lk hR rfl; have r76_38 : R 76 38 = some 99 := rr_lk hR rfl; have r76_39 : R 76 39 = some 100 := rr_lk hR rfl; have r76_40 : R 76 40 = some 101 := rr_lk hR rfl; have r76_41 : R 76 41 = some 102 := rr_lk hR rfl; have r76_42 : R 76 42 = some 103 := rr_lk hR rfl; have r76_47 : R 76 47 = some 104 := rr_lk hR rfl; have r76_53 : R 76 53 = some 105 := rr_lk hR rfl; have r76_54 : R 76 54 = some 106 := rr_lk hR rfl; have r76_55 : R 76 55 = some 107 := rr_lk hR rfl; have r76_56 : R 76 56 = some 108 := rr_lk hR rfl; have r76_57 : R 76 57 = some 109 := rr_lk hR rfl; have s77 : (SH L)[77]? = some (20, 120) := rfl
  obtain ⟨z1, y1⟩ := MR_at h (p := 4 + 3 * x + 1) (by omega) (by omega)
  generalize hJ' : mm_up J 76 27 0 = J'
  have hfr : frm AR J J' := by rw [← hJ']; exact frm_up frm_refl (by unfold AR; omega)
  have hkp : KP 0 (-1) J J' := by
    rw [← hJ']
    refine ⟨frm_up frm_refl (by unfold AR; omega), ?_, ?_, ?_, ?_, ?_⟩
    · intro j hj; omega
    · simp [mm_up]
    · simp [mm_up]
    · simp [mm_up]
    · intro j hj; simp [mm_up]
  have j27 : J' 76 27 = 0 := by rw [← hJ', up_s]
  have j18 : J' 76 18 = J 76 18 := by rw [← hJ']; simp [mm_up]
  have j1 : J' 76 1 = J 76 1 := by rw [← hJ']; simp [mm_up]
  have z1' : J' 77 (4 + 3 * x + 1).toNat = f (4 + 3 * x + 1) := by rw [← z1, ← hJ']; simp [mm_up]
  have he := fun d J x => m_entryAt (S := SH L) (d := d) (J := J) (K := K) (R := R) (x := x)
  have hM := MR_frm h hfr
  have hpar : parN J' = -1 := if_pos j27
  obtain ⟨v, J1, q1, q2, q3⟩ := m_chunk (L := L) (d := d) (f := f) (K := K) (R := R) (x := x) 3 (by omega) J' (4 + 3 * x) (4 + 3 * x + 2) (f (4 + 3 * x + 1)) hM (by omega) (by rw [j27]; rfl) (by omega) (by intro hh; omega) (by omega) (by omega) (by omega) (by omega)
  rw [j27, hpar, j18] at q3
  have go : ∀ (X : Option mm_O), LH L d x K R v J1 = X → EE (d + 4) 160 0 [some (.ref 76), some (vi x), none] [] (SH L) J K R = X := by
    intro X hX
    unfold LH at hX
    simp (disch := first | assumption | omega | exact bi_lo | exact bi_hi | exact bi_01 | exact jcmp_lo | exact jcmp_hi | exact (jor_r _ _).1 | exact (jor_r _ _).2 | exact (jand_r _ _).1 | exact (jand_r _ _).2) only [x160_0, x160_1, x160_2, x160_5, x160_6, x160_7, x160_10, x160_11, x160_14, x160_15, x160_16, x160_17, x160_20, x160_21, x160_24, x160_25, x160_26, x160_27, kb_some, kb_none, clr_vi, clr_ref, clr_null, clr_none, va_rf_some, va_rf_none, hJ', he, z1', q1]
    simp (disch := first | assumption | omega | exact bi_lo | exact bi_hi | exact bi_01 | exact jcmp_lo | exact jcmp_hi | exact (jor_r _ _).1 | exact (jor_r _ _).2 | exact (jand_r _ _).1 | exact (jand_r _ _).2) only [x160_30, kb_some, kb_none, clr_vi, clr_ref, clr_null, clr_none, va_rf_some, va_rf_none]
    exact hX
  generalize chk f (f 2) 3 (4 + 3 * x) (4 + 3 * x + 2) (f (4 + 3 * x + 1)) = res at q3 ⊢
  cases res with
  | error e =>
    obtain ⟨J2, r1, r2, r3⟩ := q3
    exact ⟨J2, go _ (r1.trans LH_err), KP_trans hkp r2 (Or.inl rfl), r3⟩
  | ok a =>
    obtain ⟨J2, r1, r2, r3, r4, r5, r6⟩ := q3
    exact ⟨J2, go _ (r1.trans (LH_ok r3)), KP_trans hkp r2 (Or.inl rfl), r4, r5⟩
end
