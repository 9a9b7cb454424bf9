/-! the reference reads a text: the whole -/
def rJ (J : mJ) : mJ := mm_up (mm_up (mm_up (mm_up J 76 18 0) 76 46 0) 76 48 0) 76 49 0
section
variable {L d : Nat} {t : Int → Int} {J K : mJ} {R : mm_R} {p x y b : Int}
theorem rJ_e : mm_up (mm_up (mm_up (mm_up (mm_up (mm_up J 76 18 0) 76 44 0) 76 45 0) 76 46 0) 76 48 0) 76 49 0 = st (rJ J) 0 0 := by
  funext a j
  unfold st rJ mm_up
  repeat' split
  all_goals first | rfl | omega
theorem rJ_frm : frm AT J (rJ J) := frm_up (frm_up (frm_up (frm_up frm_refl (by unfold AT; omega)) (by unfold AT; omega)) (by unfold AT; omega)) (by unfold AT; omega)
theorem rJ_0 : rJ J 76 18 = 0 ∧ rJ J 76 46 = 0 ∧ rJ J 76 48 = 0 ∧ rJ J 76 49 = 0 := by simp [rJ, mm_up]
theorem l_mxtop : ∀ (k : Nat) (p : Int) (J : mJ), PC t J R p → J 76 48 = 0 → J 76 49 = 6 - (k : Int) → 1 ≤ k → k ≤ 6 →
    match tpS t (J 76 43) k p (J 76 46).toNat with
    | .error e => ∃ J', RTx L d K R J p = RE L K R J' e ∧ frm AT J J'
    | .ok s => ∃ J' p', RTx L d K R J p = ok none (SH L) (st J' 0 p') K R ∧ PM 4 J J' s.1 s.2 := by
  intro k
  induction k with
  | zero => intro p J h hk hm h1; omega
  | succ k ih =>
    intro p J h hk hm h1 h6
    have hN := MT_N h.1
    have hx := cmt_all (L := L) (d := d) (t := t) (K := K) (R := R) 3 (by omega) J p h (by omega)
    unfold tpS
    cases hr : thS t 3 p (J 76 46).toNat with
    | error e =>
      rw [hr] at hx
      exact hx
    | ok r =>
      rw [hr] at hx
      obtain ⟨J1, j1, j2⟩ := hx
      have ho := thS_TO hN 3 p _ r h.2.1.2 hr
      obtain ⟨n1, n2, n3, n4⟩ := PC_next h ho j2
      have e48 := j2.2.2.2.1
      have hm1 : J1 76 49 = 6 - (k : Int) := by
        have e3 := j2.2.2.2.2.2.2.2.2.2.1 hk
        have ef : flen 4 ([r.1] : List (Nd 3)) = 1 := rfl
        rw [ef] at e3
        omega
      have hm2 : mny J1 = J1 76 49 := if_pos (by omega)
      obtain ⟨g1, g2, g3⟩ := GO_many (L := L) (d := d) (K := K) n1 n1.2.1 (by omega) (Or.inl (by omega))
      simp only
      by_cases c1 : J 76 43 ≤ r.2.1
      · rw [if_pos c1]
        simp only
        refine ⟨J1, r.2.1, ?_, j2⟩
        rw [j1]
        have := hN _ c1
        exact g3 (by omega) (by omega) (by omega)
      · rw [if_neg c1]
        by_cases c2 : k = 0 ∨ t r.2.1 ≠ 59
        · rw [if_pos c2]
          simp only
          refine ⟨J1, ?_, j2.1⟩
          rw [j1]
          exact g2 (by omega) (by omega)
        · rw [if_neg c2]
          have c3 : t r.2.1 = 59 := by
            by_cases c4 : t r.2.1 = 59
            · exact c4
            · exact absurd (Or.inr c4) c2
          have ck : k ≠ 0 := fun q => c2 (Or.inl q)
          have hP : PC t J1 R (r.2.1 + 1) := ⟨n1.1, by have := n1.2.1; omega, by have := n1.2.2.1; omega, n1.2.2.2⟩
          have ih' := ih (r.2.1 + 1) J1 hP (by omega) hm1 (by omega) (by omega)
          have gg := g1 c3 (by omega)
          rw [n4]
          rw [n2] at ih'
          cases hs : tpS t (J 76 43) k (r.2.1 + 1) (J1 76 46).toNat with
          | error e =>
            rw [hs] at ih'
            obtain ⟨J', i1, i2⟩ := ih'
            exact ⟨J', by rw [j1, gg, i1], frm_trans j2.1 i2⟩
          | ok s =>
            rw [hs] at ih'
            obtain ⟨J', p', i1, i2⟩ := ih'
            exact ⟨J', p', by rw [j1, gg, i1], PM_cons h.2.2.1.1 h.2.2.1.2.1 h.2.2.2.1.1 h.2.2.2.2 j2 i2⟩
theorem mx_readText (hR : wfR R) (hn : 0 ≤ J 76 43 ∧ J 76 43 ≤ 100) (hb : ∀ i, i < 100 → 0 ≤ J 103 i ∧ J 103 i ≤ 127) :
    ∃ J', EE (d + 5) 186 0 [some (.ref 76), none] [] (SH L) J K R = ok none (SH L) J' K R ∧ frm AT J J' ∧ match tpS (mt J) (J 76 43) 6 0 0 with
    | .error e => J' 76 45 = 1 ∧ J' 76 44 = e
    | .ok s => J' 76 45 = 0 ∧ MF J' s.1 ∧ J' 76 46 = (s.2.length : Nat) ∧ ∀ (k : Nat) (hk : k < s.2.length), J' 102 k = s.2[k] := by
  have s76 : (SH L)[76]? = some (11, 58) := rfl
  have hM : MT (mt J) J R := ⟨hR, hn, hb, rfl⟩
  generalize mt J = t at *
  have hM0 := MT_frm hM (rJ_frm (J := J))
  obtain ⟨z1, z2, z3, z4⟩ := rJ_0 (J := J)
  have e43 : rJ J 76 43 = J 76 43 := rJ_frm 76 43 (by unfold AT; omega)
  have hP : PC t (rJ J) R 0 := ⟨hM0, by omega, by omega, by omega, fun h => by omega⟩
  have hl := l_mxtop (L := L) (d := d) (K := K) 6 0 (rJ J) hP z3 (by omega) (by omega) (by omega)
  have go : ∀ X, RTx L d K R (rJ J) 0 = X → EE (d + 5) 186 0 [some (.ref 76), none] [] (SH L) J K R = X := by
    intro X hX
    unfold RTx at hX
    simp (disch := first | assumption | omega | exact bi_lo | exact bi_hi | exact bi_01 | exact jcmp_lo | exact jcmp_hi | exact (jor_r _ _).1 | exact (jor_r _ _).2 | exact (jand_r _ _).1 | exact (jand_r _ _).2) only [x186_0, x186_1, x186_2, x186_5, x186_6, x186_7, x186_10, x186_11, x186_12, x186_15, x186_16, x186_17, x186_20, x186_21, x186_22, x186_25, x186_26, x186_27, x186_30, x186_31, kb_some, kb_none, clr_vi, clr_ref, clr_null, clr_none, va_rf_some, va_rf_none, rJ_e]
    exact hX
  have fst : ∀ b p J', frm AT J' (st J' b p) := fun b p J' a j hj => st_o (by unfold AT at hj; omega)
  rw [z2, e43, show ((0 : Int)).toNat = 0 from rfl] at hl
  cases hs : tpS t (J 76 43) 6 0 0 with
  | error e =>
    rw [hs] at hl
    obtain ⟨J', i1, i2⟩ := hl
    exact ⟨st J' 1 e, go _ i1, frm_trans rJ_frm (frm_trans i2 (fst _ _ _)), st_45, st_44⟩
  | ok s =>
    rw [hs] at hl
    obtain ⟨J', p', i1, i2⟩ := hl
    refine ⟨st J' 0 p', go _ i1, frm_trans rJ_frm (frm_trans i2.1 (fst _ _ _)), st_45, ?_, ?_, fun k hk => ?_⟩
    · obtain ⟨-, u2, -, -, -, -, -, -, u9, -⟩ := i2
      rw [show parM (rJ J) = -1 from if_pos z3, z1] at u9
      refine ⟨?_, ?_⟩
      · rw [st_a (by decide), st_a (by decide), st_a (by decide), st_a (by decide)]
        exact u9
      · rw [st_o (by decide), u2, z1]; omega
    · rw [st_o (by decide), i2.2.2.1, z2]; omega
    · have := i2.2.2.2.2.2.2.2.1 k hk
      rw [z2, show ((0 : Int)).toNat + k = k by omega] at this
      rw [st_a (by decide), this]
end
