/-! the reference reads a text: all levels -/
section
variable {L d : Nat} {t : Int → Int} {J K : mJ} {R : mm_R} {p x y b : Int}
theorem PM_nil {D : Nat} (hk : 0 ≤ J 76 48) : PM (D + 1) J J ([] : List (Nd D)) [] :=
  ⟨frm_refl, by simp [fsz_nil], by simp, rfl, fun _ _ => rfl, fun _ _ => ⟨rfl, fun _ => rfl, rfl, rfl⟩, fun _ _ => rfl, fun k hk => by simp at hk, trivial, fun _ => by show _ = _ + ((0 : Nat) : Int); omega, fun _ => ⟨rfl, by show _ = _ + ((0 : Nat) : Int); omega⟩⟩
theorem sJ_PC (h : PC t J R p) (hk : J 76 48 < 3) (hp : p + 4 ≤ J 76 43) : PC t (sJ J) R (p + 4) := by
  obtain ⟨hM, h1, h2, h3, h4⟩ := h
  refine ⟨MT_frm hM sJ_frm, ?_, ?_, ?_, fun _ => ?_⟩
  · rw [sJ_frm 76 43 (by unfold AT; omega)]; omega
  · rw [sJ_18, sJ_46 h3.1]; omega
  · rw [sJ_48]; omega
  · rw [sJ_par h3.1, sJ_18]; omega
theorem PM_group {D : Nat} {J2 : mJ} {l : List (Nd D)} {c : List Int} (h : PC t J R p) (h' : PM (D + 1) (sJ J) J2 l c) : PM (D + 2) J (mm_up J2 76 48 (J 76 48)) ([((103, (l.length : Nat), ((J 76 46).toNat : Int)), l)] : List (Nd (D + 1))) c := by
  obtain ⟨hM, h1, h2, h3, h4⟩ := h
  obtain ⟨u1, u2, u3, u4, u5, u6, u7, u8, u9, u10, u11⟩ := h'
  have ef : flen (D + 1) l = l.length := rfl
  have ef2 : flen (D + 2) ([((103, ((l.length : Nat) : Int), ((J 76 46).toNat : Int)), l)] : List (Nd (D + 1))) = 1 := rfl
  have efs : fsz (D + 2) ([((103, ((l.length : Nat) : Int), ((J 76 46).toNat : Int)), l)] : List (Nd (D + 1))) = 1 + fsz (D + 1) l := rfl
  have e48 : 0 < sJ J 76 48 := by rw [sJ_48]; omega
  have v11 := u11 e48
  rw [sJ_par h3.1] at u6 u9 v11
  rw [sJ_18] at u2 u6 u9
  rw [sJ_46 h3.1] at u3 u7 u8
  rw [sJ_48] at u4 u5
  obtain ⟨r1, r2, r3, r4⟩ := tc_rows (ty := 103) h2.1 h3.1 h4
  obtain ⟨n1, n2⟩ := tc_cnt (ty := 103) h3.1
  have k : ∀ a j, ¬ (a = 76 ∧ j = 48) → mm_up J2 76 48 (J 76 48) a j = J2 a j := fun a j hj => by
    unfold mm_up; rw [if_neg hj]
  have kk : ∀ a, a ≠ 76 → mm_up J2 76 48 (J 76 48) a = J2 a := fun a ha => up_ne ha
  have hi := u6 (J 76 18).toNat (by omega)
  have hpn : 0 < J 76 48 → 0 ≤ parM J ∧ parM J < J 76 18 := h4
  have hpz : J 76 48 = 0 → parM J = -1 := fun c => if_pos c
  have s6 : ∀ (a j : Nat), 86 ≤ a ∧ a ≤ 89 → sJ J a j = tc J 103 a j := fun a j ha => sJ_o (by omega)
  refine ⟨frm_up (frm_trans sJ_frm u1) (by unfold AT; omega), ?_, ?_, up_s, fun j hj => ?_, fun j hj => ⟨?_, fun hh => ?_, ?_, ?_⟩, fun j hj => ?_, fun q hq => ?_, ?_, fun hz => ?_, fun hz => ?_⟩
  · rw [k _ _ (by omega), u2, efs]; omega
  · rw [k _ _ (by omega), u3]
  · rw [k _ _ (by omega), u5 j (by omega), sJ_o (by omega), tc_o (by omega) h3.1]
  · rw [k _ _ (by omega), (u6 j (by omega)).1, s6 _ _ (by omega), tc_o (by omega) h3.1]
  · rw [k _ _ (by omega), (u6 j (by omega)).2.1 (by omega), s6 _ _ (by omega), tc_o (by omega) h3.1]
  · rw [k _ _ (by omega), (u6 j (by omega)).2.2.1, s6 _ _ (by omega), tc_o (by omega) h3.1]
  · rw [k _ _ (by omega), (u6 j (by omega)).2.2.2, s6 _ _ (by omega), tc_o (by omega) h3.1]
  · rw [k _ _ (by omega), u7 j hj, sJ_o (by omega), tc_o (by omega) h3.1]
  · rw [k _ _ (by omega), u8 q hq]
  · rw [kk 86 (by decide), kk 87 (by decide), kk 88 (by decide), kk 89 (by decide)]
    have ei : (((J 76 18).toNat : Nat) : Int) = J 76 18 := by omega
    refine ⟨⟨?_, ?_, ?_, ?_⟩, ?_, trivial⟩
    · rw [hi.1, s6 _ _ (by omega), r1]
    · rw [v11.2, s6 _ _ (by omega), r2, ef]; simp
    · rw [hi.2.2.1, s6 _ _ (by omega), r3]
      show J 76 46 = ((J 76 46).toNat : Int)
      omega
    · rw [hi.2.2.2, s6 _ _ (by omega), r4]
    · rw [ei]
      rw [show (J 76 18 + 1).toNat = (J 76 18).toNat + 1 by omega] at u9
      exact u9
  · rw [k _ _ (by omega), v11.1, sJ_o (by omega), n1 hz, ef2]; rfl
  · have hq := h4 hz
    obtain ⟨n3, n4⟩ := n2 hz
    refine ⟨by rw [k _ _ (by omega), v11.1, sJ_o (by omega), n3], ?_⟩
    rw [k _ _ (by omega), (u6 (parM J).toNat (by omega)).2.1 (by omega), s6 _ _ (by omega), n4, ef2]; rfl
/-- what is said of things of D levels -/
def CMT (L d : Nat) (t : Int → Int) (K : mJ) (R : mm_R) (D : Nat) : Prop := ∀ (J : mJ) (p : Int), PC t J R p → J 76 48 = 3 - (D : Int) →
  match thS t D p (J 76 46).toNat with
  | .error e => ∃ J', RTx L d K R J p = RE L K R J' e ∧ frm AT J J'
  | .ok r => ∃ J', RTx L d K R J p = GOe L d K R J' r.2.1 ∧ PM (D + 1) J J' ([r.1] : List (Nd D)) r.2.2
theorem PC_next {D : Nat} {J1 : mJ} {r : TR D} (h : PC t J R p) (ho : TO t (J 76 43) D p (J 76 46).toNat r) (h1 : PM (D + 1) J J1 ([r.1] : List (Nd D)) r.2.2) : PC t J1 R r.2.1 ∧ J1 76 43 = J 76 43 ∧ parM J1 = parM J ∧ (J 76 46).toNat + r.2.2.length = (J1 76 46).toNat := by
  obtain ⟨hM, a1, a2, a3, a4⟩ := h
  obtain ⟨⟨o1, o2⟩, o3, -⟩ := ho
  have e43 : J1 76 43 = J 76 43 := h1.1 76 43 (by unfold AT; omega)
  have ep : parM J1 = parM J := parM_eq h1.2.2.2.1 h1.2.2.2.2.1 a3.1
  have e18 := h1.2.1
  have e46 := h1.2.2.1
  have e48 := h1.2.2.2.1
  have efs : fsz (D + 1) ([r.1] : List (Nd D)) = 1 + fsz D r.1.2 := rfl
  rw [efs] at e18
  refine ⟨⟨MT_frm hM h1.1, by omega, by omega, by omega, fun hz => ?_⟩, e43, ep, by omega⟩
  have := a4 (by omega)
  rw [ep]; omega
theorem l_mset {D : Nat} (hD : D ≤ 2) (hth : CMT L d t K R D) : ∀ (k : Nat) (p : Int) (J : mJ), PC t J R p → J 76 48 = 3 - (D : Int) → mny J = 6 - (k : Int) → 1 ≤ k → k ≤ 6 →
    match grS t (thS t D) k p (J 76 46).toNat with
    | .error e => ∃ J', RTx L d K R J p = RE L K R J' e ∧ frm AT J J'
    | .ok s => ∃ J', RTx L d K R J p = GOe L d K R (mm_up J' 76 48 (J 76 48 - 1)) s.2.1 ∧ PM (D + 1) J J' s.1 s.2.2 := by
  intro k
  induction k with
  | zero => intro p J h hk hm h1; omega
  | succ k ih =>
    intro p J h hk hm h1 h6
    have hN := MT_N h.1
    have hx := hth J p h hk
    unfold grS
    cases hr : thS t D p (J 76 46).toNat with
    | error e =>
      rw [hr] at hx
      exact hx
    | ok r =>
      rw [hr] at hx
      obtain ⟨J1, j1, j2⟩ := hx
      have ho := thS_TO hN D p _ r h.2.1.2 hr
      obtain ⟨n1, n2, n3, n4⟩ := PC_next h ho j2
      have hn43 := h.1.2.1
      have e48 := j2.2.2.2.1
      have hm1 : mny J1 = 6 - (k : Int) := by
        have e1 : mny J1 = J1 87 (parM J1).toNat := if_neg (by omega)
        have e2 : mny J = J 87 (parM J).toNat := if_neg (by omega)
        have e3 := (j2.2.2.2.2.2.2.2.2.2.2 (by omega)).2
        have ef : flen (D + 1) ([r.1] : List (Nd D)) = 1 := rfl
        rw [ef] at e3
        rw [e1, n3, e3, ← e2, hm]; omega
      simp only
      by_cases c1 : t r.2.1 = 41
      · rw [if_pos c1]
        simp only
        refine ⟨J1, ?_, j2⟩
        rw [j1, GO_pop n1.1 n1.2.1 (by omega) c1, e48]
      · rw [if_neg c1]
        obtain ⟨g1, g2, -⟩ := GO_many (L := L) (d := d) (K := K) n1 n1.2.1 (by omega) (Or.inr c1)
        by_cases c2 : k = 0 ∨ t r.2.1 ≠ 59
        · rw [if_pos c2]
          simp only
          refine ⟨J1, ?_, j2.1⟩
          rw [j1]
          exact g2 (by omega) (by omega)
        · rw [if_neg c2]
          have c3 : t r.2.1 = 59 := by
            by_cases c4 : t r.2.1 = 59
            · exact c4
            · exact absurd (Or.inr c4) c2
          have ck : k ≠ 0 := fun q => c2 (Or.inl q)
          have hlt := TN_lt hN c3 (by omega)
          have hP : PC t J1 R (r.2.1 + 1) := ⟨n1.1, by have := n1.2.1; omega, by have := n1.2.2.1; omega, n1.2.2.2⟩
          have ih' := ih (r.2.1 + 1) J1 hP (by omega) hm1 (by omega) (by omega)
          have gg := g1 c3 (by omega)
          rw [n4]
          cases hs : grS t (thS t D) k (r.2.1 + 1) (J1 76 46).toNat with
          | error e =>
            rw [hs] at ih'
            obtain ⟨J', i1, i2⟩ := ih'
            exact ⟨J', by rw [j1, gg, i1], frm_trans j2.1 i2⟩
          | ok s =>
            rw [hs] at ih'
            obtain ⟨J', i1, i2⟩ := ih'
            refine ⟨J', ?_, PM_cons h.2.2.1.1 h.2.2.1.2.1 h.2.2.2.1.1 h.2.2.2.2 j2 i2⟩
            rw [j1, gg, i1, e48]
theorem cmt_D (D : Nat) (hD : D ≤ 3) (hg : ∀ D', D = D' + 1 → CMT L d t K R D') : CMT L d t K R D := by
  intro J p h hk
  have hM := h.1
  have hN := MT_N hM
  have hp := h.2.1
  by_cases cs : wd3 t p 115 101 116
  · obtain ⟨m1, m2⟩ := mx_set (L := L) (d := d) (K := K) h cs
    have hlt := wd3_lt hN cs (by decide)
    unfold thS
    rw [if_neg (wd3_ne cs (by decide)), if_neg (wd3_ne cs (by decide)), if_neg (wd3_ne cs (by decide)), if_pos cs]
    cases D with
    | zero =>
      exact ⟨J, RTx_e (m1 (by omega)), frm_refl⟩
    | succ D' =>
      have m3 := m2 (by omega)
      simp only
      by_cases c5 : t (p + 3) ≠ 40
      · rw [if_pos c5]
        rw [if_neg c5] at m3
        exact ⟨_, RTx_e m3, sJ_frm⟩
      rw [if_neg c5]
      have c5' : t (p + 3) = 40 := by omega
      rw [if_pos c5'] at m3
      have h3 := TN_lt hN c5' (by omega)
      have hP := sJ_PC h (by omega) (by omega)
      have e48 : sJ J 76 48 = J 76 48 + 1 := sJ_48
      have e46 : sJ J 76 46 = J 76 46 := sJ_46 h.2.2.2.1.1
      have hk0 := h.2.2.2.1
      by_cases c6 : t (p + 4) = 41
      · rw [if_pos c6]
        rw [bi_f (by omega)] at m3
        refine ⟨_, ?_, PM_group h (PM_nil (by omega))⟩
        rw [RTx_0 m3, GO_pop hP.1 hP.2.1 (by omega) c6, e48]
        simp only
        rw [show J 76 48 + 1 - 1 = J 76 48 by omega, show p + 4 + 1 = p + 5 by omega]
      rw [if_neg c6]
      rw [bi_t c6] at m3
      have hm : mny (sJ J) = 6 - ((6 : Nat) : Int) := by
        have e1 : mny (sJ J) = sJ J 87 (parM (sJ J)).toNat := if_neg (by omega)
        rw [e1, sJ_par hk0.1, sJ_o (by omega), (tc_rows (ty := 103) h.2.2.1.1 hk0.1 h.2.2.2.2).2.1]; rfl
      have hst := l_mset (L := L) (d := d) (K := K) (by omega) (hg D' rfl) 6 (p + 4) (sJ J) hP (by omega) hm (by omega) (by omega)
      rw [e46] at hst
      cases hs : grS t (thS t D') 6 (p + 4) (J 76 46).toNat with
      | error e =>
        rw [hs] at hst
        obtain ⟨J', i1, i2⟩ := hst
        exact ⟨J', by rw [RTx_1 m3, i1], frm_trans sJ_frm i2⟩
      | ok s =>
        rw [hs] at hst
        obtain ⟨J', i1, i2⟩ := hst
        refine ⟨_, ?_, PM_group h i2⟩
        rw [RTx_1 m3, i1, e48, show J 76 48 + 1 - 1 = J 76 48 by omega]
  · have hl := mx_leaf (L := L) (d := d) (K := K) (D := D) h cs
    unfold CML at hl
    cases hs : thS t D p (J 76 46).toNat with
    | error e =>
      rw [hs] at hl
      obtain ⟨J', i1, i2⟩ := hl
      exact ⟨J', RTx_e i1, i2⟩
    | ok r =>
      rw [hs] at hl
      obtain ⟨J', i1, i2⟩ := hl
      exact ⟨J', RTx_0 i1, i2⟩
theorem cmt_all : ∀ (D : Nat), D ≤ 3 → CMT L d t K R D := by
  intro D
  induction D with
  | zero => exact fun hd => cmt_D 0 hd (fun D' h => absurd h (by omega))
  | succ D ih =>
    intro hd
    refine cmt_D (D + 1) hd ?_
    intro D' h'
    have e : D = D' := by omega
    subst e
    exact ih (by omega)
end
