/-! the reference reads a text: one thing -/
def parM (J : mJ) : Int := if J 76 48 = 0 then -1 else J 104 (J 76 48 - 1).toNat
def tcB (J : mJ) (ty : Int) : mJ := mm_up (mm_up (mm_up (mm_up J 86 (J 76 18).toNat ty) 87 (J 76 18).toNat 0) 88 (J 76 18).toNat (J 76 46)) 89 (J 76 18).toNat (parM J)
def tc (J : mJ) (ty : Int) : mJ := mm_up (if J 76 48 = 0 then mm_up (tcB J ty) 76 49 (J 76 49 + 1) else mm_up (tcB J ty) 87 (parM J).toNat (J 87 (parM J).toNat + 1)) 76 18 (J 76 18 + 1)
abbrev AT (a j : Nat) : Prop := (86 ≤ a ∧ a ≤ 89) ∨ a = 102 ∨ a = 104 ∨ (a = 76 ∧ (j = 18 ∨ j = 44 ∨ j = 45 ∨ j = 46 ∨ j = 48 ∨ j = 49))
/-- what the reference stands on before a thing at p -/
def PC (t : Int → Int) (J : mJ) (R : mm_R) (p : Int) : Prop := MT t J R ∧ (0 ≤ p ∧ p ≤ J 76 43) ∧ (0 ≤ J 76 18 ∧ 0 ≤ J 76 46 ∧ 4 * J 76 18 + J 76 46 ≤ p) ∧ (0 ≤ J 76 48 ∧ J 76 48 ≤ 3) ∧ (0 < J 76 48 → 0 ≤ parM J ∧ parM J < J 76 18)
section
variable {L d : Nat} {t : Int → Int} {J K : mJ} {R : mm_R} {p x y b : Int}
theorem tc_frm {ty : Int} : frm AT J (tc J ty) := by
  unfold tc
  refine frm_up ?_ (by unfold AT; omega)
  have h4 : frm AT J (tcB J ty) := frm_up (frm_up (frm_up (frm_up frm_refl (by unfold AT; omega)) (by unfold AT; omega)) (by unfold AT; omega)) (by unfold AT; omega)
  split
  · exact frm_up h4 (by unfold AT; omega)
  · exact frm_up h4 (by unfold AT; omega)
theorem MT_frm {J' : mJ} (h : MT t J R) (hf : frm AT J J') : MT t J' R := MT_o h (hf 76 43 (by unfold AT; omega)) (by funext j; exact hf 103 j (by unfold AT; omega))
theorem tc_o {ty : Int} {a j : Nat} (h : ¬ ((86 ≤ a ∧ a ≤ 89 ∧ j = (J 76 18).toNat) ∨ (a = 87 ∧ 0 < J 76 48 ∧ j = (parM J).toNat) ∨ (a = 76 ∧ (j = 18 ∨ (j = 49 ∧ J 76 48 = 0))))) (h48 : 0 ≤ J 76 48) : tc J ty a j = J a j := by
  unfold tc tcB
  split
  · unfold mm_up
    rw [if_neg (by omega), if_neg (by omega), if_neg (by omega), if_neg (by omega), if_neg (by omega), if_neg (by omega)]
  · unfold mm_up
    rw [if_neg (by omega), if_neg (by omega), if_neg (by omega), if_neg (by omega), if_neg (by omega), if_neg (by omega)]
theorem tc_18 {ty : Int} : tc J ty 76 18 = J 76 18 + 1 := up_s
theorem tc_rows {ty : Int} (h18 : 0 ≤ J 76 18) (h48 : 0 ≤ J 76 48) (hp : 0 < J 76 48 → 0 ≤ parM J ∧ parM J < J 76 18) : tc J ty 86 (J 76 18).toNat = ty ∧ tc J ty 87 (J 76 18).toNat = 0 ∧ tc J ty 88 (J 76 18).toNat = J 76 46 ∧ tc J ty 89 (J 76 18).toNat = parM J := by
  unfold tc tcB
  by_cases c : J 76 48 = 0
  · rw [if_pos c]; simp [mm_up]
  · rw [if_neg c]
    have h := hp (by omega)
    have hne : (J 76 18).toNat ≠ (parM J).toNat := by omega
    simp [mm_up, hne]
theorem tc_cnt {ty : Int} (h48 : 0 ≤ J 76 48) : (J 76 48 = 0 → tc J ty 76 49 = J 76 49 + 1) ∧ (0 < J 76 48 → tc J ty 76 49 = J 76 49 ∧ tc J ty 87 (parM J).toNat = J 87 (parM J).toNat + 1) := by
  constructor
  · intro c; unfold tc; rw [if_pos c]; simp [mm_up]
  · intro c
    refine ⟨tc_o (by omega) h48, ?_⟩
    unfold tc; rw [if_neg (by omega)]; simp [mm_up]
theorem mx_comes (h : PC t J R p) {ty q : Int} (hty : 0 ≤ ty ∧ ty ≤ 255) : EE d 178 0 [some (.ref 76), some (vi ty)] [] (SH L) (st J b q) K R = ok none (SH L) (st (tc J ty) b q) K R := by
  obtain ⟨hM, hp, hc, hk, hq⟩ := h
  have hR := hM.1
  have hn := hM.2.1
  have s76 : (SH L)[76]? = some (11, 58) := rfl; have r76_0 : R 76 0 = some 77 := rr_lk hR rfl; have r76_3 : R 76 3 = some 78 := rr_lk hR rfl; have r76_4 : R 76 4 = some 79 := rr_lk hR rfl; have r76_6 : R 76 6 = some 80 := rr_lk hR rfl; have r76_7 : R 76 7 = some 81 := rr_lk hR rfl; have r76_9 : R 76 9 = some 82 := rr_lk hR rfl; have r76_10 : R 76 10 = some 83 := rr_lk hR rfl; have r76_12 : R 76 12 = some 84 := rr_lk hR rfl; have r76_13 : R 76 13 = some 85 := rr_lk hR rfl; have r76_19 : R 76 19 = some 86 := rr_lk hR rfl; have r76_20 : R 76 20 = some 87 := rr_lk hR rfl; have r76_21 : R 76 21 = some 88 := rr_lk hR rfl; have r76_22 : R 76 22 = some 89 := rr_lk hR rfl; have r76_24 : R 76 24 = some 90 := rr_lk hR rfl; have r76_25 : R 76 25 = some 91 := rr_lk hR rfl; have r76_26 : R 76 26 = some 92 := rr_lk hR rfl; have r76_28 : R 76 28 = some 93 := rr_lk hR rfl; have r76_29 : R 76 29 = some 94 := rr_lk hR rfl; have r76_30 : R 76 30 = some 95 := rr_lk hR rfl; have r76_31 : R 76 31 = some 96 := rr_lk hR rfl; have r76_32 : R 76 32 = some 97 := rr_lk hR rfl; have r76_36 : R 76 36 = some 98 := rr_lk hR rfl; have r76_38 : R 76 38 = some 99 := rr_lk hR rfl; have r76_39 : R 76 39 = some 100 := rr_lk hR rfl; have r76_40 : R 76 40 = some 101 := rr_lk hR rfl; have r76_41 : R 76 41 = some 102 := rr_lk hR rfl; have r76_42 : R 76 42 = some 103 := rr_lk hR rfl; have r76_47 : R 76 47 = some 104 := rr_lk hR rfl; have r76_53 : R 76 53 = some 105 := rr_lk hR rfl; have r76_54 : R 76 54 = some 106 := rr_lk hR rfl; have r76_55 : R 76 55 = some 107 := rr_lk hR rfl; have r76_56 : R 76 56 = some 108 := rr_lk hR rfl; have r76_57 : R 76 57 = some 109 := rr_lk hR rfl; have s86 : (SH L)[86]? = some (20, 60) := rfl; have s87 : (SH L)[87]? = some (20, 60) := rfl; have s88 : (SH L)[88]? = some (20, 60) := rfl; have s89 : (SH L)[89]? = some (20, 60) := rfl; have s104 : (SH L)[104]? = some (20, 3) := rfl
  have q18 : st J b q 76 18 = J 76 18 := st_o (by decide)
  have q46 : st J b q 76 46 = J 76 46 := st_o (by decide)
  have q48 : st J b q 76 48 = J 76 48 := st_o (by decide)
  have q49 : st J b q 76 49 = J 76 49 := st_o (by decide)
  have q104 : st J b q 104 = J 104 := st_a (by decide)
  have q87 : st J b q 87 = J 87 := st_a (by decide)
  have hpar : st J b q 76 48 = J 76 48 := q48
  have etc : tc (st J b q) ty = st (tc J ty) b q := by
    have ep : parM (st J b q) = parM J := by unfold parM; rw [q48, q104]
    unfold tc tcB
    rw [q18, q46, q48, q49, ep, q87]
    by_cases c : J 76 48 = 0
    · rw [if_pos c, if_pos c, st_up (by omega), st_up (by omega), st_up (by omega), st_up (by omega), st_up (by omega), st_up (by omega)]
    · rw [if_neg c, if_neg c, st_up (by omega), st_up (by omega), st_up (by omega), st_up (by omega), st_up (by omega), st_up (by omega)]
  rw [← etc]
  by_cases c : J 76 48 = 0
  · have c' : st J b q 76 48 = 0 := by rw [q48, c]
    simp (disch := first | assumption | omega | exact bi_lo | exact bi_hi | exact bi_01 | exact jcmp_lo | exact jcmp_hi | exact (jor_r _ _).1 | exact (jor_r _ _).2 | exact (jand_r _ _).1 | exact (jand_r _ _).2) only [x178_0, x178_1, x178_4, x178_5, x178_8, x178_9, x178_10, x178_11, x178_14, x178_15, x178_18, x178_19, x178_20, x178_21, x178_24, x178_25, x178_28, x178_29, x178_32, x178_33, x178_34, x178_37, x178_38, x178_41, x178_42, x178_45, x178_48, x178_49, x178_52, x178_53, x178_56, x178_57, x178_60, x178_61, x178_62, x178_63, x178_64, x178_65, x178_68, x178_71, x178_72, x178_75, x178_76, x178_79, x178_80, x178_83, x178_84, x178_85, x178_86, x178_87, x178_88, x178_89, x178_90, x178_91, x178_94, x178_95, x178_96, x178_99, x178_100, x178_101, x178_104, x178_105, x178_106, x178_109, x178_110, x178_111, x178_114, kb_some, kb_none, clr_vi, clr_ref, clr_null, clr_none, va_rf_some, va_rf_none, ↓bi_ite_t, ↓bi_ite_f, ↓jc_lt_t, ↓jc_lt_f, ↓jc_gt_t, ↓jc_gt_f, ↓jc_le_t, ↓jc_le_f, ↓jc_ge_t, ↓jc_ge_f, ↓jc_eq_t, ↓jc_eq_f, ↓if_pos, ↓if_neg, up_s, up_a, up_j, q18, c', tc, tcB, parM, q46, q49]
  · have hq' := hq (by omega)
    have hpm : parM J = J 104 (J 76 48 - 1).toNat := if_neg c
    rw [hpm] at hq'
    simp (disch := first | assumption | omega | exact bi_lo | exact bi_hi | exact bi_01 | exact jcmp_lo | exact jcmp_hi | exact (jor_r _ _).1 | exact (jor_r _ _).2 | exact (jand_r _ _).1 | exact (jand_r _ _).2) only [x178_0, x178_1, x178_4, x178_5, x178_8, x178_9, x178_10, x178_11, x178_14, x178_15, x178_18, x178_19, x178_20, x178_21, x178_24, x178_25, x178_28, x178_29, x178_32, x178_33, x178_34, x178_37, x178_38, x178_41, x178_42, x178_45, x178_48, x178_49, x178_52, x178_53, x178_56, x178_57, x178_60, x178_61, x178_62, x178_63, x178_64, x178_65, x178_68, x178_71, x178_72, x178_75, x178_76, x178_79, x178_80, x178_83, x178_84, x178_85, x178_86, x178_87, x178_88, x178_89, x178_90, x178_91, x178_94, x178_95, x178_96, x178_99, x178_100, x178_101, x178_104, x178_105, x178_106, x178_109, x178_110, x178_111, x178_114, kb_some, kb_none, clr_vi, clr_ref, clr_null, clr_none, va_rf_some, va_rf_none, ↓bi_ite_t, ↓bi_ite_f, ↓jc_lt_t, ↓jc_lt_f, ↓jc_gt_t, ↓jc_gt_f, ↓jc_le_t, ↓jc_le_f, ↓jc_ge_t, ↓jc_ge_f, ↓jc_eq_t, ↓jc_eq_f, ↓if_pos, ↓if_neg, up_s, up_a, up_j, q18, q48, q104, q87, tc, tcB, parM, q46]
/-- how things that are told lie in the reference's rows -/
def PM (D : Nat) (J J' : mJ) (F : Fo D) (c : List Int) : Prop := frm AT J J' ∧ J' 76 18 = J 76 18 + (fsz D F : Nat) ∧ J' 76 46 = J 76 46 + (c.length : Nat) ∧ J' 76 48 = J 76 48 ∧ (∀ j : Nat, (j : Int) < J 76 48 → J' 104 j = J 104 j) ∧ (∀ j : Nat, (j : Int) < J 76 18 → J' 86 j = J 86 j ∧ ((j : Int) ≠ parM J → J' 87 j = J 87 j) ∧ J' 88 j = J 88 j ∧ J' 89 j = J 89 j) ∧ (∀ j : Nat, (j : Int) < J 76 46 → J' 102 j = J 102 j) ∧ (∀ (k : Nat) (hk : k < c.length), J' 102 ((J 76 46).toNat + k) = c[k]) ∧ mF (J' 86) (J' 87) (J' 88) (J' 89) D (parM J) F (J 76 18).toNat ∧ (J 76 48 = 0 → J' 76 49 = J 76 49 + (flen D F : Nat)) ∧ (0 < J 76 48 → J' 76 49 = J 76 49 ∧ J' 87 (parM J).toNat = J 87 (parM J).toNat + (flen D F : Nat))
theorem parM_eq {J' : mJ} (h1 : J' 76 48 = J 76 48) (h2 : ∀ j : Nat, (j : Int) < J 76 48 → J' 104 j = J 104 j) (h3 : 0 ≤ J 76 48) : parM J' = parM J := by
  unfold parM
  rw [h1]
  split
  · rfl
  · exact h2 _ (by omega)
theorem PM_cons {D : Nat} {J1 J2 : mJ} {a : Nd D} {l : List (Nd D)} {c1 c2 : List Int} (h0 : 0 ≤ J 76 18) (h46 : 0 ≤ J 76 46) (h48 : 0 ≤ J 76 48) (hq : 0 < J 76 48 → 0 ≤ parM J ∧ parM J < J 76 18) (h : PM (D + 1) J J1 ([a] : List (Nd D)) c1) (h' : PM (D + 1) J1 J2 l c2) : PM (D + 1) J J2 (a :: l : List (Nd D)) (c1 ++ c2) := by
  obtain ⟨u1, u2, u3, u4, u5, u6, u7, u8, u9, u10, u11⟩ := h
  obtain ⟨v1, v2, v3, v4, v5, v6, v7, v8, v9, v10, v11⟩ := h'
  have ep : parM J1 = parM J := parM_eq u4 u5 h48
  rw [ep] at v6 v9 v11
  have ex : fsz (D + 1) ([a] : List (Nd D)) = 1 + fsz D a.2 := rfl
  have ef : flen (D + 1) ([a] : List (Nd D)) = 1 := rfl
  have ef2 : flen (D + 1) (a :: l : List (Nd D)) = l.length + 1 := rfl
  have ef3 : flen (D + 1) l = l.length := rfl
  rw [ex] at u2
  rw [ef] at u10 u11
  rw [ef3] at v10 v11
  refine ⟨frm_trans u1 v1, by rw [v2, u2, fsz_cons]; omega, by rw [v3, u3, List.length_append]; omega, v4.trans u4, fun j hj => by rw [v5 j (by omega), u5 j hj], fun j hj => ?_, fun j hj => by rw [v7 j (by omega), u7 j hj], fun k hk => ?_, ?_, fun hz => ?_, fun hz => ?_⟩
  · obtain ⟨a1, a2, a3, a4⟩ := u6 j hj
    obtain ⟨b1, b2, b3, b4⟩ := v6 j (by omega)
    exact ⟨b1.trans a1, fun hh => (b2 hh).trans (a2 hh), b3.trans a3, b4.trans a4⟩
  · rw [List.length_append] at hk
    by_cases c : k < c1.length
    · rw [v7 _ (by omega), u8 k c, List.getElem_append_left c]
    · have := v8 (k - c1.length) (by omega)
      rw [show (J1 76 46).toNat + (k - c1.length) = (J 76 46).toNat + k by omega] at this
      rw [this, List.getElem_append_right (by omega)]
  · rw [mF_cons] at u9 ⊢
    have hpn : parM J = -1 ∨ parM J < J 76 18 := by
      by_cases c : J 76 48 = 0
      · left; unfold parM; rw [if_pos c]
      · right; exact (hq (by omega)).2
    have hc : ∀ j : Nat, (J 76 18).toNat ≤ j → (j : Int) < J1 76 18 → J2 86 j = J1 86 j ∧ J2 87 j = J1 87 j ∧ J2 88 j = J1 88 j ∧ J2 89 j = J1 89 j := fun j q1 q2 => by
      obtain ⟨t1, t2, t3, t4⟩ := v6 j q2
      exact ⟨t1, t2 (by omega), t3, t4⟩
    obtain ⟨t1, t2, t3, t4⟩ := hc (J 76 18).toNat (by omega) (by omega)
    refine ⟨⟨t1.trans u9.1.1, t2.trans u9.1.2.1, t3.trans u9.1.2.2.1, t4.trans u9.1.2.2.2⟩, mF_congr _ _ _ _ u9.2.1 (fun j q1 q2 => hc j (by omega) (by omega)), ?_⟩
    rw [show (J 76 18).toNat + 1 + fsz D a.2 = (J1 76 18).toNat by omega]
    exact v9
  · rw [v10 (by omega), u10 hz, ef2]; omega
  · obtain ⟨a1, a2⟩ := u11 hz
    obtain ⟨b1, b2⟩ := v11 (by omega)
    rw [ef2, b2, a2]
    exact ⟨b1.trans a1, by omega⟩
/-- a leaf: what comes, then its row -/
theorem PM_leaf {D : Nat} {J' : mJ} {ty w : Int} {c : List Int} (h : PC t J R p) (hf : frm AT J J') (h18 : J' 76 18 = J 76 18 + 1) (h46 : J' 76 46 = J 76 46 + (c.length : Nat)) (ho : ∀ (a j : Nat), ¬ (a = 102 ∧ J 76 46 ≤ j) → ¬ (a = 76 ∧ (j = 46 ∨ j = 18)) → ¬ (a = 87 ∧ j = (J 76 18).toNat) → J' a j = tc J ty a j) (h87 : J' 87 (J 76 18).toNat = w) (h102 : ∀ (k : Nat) (hk : k < c.length), J' 102 ((J 76 46).toNat + k) = c[k]) : PM (D + 1) J J' ([((ty, w, ((J 76 46).toNat : Int)), fo0 D)] : List (Nd D)) c := by
  obtain ⟨hM, hp, hc, hk, hq⟩ := h
  obtain ⟨r1, r2, r3, r4⟩ := tc_rows (ty := ty) hc.1 hk.1 hq
  obtain ⟨n1, n2⟩ := tc_cnt (ty := ty) hk.1
  have ef : flen (D + 1) ([((ty, w, ((J 76 46).toNat : Int)), fo0 D)] : List (Nd D)) = 1 := rfl
  have hpn : parM J = -1 ∨ (0 ≤ parM J ∧ parM J < J 76 18) := by
    by_cases c : J 76 48 = 0
    · left; unfold parM; rw [if_pos c]
    · right; exact hq (by omega)
  refine ⟨hf, ?_, h46, ?_, fun j hj => ?_, fun j hj => ⟨?_, fun hh => ?_, ?_, ?_⟩, fun j hj => ?_, h102, ⟨⟨?_, h87, ?_, ?_⟩, mF_0, trivial⟩, fun hz => ?_, fun hz => ?_⟩
  · rw [h18]
    show J 76 18 + 1 = J 76 18 + ((1 + fsz D (fo0 D) + 0 : Nat) : Int)
    rw [fsz_0]; omega
  · rw [ho 76 48 (by omega) (by omega) (by omega), tc_o (by omega) hk.1]
  · rw [ho 104 j (by omega) (by omega) (by omega), tc_o (by omega) hk.1]
  · rw [ho 86 j (by omega) (by omega) (by omega), tc_o (by omega) hk.1]
  · rw [ho 87 j (by omega) (by omega) (by omega), tc_o (by omega) hk.1]
  · rw [ho 88 j (by omega) (by omega) (by omega), tc_o (by omega) hk.1]
  · rw [ho 89 j (by omega) (by omega) (by omega), tc_o (by omega) hk.1]
  · rw [ho 102 j (by omega) (by omega) (by omega), tc_o (by omega) hk.1]
  · rw [ho 86 _ (by omega) (by omega) (by omega), r1]
  · rw [ho 88 _ (by omega) (by omega) (by omega), r3]
    show J 76 46 = ((J 76 46).toNat : Int)
    omega
  · rw [ho 89 _ (by omega) (by omega) (by omega), r4]
  · rw [ho 76 49 (by omega) (by omega) (by omega), n1 hz, ef]; omega
  · have hq' := hq hz
    obtain ⟨n3, n4⟩ := n2 hz
    refine ⟨by rw [ho 76 49 (by omega) (by omega) (by omega), n3], ?_⟩
    rw [ho 87 _ (by omega) (by omega) (by omega), n4, ef]; omega
end
