/-! the calls, one by one: shown -/
theorem nthT_by : ∀ (F : List (Nd 3)) (i : Nat) (k : Int) (r : Nat) (x : Nd 3), nthT F i k = some (r, x) → byN x.1 + fby 3 x.2 ≤ fby 4 F ∧ 1 + fsz 3 x.2 ≤ fsz 4 F := by
  intro F
  induction F with
  | nil => intro i k r x h; cases h
  | cons z F ih =>
    intro i k r x h
    rw [show nthT (z :: F) i k = if k = 0 then some (i, z) else nthT F (i + 1 + fsz 3 z.2) (k - 1) from rfl] at h
    have e1 : fby 4 (z :: F : List (Nd 3)) = byN z.1 + fby 3 z.2 + fby 4 (F : List (Nd 3)) := rfl
    have e2 : fsz 4 (z :: F : List (Nd 3)) = 1 + fsz 3 z.2 + fsz 4 (F : List (Nd 3)) := rfl
    rw [e1, e2]
    by_cases c : k = 0
    · rw [if_pos c] at h
      cases h
      omega
    · rw [if_neg c] at h
      have := ih _ _ _ _ h
      omega
def sg (J : mJ) : mJ := if 0 < J 61 1 then mm_up J 61 1 0 else J
section
variable {L d : Nat} {J J' J1 J2 K K' : mJ} {R R1 R' : mm_R} {x y z v w n : Int} {f : Int → Int}
theorem sg_o {a : Nat} (h : a ≠ 61) : sg J a = J a := by
  unfold sg
  split
  · rw [up_ne h]
  · rfl
theorem sg_61 (h : 0 ≤ J 61 1) : sg J 61 1 = 0 := by
  unfold sg
  split
  · rw [up_s]
  · omega
/-- the class's shower on a thing that was read -/
theorem c_signs {e1 : Nat} (hR : wfR R1) {F : List (Nd 3)} (hC : CF f J1 F) (h61 : 0 ≤ J1 61 1 ∧ J1 61 1 ≤ 600) (hS : RS J1) (hw : wF f 4 F) (hl : 3 * fsz 4 F + fby 4 F ≤ 116) {k : Int} {r : Nat} {a : Nd 3} (hn : nthT F 0 k = some (r, a)) :
    EE (e1 + 10) 48 0 [some (.ref 60), some (.ref 36), some (vi r)] [] (SH L) J1 K R1 = ok (some (.ref 61)) (SH L) (apL 61 62 (sg J1) (shN f 3 a)) K R1 := by
  have s60 : (SH L)[60]? = some (5, 1) := rfl; have r60_0 : R1 60 0 = some 61 := rr_lk hR rfl; have s61 : (SH L)[61]? = some (0, 2) := rfl; have r61_0 : R1 61 0 = some 62 := rr_lk hR rfl
  have hB : isB (SH L) R1 61 62 600 := ⟨rfl, rr_lk hR rfl, rfl, by decide, by decide, by decide⟩
  obtain ⟨q1, q2⟩ := nthT_C F 0 k r a hC.1 hn
  have q3 := nthT_wf F 0 k r a hw hn
  have q4 := nthT_by F 0 k r a hn
  have hen := fun d => c_endBehind (d := d) (J := J1) (K := K) (x := 0) hB (by omega) h61
  have esg : (if (0 : Int) ≤ 0 ∧ 0 < J1 61 1 then mm_up J1 61 1 0 else J1) = sg J1 := by
    unfold sg
    by_cases c : 0 < J1 61 1
    · rw [if_pos c, if_pos ⟨by omega, c⟩]
    · rw [if_neg c, if_neg (fun q => c q.2)]
  simp only [esg] at hen
  have hSW : SW (sg J1) R1 := ⟨hR, sg_61 h61.1, by rw [sg_o (by decide)]; exact hS.2.1, by rw [sg_o (by decide)]; exact hS.2.2⟩
  have e36 := hC.2.1
  have hs := sh_all (L := L) (d := e1) (g := f) (K := K) hSW 3 (by omega) a r 0 [] (by
    rw [sg_o (show 42 ≠ 61 by decide), sg_o (show 37 ≠ 61 by decide), sg_o (show 38 ≠ 61 by decide), sg_o (show 39 ≠ 61 by decide), sg_o (show 40 ≠ 61 by decide), sg_o (show 41 ≠ 61 by decide), sg_o (show 43 ≠ 61 by decide)]
    exact q1) q3 (by rw [sg_o (by decide)]; omega) (by simp; omega)
  rw [apL_nil, List.nil_append, show (3 : Int) - ((3 : Nat) : Int) = 0 by omega, show e1 + 2 * 3 + 3 = e1 + 9 by omega] at hs
  simp (disch := first | assumption | omega | exact bi_lo | exact bi_hi | exact bi_01 | exact jcmp_lo | exact jcmp_hi | exact (jor_r _ _).1 | exact (jor_r _ _).2 | exact (jand_r _ _).1 | exact (jand_r _ _).2) only [x48_0, x48_1, x48_4, x48_5, x48_8, x48_9, x48_9n, x48_10, x48_11, x48_12, x48_15, x48_16, x48_19, x48_19n, kb_some, kb_none, clr_vi, clr_ref, clr_null, clr_none, va_rf_some, va_rf_none, ↓bi_ite_t, ↓bi_ite_f, ↓jc_lt_t, ↓jc_lt_f, ↓jc_gt_t, ↓jc_gt_f, ↓jc_le_t, ↓jc_le_f, ↓jc_ge_t, ↓jc_ge_f, ↓jc_eq_t, ↓jc_eq_f, ↓if_pos, ↓if_neg, hen, hs]
theorem signs_X (h : INV J K R) (b4 : fr A31 J J1) (hS : RS J1) {l : List Int} (hl : l.length ≤ 600) : IX (apL 61 62 (sg J1) l) ∧ (∀ a, a < 29 ∨ 62 < a → apL 61 62 (sg J1) l a = J a) ∧ apL 61 62 (sg J1) l 61 1 = (l.length : Nat) ∧ ∀ (j : Nat) (hj : j < l.length), apL 61 62 (sg J1) l 62 j = l[j] := by
  have hX := h.2.2.2.2.2.1
  have e61 : 0 ≤ J1 61 1 := by rw [b4 61 (by decide)]; exact hX.2.2.2.2.1.1
  have eo : ∀ a, a ≠ 61 → a ≠ 62 → apL 61 62 (sg J1) l a = J1 a := fun a h1 h2 => by rw [apL_o ⟨h1, h2⟩, sg_o h1]
  have ez : apL 61 62 (sg J1) l 61 1 = (l.length : Nat) := by rw [apL_sz (by decide), sg_61 e61]; omega
  refine ⟨?_, fun a ha => ?_, ez, fun j hj => ?_⟩
  · obtain ⟨x1, x2, x3, x4, x5, x6⟩ := hX
    refine ⟨?_, ?_, ?_, ?_, ?_, ?_⟩
    · unfold RS at hS ⊢
      rw [eo 32 (by decide) (by decide), eo 36 (by decide) (by decide), eo 42 (by decide) (by decide)]
      exact hS
    · rw [eo 47 (by decide) (by decide), b4 47 (by decide)]; exact x2
    · rw [eo 53 (by decide) (by decide), b4 53 (by decide)]; exact x3
    · rw [eo 58 (by decide) (by decide), b4 58 (by decide)]; exact x4
    · rw [ez]; omega
    · rw [eo 29 (by decide) (by decide), eo 30 (by decide) (by decide), b4 29 (by decide), b4 30 (by decide)]; exact x6
  · rw [eo a (by omega) (by omega), b4 a (by omega)]
  · have e0 := sg_61 e61
    have := apL_hi (a := 61) (b := 62) (J := sg J1) (l := l) (by decide) (by omega) j hj
    rw [e0] at this
    simpa using this
/-- the reference's -/
theorem m_signs (h : MR f J R) {F : List (Nd 3)} (hM : MF J F) (hw : wF f 4 F) (hl : 3 * fsz 4 F + fby 4 F ≤ 116) (hy : -2147483648 ≤ J 76 50 ∧ J 76 50 ≤ 2147483647) (h51 : J 76 51 = 0) {k : Int} {r : Nat} {a : Nd 3} (hn : nthT F 0 k = some (r, a)) :
    EE (d + 4) 210 0 [some (.ref 76), some (vi r), none, none] [] (SH L) J K R = ok none (SH L) (shL J (shN f 3 a)) K R := by
  have hR := h.1
  have s76 : (SH L)[76]? = some (11, 58) := rfl; have r76_0 : R 76 0 = some 77 := rr_lk hR rfl; have r76_3 : R 76 3 = some 78 := rr_lk hR rfl; have r76_4 : R 76 4 = some 79 := rr_lk hR rfl; have r76_6 : R 76 6 = some 80 := rr_lk hR rfl; have r76_7 : R 76 7 = some 81 := rr_lk hR rfl; have r76_9 : R 76 9 = some 82 := rr_lk hR rfl; have r76_10 : R 76 10 = some 83 := rr_lk hR rfl; have r76_12 : R 76 12 = some 84 := rr_lk hR rfl; have r76_13 : R 76 13 = some 85 := rr_lk hR rfl; have r76_19 : R 76 19 = some 86 := rr_lk hR rfl; have r76_20 : R 76 20 = some 87 := rr_lk hR rfl; have r76_21 : R 76 21 = some 88 := rr_lk hR rfl; have r76_22 : R 76 22 = some 89 := rr_lk hR rfl; have r76_24 : R 76 24 = some 90 := rr_lk hR rfl; have r76_25 : R 76 25 = some 91 := rr_lk hR rfl; have r76_26 : R 76 26 = some 92 := rr_lk hR rfl; have r76_28 : R 76 28 = some 93 := rr_lk hR rfl; have r76_29 : R 76 29 = some 94 := rr_lk hR rfl; have r76_30 : R 76 30 = some 95 := rr_lk hR rfl; have r76_31 : R 76 31 = some 96 := rr_lk hR rfl; have r76_32 : R 76 32 = some 97 := rr_lk hR rfl; have r76_36 : R 76 36 = some 98 := rr_lk hR rfl; have r76_38 : R 76 38 = some 99 := rr_lk hR rfl; have r76_39 : R 76 39 = some 100 := rr_lk hR rfl; have r76_40 : R 76 40 = some 101 := rr_lk hR rfl; have r76_41 : R 76 41 = some 102 := rr_lk hR rfl; have r76_42 : R 76 42 = some 103 := rr_lk hR rfl; have r76_47 : R 76 47 = some 104 := rr_lk hR rfl; have r76_53 : R 76 53 = some 105 := rr_lk hR rfl; have r76_54 : R 76 54 = some 106 := rr_lk hR rfl; have r76_55 : R 76 55 = some 107 := rr_lk hR rfl; have r76_56 : R 76 56 = some 108 := rr_lk hR rfl; have r76_57 : R 76 57 = some 109 := rr_lk hR rfl
  have q3 := nthT_wf F 0 k r a hw hn
  have q4 := nthT_by F 0 k r a hn
  have e18 := hM.2
  obtain ⟨u1, u2, u3⟩ := MF_UN hM hw (by omega) hn q3
  have u1' := u1
  obtain ⟨w1, w2, w3, w4, w5⟩ := u1'
  have hMG : MG f J F := ⟨hM, hw, by omega, by
    have : ∀ F : List (Nd 3), F.length ≤ fsz 4 F := fun F => by
      induction F with
      | nil => exact Nat.zero_le _
      | cons x F ih =>
        have e2 : fsz 4 (x :: F : List (Nd 3)) = 1 + fsz 3 x.2 + fsz 4 (F : List (Nd 3)) := rfl
        rw [e2, List.length_cons]; omega
    have := this F
    omega⟩
  have hty := MG_ty hMG
  have hwo := wF_wo 4 (-1) F 0 hw hM.1
  have hpa := mF_pa hM.1 (by omega)
  have hST : ST f J R (fsz 4 F) r (1 + fsz 3 a.2) := ⟨⟨h, h51, hy, by omega⟩, u1, e18, hpa, fun j hj => by have := hty j hj; omega, fun j hj => hwo j (by omega) (by omega)⟩
  obtain ⟨l3, hs⟩ := ms_all (L := L) (d := d) (K := K) hST 3 (by omega) a r 0 0 (-1) [] (some (vi r)) u3 q3 ⟨rfl, rfl⟩ (Nat.le_refl _) (by omega) (fun o o1 o2 => by
    rcases w5 o o2 (by omega) with q | ⟨q, q5, q6, q7⟩ <;> omega) (by omega) (by simp; omega)
  obtain ⟨l3', hs'⟩ := ms_all (L := L) (d := d) (K := K) hST 3 (by omega) a r 0 0 (-1) [] none u3 q3 ⟨rfl, rfl⟩ (Nat.le_refl _) (by omega) (fun o o1 o2 => by
    rcases w5 o o2 (by omega) with q | ⟨q, q5, q6, q7⟩ <;> omega) (by omega) (by simp; omega)
  rw [shL_nil, if_pos (Or.inl rfl), List.nil_append, List.nil_append, List.replicate_zero, List.append_nil] at hs'
  have e18' : shL J (shN f 3 a) 76 18 = (fsz 4 F : Nat) := by rw [shL_o (by decide)]; exact e18
  have hend : EE (d + 4) 210 2 [some (.ref 76), some (vi r), some (vi (r + (1 + fsz 3 a.2) : Nat)), l3'] [] (SH L) (shL J (shN f 3 a)) K R = ok none (SH L) (shL J (shN f 3 a)) K R := by
    by_cases c : r + (1 + fsz 3 a.2) = fsz 4 F
    · rw [c]
      simp (disch := first | assumption | omega | exact bi_lo | exact bi_hi | exact bi_01 | exact jcmp_lo | exact jcmp_hi | exact (jor_r _ _).1 | exact (jor_r _ _).2 | exact (jand_r _ _).1 | exact (jand_r _ _).2) only [x210_2, x210_3, x210_4, x210_7, x210_92, kb_some, kb_none, clr_vi, clr_ref, clr_null, clr_none, va_rf_some, va_rf_none, ↓bi_ite_t, ↓bi_ite_f, ↓jc_lt_t, ↓jc_lt_f, ↓jc_gt_t, ↓jc_gt_f, ↓jc_le_t, ↓jc_le_f, ↓jc_ge_t, ↓jc_ge_f, ↓jc_eq_t, ↓jc_eq_f, ↓if_pos, ↓if_neg, e18']
    · have hu := fun d => m_isUnder (L := L) (d := d) (J := shL J (shN f 3 a)) (K := K) hR (n := fsz 4 F) (r := r) (s := 1 + fsz 3 a.2) (j := r + (1 + fsz 3 a.2)) (by rw [shL_a (by decide), shL_a (by decide)]; exact u1) (by omega)
      simp only [bi_f (show ¬ (r ≤ r + (1 + fsz 3 a.2) ∧ r + (1 + fsz 3 a.2) < r + (1 + fsz 3 a.2)) by omega)] at hu
      simp (disch := first | assumption | omega | exact bi_lo | exact bi_hi | exact bi_01 | exact jcmp_lo | exact jcmp_hi | exact (jor_r _ _).1 | exact (jor_r _ _).2 | exact (jand_r _ _).1 | exact (jand_r _ _).2) only [x210_2, x210_3, x210_4, x210_7, kb_some, kb_none, clr_vi, clr_ref, clr_null, clr_none, va_rf_some, va_rf_none, ↓bi_ite_t, ↓bi_ite_f, ↓jc_lt_t, ↓jc_lt_f, ↓jc_gt_t, ↓jc_gt_f, ↓jc_le_t, ↓jc_le_f, ↓jc_ge_t, ↓jc_ge_f, ↓jc_eq_t, ↓jc_eq_f, ↓if_pos, ↓if_neg, e18']
      simp (disch := first | assumption | omega | exact bi_lo | exact bi_hi | exact bi_01 | exact jcmp_lo | exact jcmp_hi | exact (jor_r _ _).1 | exact (jor_r _ _).2 | exact (jand_r _ _).1 | exact (jand_r _ _).2) only [x210_10, x210_11, x210_12, x210_13, x210_16, x210_92, kb_some, kb_none, clr_vi, clr_ref, clr_null, clr_none, va_rf_some, va_rf_none, ↓bi_ite_t, ↓bi_ite_f, ↓jc_lt_t, ↓jc_lt_f, ↓jc_gt_t, ↓jc_gt_f, ↓jc_le_t, ↓jc_le_f, ↓jc_ge_t, ↓jc_ge_f, ↓jc_eq_t, ↓jc_eq_f, ↓if_pos, ↓if_neg, hu]
  rw [hend] at hs'
  simp (disch := first | assumption | omega | exact bi_lo | exact bi_hi | exact bi_01 | exact jcmp_lo | exact jcmp_hi | exact (jor_r _ _).1 | exact (jor_r _ _).2 | exact (jand_r _ _).1 | exact (jand_r _ _).2) only [x210_0, x210_1, kb_some, kb_none, clr_vi, clr_ref, clr_null, clr_none, va_rf_some, va_rf_none, ↓bi_ite_t, ↓bi_ite_f, ↓jc_lt_t, ↓jc_lt_f, ↓jc_gt_t, ↓jc_gt_f, ↓jc_le_t, ↓jc_le_f, ↓jc_ge_t, ↓jc_ge_f, ↓jc_eq_t, ↓jc_eq_f, ↓if_pos, ↓if_neg]
  exact hs'
theorem op_shown (h : INV J K R) (hx : -2147483648 ≤ x ∧ x ≤ 2147483647) (hy : -2147483648 ≤ y ∧ y ≤ 2147483647) : OP L d 109 211 [some (vi x), some (vi y), none, none] [some (vi x), some (vi y)] J K R := by
  have hR := h.1
  have s2 : (SH L)[2]? = some (10, 10) := rfl; have r2_0 : R 2 0 = some 3 := rr_lk hR rfl; have r2_1 : R 2 1 = some 15 := rr_lk hR rfl; have r2_3 : R 2 3 = some 27 := rr_lk hR rfl; have r2_4 : R 2 4 = some 29 := rr_lk hR rfl; have r2_5 : R 2 5 = some 31 := rr_lk hR rfl; have r2_6 : R 2 6 = some 46 := rr_lk hR rfl; have r2_7 : R 2 7 = some 57 := rr_lk hR rfl; have r2_8 : R 2 8 = some 60 := rr_lk hR rfl; have r2_9 : R 2 9 = some 63 := rr_lk hR rfl; have s3 : (SH L)[3]? = some (6, 4) := rfl; have r3_0 : R 3 0 = some 4 := rr_lk hR rfl; have r3_1 : R 3 1 = some 6 := rr_lk hR rfl; have r3_2 : R 3 2 = some 9 := rr_lk hR rfl; have r3_3 : R 3 3 = some 12 := rr_lk hR rfl; have s4 : (SH L)[4]? = some (0, 2) := rfl; have r4_0 : R 4 0 = some 5 := rr_lk hR rfl; have s31 : (SH L)[31]? = some (2, 5) := rfl; have r31_0 : R 31 0 = some 32 := rr_lk hR rfl; have r31_1 : R 31 1 = some 36 := rr_lk hR rfl; have s76 : (SH L)[76]? = some (11, 58) := rfl; have r76_0 : R 76 0 = some 77 := rr_lk hR rfl; have r76_3 : R 76 3 = some 78 := rr_lk hR rfl; have r76_4 : R 76 4 = some 79 := rr_lk hR rfl; have r76_6 : R 76 6 = some 80 := rr_lk hR rfl; have r76_7 : R 76 7 = some 81 := rr_lk hR rfl; have r76_9 : R 76 9 = some 82 := rr_lk hR rfl; have r76_10 : R 76 10 = some 83 := rr_lk hR rfl; have r76_12 : R 76 12 = some 84 := rr_lk hR rfl; have r76_13 : R 76 13 = some 85 := rr_lk hR rfl; have r76_19 : R 76 19 = some 86 := rr_lk hR rfl; have r76_20 : R 76 20 = some 87 := rr_lk hR rfl; have r76_21 : R 76 21 = some 88 := rr_lk hR rfl; have r76_22 : R 76 22 = some 89 := rr_lk hR rfl; have r76_24 : R 76 24 = some 90 := rr_lk hR rfl; have r76_25 : R 76 25 = some 91 := rr_lk hR rfl; have r76_26 : R 76 26 = some 92 := rr_lk hR rfl; have r76_28 : R 76 28 = some 93 := rr_lk hR rfl; have r76_29 : R 76 29 = some 94 := rr_lk hR rfl; have r76_30 : R 76 30 = some 95 := rr_lk hR rfl; have r76_31 : R 76 31 = some 96 := rr_lk hR rfl; have r76_32 : R 76 32 = some 97 := rr_lk hR rfl; have r76_36 : R 76 36 = some 98 := rr_lk hR rfl; have r76_38 : R 76 38 = some 99 := rr_lk hR rfl; have r76_39 : R 76 39 = some 100 := rr_lk hR rfl; have r76_40 : R 76 40 = some 101 := rr_lk hR rfl; have r76_41 : R 76 41 = some 102 := rr_lk hR rfl; have r76_42 : R 76 42 = some 103 := rr_lk hR rfl; have r76_47 : R 76 47 = some 104 := rr_lk hR rfl; have r76_53 : R 76 53 = some 105 := rr_lk hR rfl; have r76_54 : R 76 54 = some 106 := rr_lk hR rfl; have r76_55 : R 76 55 = some 107 := rr_lk hR rfl; have r76_56 : R 76 56 = some 108 := rr_lk hR rfl; have r76_57 : R 76 57 = some 109 := rr_lk hR rfl
  have a1 := h.2.1.1
  obtain ⟨J1, R1, b3, b4, b5, hm⟩ := rd_cB (L := L) (e1 := d + 7) (K := K) (INV_RB h) h.2.2.2.2.2.1.1
  rw [a1] at hm
  have hR := b3
  have s2 : (SH L)[2]? = some (10, 10) := rfl; have r2_0 : R1 2 0 = some 3 := rr_lk hR rfl; have r2_1 : R1 2 1 = some 15 := rr_lk hR rfl; have r2_3 : R1 2 3 = some 27 := rr_lk hR rfl; have r2_4 : R1 2 4 = some 29 := rr_lk hR rfl; have r2_5 : R1 2 5 = some 31 := rr_lk hR rfl; have r2_6 : R1 2 6 = some 46 := rr_lk hR rfl; have r2_7 : R1 2 7 = some 57 := rr_lk hR rfl; have r2_8 : R1 2 8 = some 60 := rr_lk hR rfl; have r2_9 : R1 2 9 = some 63 := rr_lk hR rfl; have s31 : (SH L)[31]? = some (2, 5) := rfl; have r31_0 : R1 31 0 = some 32 := rr_lk hR rfl; have r31_1 : R1 31 1 = some 36 := rr_lk hR rfl; have s36 : (SH L)[36]? = some (9, 7) := rfl; have r36_0 : R1 36 0 = some 37 := rr_lk hR rfl; have r36_1 : R1 36 1 = some 38 := rr_lk hR rfl; have r36_2 : R1 36 2 = some 39 := rr_lk hR rfl; have r36_3 : R1 36 3 = some 40 := rr_lk hR rfl; have r36_4 : R1 36 4 = some 41 := rr_lk hR rfl; have r36_5 : R1 36 5 = some 42 := rr_lk hR rfl; have s60 : (SH L)[60]? = some (5, 1) := rfl; have r60_0 : R1 60 0 = some 61 := rr_lk hR rfl; have s61 : (SH L)[61]? = some (0, 2) := rfl; have r61_0 : R1 61 0 = some 62 := rr_lk hR rfl; have s76 : (SH L)[76]? = some (11, 58) := rfl; have r76_0 : R1 76 0 = some 77 := rr_lk hR rfl; have r76_3 : R1 76 3 = some 78 := rr_lk hR rfl; have r76_4 : R1 76 4 = some 79 := rr_lk hR rfl; have r76_6 : R1 76 6 = some 80 := rr_lk hR rfl; have r76_7 : R1 76 7 = some 81 := rr_lk hR rfl; have r76_9 : R1 76 9 = some 82 := rr_lk hR rfl; have r76_10 : R1 76 10 = some 83 := rr_lk hR rfl; have r76_12 : R1 76 12 = some 84 := rr_lk hR rfl; have r76_13 : R1 76 13 = some 85 := rr_lk hR rfl; have r76_19 : R1 76 19 = some 86 := rr_lk hR rfl; have r76_20 : R1 76 20 = some 87 := rr_lk hR rfl; have r76_21 : R1 76 21 = some 88 := rr_lk hR rfl; have r76_22 : R1 76 22 = some 89 := rr_lk hR rfl; have r76_24 : R1 76 24 = some 90 := rr_lk hR rfl; have r76_25 : R1 76 25 = some 91 := rr_lk hR rfl; have r76_26 : R1 76 26 = some 92 := rr_lk hR rfl; have r76_28 : R1 76 28 = some 93 := rr_lk hR rfl; have r76_29 : R1 76 29 = some 94 := rr_lk hR rfl; have r76_30 : R1 76 30 = some 95 := rr_lk hR rfl; have r76_31 : R1 76 31 = some 96 := rr_lk hR rfl; have r76_32 : R1 76 32 = some 97 := rr_lk hR rfl; have r76_36 : R1 76 36 = some 98 := rr_lk hR rfl; have r76_38 : R1 76 38 = some 99 := rr_lk hR rfl; have r76_39 : R1 76 39 = some 100 := rr_lk hR rfl; have r76_40 : R1 76 40 = some 101 := rr_lk hR rfl; have r76_41 : R1 76 41 = some 102 := rr_lk hR rfl; have r76_42 : R1 76 42 = some 103 := rr_lk hR rfl; have r76_47 : R1 76 47 = some 104 := rr_lk hR rfl; have r76_53 : R1 76 53 = some 105 := rr_lk hR rfl; have r76_54 : R1 76 54 = some 106 := rr_lk hR rfl; have r76_55 : R1 76 55 = some 107 := rr_lk hR rfl; have r76_56 : R1 76 56 = some 108 := rr_lk hR rfl; have r76_57 : R1 76 57 = some 109 := rr_lk hR rfl
  have e61 : 0 ≤ J1 61 1 ∧ J1 61 1 ≤ 600 := by rw [b4 61 (by decide)]; exact h.2.2.2.2.2.1.2.2.2.2.1
  have hB : isB (SH L) R1 61 62 600 := ⟨rfl, rr_lk hR rfl, rfl, by decide, by decide, by decide⟩
  cases hw : wh (mA J) (J 76 1) with
  | error q =>
    rw [hw] at hm
    obtain ⟨p1, p2, p3⟩ := hm
    have hM := INV_MR (J' := mm_up J1 76 11 0) h b3 (by rw [up_j (by decide), b4 76 (by decide)]) (by rw [up_ne (by decide), b4 77 (by decide)])
    obtain ⟨J2, m1, m2⟩ := rd_mB (L := L) (e2 := d + 14) (K := K) hM
    rw [up_j (by decide), b4 76 (by decide), hw] at m2
    obtain ⟨m3, m4⟩ := m2
    have ho : EE (d + 19) 137 0 [some (.ref 2), some (vi x)] [] (SH L) J K R = ok (some (vi (-1))) (SH L) J1 K R1 := by
      simp (disch := first | assumption | omega | exact bi_lo | exact bi_hi | exact bi_01 | exact jcmp_lo | exact jcmp_hi | exact (jor_r _ _).1 | exact (jor_r _ _).2 | exact (jand_r _ _).1 | exact (jand_r _ _).2) only [x137_0, x137_1, x137_4, x137_5, x137_8, x137_11, x137_14, x137_17, x137_18, x137_21, x137_24, x137_25, x137_28, x137_31, x137_32, kb_some, kb_none, clr_vi, clr_ref, clr_null, clr_none, va_rf_some, va_rf_none, ↓bi_ite_t, ↓bi_ite_f, ↓jc_lt_t, ↓jc_lt_f, ↓jc_gt_t, ↓jc_gt_f, ↓jc_le_t, ↓jc_le_f, ↓jc_ge_t, ↓jc_ge_f, ↓jc_eq_t, ↓jc_eq_f, ↓if_pos, ↓if_neg, p1]
    refine ⟨vi (-1), J1, K, R1, J2, K, R1, ?_, ?_, INV_31 h b3 b4 b5 (fun a j ha => (m1 a j (fun q => ha (AR_SC q))).trans (up11_SC a j ha))⟩
    · simp (disch := first | assumption | omega | exact bi_lo | exact bi_hi | exact bi_01 | exact jcmp_lo | exact jcmp_hi | exact (jor_r _ _).1 | exact (jor_r _ _).2 | exact (jand_r _ _).1 | exact (jand_r _ _).2) only [x109_0, x109_1, x109_2, x109_5, x109_6, x109_7, x109_10, x109_11, x109_12, x109_13, x109_16, x109_17, x109_20, x109_23, x109_24, x109_27, x109_27n, x109_29, x109_29n, x109_31, x109_32, x109_35, x109_38, x109_38n, x109_40, x109_41, x109_44, x109_47, x109_48, kb_some, kb_none, clr_vi, clr_ref, clr_null, clr_none, va_rf_some, va_rf_none, ↓bi_ite_t, ↓bi_ite_f, ↓jc_lt_t, ↓jc_lt_f, ↓jc_gt_t, ↓jc_gt_f, ↓jc_le_t, ↓jc_le_f, ↓jc_ge_t, ↓jc_ge_f, ↓jc_eq_t, ↓jc_eq_f, ↓if_pos, ↓if_neg, ho]
    · simp (disch := first | assumption | omega | exact bi_lo | exact bi_hi | exact bi_01 | exact jcmp_lo | exact jcmp_hi | exact (jor_r _ _).1 | exact (jor_r _ _).2 | exact (jand_r _ _).1 | exact (jand_r _ _).2) only [x211_0, x211_1, x211_2, x211_5, x211_6, x211_9, x211_12, x211_13, x211_14, x211_17, x211_20, x211_21, x211_24, x211_25, x211_26, x211_27, x211_28, x211_31, x211_32, x211_33, x211_36, x211_37, x211_38, x211_41, x211_42, x211_43, x211_44, x211_47, x211_50, x211_51, x211_54, kb_some, kb_none, clr_vi, clr_ref, clr_null, clr_none, va_rf_some, va_rf_none, ↓bi_ite_t, ↓bi_ite_f, ↓jc_lt_t, ↓jc_lt_f, ↓jc_gt_t, ↓jc_gt_f, ↓jc_le_t, ↓jc_le_f, ↓jc_ge_t, ↓jc_ge_f, ↓jc_eq_t, ↓jc_eq_f, ↓if_pos, ↓if_neg, m3]
  | ok F =>
    rw [hw] at hm
    obtain ⟨p1, p2, ⟨p3, p4, p5⟩, p6⟩ := hm
    have e36 := p2.2.1
    have ht := fun d => t_topAt (d := d) (K := K) (k := x) (isT_36 (L := L) b3) p2.1 e36 (by omega) hx
    have ho : EE (d + 19) 137 0 [some (.ref 2), some (vi x)] [] (SH L) J K R = ok (some (vi (nthI F 0 x))) (SH L) J1 K R1 := by
      simp (disch := first | assumption | omega | exact bi_lo | exact bi_hi | exact bi_01 | exact jcmp_lo | exact jcmp_hi | exact (jor_r _ _).1 | exact (jor_r _ _).2 | exact (jand_r _ _).1 | exact (jand_r _ _).2) only [x137_0, x137_1, x137_4, x137_5, x137_8, x137_11, x137_14, x137_17, x137_18, x137_21, x137_24, x137_25, x137_28, x137_31, x137_32, x16_0, x16_1, x16_4, x16_4n, kb_some, kb_none, clr_vi, clr_ref, clr_null, clr_none, va_rf_some, va_rf_none, ↓bi_ite_t, ↓bi_ite_f, ↓jc_lt_t, ↓jc_lt_f, ↓jc_gt_t, ↓jc_gt_f, ↓jc_le_t, ↓jc_le_f, ↓jc_ge_t, ↓jc_ge_f, ↓jc_eq_t, ↓jc_eq_f, ↓if_pos, ↓if_neg, p1, ht]
    rcases nthI_T (F := F) (k := x) with ⟨n1, n2⟩ | ⟨r, a, n1, n2⟩
    · rw [n2] at ho
      have hM := INV_MR (J' := mm_up J1 76 11 0) h b3 (by rw [up_j (by decide), b4 76 (by decide)]) (by rw [up_ne (by decide), b4 77 (by decide)])
      obtain ⟨J2, m1, m2⟩ := rd_mB (L := L) (e2 := d + 14) (K := K) hM
      rw [up_j (by decide), b4 76 (by decide), hw] at m2
      obtain ⟨m3, m4⟩ := m2
      have hto := fun d => m_topOf (L := L) (d := d) (K := K) (k := x) b3 m4 (by rw [m4.2]; omega) (by omega) hx
      simp only [n2] at hto
      refine ⟨vi (-1), J1, K, R1, J2, K, R1, ?_, ?_, INV_31 h b3 b4 b5 (fun a j ha => (m1 a j (fun q => ha (AR_SC q))).trans (up11_SC a j ha))⟩
      · simp (disch := first | assumption | omega | exact bi_lo | exact bi_hi | exact bi_01 | exact jcmp_lo | exact jcmp_hi | exact (jor_r _ _).1 | exact (jor_r _ _).2 | exact (jand_r _ _).1 | exact (jand_r _ _).2) only [x109_0, x109_1, x109_2, x109_5, x109_6, x109_7, x109_10, x109_11, x109_12, x109_13, x109_16, x109_17, x109_20, x109_23, x109_24, x109_27, x109_27n, x109_29, x109_29n, x109_31, x109_32, x109_35, x109_38, x109_38n, x109_40, x109_41, x109_44, x109_47, x109_48, kb_some, kb_none, clr_vi, clr_ref, clr_null, clr_none, va_rf_some, va_rf_none, ↓bi_ite_t, ↓bi_ite_f, ↓jc_lt_t, ↓jc_lt_f, ↓jc_gt_t, ↓jc_gt_f, ↓jc_le_t, ↓jc_le_f, ↓jc_ge_t, ↓jc_ge_f, ↓jc_eq_t, ↓jc_eq_f, ↓if_pos, ↓if_neg, ho]
      · simp (disch := first | assumption | omega | exact bi_lo | exact bi_hi | exact bi_01 | exact jcmp_lo | exact jcmp_hi | exact (jor_r _ _).1 | exact (jor_r _ _).2 | exact (jand_r _ _).1 | exact (jand_r _ _).2) only [x211_0, x211_1, x211_2, x211_5, x211_6, x211_9, x211_12, x211_13, x211_14, x211_17, x211_20, x211_21, x211_24, x211_25, x211_26, x211_27, x211_28, x211_31, x211_32, x211_33, x211_36, x211_37, x211_38, x211_41, x211_42, x211_43, x211_44, x211_47, x211_50, x211_51, x211_54, kb_some, kb_none, clr_vi, clr_ref, clr_null, clr_none, va_rf_some, va_rf_none, ↓bi_ite_t, ↓bi_ite_f, ↓jc_lt_t, ↓jc_lt_f, ↓jc_gt_t, ↓jc_gt_f, ↓jc_le_t, ↓jc_le_f, ↓jc_ge_t, ↓jc_ge_f, ↓jc_eq_t, ↓jc_eq_f, ↓if_pos, ↓if_neg, m3, hto]
    · rw [n2] at ho
      obtain ⟨q1, q2⟩ := nthT_C F 0 x r a p2.1 n1
      have q3 := nthT_wf F 0 x r a p3 n1
      have q4 := nthT_by F 0 x r a n1
      have q5 := shN_len (g := mA J) q3
      have hc := c_signs (L := L) (K := K) (e1 := d + 9) b3 p2 e61 b5 p3 p5 n1
      obtain ⟨x1, x2, x3, x4⟩ := signs_X h b4 b5 (l := shN (mA J) 3 a) (by omega)
      generalize hJw : apL 61 62 (sg J1) (shN (mA J) 3 a) = Jw at *
      have hM := INV_MR (J' := mm_up Jw 76 11 0) h b3 (by rw [up_j (by decide), x2 76 (by decide)]) (by rw [up_ne (by decide), x2 77 (by decide)])
      obtain ⟨J2, m1, m2⟩ := rd_mB (L := L) (e2 := d + 14) (K := K) hM
      rw [up_j (by decide), x2 76 (by decide), hw] at m2
      obtain ⟨m3, m4⟩ := m2
      have hto := fun d => m_topOf (L := L) (d := d) (K := K) (k := x) b3 m4 (by rw [m4.2]; omega) (by omega) hx
      simp only [n2] at hto
      have hha := fun d => c_has (d := d) (J := Jw) (K := K) (x := y) hB hy (by rw [x3]; omega)
      have hby := fun d => c_byteAt (d := d) (J := Jw) (K := K) (x := y) hB hy (by rw [x3]; omega)
      simp only [x3] at hha hby
      have hi0 : INV J2 K R1 := INV_G h b3 x1 x2 (fun a j ha => (m1 a j (fun q => ha (AR_SC q))).trans (up11_SC a j ha))
      by_cases cy : y < 0
      · simp only [bi_f (show ¬ (0 ≤ y ∧ y < ((shN (mA J) 3 a).length : Nat)) by omega)] at hha
        refine ⟨vi (-1), Jw, K, R1, J2, K, R1, ?_, ?_, hi0⟩
        · simp (disch := first | assumption | omega | exact bi_lo | exact bi_hi | exact bi_01 | exact jcmp_lo | exact jcmp_hi | exact (jor_r _ _).1 | exact (jor_r _ _).2 | exact (jand_r _ _).1 | exact (jand_r _ _).2) only [x109_0, x109_1, x109_2, x109_5, x109_6, x109_7, x109_10, x109_11, x109_12, x109_13, x109_16, x109_17, x109_20, x109_23, x109_24, x109_27, x109_27n, x109_29, x109_29n, x109_31, x109_32, x109_35, x109_38, x109_38n, x109_40, x109_41, x109_44, x109_47, x109_48, x16_0, x16_1, x16_4, x16_4n, kb_some, kb_none, clr_vi, clr_ref, clr_null, clr_none, va_rf_some, va_rf_none, ↓bi_ite_t, ↓bi_ite_f, ↓jc_lt_t, ↓jc_lt_f, ↓jc_gt_t, ↓jc_gt_f, ↓jc_le_t, ↓jc_le_f, ↓jc_ge_t, ↓jc_ge_f, ↓jc_eq_t, ↓jc_eq_f, ↓if_pos, ↓if_neg, ho, hc, hha]
        · simp (disch := first | assumption | omega | exact bi_lo | exact bi_hi | exact bi_01 | exact jcmp_lo | exact jcmp_hi | exact (jor_r _ _).1 | exact (jor_r _ _).2 | exact (jand_r _ _).1 | exact (jand_r _ _).2) only [x211_0, x211_1, x211_2, x211_5, x211_6, x211_9, x211_12, x211_13, x211_14, x211_17, x211_20, x211_21, x211_24, x211_25, kb_some, kb_none, clr_vi, clr_ref, clr_null, clr_none, va_rf_some, va_rf_none, ↓bi_ite_t, ↓bi_ite_f, ↓jc_lt_t, ↓jc_lt_f, ↓jc_gt_t, ↓jc_gt_f, ↓jc_le_t, ↓jc_le_f, ↓jc_ge_t, ↓jc_ge_f, ↓jc_eq_t, ↓jc_eq_f, ↓if_pos, ↓if_neg, m3, hto]
      generalize hJ3 : mm_up (mm_up (mm_up J2 76 50 y) 76 51 0) 76 52 (-1) = J3
      have o3 : ∀ a j, ¬ (a = 76 ∧ (j = 50 ∨ j = 51 ∨ j = 52)) → J3 a j = J2 a j := fun a j ha => by
        rw [← hJ3]; unfold mm_up; rw [if_neg (by omega), if_neg (by omega), if_neg (by omega)]
      have e1 : J3 76 1 = J 76 1 := by rw [o3 76 1 (by decide), m1 76 1 (by decide), up_j (by decide), x2 76 (by decide)]
      have e77 : J3 77 = J 77 := by
        funext j
        rw [o3 77 j (by omega), m1 77 j (by unfold AR; omega), up_ne (by decide), x2 77 (by decide)]
      have hM3 := INV_MR (J' := J3) h b3 e1 e77
      have hMF3 : MF J3 F := ⟨by
        have e : ∀ a, a ≠ 76 → J3 a = J2 a := fun a ha => by funext j; exact o3 a j (by omega)
        rw [e 86 (by decide), e 87 (by decide), e 88 (by decide), e 89 (by decide)]
        exact m4.1, by rw [o3 76 18 (by decide)]; exact m4.2⟩
      have e50 : J3 76 50 = y := by rw [← hJ3, up_j (by decide), up_j (by decide), up_s]
      have e51 : J3 76 51 = 0 := by rw [← hJ3, up_j (by decide), up_s]
      have e52 : J3 76 52 = -1 := by rw [← hJ3, up_s]
      have hto3 := fun d => m_topOf (L := L) (d := d) (K := K) (k := x) b3 hMF3 (by rw [hMF3.2]; omega) (by omega) hx
      simp only [n2] at hto3
      have hs := m_signs (L := L) (d := d + 15) (K := K) hM3 hMF3 p3 p5 (by rw [e50]; exact hy) e51 n1
      have h52 : shL J3 (shN (mA J) 3 a) 76 52 = if 0 ≤ y ∧ y < ((shN (mA J) 3 a).length : Nat) then (shN (mA J) 3 a).getD y.toNat 0 else -1 := by
        rw [shL_52, e50, e51, e52]
        simp only [Int.zero_add, Int.sub_zero]
      have hi : INV (shL J3 (shN (mA J) 3 a)) K R1 := INV_G h b3 x1 x2 (fun a' j ha => by
        rw [shL_o (by unfold SC at ha; omega), o3 a' j (by unfold SC at ha; omega)]
        exact (m1 a' j (fun q => ha (AR_SC q))).trans (up11_SC a' j ha))
      by_cases c : 0 ≤ y ∧ y < ((shN (mA J) 3 a).length : Nat)
      · simp only [bi_t c] at hha
        simp only [if_pos c] at hby
        rw [if_pos c] at h52
        have e62 : Jw 62 y.toNat = (shN (mA J) 3 a).getD y.toNat 0 := by
          rw [x4 y.toNat (by omega), List.getD_eq_getElem?_getD, List.getElem?_eq_getElem (by omega)]; rfl
        simp only [e62] at hby
        refine ⟨vi ((shN (mA J) 3 a).getD y.toNat 0), Jw, K, R1, shL J3 (shN (mA J) 3 a), K, R1, ?_, ?_, hi⟩
        · simp (disch := first | assumption | omega | exact bi_lo | exact bi_hi | exact bi_01 | exact jcmp_lo | exact jcmp_hi | exact (jor_r _ _).1 | exact (jor_r _ _).2 | exact (jand_r _ _).1 | exact (jand_r _ _).2) only [x109_0, x109_1, x109_2, x109_5, x109_6, x109_7, x109_10, x109_11, x109_12, x109_13, x109_16, x109_17, x109_20, x109_23, x109_24, x109_27, x109_27n, x109_29, x109_29n, x109_31, x109_32, x109_35, x109_38, x109_38n, x109_40, x109_41, x109_44, x109_47, x109_48, x16_0, x16_1, x16_4, x16_4n, kb_some, kb_none, clr_vi, clr_ref, clr_null, clr_none, va_rf_some, va_rf_none, ↓bi_ite_t, ↓bi_ite_f, ↓jc_lt_t, ↓jc_lt_f, ↓jc_gt_t, ↓jc_gt_f, ↓jc_le_t, ↓jc_le_f, ↓jc_ge_t, ↓jc_ge_f, ↓jc_eq_t, ↓jc_eq_f, ↓if_pos, ↓if_neg, ho, hc, hha, hby]
        · rw [← h52]
          simp (disch := first | assumption | omega | exact bi_lo | exact bi_hi | exact bi_01 | exact jcmp_lo | exact jcmp_hi | exact (jor_r _ _).1 | exact (jor_r _ _).2 | exact (jand_r _ _).1 | exact (jand_r _ _).2) only [x211_0, x211_1, x211_2, x211_5, x211_6, x211_9, x211_12, x211_13, x211_14, x211_17, x211_20, x211_21, x211_24, x211_25, x211_26, x211_27, x211_28, x211_31, x211_32, x211_33, x211_36, x211_37, x211_38, x211_41, x211_42, x211_43, x211_44, x211_47, x211_50, x211_51, x211_54, kb_some, kb_none, clr_vi, clr_ref, clr_null, clr_none, va_rf_some, va_rf_none, ↓bi_ite_t, ↓bi_ite_f, ↓jc_lt_t, ↓jc_lt_f, ↓jc_gt_t, ↓jc_gt_f, ↓jc_le_t, ↓jc_le_f, ↓jc_ge_t, ↓jc_ge_f, ↓jc_eq_t, ↓jc_eq_f, ↓if_pos, ↓if_neg, m3, hto, hJ3, hto3, hs]
      · simp only [bi_f c] at hha
        rw [if_neg c] at h52
        refine ⟨vi (-1), Jw, K, R1, shL J3 (shN (mA J) 3 a), K, R1, ?_, ?_, hi⟩
        · simp (disch := first | assumption | omega | exact bi_lo | exact bi_hi | exact bi_01 | exact jcmp_lo | exact jcmp_hi | exact (jor_r _ _).1 | exact (jor_r _ _).2 | exact (jand_r _ _).1 | exact (jand_r _ _).2) only [x109_0, x109_1, x109_2, x109_5, x109_6, x109_7, x109_10, x109_11, x109_12, x109_13, x109_16, x109_17, x109_20, x109_23, x109_24, x109_27, x109_27n, x109_29, x109_29n, x109_31, x109_32, x109_35, x109_38, x109_38n, x109_40, x109_41, x109_44, x109_47, x109_48, x16_0, x16_1, x16_4, x16_4n, kb_some, kb_none, clr_vi, clr_ref, clr_null, clr_none, va_rf_some, va_rf_none, ↓bi_ite_t, ↓bi_ite_f, ↓jc_lt_t, ↓jc_lt_f, ↓jc_gt_t, ↓jc_gt_f, ↓jc_le_t, ↓jc_le_f, ↓jc_ge_t, ↓jc_ge_f, ↓jc_eq_t, ↓jc_eq_f, ↓if_pos, ↓if_neg, ho, hc, hha]
        · rw [← h52]
          simp (disch := first | assumption | omega | exact bi_lo | exact bi_hi | exact bi_01 | exact jcmp_lo | exact jcmp_hi | exact (jor_r _ _).1 | exact (jor_r _ _).2 | exact (jand_r _ _).1 | exact (jand_r _ _).2) only [x211_0, x211_1, x211_2, x211_5, x211_6, x211_9, x211_12, x211_13, x211_14, x211_17, x211_20, x211_21, x211_24, x211_25, x211_26, x211_27, x211_28, x211_31, x211_32, x211_33, x211_36, x211_37, x211_38, x211_41, x211_42, x211_43, x211_44, x211_47, x211_50, x211_51, x211_54, kb_some, kb_none, clr_vi, clr_ref, clr_null, clr_none, va_rf_some, va_rf_none, ↓bi_ite_t, ↓bi_ite_f, ↓jc_lt_t, ↓jc_lt_f, ↓jc_gt_t, ↓jc_gt_f, ↓jc_le_t, ↓jc_le_f, ↓jc_ge_t, ↓jc_ge_f, ↓jc_eq_t, ↓jc_eq_f, ↓if_pos, ↓if_neg, m3, hto, hJ3, hto3, hs]
end
