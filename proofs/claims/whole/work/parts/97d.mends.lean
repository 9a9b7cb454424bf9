/-! the calls, one by one: mends -/
/-- whether bytes are a file that is whole -/
def okW (f : Int → Int) (n : Int) : Int := match wh f n with
  | .error _ => 0
  | .ok _ => 1
theorem okW_01 {f : Int → Int} {n : Int} : okW f n = 0 ∨ okW f n = 1 := by
  unfold okW
  split
  · exact Or.inl rfl
  · exact Or.inr rfl
/-- one byte otherwise -/
def pt (f : Int → Int) (p v : Int) : Int → Int := fun q => if q = p then v else f q
/-- the file's bytes on trial -/
def tr (J : mJ) : mJ := mm_rw (mm_up J 29 1 (J 4 1)) 30 (va_cpy (J 5) (mm_up J 29 1 (J 4 1) 30) 0 0 (J 4 1).toNat)
def mdS (f : Int → Int) (n p : Int) : Nat → Int → Int → Int × Int
  | 0, m, l => (m, l)
  | i + 1, m, l => mdS f n p i (if okW (pt f p i) n = 1 then m + 1 else m) (if okW (pt f p i) n = 1 then (i : Int) else l)
section
variable {L d : Nat} {J J' J1 J2 K K' : mJ} {R R1 R' : mm_R} {x y z v w n : Int} {f : Int → Int}
theorem c_ok {e c e1 : Nat} (h : RB L e c f J R) (hs : RS J) : ∃ J1 R1, EE (e1 + 11) 17 0 [some (.ref 31), some (.ref e), none] [] (SH L) J K R = ok (some (vi (okW f (J e 1)))) (SH L) J1 K R1 ∧ wfR R1 ∧ fr A31 J J1 ∧ RS J1 := by
  obtain ⟨J1, R1, b3, b4, b5, hm⟩ := rd_cB (L := L) (e1 := e1) (K := K) h hs
  unfold okW
  cases hw : wh f (J e 1) with
  | error q => rw [hw] at hm; exact ⟨J1, R1, hm.1, b3, b4, b5⟩
  | ok F => rw [hw] at hm; exact ⟨J1, R1, hm.1, b3, b4, b5⟩
theorem m_ok {e2 : Nat} (h : MR f J R) : ∃ J2, EE (e2 + 5) 162 0 [some (.ref 76), none, none] [] (SH L) J K R = ok (some (vi (okW f (J 76 1)))) (SH L) J2 K R ∧ frm AR J J2 := by
  obtain ⟨J2, a1, a2⟩ := rd_mB (L := L) (e2 := e2) (K := K) h
  unfold okW
  cases hw : wh f (J 76 1) with
  | error q => rw [hw] at a2; exact ⟨J2, a2.1, a1⟩
  | ok F => rw [hw] at a2; exact ⟨J2, a2.1, a1⟩
theorem tr_o {a : Nat} (h : a ≠ 29) (h' : a ≠ 30) : tr J a = J a := by
  unfold tr
  funext j
  rw [rw_a h', up_ne h]
theorem tr_29 : tr J 29 1 = J 4 1 := by
  unfold tr
  rw [rw_a (by decide), up_s]
theorem tr_30 {i : Nat} : tr J 30 i = if (i : Int) < J 4 1 then J 5 i else J 30 i := by
  unfold tr
  rw [rw_s]
  unfold va_cpy
  by_cases c : (i : Int) < J 4 1
  · rw [if_pos c, if_pos (by omega), Nat.zero_add, Nat.sub_zero]
  · rw [if_neg c, if_neg (by omega), up_ne (by decide)]
/-- what holds of it -/
theorem tr_B (h : INV J K R) : (tr J 29 1 = J 76 1 ∧ 0 ≤ J 76 1 ∧ J 76 1 ≤ 120) ∧ (∀ i : Nat, i < 120 → 0 ≤ tr J 30 i ∧ tr J 30 i ≤ 255) ∧ bA (tr J) 29 30 = mA J := by
  obtain ⟨a1, a2, a3⟩ := h.2.1
  have hX := h.2.2.2.2.2.1.2.2.2.2.2.2
  refine ⟨⟨by rw [tr_29]; exact a1, a2⟩, fun i hi => ?_, ?_⟩
  · rw [tr_30]
    split
    · exact (a3 i hi).1
    · exact hX i hi
  · funext q
    unfold bA mA
    rw [tr_29, a1]
    by_cases c : 0 ≤ q ∧ q < J 76 1
    · rw [if_pos c, if_pos c, tr_30, if_pos (by omega)]
      exact (a3 q.toNat (by omega)).2.2 (by omega)
    · rw [if_neg c, if_neg c]
theorem c_trial {d : Nat} (h : INV J K R) : EE d 7 0 [some (.ref 29), some (.ref 4)] [] (SH L) J K R = ok none (SH L) (tr J) K R := by
  have hR := h.1
  have hB : isB (SH L) R 29 30 120 := ⟨rfl, rr_lk hR rfl, rfl, by decide, by decide, by decide⟩
  have hB' : isB (SH L) R 4 5 120 := ⟨rfl, rr_lk hR rfl, rfl, by decide, by decide, by decide⟩
  obtain ⟨a1, a2, a3⟩ := h.2.1
  exact c_copyFrom (d := d) (J := J) (K := K) hB hB' (by omega) (by decide)
theorem RB_30 (hR : wfR R) (h1 : 0 ≤ J 29 1 ∧ J 29 1 ≤ 120) (h2 : ∀ i : Nat, i < 120 → 0 ≤ J 30 i ∧ J 30 i ≤ 255) (h3 : bA J 29 30 = f) : RB L 29 30 f J R :=
  ⟨hR, ⟨rfl, rr_lk hR rfl, rfl, by decide, by decide, by decide⟩, by decide, h1, h2, h3⟩
/-- a byte of the trial put otherwise -/
theorem bA_pt (h1 : 0 ≤ x ∧ x < J 29 1) (h3 : ∀ q, q ≠ x → bA J 29 30 q = f q) : bA (mm_up J 30 x.toNat v) 29 30 = pt f x v := by
  funext q
  unfold pt
  by_cases c : q = x
  · subst c
    rw [if_pos rfl]
    unfold bA
    rw [up_ne (show (29 : Nat) ≠ 30 by decide), if_pos h1, up_s]
  · rw [if_neg c, ← h3 q c]
    unfold bA
    rw [up_ne (show (29 : Nat) ≠ 30 by decide)]
    by_cases c2 : 0 ≤ q ∧ q < J 29 1
    · rw [if_pos c2, if_pos c2, up_j (by omega)]
    · rw [if_neg c2, if_neg c2]
theorem mA_pt (h1 : 0 ≤ x ∧ x < J 76 1) (h3 : ∀ q, q ≠ x → mA J q = f q) : mA (mm_up J 77 x.toNat v) = pt f x v := by
  funext q
  unfold pt
  by_cases c : q = x
  · subst c
    rw [if_pos rfl]
    unfold mA
    rw [up_ne (show (76 : Nat) ≠ 77 by decide), if_pos h1, up_s]
  · rw [if_neg c, ← h3 q c]
    unfold mA
    rw [up_ne (show (76 : Nat) ≠ 77 by decide)]
    by_cases c2 : 0 ≤ q ∧ q < J 76 1
    · rw [if_pos c2, if_pos c2, up_j (by omega)]
    · rw [if_neg c2, if_neg c2]
theorem l_mends (hx : 0 ≤ x ∧ x < n) (hn : n ≤ 120) (hy : 0 ≤ y ∧ y ≤ 1) : ∀ (i : Nat) (J : mJ) (R : mm_R) (m l : Int), i ≤ 256 → wfR R → RS J → J 29 1 = n → (∀ j : Nat, j < 120 → 0 ≤ J 30 j ∧ J 30 j ≤ 255) → (∀ q, q ≠ x → bA J 29 30 q = f q) → (0 ≤ m ∧ m + i ≤ 256) → (-5 ≤ l ∧ l ≤ 255) →
    ∃ J' R', EE (d + 12) 110 50 [some (.ref 2), some (vi x), some (vi y), some (vi m), some (vi l), some (vi ((i : Int) - 1))] [] (SH L) J K R = ok (some (vi (if y = 0 then (mdS f n x i m l).1 else (mdS f n x i m l).2))) (SH L) J' K R' ∧ wfR R' ∧ RS J' ∧ (∀ a, ¬ (a = 30 ∨ A31 a) → J' a = J a) ∧ ∀ j : Nat, j < 120 → 0 ≤ J' 30 j ∧ J' 30 j ≤ 255 := by
  intro i
  induction i with
  | zero =>
    intro J R m l hi hR hS h29 h30 hf hm hl
    refine ⟨J, R, ?_, hR, hS, fun a ha => rfl, h30⟩
    rw [show ((0 : Nat) : Int) - 1 = -1 by omega, show mdS f n x 0 m l = (m, l) from rfl]
    by_cases c : y = 0
    · subst c
      rw [if_pos rfl]
      simp (disch := first | assumption | omega | exact bi_lo | exact bi_hi | exact bi_01 | exact jcmp_lo | exact jcmp_hi | exact (jor_r _ _).1 | exact (jor_r _ _).2 | exact (jand_r _ _).1 | exact (jand_r _ _).2) only [x110_50, x110_52, x110_92, x110_93, x110_96, x110_97, x110_100, x110_102, kb_some, kb_none, clr_vi, clr_ref, clr_null, clr_none, va_rf_some, va_rf_none, ↓bi_ite_t, ↓bi_ite_f, ↓jc_lt_t, ↓jc_lt_f, ↓jc_gt_t, ↓jc_gt_f, ↓jc_le_t, ↓jc_le_f, ↓jc_ge_t, ↓jc_ge_f, ↓jc_eq_t, ↓jc_eq_f, ↓if_pos, ↓if_neg]
    · have e : y = 1 := by omega
      subst e
      rw [if_neg (by omega)]
      simp (disch := first | assumption | omega | exact bi_lo | exact bi_hi | exact bi_01 | exact jcmp_lo | exact jcmp_hi | exact (jor_r _ _).1 | exact (jor_r _ _).2 | exact (jand_r _ _).1 | exact (jand_r _ _).2) only [x110_50, x110_52, x110_92, x110_93, x110_96, x110_97, x110_100, x110_102, kb_some, kb_none, clr_vi, clr_ref, clr_null, clr_none, va_rf_some, va_rf_none, ↓bi_ite_t, ↓bi_ite_f, ↓jc_lt_t, ↓jc_lt_f, ↓jc_gt_t, ↓jc_gt_f, ↓jc_le_t, ↓jc_le_f, ↓jc_ge_t, ↓jc_ge_f, ↓jc_eq_t, ↓jc_eq_f, ↓if_pos, ↓if_neg]
  | succ i ih =>
    intro J R m l hi hR hS h29 h30 hf hm hl
    have s2 : (SH L)[2]? = some (10, 10) := rfl; have r2_0 : R 2 0 = some 3 := rr_lk hR rfl; have r2_1 : R 2 1 = some 15 := rr_lk hR rfl; have r2_3 : R 2 3 = some 27 := rr_lk hR rfl; have r2_4 : R 2 4 = some 29 := rr_lk hR rfl; have r2_5 : R 2 5 = some 31 := rr_lk hR rfl; have r2_6 : R 2 6 = some 46 := rr_lk hR rfl; have r2_7 : R 2 7 = some 57 := rr_lk hR rfl; have r2_8 : R 2 8 = some 60 := rr_lk hR rfl; have r2_9 : R 2 9 = some 63 := rr_lk hR rfl; have s29 : (SH L)[29]? = some (0, 2) := rfl; have r29_0 : R 29 0 = some 30 := rr_lk hR rfl; have s31 : (SH L)[31]? = some (2, 5) := rfl; have r31_0 : R 31 0 = some 32 := rr_lk hR rfl; have r31_1 : R 31 1 = some 36 := rr_lk hR rfl
    have hB : isB (SH L) R 29 30 120 := ⟨rfl, rr_lk hR rfl, rfl, by decide, by decide, by decide⟩
    have hrp := fun d => c_replace (d := d) (J := J) (K := K) (y := (i : Int)) hB (x := x) (by omega) (by omega)
    have h30' : ∀ j : Nat, j < 120 → 0 ≤ mm_up J 30 x.toNat (i : Int) 30 j ∧ mm_up J 30 x.toNat (i : Int) 30 j ≤ 255 := fun j hj => by
      by_cases c : j = x.toNat
      · subst c; rw [up_s]; omega
      · rw [up_j c]; exact h30 j hj
    have e29 : mm_up J 30 x.toNat (i : Int) 29 1 = n := by rw [up_ne (by decide)]; exact h29
    have hRS : RS (mm_up J 30 x.toNat (i : Int)) := by
      unfold RS at hS ⊢
      rw [up_ne (by decide), up_ne (by decide), up_ne (by decide)]
      exact hS
    obtain ⟨J1, R1, b1, b2, b3, b4⟩ := c_ok (L := L) (e1 := d) (K := K) (RB_30 (L := L) hR (by rw [e29]; omega) h30' (bA_pt (v := (i : Int)) (by omega) hf)) hRS
    rw [e29] at b1
    have f30 : J1 30 = mm_up J 30 x.toNat (i : Int) 30 := b3 30 (by decide)
    have f29 : J1 29 = J 29 := by rw [b3 29 (by decide), up_ne (by decide)]
    have hf' : ∀ q, q ≠ x → bA J1 29 30 q = f q := fun q hq => by
      rw [← hf q hq]
      unfold bA
      rw [f29, f30]
      by_cases c : 0 ≤ q ∧ q < J 29 1
      · rw [if_pos c, if_pos c, up_j (by omega)]
      · rw [if_neg c, if_neg c]
    have ih' := ih J1 R1 (if okW (pt f x i) n = 1 then m + 1 else m) (if okW (pt f x i) n = 1 then (i : Int) else l) (by omega) b2 b4 (by rw [f29]; exact h29) (fun j hj => by rw [f30]; exact h30' j hj) hf' (by split <;> omega) (by split <;> omega)
    obtain ⟨J', R', c1, c2, c3, c4, c5⟩ := ih'
    refine ⟨J', R', ?_, c2, c3, fun a ha => ?_, c5⟩
    · rw [show mdS f n x (i + 1) m l = mdS f n x i (if okW (pt f x i) n = 1 then m + 1 else m) (if okW (pt f x i) n = 1 then (i : Int) else l) from rfl, ← c1]
      rw [show ((i + 1 : Nat) : Int) - 1 = (i : Int) by omega]
      rcases okW_01 (f := pt f x i) (n := n) with q | q
      · rw [q] at b1
        rw [q, if_neg (by omega), if_neg (by omega)]
        have go : ∀ X, EE (d + 12) 110 50 [some (.ref 2), some (vi x), some (vi y), some (vi m), some (vi l), some (vi ((i : Int) - 1))] [] (SH L) J1 K R1 = X → EE (d + 12) 110 50 [some (.ref 2), some (vi x), some (vi y), some (vi m), some (vi l), some (vi (i : Int))] [] (SH L) J K R = X := by
          intro X hX
          simp (disch := first | assumption | omega | exact bi_lo | exact bi_hi | exact bi_01 | exact jcmp_lo | exact jcmp_hi | exact (jor_r _ _).1 | exact (jor_r _ _).2 | exact (jand_r _ _).1 | exact (jand_r _ _).2) only [x110_50, x110_52, kb_some, kb_none, clr_vi, clr_ref, clr_null, clr_none, va_rf_some, va_rf_none, ↓bi_ite_t, ↓bi_ite_f, ↓jc_lt_t, ↓jc_lt_f, ↓jc_gt_t, ↓jc_gt_f, ↓jc_le_t, ↓jc_le_f, ↓jc_ge_t, ↓jc_ge_f, ↓jc_eq_t, ↓jc_eq_f, ↓if_pos, ↓if_neg]
          simp (disch := first | assumption | omega | exact bi_lo | exact bi_hi | exact bi_01 | exact jcmp_lo | exact jcmp_hi | exact (jor_r _ _).1 | exact (jor_r _ _).2 | exact (jand_r _ _).1 | exact (jand_r _ _).2) only [x110_55, x110_56, x110_59, x110_60, x110_62, x110_65, x110_66, x110_69, x110_70, x110_73, x110_76, x110_79, x110_82, x110_84, x110_86, x110_89, kb_some, kb_none, clr_vi, clr_ref, clr_null, clr_none, va_rf_some, va_rf_none, ↓bi_ite_t, ↓bi_ite_f, ↓jc_lt_t, ↓jc_lt_f, ↓jc_gt_t, ↓jc_gt_f, ↓jc_le_t, ↓jc_le_f, ↓jc_ge_t, ↓jc_ge_f, ↓jc_eq_t, ↓jc_eq_f, ↓if_pos, ↓if_neg, hrp, b1, ← Int.sub_eq_add_neg]
          exact hX
        exact go _ rfl
      · rw [q] at b1
        rw [q, if_pos rfl, if_pos rfl]
        have go : ∀ X, EE (d + 12) 110 50 [some (.ref 2), some (vi x), some (vi y), some (vi (m + 1)), some (vi (i : Int)), some (vi ((i : Int) - 1))] [] (SH L) J1 K R1 = X → EE (d + 12) 110 50 [some (.ref 2), some (vi x), some (vi y), some (vi m), some (vi l), some (vi (i : Int))] [] (SH L) J K R = X := by
          intro X hX
          simp (disch := first | assumption | omega | exact bi_lo | exact bi_hi | exact bi_01 | exact jcmp_lo | exact jcmp_hi | exact (jor_r _ _).1 | exact (jor_r _ _).2 | exact (jand_r _ _).1 | exact (jand_r _ _).2) only [x110_50, x110_52, kb_some, kb_none, clr_vi, clr_ref, clr_null, clr_none, va_rf_some, va_rf_none, ↓bi_ite_t, ↓bi_ite_f, ↓jc_lt_t, ↓jc_lt_f, ↓jc_gt_t, ↓jc_gt_f, ↓jc_le_t, ↓jc_le_f, ↓jc_ge_t, ↓jc_ge_f, ↓jc_eq_t, ↓jc_eq_f, ↓if_pos, ↓if_neg]
          simp (disch := first | assumption | omega | exact bi_lo | exact bi_hi | exact bi_01 | exact jcmp_lo | exact jcmp_hi | exact (jor_r _ _).1 | exact (jor_r _ _).2 | exact (jand_r _ _).1 | exact (jand_r _ _).2) only [x110_55, x110_56, x110_59, x110_60, x110_62, x110_65, x110_66, x110_69, x110_70, x110_73, x110_76, x110_79, x110_82, x110_84, x110_86, x110_89, kb_some, kb_none, clr_vi, clr_ref, clr_null, clr_none, va_rf_some, va_rf_none, ↓bi_ite_t, ↓bi_ite_f, ↓jc_lt_t, ↓jc_lt_f, ↓jc_gt_t, ↓jc_gt_f, ↓jc_le_t, ↓jc_le_f, ↓jc_ge_t, ↓jc_ge_f, ↓jc_eq_t, ↓jc_eq_f, ↓if_pos, ↓if_neg, hrp, b1, ← Int.sub_eq_add_neg]
          exact hX
        exact go _ rfl
    · rw [c4 a ha, b3 a (fun q => ha (Or.inr q)), up_ne (fun q => ha (Or.inl q))]
theorem l_mendsM (hR : wfR R) (hx : 0 ≤ x ∧ x < n) (hn : n ≤ 120) (hy : 0 ≤ y ∧ y ≤ 1) (hw : 0 ≤ w ∧ w ≤ 255) : ∀ (i : Nat) (J : mJ) (m l : Int) (l7 : Option Value), i ≤ 256 → J 76 1 = n → (∀ j : Nat, j < 120 → 0 ≤ J 77 j ∧ J 77 j ≤ 255) → (∀ q, q ≠ x → mA J q = f q) → (0 ≤ m ∧ m + i ≤ 256) → (-5 ≤ l ∧ l ≤ 255) →
    ∃ J', EE (d + 6) 212 44 [some (.ref 76), some (vi x), some (vi y), some (vi m), some (vi l), some (vi w), some (vi ((i : Int) - 1)), l7] [] (SH L) J K R = ok (some (vi (if y = 0 then (mdS f n x i m l).1 else (mdS f n x i m l).2))) (SH L) J' K R ∧ (∀ a j, ¬ (AR a j ∨ (a = 77 ∧ j = x.toNat)) → J' a j = J a j) ∧ J' 77 x.toNat = w := by
  have s76 : (SH L)[76]? = some (11, 58) := rfl; have r76_0 : R 76 0 = some 77 := rr_lk hR rfl; have r76_3 : R 76 3 = some 78 := rr_lk hR rfl; have r76_4 : R 76 4 = some 79 := rr_lk hR rfl; have r76_6 : R 76 6 = some 80 := rr_lk hR rfl; have r76_7 : R 76 7 = some 81 := rr_lk hR rfl; have r76_9 : R 76 9 = some 82 := rr_lk hR rfl; have r76_10 : R 76 10 = some 83 := rr_lk hR rfl; have r76_12 : R 76 12 = some 84 := rr_lk hR rfl; have r76_13 : R 76 13 = some 85 := rr_lk hR rfl; have r76_19 : R 76 19 = some 86 := rr_lk hR rfl; have r76_20 : R 76 20 = some 87 := rr_lk hR rfl; have r76_21 : R 76 21 = some 88 := rr_lk hR rfl; have r76_22 : R 76 22 = some 89 := rr_lk hR rfl; have r76_24 : R 76 24 = some 90 := rr_lk hR rfl; have r76_25 : R 76 25 = some 91 := rr_lk hR rfl; have r76_26 : R 76 26 = some 92 := rr_lk hR rfl; have r76_28 : R 76 28 = some 93 := rr_lk hR rfl; have r76_29 : R 76 29 = some 94 := rr_lk hR rfl; have r76_30 : R 76 30 = some 95 := rr_lk hR rfl; have r76_31 : R 76 31 = some 96 := rr_lk hR rfl; have r76_32 : R 76 32 = some 97 := rr_lk hR rfl; have r76_36 : R 76 36 = some 98 := rr_lk hR rfl; have r76_38 : R 76 38 = some 99 := rr_lk hR rfl; have r76_39 : R 76 39 = some 100 := rr_lk hR rfl; have r76_40 : R 76 40 = some 101 := rr_lk hR rfl; have r76_41 : R 76 41 = some 102 := rr_lk hR rfl; have r76_42 : R 76 42 = some 103 := rr_lk hR rfl; have r76_47 : R 76 47 = some 104 := rr_lk hR rfl; have r76_53 : R 76 53 = some 105 := rr_lk hR rfl; have r76_54 : R 76 54 = some 106 := rr_lk hR rfl; have r76_55 : R 76 55 = some 107 := rr_lk hR rfl; have r76_56 : R 76 56 = some 108 := rr_lk hR rfl; have r76_57 : R 76 57 = some 109 := rr_lk hR rfl; have s77 : (SH L)[77]? = some (20, 120) := rfl
  intro i
  induction i with
  | zero =>
    intro J m l l7 hi h1 h77 hf hm hl
    refine ⟨mm_up J 77 x.toNat w, ?_, fun a j ha => ?_, up_s⟩
    · rw [show ((0 : Nat) : Int) - 1 = -1 by omega, show mdS f n x 0 m l = (m, l) from rfl]
      by_cases c : y = 0
      · subst c
        rw [if_pos rfl]
        simp (disch := first | assumption | omega | exact bi_lo | exact bi_hi | exact bi_01 | exact jcmp_lo | exact jcmp_hi | exact (jor_r _ _).1 | exact (jor_r _ _).2 | exact (jand_r _ _).1 | exact (jand_r _ _).2) only [x212_44, x212_46, x212_96, x212_97, x212_100, x212_101, x212_103, x212_104, x212_105, x212_108, x212_109, x212_112, x212_114, kb_some, kb_none, clr_vi, clr_ref, clr_null, clr_none, va_rf_some, va_rf_none, ↓bi_ite_t, ↓bi_ite_f, ↓jc_lt_t, ↓jc_lt_f, ↓jc_gt_t, ↓jc_gt_f, ↓jc_le_t, ↓jc_le_f, ↓jc_ge_t, ↓jc_ge_f, ↓jc_eq_t, ↓jc_eq_f, ↓if_pos, ↓if_neg]
      · have e : y = 1 := by omega
        subst e
        rw [if_neg (by omega)]
        simp (disch := first | assumption | omega | exact bi_lo | exact bi_hi | exact bi_01 | exact jcmp_lo | exact jcmp_hi | exact (jor_r _ _).1 | exact (jor_r _ _).2 | exact (jand_r _ _).1 | exact (jand_r _ _).2) only [x212_44, x212_46, x212_96, x212_97, x212_100, x212_101, x212_103, x212_104, x212_105, x212_108, x212_109, x212_112, x212_114, kb_some, kb_none, clr_vi, clr_ref, clr_null, clr_none, va_rf_some, va_rf_none, ↓bi_ite_t, ↓bi_ite_f, ↓jc_lt_t, ↓jc_lt_f, ↓jc_gt_t, ↓jc_gt_f, ↓jc_le_t, ↓jc_le_f, ↓jc_ge_t, ↓jc_ge_f, ↓jc_eq_t, ↓jc_eq_f, ↓if_pos, ↓if_neg]
    · unfold mm_up; rw [if_neg (by omega)]
  | succ i ih =>
    intro J m l l7 hi h1 h77 hf hm hl
    have h77' : ∀ j : Nat, j < 120 → 0 ≤ mm_up J 77 x.toNat (i : Int) 77 j ∧ mm_up J 77 x.toNat (i : Int) 77 j ≤ 255 := fun j hj => by
      by_cases c : j = x.toNat
      · subst c; rw [up_s]; omega
      · rw [up_j c]; exact h77 j hj
    have e1 : mm_up J 77 x.toNat (i : Int) 76 1 = n := by rw [up_ne (by decide)]; exact h1
    obtain ⟨J1, b1, b2⟩ := m_ok (L := L) (e2 := d) (K := K) (f := pt f x i) (J := mm_up J 77 x.toNat (i : Int)) (R := R) ⟨hR, by rw [e1]; omega, h77', mA_pt (by omega) hf⟩
    rw [e1] at b1
    have f77 : J1 77 = mm_up J 77 x.toNat (i : Int) 77 := by funext j; exact b2 77 j (by unfold AR; omega)
    have f1 : J1 76 1 = J 76 1 := by rw [b2 76 1 (by decide), up_ne (by decide)]
    have hf' : ∀ q, q ≠ x → mA J1 q = f q := fun q hq => by
      rw [← hf q hq]
      unfold mA
      rw [f1, f77]
      by_cases c : 0 ≤ q ∧ q < J 76 1
      · rw [if_pos c, if_pos c, up_j (by omega)]
      · rw [if_neg c, if_neg c]
    obtain ⟨J', c1, c2, c3⟩ := ih J1 (if okW (pt f x i) n = 1 then m + 1 else m) (if okW (pt f x i) n = 1 then (i : Int) else l) (some (vi (okW (pt f x i) n))) (by omega) (by rw [f1]; exact h1) (fun j hj => by rw [f77]; exact h77' j hj) hf' (by split <;> omega) (by split <;> omega)
    refine ⟨J', ?_, fun a j ha => ?_, c3⟩
    · rw [show mdS f n x (i + 1) m l = mdS f n x i (if okW (pt f x i) n = 1 then m + 1 else m) (if okW (pt f x i) n = 1 then (i : Int) else l) from rfl, ← c1]
      rw [show ((i + 1 : Nat) : Int) - 1 = (i : Int) by omega]
      rcases okW_01 (f := pt f x i) (n := n) with q | q
      · rw [q] at b1
        rw [q, if_neg (by omega), if_neg (by omega)]
        have go : ∀ X, EE (d + 6) 212 44 [some (.ref 76), some (vi x), some (vi y), some (vi m), some (vi l), some (vi w), some (vi ((i : Int) - 1)), some (vi 0)] [] (SH L) J1 K R = X → EE (d + 6) 212 44 [some (.ref 76), some (vi x), some (vi y), some (vi m), some (vi l), some (vi w), some (vi (i : Int)), l7] [] (SH L) J K R = X := by
          intro X hX
          simp (disch := first | assumption | omega | exact bi_lo | exact bi_hi | exact bi_01 | exact jcmp_lo | exact jcmp_hi | exact (jor_r _ _).1 | exact (jor_r _ _).2 | exact (jand_r _ _).1 | exact (jand_r _ _).2) only [x212_44, x212_46, kb_some, kb_none, clr_vi, clr_ref, clr_null, clr_none, va_rf_some, va_rf_none, ↓bi_ite_t, ↓bi_ite_f, ↓jc_lt_t, ↓jc_lt_f, ↓jc_gt_t, ↓jc_gt_f, ↓jc_le_t, ↓jc_le_f, ↓jc_ge_t, ↓jc_ge_f, ↓jc_eq_t, ↓jc_eq_f, ↓if_pos, ↓if_neg]
          simp (disch := first | assumption | omega | exact bi_lo | exact bi_hi | exact bi_01 | exact jcmp_lo | exact jcmp_hi | exact (jor_r _ _).1 | exact (jor_r _ _).2 | exact (jand_r _ _).1 | exact (jand_r _ _).2) only [x212_49, x212_50, x212_53, x212_54, x212_56, x212_57, x212_58, x212_61, x212_63, x212_64, x212_66, x212_69, x212_70, x212_73, x212_74, x212_75, x212_76, x212_78, x212_81, x212_83, x212_86, x212_88, x212_90, x212_93, kb_some, kb_none, clr_vi, clr_ref, clr_null, clr_none, va_rf_some, va_rf_none, ↓bi_ite_t, ↓bi_ite_f, ↓jc_lt_t, ↓jc_lt_f, ↓jc_gt_t, ↓jc_gt_f, ↓jc_le_t, ↓jc_le_f, ↓jc_ge_t, ↓jc_ge_f, ↓jc_eq_t, ↓jc_eq_f, ↓if_pos, ↓if_neg, b1, Int.add_zero, ← Int.sub_eq_add_neg]
          exact hX
        exact go _ rfl
      · rw [q] at b1
        rw [q, if_pos rfl, if_pos rfl]
        have go : ∀ X, EE (d + 6) 212 44 [some (.ref 76), some (vi x), some (vi y), some (vi (m + 1)), some (vi (i : Int)), some (vi w), some (vi ((i : Int) - 1)), some (vi 1)] [] (SH L) J1 K R = X → EE (d + 6) 212 44 [some (.ref 76), some (vi x), some (vi y), some (vi m), some (vi l), some (vi w), some (vi (i : Int)), l7] [] (SH L) J K R = X := by
          intro X hX
          simp (disch := first | assumption | omega | exact bi_lo | exact bi_hi | exact bi_01 | exact jcmp_lo | exact jcmp_hi | exact (jor_r _ _).1 | exact (jor_r _ _).2 | exact (jand_r _ _).1 | exact (jand_r _ _).2) only [x212_44, x212_46, kb_some, kb_none, clr_vi, clr_ref, clr_null, clr_none, va_rf_some, va_rf_none, ↓bi_ite_t, ↓bi_ite_f, ↓jc_lt_t, ↓jc_lt_f, ↓jc_gt_t, ↓jc_gt_f, ↓jc_le_t, ↓jc_le_f, ↓jc_ge_t, ↓jc_ge_f, ↓jc_eq_t, ↓jc_eq_f, ↓if_pos, ↓if_neg]
          simp (disch := first | assumption | omega | exact bi_lo | exact bi_hi | exact bi_01 | exact jcmp_lo | exact jcmp_hi | exact (jor_r _ _).1 | exact (jor_r _ _).2 | exact (jand_r _ _).1 | exact (jand_r _ _).2) only [x212_49, x212_50, x212_53, x212_54, x212_56, x212_57, x212_58, x212_61, x212_63, x212_64, x212_66, x212_69, x212_70, x212_73, x212_74, x212_75, x212_76, x212_78, x212_81, x212_83, x212_86, x212_88, x212_90, x212_93, kb_some, kb_none, clr_vi, clr_ref, clr_null, clr_none, va_rf_some, va_rf_none, ↓bi_ite_t, ↓bi_ite_f, ↓jc_lt_t, ↓jc_lt_f, ↓jc_gt_t, ↓jc_gt_f, ↓jc_le_t, ↓jc_le_f, ↓jc_ge_t, ↓jc_ge_f, ↓jc_eq_t, ↓jc_eq_f, ↓if_pos, ↓if_neg, b1, ← Int.sub_eq_add_neg]
          exact hX
        exact go _ rfl
    · rw [c2 a j ha, b2 a j (fun q => ha (Or.inl q))]
      unfold mm_up; rw [if_neg (by omega)]
theorem op_mends (h : INV J K R) (hx : -2147483648 ≤ x ∧ x ≤ 2147483647) (hy : -2147483648 ≤ y ∧ y ≤ 2147483647) : OP L d 110 212 [some (vi x), some (vi y), none, none, none] [some (vi x), some (vi y), none, none, none, none, none] J K R := by
  have hR := h.1
  have s2 : (SH L)[2]? = some (10, 10) := rfl; have r2_0 : R 2 0 = some 3 := rr_lk hR rfl; have r2_1 : R 2 1 = some 15 := rr_lk hR rfl; have r2_3 : R 2 3 = some 27 := rr_lk hR rfl; have r2_4 : R 2 4 = some 29 := rr_lk hR rfl; have r2_5 : R 2 5 = some 31 := rr_lk hR rfl; have r2_6 : R 2 6 = some 46 := rr_lk hR rfl; have r2_7 : R 2 7 = some 57 := rr_lk hR rfl; have r2_8 : R 2 8 = some 60 := rr_lk hR rfl; have r2_9 : R 2 9 = some 63 := rr_lk hR rfl; have s3 : (SH L)[3]? = some (6, 4) := rfl; have r3_0 : R 3 0 = some 4 := rr_lk hR rfl; have r3_1 : R 3 1 = some 6 := rr_lk hR rfl; have r3_2 : R 3 2 = some 9 := rr_lk hR rfl; have r3_3 : R 3 3 = some 12 := rr_lk hR rfl; have s4 : (SH L)[4]? = some (0, 2) := rfl; have r4_0 : R 4 0 = some 5 := rr_lk hR rfl; have s29 : (SH L)[29]? = some (0, 2) := rfl; have r29_0 : R 29 0 = some 30 := rr_lk hR rfl; have s31 : (SH L)[31]? = some (2, 5) := rfl; have r31_0 : R 31 0 = some 32 := rr_lk hR rfl; have r31_1 : R 31 1 = some 36 := rr_lk hR rfl; have s76 : (SH L)[76]? = some (11, 58) := rfl; have r76_0 : R 76 0 = some 77 := rr_lk hR rfl; have r76_3 : R 76 3 = some 78 := rr_lk hR rfl; have r76_4 : R 76 4 = some 79 := rr_lk hR rfl; have r76_6 : R 76 6 = some 80 := rr_lk hR rfl; have r76_7 : R 76 7 = some 81 := rr_lk hR rfl; have r76_9 : R 76 9 = some 82 := rr_lk hR rfl; have r76_10 : R 76 10 = some 83 := rr_lk hR rfl; have r76_12 : R 76 12 = some 84 := rr_lk hR rfl; have r76_13 : R 76 13 = some 85 := rr_lk hR rfl; have r76_19 : R 76 19 = some 86 := rr_lk hR rfl; have r76_20 : R 76 20 = some 87 := rr_lk hR rfl; have r76_21 : R 76 21 = some 88 := rr_lk hR rfl; have r76_22 : R 76 22 = some 89 := rr_lk hR rfl; have r76_24 : R 76 24 = some 90 := rr_lk hR rfl; have r76_25 : R 76 25 = some 91 := rr_lk hR rfl; have r76_26 : R 76 26 = some 92 := rr_lk hR rfl; have r76_28 : R 76 28 = some 93 := rr_lk hR rfl; have r76_29 : R 76 29 = some 94 := rr_lk hR rfl; have r76_30 : R 76 30 = some 95 := rr_lk hR rfl; have r76_31 : R 76 31 = some 96 := rr_lk hR rfl; have r76_32 : R 76 32 = some 97 := rr_lk hR rfl; have r76_36 : R 76 36 = some 98 := rr_lk hR rfl; have r76_38 : R 76 38 = some 99 := rr_lk hR rfl; have r76_39 : R 76 39 = some 100 := rr_lk hR rfl; have r76_40 : R 76 40 = some 101 := rr_lk hR rfl; have r76_41 : R 76 41 = some 102 := rr_lk hR rfl; have r76_42 : R 76 42 = some 103 := rr_lk hR rfl; have r76_47 : R 76 47 = some 104 := rr_lk hR rfl; have r76_53 : R 76 53 = some 105 := rr_lk hR rfl; have r76_54 : R 76 54 = some 106 := rr_lk hR rfl; have r76_55 : R 76 55 = some 107 := rr_lk hR rfl; have r76_56 : R 76 56 = some 108 := rr_lk hR rfl; have r76_57 : R 76 57 = some 109 := rr_lk hR rfl; have s77 : (SH L)[77]? = some (20, 120) := rfl
  obtain ⟨a1, a2, a3⟩ := h.2.1
  have hB : isB (SH L) R 4 5 120 := ⟨rfl, rr_lk hR rfl, rfl, by decide, by decide, by decide⟩
  have hha := fun d => c_has (d := d) (J := J) (K := K) (x := x) hB hx (by omega)
  rw [a1] at hha
  have e1 : mm_up J 76 11 0 76 1 = J 76 1 := up_j (by decide)
  have hip := fun d => m_isPlace (L := L) (d := d) (J := mm_up J 76 11 0) (K := K) (x := x) hR (by rw [e1]; exact a2) hx
  rw [e1] at hip
  have hin := fun d => m_in (d := d) (S := SH L) (J := mm_up J 76 11 0) (K := K) (R := R) (x := y) (y := 0) (z := 1) (by omega) (by omega) (by omega)
  by_cases c1 : 0 ≤ x ∧ x < J 76 1
  rotate_left
  · simp only [bi_f c1] at hha hip
    refine ⟨vi (-1), J, K, R, mm_up J 76 11 0, K, R, ?_, ?_, INV_11 h⟩
    · simp (disch := first | assumption | omega | exact bi_lo | exact bi_hi | exact bi_01 | exact jcmp_lo | exact jcmp_hi | exact (jor_r _ _).1 | exact (jor_r _ _).2 | exact (jand_r _ _).1 | exact (jand_r _ _).2) only [x110_0, x110_1, x110_4, x110_7, x110_8, x110_11, x110_14, x110_15, x110_18, x110_19, x110_20, x110_23, x110_24, kb_some, kb_none, clr_vi, clr_ref, clr_null, clr_none, va_rf_some, va_rf_none, ↓bi_ite_t, ↓bi_ite_f, ↓jc_lt_t, ↓jc_lt_f, ↓jc_gt_t, ↓jc_gt_f, ↓jc_le_t, ↓jc_le_f, ↓jc_ge_t, ↓jc_ge_f, ↓jc_eq_t, ↓jc_eq_f, ↓if_pos, ↓if_neg, hha]
    · simp (disch := first | assumption | omega | exact bi_lo | exact bi_hi | exact bi_01 | exact jcmp_lo | exact jcmp_hi | exact (jor_r _ _).1 | exact (jor_r _ _).2 | exact (jand_r _ _).1 | exact (jand_r _ _).2) only [x212_0, x212_1, x212_2, x212_5, x212_6, x212_7, x212_10, x212_13, x212_14, x212_15, x212_16, x212_17, x212_20, x212_23, x212_24, kb_some, kb_none, clr_vi, clr_ref, clr_null, clr_none, va_rf_some, va_rf_none, ↓bi_ite_t, ↓bi_ite_f, ↓jc_lt_t, ↓jc_lt_f, ↓jc_gt_t, ↓jc_gt_f, ↓jc_le_t, ↓jc_le_f, ↓jc_ge_t, ↓jc_ge_f, ↓jc_eq_t, ↓jc_eq_f, ↓if_pos, ↓if_neg, hip]
  simp only [bi_t c1] at hha hip
  by_cases c2 : 0 ≤ y ∧ y ≤ 1
  rotate_left
  · simp only [bi_f c2] at hin
    refine ⟨vi (-1), J, K, R, mm_up J 76 11 0, K, R, ?_, ?_, INV_11 h⟩
    · by_cases c3 : y < 0
      · simp (disch := first | assumption | omega | exact bi_lo | exact bi_hi | exact bi_01 | exact jcmp_lo | exact jcmp_hi | exact (jor_r _ _).1 | exact (jor_r _ _).2 | exact (jand_r _ _).1 | exact (jand_r _ _).2) only [x110_0, x110_1, x110_4, x110_7, x110_8, x110_11, x110_14, x110_15, x110_18, x110_19, x110_20, x110_23, x110_24, kb_some, kb_none, clr_vi, clr_ref, clr_null, clr_none, va_rf_some, va_rf_none, ↓bi_ite_t, ↓bi_ite_f, ↓jc_lt_t, ↓jc_lt_f, ↓jc_gt_t, ↓jc_gt_f, ↓jc_le_t, ↓jc_le_f, ↓jc_ge_t, ↓jc_ge_f, ↓jc_eq_t, ↓jc_eq_f, ↓if_pos, ↓if_neg, hha]
      · simp (disch := first | assumption | omega | exact bi_lo | exact bi_hi | exact bi_01 | exact jcmp_lo | exact jcmp_hi | exact (jor_r _ _).1 | exact (jor_r _ _).2 | exact (jand_r _ _).1 | exact (jand_r _ _).2) only [x110_0, x110_1, x110_4, x110_7, x110_8, x110_11, x110_14, x110_15, x110_18, x110_19, x110_20, x110_23, x110_24, kb_some, kb_none, clr_vi, clr_ref, clr_null, clr_none, va_rf_some, va_rf_none, ↓bi_ite_t, ↓bi_ite_f, ↓jc_lt_t, ↓jc_lt_f, ↓jc_gt_t, ↓jc_gt_f, ↓jc_le_t, ↓jc_le_f, ↓jc_ge_t, ↓jc_ge_f, ↓jc_eq_t, ↓jc_eq_f, ↓if_pos, ↓if_neg, hha]
    · simp (disch := first | assumption | omega | exact bi_lo | exact bi_hi | exact bi_01 | exact jcmp_lo | exact jcmp_hi | exact (jor_r _ _).1 | exact (jor_r _ _).2 | exact (jand_r _ _).1 | exact (jand_r _ _).2) only [x212_0, x212_1, x212_2, x212_5, x212_6, x212_7, x212_10, x212_13, x212_14, x212_15, x212_16, x212_17, x212_20, x212_23, x212_24, kb_some, kb_none, clr_vi, clr_ref, clr_null, clr_none, va_rf_some, va_rf_none, ↓bi_ite_t, ↓bi_ite_f, ↓jc_lt_t, ↓jc_lt_f, ↓jc_gt_t, ↓jc_gt_f, ↓jc_le_t, ↓jc_le_f, ↓jc_ge_t, ↓jc_ge_f, ↓jc_eq_t, ↓jc_eq_f, ↓if_pos, ↓if_neg, hip, hin]
  simp only [bi_t c2] at hin
  have hct := fun d => c_trial (L := L) (d := d) h
  obtain ⟨t1, t2, t3⟩ := tr_B h
  have hX := h.2.2.2.2.2.1
  have hRS : RS (tr J) := by
    have := hX.1
    unfold RS at this ⊢
    rw [tr_o (by decide) (by decide), tr_o (by decide) (by decide), tr_o (by decide) (by decide)]
    exact this
  obtain ⟨J1, R1, b1, b2, b3, b4, b5⟩ := l_mends (L := L) (d := d + 8) (K := K) (f := mA J) c1 a2.2 c2 256 (tr J) R 0 (-5) (by omega) hR hRS t1.1 t2 (fun q _ => by rw [t3]) (by omega) (by omega)
  rw [show ((256 : Nat) : Int) - 1 = 255 by omega] at b1
  have o1 : ∀ a, a < 29 ∨ 43 < a → J1 a = J a := fun a ha => by rw [b4 a (by unfold A31; omega), tr_o (by omega) (by omega)]
  have hw := (a3 x.toNat (by omega)).2.1
  have hM := INV_MR (J' := mm_up J1 76 11 0) h b2 (by rw [up_j (by decide), o1 76 (by decide)]) (by rw [up_ne (by decide), o1 77 (by decide)])
  obtain ⟨J2, g1, g2, g3⟩ := l_mendsM (L := L) (d := d + 14) (K := K) (f := mA J) (w := J 77 x.toNat) b2 c1 a2.2 c2 hw 256 (mm_up J1 76 11 0) 0 (-5) none (by omega) (by rw [up_j (by decide), o1 76 (by decide)]) hM.2.2.1 (fun q _ => by rw [hM.2.2.2]) (by omega) (by omega)
  rw [show ((256 : Nat) : Int) - 1 = 255 by omega] at g1
  have hIX : IX J1 := by
    obtain ⟨x1, x2, x3, x4, x5, x6⟩ := hX
    refine ⟨b3, ?_, ?_, ?_, ?_, ?_, b5⟩
    · rw [o1 47 (by decide)]; exact x2
    · rw [o1 53 (by decide)]; exact x3
    · rw [o1 58 (by decide)]; exact x4
    · rw [o1 61 (by decide)]; exact x5
    · rw [b4 29 (by decide), t1.1]; exact t1.2
  have hi : INV J2 K R1 := INV_G h b2 hIX (fun a ha => o1 a (by omega)) (fun a j ha => by
    by_cases c : a = 77 ∧ j = x.toNat
    · obtain ⟨c3, c4⟩ := c
      subst c3; subst c4
      rw [g3, o1 77 (by decide)]
    · rw [g2 a j (fun q => by rcases q with q | q; exact ha (AR_SC q); exact c q)]
      exact up11_SC a j ha)
  have hR := b2
  have s76 : (SH L)[76]? = some (11, 58) := rfl; have r76_0 : R1 76 0 = some 77 := rr_lk hR rfl; have r76_3 : R1 76 3 = some 78 := rr_lk hR rfl; have r76_4 : R1 76 4 = some 79 := rr_lk hR rfl; have r76_6 : R1 76 6 = some 80 := rr_lk hR rfl; have r76_7 : R1 76 7 = some 81 := rr_lk hR rfl; have r76_9 : R1 76 9 = some 82 := rr_lk hR rfl; have r76_10 : R1 76 10 = some 83 := rr_lk hR rfl; have r76_12 : R1 76 12 = some 84 := rr_lk hR rfl; have r76_13 : R1 76 13 = some 85 := rr_lk hR rfl; have r76_19 : R1 76 19 = some 86 := rr_lk hR rfl; have r76_20 : R1 76 20 = some 87 := rr_lk hR rfl; have r76_21 : R1 76 21 = some 88 := rr_lk hR rfl; have r76_22 : R1 76 22 = some 89 := rr_lk hR rfl; have r76_24 : R1 76 24 = some 90 := rr_lk hR rfl; have r76_25 : R1 76 25 = some 91 := rr_lk hR rfl; have r76_26 : R1 76 26 = some 92 := rr_lk hR rfl; have r76_28 : R1 76 28 = some 93 := rr_lk hR rfl; have r76_29 : R1 76 29 = some 94 := rr_lk hR rfl; have r76_30 : R1 76 30 = some 95 := rr_lk hR rfl; have r76_31 : R1 76 31 = some 96 := rr_lk hR rfl; have r76_32 : R1 76 32 = some 97 := rr_lk hR rfl; have r76_36 : R1 76 36 = some 98 := rr_lk hR rfl; have r76_38 : R1 76 38 = some 99 := rr_lk hR rfl; have r76_39 : R1 76 39 = some 100 := rr_lk hR rfl; have r76_40 : R1 76 40 = some 101 := rr_lk hR rfl; have r76_41 : R1 76 41 = some 102 := rr_lk hR rfl; have r76_42 : R1 76 42 = some 103 := rr_lk hR rfl; have r76_47 : R1 76 47 = some 104 := rr_lk hR rfl; have r76_53 : R1 76 53 = some 105 := rr_lk hR rfl; have r76_54 : R1 76 54 = some 106 := rr_lk hR rfl; have r76_55 : R1 76 55 = some 107 := rr_lk hR rfl; have r76_56 : R1 76 56 = some 108 := rr_lk hR rfl; have r76_57 : R1 76 57 = some 109 := rr_lk hR rfl; have s77 : (SH L)[77]? = some (20, 120) := rfl
  have hip2 := fun d => m_isPlace (L := L) (d := d) (J := mm_up J1 76 11 0) (K := K) (x := x) b2 (by rw [up_j (by decide), o1 76 (by decide)]; exact a2) hx
  rw [up_j (by decide), o1 76 (by decide), bi_t c1] at hip2
  have hin2 := fun d => m_in (d := d) (S := SH L) (J := mm_up J1 76 11 0) (K := K) (R := R1) (x := y) (y := 0) (z := 1) (by omega) (by omega) (by omega)
  simp only [bi_t c2] at hin2
  have e77 : mm_up J1 76 11 0 77 x.toNat = J 77 x.toNat := by rw [up_ne (by decide), o1 77 (by decide)]
  generalize (if y = 0 then (mdS (mA J) (J 76 1) x 256 0 (-5)).1 else (mdS (mA J) (J 76 1) x 256 0 (-5)).2) = vv at b1 g1
  refine ⟨vi vv, J1, K, R1, J2, K, R1, ?_, ?_, hi⟩
  · simp (disch := first | assumption | omega | exact bi_lo | exact bi_hi | exact bi_01 | exact jcmp_lo | exact jcmp_hi | exact (jor_r _ _).1 | exact (jor_r _ _).2 | exact (jand_r _ _).1 | exact (jand_r _ _).2) only [x110_0, x110_1, x110_4, x110_7, x110_8, x110_11, x110_14, x110_15, x110_18, x110_19, x110_20, x110_23, x110_24, x110_25, x110_26, x110_27, x110_29, x110_31, x110_32, x110_35, x110_36, x110_39, x110_42, x110_45, x110_48, kb_some, kb_none, clr_vi, clr_ref, clr_null, clr_none, va_rf_some, va_rf_none, ↓bi_ite_t, ↓bi_ite_f, ↓jc_lt_t, ↓jc_lt_f, ↓jc_gt_t, ↓jc_gt_f, ↓jc_le_t, ↓jc_le_f, ↓jc_ge_t, ↓jc_ge_f, ↓jc_eq_t, ↓jc_eq_f, ↓if_pos, ↓if_neg, hha, hct]
    exact b1
  · simp (disch := first | assumption | omega | exact bi_lo | exact bi_hi | exact bi_01 | exact jcmp_lo | exact jcmp_hi | exact (jor_r _ _).1 | exact (jor_r _ _).2 | exact (jand_r _ _).1 | exact (jand_r _ _).2) only [x212_0, x212_1, x212_2, x212_5, x212_6, x212_7, x212_10, x212_13, x212_14, x212_15, x212_16, x212_17, x212_20, x212_23, x212_24, x212_25, x212_26, x212_27, x212_29, x212_31, x212_32, x212_35, x212_36, x212_37, x212_39, x212_42, kb_some, kb_none, clr_vi, clr_ref, clr_null, clr_none, va_rf_some, va_rf_none, ↓bi_ite_t, ↓bi_ite_f, ↓jc_lt_t, ↓jc_lt_f, ↓jc_gt_t, ↓jc_gt_f, ↓jc_le_t, ↓jc_le_f, ↓jc_ge_t, ↓jc_ge_f, ↓jc_eq_t, ↓jc_eq_f, ↓if_pos, ↓if_neg, hip2, hin2, e77]
    exact g1
end
