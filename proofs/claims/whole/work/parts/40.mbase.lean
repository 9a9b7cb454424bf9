/-! the reference: how its runs are taken step by step -/
section
variable {α : Type} {a b : α} {x y : Int}
theorem bi_ite_t {P : Prop} [Decidable P] (h : P) : (if bi P = 0 then a else b) = b := by rw [bi_t h]; rfl
theorem bi_ite_f {P : Prop} [Decidable P] (h : ¬ P) : (if bi P = 0 then a else b) = a := by rw [bi_f h]; rfl
theorem jc_lt_t (h : x < y) : (if jcmp x y < 0 then a else b) = a := if_pos (by rw [jcmp_n]; exact h)
theorem jc_lt_f (h : ¬ x < y) : (if jcmp x y < 0 then a else b) = b := if_neg (by rw [jcmp_n]; exact h)
theorem jc_gt_t (h : y < x) : (if 0 < jcmp x y then a else b) = a := if_pos (by rw [jcmp_p]; exact h)
theorem jc_gt_f (h : ¬ y < x) : (if 0 < jcmp x y then a else b) = b := if_neg (by rw [jcmp_p]; exact h)
theorem jc_le_t (h : x ≤ y) : (if jcmp x y ≤ 0 then a else b) = a := if_pos (by rw [jcmp_np]; exact h)
theorem jc_le_f (h : ¬ x ≤ y) : (if jcmp x y ≤ 0 then a else b) = b := if_neg (by rw [jcmp_np]; exact h)
theorem jc_ge_t (h : y ≤ x) : (if 0 ≤ jcmp x y then a else b) = a := if_pos (by rw [jcmp_nn]; exact h)
theorem jc_ge_f (h : ¬ y ≤ x) : (if 0 ≤ jcmp x y then a else b) = b := if_neg (by rw [jcmp_nn]; exact h)
theorem jc_eq_t (h : x = y) : (if jcmp x y = 0 then a else b) = a := if_pos (by rw [jcmp_0]; exact h)
theorem jc_eq_f (h : ¬ x = y) : (if jcmp x y = 0 then a else b) = b := if_neg (by rw [jcmp_0]; exact h)
end
theorem jrem_nn {x y : Int} (h0 : 0 ≤ x) (h1 : x ≤ 2147483647) (h2 : 0 < y) (h3 : y ≤ 2147483647) : jrem x y = x % y := by
  have hd : (iI x / iI y) = iI (x / y) := by
    have e : (iI x / iI y).toInt = x / y := by
      rw [Int32.toInt_div, iI_toInt (by omega) h1, iI_toInt (by omega) h3, Int.tdiv_eq_ediv_of_nonneg h0]
      have q1 : 0 ≤ x / y := Int.ediv_nonneg h0 (by omega)
      have q2 : x / y ≤ x := Int.ediv_le_self y h0
      exact Int.bmod_eq_of_le (by omega) (by omega)
    rw [← iI_of (iI x / iI y), e]
  unfold jrem
  rw [hd, iI_mul, iI_sub]
  have q : x - x / y * y = x % y := by rw [Int.mul_comm]; have := Int.emod_def x y; omega
  rw [q]
  have r1 := Int.emod_nonneg x (show y ≠ 0 by omega)
  have r2 := Int.emod_lt_of_pos x h2
  exact iI_toInt (by omega) (by omega)
theorem jxor_b {x y : Int} (hx : 0 ≤ x ∧ x ≤ 255) (hy : 0 ≤ y ∧ y ≤ 255) : 0 ≤ jxor x y ∧ jxor x y ≤ 255 := by
  have e : jxor x y = ((iI x ^^^ iI y).toBitVec).toInt := rfl
  have e2 : (iI x).toBitVec = BitVec.ofInt 32 x := rfl
  have e3 : (iI y).toBitVec = BitVec.ofInt 32 y := rfl
  have h : (BitVec.ofInt 32 x ^^^ BitVec.ofInt 32 y).toNat < 256 := by
    rw [BitVec.toNat_xor, BitVec.toNat_ofInt, BitVec.toNat_ofInt]
    exact Nat.xor_lt_two_pow (n := 8) (by omega) (by omega)
  rw [e, Int32.toBitVec_xor, e2, e3, BitVec.toInt_eq_toNat_of_lt (by omega)]
  omega
def mA (J : mJ) (p : Int) : Int := if 0 ≤ p ∧ p < J 76 1 then J 77 p.toNat else -1
/-- what the reference's reader stands on -/
def MR (f : Int → Int) (J : mJ) (R : mm_R) : Prop := wfR R ∧ (0 ≤ J 76 1 ∧ J 76 1 ≤ 120) ∧ (∀ i, i < 120 → 0 ≤ J 77 i ∧ J 77 i ≤ 255) ∧ mA J = f
/-- nothing changed but these cells -/
def frm (A : Nat → Nat → Prop) (J J' : mJ) : Prop := ∀ a j, ¬ A a j → J' a j = J a j
theorem frm_refl {A : Nat → Nat → Prop} {J : mJ} : frm A J J := fun _ _ _ => rfl
theorem frm_trans {A : Nat → Nat → Prop} {J J' J'' : mJ} (h : frm A J J') (h' : frm A J' J'') : frm A J J'' := fun a j hh => (h' a j hh).trans (h a j hh)
theorem frm_mono {A B : Nat → Nat → Prop} {J J' : mJ} (h : frm A J J') (hab : ∀ a j, A a j → B a j) : frm B J J' := fun a j hh => h a j (fun q => hh (hab _ _ q))
theorem frm_up {A : Nat → Nat → Prop} {J J' : mJ} {a j : Nat} {v : Int} (h : frm A J J') (ha : A a j) : frm A J (mm_up J' a j v) := by
  intro b i hb
  rw [← h b i hb]
  unfold mm_up
  split
  · rename_i q
    exact absurd (q.1 ▸ q.2 ▸ ha) hb
  · rfl
theorem frm_rw {A : Nat → Nat → Prop} {J J' : mJ} {a : Nat} {g : Nat → Int} (h : frm A J J') (ha : ∀ j, A a j) : frm A J (mm_rw J' a g) := by
  intro b i hb
  rw [← h b i hb]
  unfold mm_rw
  split
  · rename_i q
    exact absurd (q ▸ ha i) hb
  · rfl
section
variable {L d : Nat} {f : Int → Int} {S : mm_S} {J K : mJ} {R : mm_R} {x y z v c p n : Int}
theorem MR_f (h : MR f J R) : -1 ≤ f p ∧ f p ≤ 255 := by
  obtain ⟨u1, u2, u3, u4⟩ := h
  rw [← u4]; unfold mA
  split
  · have := u3 p.toNat (by omega); omega
  · omega
theorem MR_at (h : MR f J R) (h0 : 0 ≤ p) (h1 : p < J 76 1) : J 77 p.toNat = f p ∧ 0 ≤ f p ∧ f p ≤ 255 := by
  obtain ⟨u1, u2, u3, u4⟩ := h
  have e : f p = J 77 p.toNat := by rw [← u4]; exact if_pos ⟨h0, h1⟩
  have := u3 p.toNat (by omega)
  omega
theorem MR_c (h : MR f J R) (i : Nat) (hi : i < 120) : 0 ≤ J 77 i ∧ J 77 i ≤ 255 := h.2.2.1 i hi
theorem m_in (hx : -9223372036854775808 ≤ x ∧ x ≤ 9223372036854775807) (hy : -9223372036854775808 ≤ y ∧ y ≤ 9223372036854775807) (hz : -9223372036854775808 ≤ z ∧ z ≤ 9223372036854775807) :
    EE d 139 0 [some (vl x), none, some (vl y), none, some (vl z), none] [] S J K R = ok (some (vi (bi (y ≤ x ∧ x ≤ z)))) S J K R := by
  by_cases c1 : x < y
  · rw [bi_f (by omega)]
    simp (disch := first | assumption | omega | exact bi_lo | exact bi_hi | exact bi_01 | exact jcmp_lo | exact jcmp_hi | exact (jor_r _ _).1 | exact (jor_r _ _).2 | exact (jand_r _ _).1 | exact (jand_r _ _).2) only [x139_0, x139_1, x139_2, x139_3, x139_6, x139_7, x139_9, x139_10, x139_13, x139_14, x139_17, x139_18, kb_some, kb_none, clr_vi, clr_ref, clr_null, clr_none, va_rf_some, va_rf_none, ↓bi_ite_t, ↓bi_ite_f, ↓jc_lt_t, ↓jc_lt_f, ↓jc_gt_t, ↓jc_gt_f, ↓jc_le_t, ↓jc_le_f, ↓jc_ge_t, ↓jc_ge_f, ↓jc_eq_t, ↓jc_eq_f, ↓if_pos, ↓if_neg]
  · by_cases c2 : z < x
    · rw [bi_f (by omega)]
      simp (disch := first | assumption | omega | exact bi_lo | exact bi_hi | exact bi_01 | exact jcmp_lo | exact jcmp_hi | exact (jor_r _ _).1 | exact (jor_r _ _).2 | exact (jand_r _ _).1 | exact (jand_r _ _).2) only [x139_0, x139_1, x139_2, x139_3, x139_6, x139_7, x139_9, x139_10, x139_13, x139_14, x139_17, x139_18, kb_some, kb_none, clr_vi, clr_ref, clr_null, clr_none, va_rf_some, va_rf_none, ↓bi_ite_t, ↓bi_ite_f, ↓jc_lt_t, ↓jc_lt_f, ↓jc_gt_t, ↓jc_gt_f, ↓jc_le_t, ↓jc_le_f, ↓jc_ge_t, ↓jc_ge_f, ↓jc_eq_t, ↓jc_eq_f, ↓if_pos, ↓if_neg]
    · rw [bi_t (by omega)]
      simp (disch := first | assumption | omega | exact bi_lo | exact bi_hi | exact bi_01 | exact jcmp_lo | exact jcmp_hi | exact (jor_r _ _).1 | exact (jor_r _ _).2 | exact (jand_r _ _).1 | exact (jand_r _ _).2) only [x139_0, x139_1, x139_2, x139_3, x139_6, x139_7, x139_9, x139_10, x139_13, x139_14, x139_17, x139_18, kb_some, kb_none, clr_vi, clr_ref, clr_null, clr_none, va_rf_some, va_rf_none, ↓bi_ite_t, ↓bi_ite_f, ↓jc_lt_t, ↓jc_lt_f, ↓jc_gt_t, ↓jc_gt_f, ↓jc_le_t, ↓jc_le_f, ↓jc_ge_t, ↓jc_ge_f, ↓jc_eq_t, ↓jc_eq_f, ↓if_pos, ↓if_neg]
theorem m_checked (hv : -2147483648 ≤ v ∧ v ≤ 2147483647) (hc : 0 ≤ c ∧ c ≤ 255) (hx : 0 ≤ x ∧ x ≤ 255) : EE d 146 0 [some (vi v), some (vi c), some (vi x)] [] S J K R = ok (some (vi (ckS v c x))) S J K R := by
  have e1 : jrem (c + x) 256 = (c + x) % 256 := jrem_nn (by omega) (by omega) (by omega) (by omega)
  have e2 : jrem (c * 31 + x) 256 = (c * 31 + x) % 256 := jrem_nn (by omega) (by omega) (by omega) (by omega)
  have e3 := jxor_b hc hx
  have e4 : jxor c x % 256 = jxor c x := by omega
  unfold ckS
  by_cases c1 : v = 1
  · rw [if_pos c1, ← e1]
    simp (disch := first | assumption | omega | exact bi_lo | exact bi_hi | exact bi_01 | exact jcmp_lo | exact jcmp_hi | exact (jor_r _ _).1 | exact (jor_r _ _).2 | exact (jand_r _ _).1 | exact (jand_r _ _).2) only [x146_0, x146_1, x146_2, x146_5, x146_6, x146_7, x146_8, x146_11, x146_12, x146_15, x146_16, x146_17, x146_20, x146_21, x146_22, x146_23, x146_26, x146_27, x146_29, x146_30, x146_31, x146_32, x146_35, x146_36, kb_some, kb_none, clr_vi, clr_ref, clr_null, clr_none, va_rf_some, va_rf_none, ↓bi_ite_t, ↓bi_ite_f, ↓jc_lt_t, ↓jc_lt_f, ↓jc_gt_t, ↓jc_gt_f, ↓jc_le_t, ↓jc_le_f, ↓jc_ge_t, ↓jc_ge_f, ↓jc_eq_t, ↓jc_eq_f, ↓if_pos, ↓if_neg]
  · by_cases c2 : v = 2
    · rw [if_neg c1, if_pos c2, e4]
      simp (disch := first | assumption | omega | exact bi_lo | exact bi_hi | exact bi_01 | exact jcmp_lo | exact jcmp_hi | exact (jor_r _ _).1 | exact (jor_r _ _).2 | exact (jand_r _ _).1 | exact (jand_r _ _).2) only [x146_0, x146_1, x146_2, x146_5, x146_6, x146_7, x146_8, x146_11, x146_12, x146_15, x146_16, x146_17, x146_20, x146_21, x146_22, x146_23, x146_26, x146_27, x146_29, x146_30, x146_31, x146_32, x146_35, x146_36, kb_some, kb_none, clr_vi, clr_ref, clr_null, clr_none, va_rf_some, va_rf_none, ↓bi_ite_t, ↓bi_ite_f, ↓jc_lt_t, ↓jc_lt_f, ↓jc_gt_t, ↓jc_gt_f, ↓jc_le_t, ↓jc_le_f, ↓jc_ge_t, ↓jc_ge_f, ↓jc_eq_t, ↓jc_eq_f, ↓if_pos, ↓if_neg]
    · rw [if_neg c1, if_neg c2, ← e2]
      simp (disch := first | assumption | omega | exact bi_lo | exact bi_hi | exact bi_01 | exact jcmp_lo | exact jcmp_hi | exact (jor_r _ _).1 | exact (jor_r _ _).2 | exact (jand_r _ _).1 | exact (jand_r _ _).2) only [x146_0, x146_1, x146_2, x146_5, x146_6, x146_7, x146_8, x146_11, x146_12, x146_15, x146_16, x146_17, x146_20, x146_21, x146_22, x146_23, x146_26, x146_27, x146_29, x146_30, x146_31, x146_32, x146_35, x146_36, kb_some, kb_none, clr_vi, clr_ref, clr_null, clr_none, va_rf_some, va_rf_none, ↓bi_ite_t, ↓bi_ite_f, ↓jc_lt_t, ↓jc_lt_f, ↓jc_gt_t, ↓jc_gt_f, ↓jc_le_t, ↓jc_le_f, ↓jc_ge_t, ↓jc_ge_f, ↓jc_eq_t, ↓jc_eq_f, ↓if_pos, ↓if_neg]
theorem ckS_r (hc : 0 ≤ c ∧ c ≤ 255) : 0 ≤ ckS v c x ∧ ckS v c x ≤ 255 := by
  unfold ckS; repeat' split
  all_goals omega
theorem l_checkOf (h : MR f J R) (hv : -2147483648 ≤ v ∧ v ≤ 2147483647) (hp : 0 ≤ p) (hn : 0 ≤ n) (hpn : p + n ≤ J 76 1) : ∀ (i : Nat) (k c : Int), (p + n - k).toNat = i → p ≤ k → k ≤ p + n → 0 ≤ c ∧ c ≤ 255 →
    EE (d + 1) 147 6 [some (.ref 76), some (vi v), some (vi p), some (vi n), some (vi c), some (vi k)] [] (SH L) J K R = ok (some (vi (ckf v f i k c))) (SH L) J K R := by
  have hR := h.1
  have h1 := h.2.1
  have s76 : (SH L)[76]? = some (11, 58) := rfl; have r76_0 : R 76 0 = some 77 := rr_lk hR rfl; have r76_3 : R 76 3 = some 78 := rr_lk hR rfl; have r76_4 : R 76 4 = some 79 := rr_lk hR rfl; have r76_6 : R 76 6 = some 80 := rr_lk hR rfl; have r76_7 : R 76 7 = some 81 := rr_lk hR rfl; have r76_9 : R 76 9 = some 82 := rr_lk hR rfl; have r76_10 : R 76 10 = some 83 := rr_lk hR rfl; have r76_12 : R 76 12 = some 84 := rr_lk hR rfl; have r76_13 : R 76 13 = some 85 := rr_lk hR rfl; have r76_19 : R 76 19 = some 86 := rr_lk hR rfl; have r76_20 : R 76 20 = some 87 := rr_lk hR rfl; have r76_21 : R 76 21 = some 88 := rr_lk hR rfl; have r76_22 : R 76 22 = some 89 := rr_lk hR rfl; have r76_24 : R 76 24 = some 90 := rr_lk hR rfl; have r76_25 : R 76 25 = some 91 := rr_lk hR rfl; have r76_26 : R 76 26 = some 92 := rr_lk hR rfl; have r76_28 : R 76 28 = some 93 := rr_lk hR rfl; have r76_29 : R 76 29 = some 94 := rr_lk hR rfl; have r76_30 : R 76 30 = some 95 := rr_lk hR rfl; have r76_31 : R 76 31 = some 96 := rr_lk hR rfl; have r76_32 : R 76 32 = some 97 := rr_lk hR rfl; have r76_36 : R 76 36 = some 98 := rr_lk hR rfl; have r76_38 : R 76 38 = some 99 := rr_lk hR rfl; have r76_39 : R 76 39 = some 100 := rr_lk hR rfl; have r76_40 : R 76 40 = some 101 := rr_lk hR rfl; have r76_41 : R 76 41 = some 102 := rr_lk hR rfl; have r76_42 : R 76 42 = some 103 := rr_lk hR rfl; have r76_47 : R 76 47 = some 104 := rr_lk hR rfl; have r76_53 : R 76 53 = some 105 := rr_lk hR rfl; have r76_54 : R 76 54 = some 106 := rr_lk hR rfl; have r76_55 : R 76 55 = some 107 := rr_lk hR rfl; have r76_56 : R 76 56 = some 108 := rr_lk hR rfl; have r76_57 : R 76 57 = some 109 := rr_lk hR rfl; have s77 : (SH L)[77]? = some (20, 120) := rfl
  intro i
  induction i with
  | zero =>
    intro k c hi h0 h1 hc
    simp (disch := first | assumption | omega | exact bi_lo | exact bi_hi | exact bi_01 | exact jcmp_lo | exact jcmp_hi | exact (jor_r _ _).1 | exact (jor_r _ _).2 | exact (jand_r _ _).1 | exact (jand_r _ _).2) only [x147_6, x147_8, x147_9, x147_10, x147_11, x147_35, x147_37, kb_some, kb_none, clr_vi, clr_ref, clr_null, clr_none, va_rf_some, va_rf_none, ↓bi_ite_t, ↓bi_ite_f, ↓jc_lt_t, ↓jc_lt_f, ↓jc_gt_t, ↓jc_gt_f, ↓jc_le_t, ↓jc_le_f, ↓jc_ge_t, ↓jc_ge_f, ↓jc_eq_t, ↓jc_eq_f, ↓if_pos, ↓if_neg]
    rfl
  | succ i ih =>
    intro k c hi h0 h1 hc
    obtain ⟨q1, q2, q3⟩ := MR_at h (p := k) (by omega) (by omega)
    have hck := m_checked (d := d) (S := SH L) (J := J) (K := K) (R := R) (v := v) hv hc ⟨q2, q3⟩
    have ih' := ih (k + 1) (ckS v c (f k)) (by omega) (by omega) (by omega) (ckS_r hc)
    simp (disch := first | assumption | omega | exact bi_lo | exact bi_hi | exact bi_01 | exact jcmp_lo | exact jcmp_hi | exact (jor_r _ _).1 | exact (jor_r _ _).2 | exact (jand_r _ _).1 | exact (jand_r _ _).2) only [x147_6, x147_8, x147_9, x147_10, x147_11, kb_some, kb_none, clr_vi, clr_ref, clr_null, clr_none, va_rf_some, va_rf_none, ↓bi_ite_t, ↓bi_ite_f, ↓jc_lt_t, ↓jc_lt_f, ↓jc_gt_t, ↓jc_gt_f, ↓jc_le_t, ↓jc_le_f, ↓jc_ge_t, ↓jc_ge_f, ↓jc_eq_t, ↓jc_eq_f, ↓if_pos, ↓if_neg]
    simp (disch := first | assumption | omega | exact bi_lo | exact bi_hi | exact bi_01 | exact jcmp_lo | exact jcmp_hi | exact (jor_r _ _).1 | exact (jor_r _ _).2 | exact (jand_r _ _).1 | exact (jand_r _ _).2) only [x147_14, x147_15, x147_17, x147_18, x147_21, x147_23, x147_24, x147_27, x147_29, x147_32, kb_some, kb_none, clr_vi, clr_ref, clr_null, clr_none, va_rf_some, va_rf_none, ↓bi_ite_t, ↓bi_ite_f, ↓jc_lt_t, ↓jc_lt_f, ↓jc_gt_t, ↓jc_gt_f, ↓jc_le_t, ↓jc_le_f, ↓jc_ge_t, ↓jc_ge_f, ↓jc_eq_t, ↓jc_eq_f, ↓if_pos, ↓if_neg, q1, hck]
    exact ih'
theorem m_checkOf (h : MR f J R) (hv : -2147483648 ≤ v ∧ v ≤ 2147483647) (hp : 0 ≤ p) (hn : 0 ≤ n) (hpn : p + n ≤ J 76 1) :
    EE (d + 1) 147 0 [some (.ref 76), some (vi v), some (vi p), some (vi n), none, none] [] (SH L) J K R = ok (some (vi (ckf v f n.toNat p 0))) (SH L) J K R := by
  have hl := l_checkOf (L := L) (d := d) (K := K) h hv hp hn hpn n.toNat p 0 (by omega) (by omega) (by omega) (by omega)
  simp (disch := first | assumption | omega | exact bi_lo | exact bi_hi | exact bi_01 | exact jcmp_lo | exact jcmp_hi | exact (jor_r _ _).1 | exact (jor_r _ _).2 | exact (jand_r _ _).1 | exact (jand_r _ _).2) only [x147_0, x147_1, x147_3, x147_4, kb_some, kb_none, clr_vi, clr_ref, clr_null, clr_none, va_rf_some, va_rf_none, ↓bi_ite_t, ↓bi_ite_f, ↓jc_lt_t, ↓jc_lt_f, ↓jc_gt_t, ↓jc_gt_f, ↓jc_le_t, ↓jc_le_f, ↓jc_ge_t, ↓jc_ge_f, ↓jc_eq_t, ↓jc_eq_f, ↓if_pos, ↓if_neg]
  exact hl
def fa (J : mJ) (w l p : Int) : mJ := mm_up (mm_up (mm_up (mm_up J 90 (J 76 23).toNat w) 91 (J 76 23).toNat l) 92 (J 76 23).toNat p) 76 23 (J 76 23 + 1)
theorem m_faults {w l : Int} (hR : wfR R) (hs : 0 ≤ J 76 23 ∧ J 76 23 < 8) : EE d 148 0 [some (.ref 76), some (vi w), some (vi l), some (vi p)] [] (SH L) J K R = ok none (SH L) (fa J w l p) K R := by
  have s76 : (SH L)[76]? = some (11, 58) := rfl; have r76_0 : R 76 0 = some 77 := rr_lk hR rfl; have r76_3 : R 76 3 = some 78 := rr_lk hR rfl; have r76_4 : R 76 4 = some 79 := rr_lk hR rfl; have r76_6 : R 76 6 = some 80 := rr_lk hR rfl; have r76_7 : R 76 7 = some 81 := rr_lk hR rfl; have r76_9 : R 76 9 = some 82 := rr_lk hR rfl; have r76_10 : R 76 10 = some 83 := rr_lk hR rfl; have r76_12 : R 76 12 = some 84 := rr_lk hR rfl; have r76_13 : R 76 13 = some 85 := rr_lk hR rfl; have r76_19 : R 76 19 = some 86 := rr_lk hR rfl; have r76_20 : R 76 20 = some 87 := rr_lk hR rfl; have r76_21 : R 76 21 = some 88 := rr_lk hR rfl; have r76_22 : R 76 22 = some 89 := rr_lk hR rfl; have r76_24 : R 76 24 = some 90 := rr_lk hR rfl; have r76_25 : R 76 25 = some 91 := rr_lk hR rfl; have r76_26 : R 76 26 = some 92 := rr_lk hR rfl; have r76_28 : R 76 28 = some 93 := rr_lk hR rfl; have r76_29 : R 76 29 = some 94 := rr_lk hR rfl; have r76_30 : R 76 30 = some 95 := rr_lk hR rfl; have r76_31 : R 76 31 = some 96 := rr_lk hR rfl; have r76_32 : R 76 32 = some 97 := rr_lk hR rfl; have r76_36 : R 76 36 = some 98 := rr_lk hR rfl; have r76_38 : R 76 38 = some 99 := rr_lk hR rfl; have r76_39 : R 76 39 = some 100 := rr_lk hR rfl; have r76_40 : R 76 40 = some 101 := rr_lk hR rfl; have r76_41 : R 76 41 = some 102 := rr_lk hR rfl; have r76_42 : R 76 42 = some 103 := rr_lk hR rfl; have r76_47 : R 76 47 = some 104 := rr_lk hR rfl; have r76_53 : R 76 53 = some 105 := rr_lk hR rfl; have r76_54 : R 76 54 = some 106 := rr_lk hR rfl; have r76_55 : R 76 55 = some 107 := rr_lk hR rfl; have r76_56 : R 76 56 = some 108 := rr_lk hR rfl; have r76_57 : R 76 57 = some 109 := rr_lk hR rfl; have s90 : (SH L)[90]? = some (20, 8) := rfl; have s91 : (SH L)[91]? = some (20, 8) := rfl; have s92 : (SH L)[92]? = some (20, 8) := rfl
  simp (disch := first | assumption | omega | exact bi_lo | exact bi_hi | exact bi_01 | exact jcmp_lo | exact jcmp_hi | exact (jor_r _ _).1 | exact (jor_r _ _).2 | exact (jand_r _ _).1 | exact (jand_r _ _).2) only [x148_0, x148_1, x148_4, x148_5, x148_8, x148_9, x148_10, x148_11, x148_14, x148_15, x148_18, x148_19, x148_20, x148_21, x148_24, x148_25, x148_28, x148_29, x148_30, x148_31, x148_32, x148_35, x148_36, x148_37, x148_40, kb_some, kb_none, clr_vi, clr_ref, clr_null, clr_none, va_rf_some, va_rf_none, ↓bi_ite_t, ↓bi_ite_f, ↓jc_lt_t, ↓jc_lt_f, ↓jc_gt_t, ↓jc_gt_f, ↓jc_le_t, ↓jc_le_f, ↓jc_ge_t, ↓jc_ge_f, ↓jc_eq_t, ↓jc_eq_f, ↓if_pos, ↓if_neg, up_s, up_a, up_j]
  rfl
theorem m_wrongAt {t : Int} (h : wfR R) (h1 : 0 ≤ J 76 1 ∧ J 76 1 ≤ 120) (hx : -2147483648 ≤ x ∧ x ≤ 2147483647) (ht : t = 0 ∨ t = 1) : EE d 149 0 [some (.ref 76), some (vi x), some (vi t), some (vi y)] [] (SH L) J K R = ok (some (vi (if J 76 1 ≤ x then 3 else if t = 0 then y else 0))) (SH L) J K R := by
  have s76 : (SH L)[76]? = some (11, 58) := rfl
  by_cases c1 : J 76 1 ≤ x
  · rw [if_pos c1]
    simp (disch := first | assumption | omega | exact bi_lo | exact bi_hi | exact bi_01 | exact jcmp_lo | exact jcmp_hi | exact (jor_r _ _).1 | exact (jor_r _ _).2 | exact (jand_r _ _).1 | exact (jand_r _ _).2) only [x149_0, x149_1, x149_2, x149_5, x149_8, x149_9, x149_12, x149_13, x149_16, x149_17, x149_20, x149_21, kb_some, kb_none, clr_vi, clr_ref, clr_null, clr_none, va_rf_some, va_rf_none, ↓bi_ite_t, ↓bi_ite_f, ↓jc_lt_t, ↓jc_lt_f, ↓jc_gt_t, ↓jc_gt_f, ↓jc_le_t, ↓jc_le_f, ↓jc_ge_t, ↓jc_ge_f, ↓jc_eq_t, ↓jc_eq_f, ↓if_pos, ↓if_neg]
  · rw [if_neg c1]
    rcases ht with rfl | rfl
    · simp (disch := first | assumption | omega | exact bi_lo | exact bi_hi | exact bi_01 | exact jcmp_lo | exact jcmp_hi | exact (jor_r _ _).1 | exact (jor_r _ _).2 | exact (jand_r _ _).1 | exact (jand_r _ _).2) only [x149_0, x149_1, x149_2, x149_5, x149_8, x149_9, x149_12, x149_13, x149_16, x149_17, x149_20, x149_21, kb_some, kb_none, clr_vi, clr_ref, clr_null, clr_none, va_rf_some, va_rf_none, ↓bi_ite_t, ↓bi_ite_f, ↓jc_lt_t, ↓jc_lt_f, ↓jc_gt_t, ↓jc_gt_f, ↓jc_le_t, ↓jc_le_f, ↓jc_ge_t, ↓jc_ge_f, ↓jc_eq_t, ↓jc_eq_f, ↓if_pos, ↓if_neg]
    · simp (disch := first | assumption | omega | exact bi_lo | exact bi_hi | exact bi_01 | exact jcmp_lo | exact jcmp_hi | exact (jor_r _ _).1 | exact (jor_r _ _).2 | exact (jand_r _ _).1 | exact (jand_r _ _).2) only [x149_0, x149_1, x149_2, x149_5, x149_8, x149_9, x149_12, x149_13, x149_16, x149_17, x149_20, x149_21, kb_some, kb_none, clr_vi, clr_ref, clr_null, clr_none, va_rf_some, va_rf_none, ↓bi_ite_t, ↓bi_ite_f, ↓jc_lt_t, ↓jc_lt_f, ↓jc_gt_t, ↓jc_gt_f, ↓jc_le_t, ↓jc_le_f, ↓jc_ge_t, ↓jc_ge_f, ↓jc_eq_t, ↓jc_eq_f, ↓if_pos, ↓if_neg]
theorem m_faultsAt (hR : wfR R) (h1 : 0 ≤ J 76 1 ∧ J 76 1 ≤ 120) (hs : 0 ≤ J 76 23 ∧ J 76 23 < 8) (hx : 0 ≤ x ∧ x ≤ 2147483647) (hy : 0 ≤ y ∧ y ≤ 100) : EE (d + 1) 150 0 [some (.ref 76), some (vi y), some (vi x)] [] (SH L) J K R = ok (some (vi (bi (0 < y)))) (SH L) (if 0 < y then fa J y 0 (if x < J 76 1 then x else J 76 1) else J) K R := by
  have s76 : (SH L)[76]? = some (11, 58) := rfl
  have hf := fun w l p => m_faults (L := L) (d := d) (J := J) (K := K) (R := R) (w := w) (l := l) (p := p) hR hs
  by_cases c1 : 0 < y
  · rw [if_pos c1, bi_t c1]
    by_cases c2 : x < J 76 1
    · rw [if_pos c2]
      simp (disch := first | assumption | omega | exact bi_lo | exact bi_hi | exact bi_01 | exact jcmp_lo | exact jcmp_hi | exact (jor_r _ _).1 | exact (jor_r _ _).2 | exact (jand_r _ _).1 | exact (jand_r _ _).2) only [x150_0, x150_1, x150_4, x150_5, x150_6, x150_7, x150_8, x150_9, x150_12, x150_15, x150_16, x150_19, x150_20, x150_23, x150_26, x150_27, x150_30, x150_31, x150_34, x150_35, kb_some, kb_none, clr_vi, clr_ref, clr_null, clr_none, va_rf_some, va_rf_none, ↓bi_ite_t, ↓bi_ite_f, ↓jc_lt_t, ↓jc_lt_f, ↓jc_gt_t, ↓jc_gt_f, ↓jc_le_t, ↓jc_le_f, ↓jc_ge_t, ↓jc_ge_f, ↓jc_eq_t, ↓jc_eq_f, ↓if_pos, ↓if_neg, hf]
    · rw [if_neg c2]
      simp (disch := first | assumption | omega | exact bi_lo | exact bi_hi | exact bi_01 | exact jcmp_lo | exact jcmp_hi | exact (jor_r _ _).1 | exact (jor_r _ _).2 | exact (jand_r _ _).1 | exact (jand_r _ _).2) only [x150_0, x150_1, x150_4, x150_5, x150_6, x150_7, x150_8, x150_9, x150_12, x150_15, x150_16, x150_19, x150_20, x150_23, x150_26, x150_27, x150_30, x150_31, x150_34, x150_35, kb_some, kb_none, clr_vi, clr_ref, clr_null, clr_none, va_rf_some, va_rf_none, ↓bi_ite_t, ↓bi_ite_f, ↓jc_lt_t, ↓jc_lt_f, ↓jc_gt_t, ↓jc_gt_f, ↓jc_le_t, ↓jc_le_f, ↓jc_ge_t, ↓jc_ge_f, ↓jc_eq_t, ↓jc_eq_f, ↓if_pos, ↓if_neg, hf]
  · rw [if_neg c1, bi_f c1]
    simp (disch := first | assumption | omega | exact bi_lo | exact bi_hi | exact bi_01 | exact jcmp_lo | exact jcmp_hi | exact (jor_r _ _).1 | exact (jor_r _ _).2 | exact (jand_r _ _).1 | exact (jand_r _ _).2) only [x150_0, x150_1, x150_4, x150_5, x150_6, x150_7, x150_8, x150_9, x150_12, x150_15, x150_16, x150_19, x150_20, x150_23, x150_26, x150_27, x150_30, x150_31, x150_34, x150_35, kb_some, kb_none, clr_vi, clr_ref, clr_null, clr_none, va_rf_some, va_rf_none, ↓bi_ite_t, ↓bi_ite_f, ↓jc_lt_t, ↓jc_lt_f, ↓jc_gt_t, ↓jc_gt_f, ↓jc_le_t, ↓jc_le_f, ↓jc_ge_t, ↓jc_ge_f, ↓jc_eq_t, ↓jc_eq_f, ↓if_pos, ↓if_neg]
end
