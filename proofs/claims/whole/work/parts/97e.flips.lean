/-! the calls, one by one: flips, odds -/
theorem jxor_byte {w m : Int} (hw : 0 ≤ w ∧ w ≤ 255) (hm : 0 ≤ m ∧ m ≤ 255) : 0 ≤ jxor w m ∧ jxor w m ≤ 255 := by
  have h1 : ((iI w).toBitVec ^^^ (iI m).toBitVec).toNat < 2 ^ 8 := by
    show ((BitVec.ofInt 32 w) ^^^ (BitVec.ofInt 32 m)).toNat < 2 ^ 8
    rw [BitVec.toNat_xor, BitVec.toNat_ofInt, BitVec.toNat_ofInt]
    refine Nat.xor_lt_two_pow ?_ ?_ <;> omega
  have h2 : jxor w m = ((iI w).toBitVec ^^^ (iI m).toBitVec).toInt := rfl
  have h3 : ((iI w).toBitVec ^^^ (iI m).toBitVec).toInt = (((iI w).toBitVec ^^^ (iI m).toBitVec).toNat : Int) := BitVec.toInt_eq_toNat_of_lt (by omega)
  rw [h2, h3]
  omega
theorem jxor_2 {w m : Int} (hw : -2147483648 ≤ w ∧ w ≤ 2147483647) : jxor (jxor w m) m = w := by
  have e : jxor (jxor w m) m = (iI w ^^^ iI m ^^^ iI m).toInt := by
    show (iI (iI w ^^^ iI m).toInt ^^^ iI m).toInt = _
    rw [show iI (iI w ^^^ iI m).toInt = iI w ^^^ iI m from Int32.ofInt_toInt _]
  rw [e, Int32.xor_assoc, Int32.xor_self, Int32.xor_zero]
  exact iI_toInt hw.1 hw.2
theorem jshl_b {b : Int} (h : 0 ≤ b ∧ b < 8) : 0 ≤ jshl 1 b ∧ jshl 1 b ≤ 255 := by
  have h8 : b = 0 ∨ b = 1 ∨ b = 2 ∨ b = 3 ∨ b = 4 ∨ b = 5 ∨ b = 6 ∨ b = 7 := by omega
  rcases h8 with c | c | c | c | c | c | c | c <;> subst c <;> decide
/-- how many of a byte's flips are found; of all -/
def flB (f : Int → Int) (n p w : Int) : Nat → Int → Int → Int
  | 0, _, c => c
  | i + 1, b, c => flB f n p w i (b + 1) (if okW (pt f p (jxor w (jshl 1 b))) n = 1 then c else c + 1)
def flA (f : Int → Int) (n : Int) : Nat → Nat → Int → Int
  | 0, _, c => c
  | i + 1, k, c => flA f n i (k + 1) (flB f n k (f k) 8 0 c)
theorem flB_r {f : Int → Int} {n p w : Int} : ∀ (i : Nat) (b c : Int), c ≤ flB f n p w i b c ∧ flB f n p w i b c ≤ c + i := by
  intro i
  induction i with
  | zero => intro b c; exact ⟨Int.le_refl _, by show c ≤ c + ((0 : Nat) : Int); omega⟩
  | succ i ih =>
    intro b c
    unfold flB
    split
    · have := ih (b + 1) c; omega
    · have := ih (b + 1) (c + 1); omega
theorem flA_r {f : Int → Int} {n : Int} : ∀ (i k : Nat) (c : Int), c ≤ flA f n i k c ∧ flA f n i k c ≤ c + 8 * i := by
  intro i
  induction i with
  | zero => intro k c; exact ⟨Int.le_refl _, by show c ≤ c + 8 * ((0 : Nat) : Int); omega⟩
  | succ i ih =>
    intro k c
    unfold flA
    have h1 := flB_r (f := f) (n := n) (p := k) (w := f k) 8 0 c
    have h2 := ih (k + 1) (flB f n k (f k) 8 0 c)
    omega
section
variable {L d : Nat} {J J' J1 J2 K K' : mJ} {R R1 R' : mm_R} {x y z v w n : Int} {f : Int → Int}
/-- what a trial leaves -/
def TF (J J1 : mJ) : Prop := (∀ a, a < 29 ∨ 43 < a → J1 a = J a) ∧ RS J1 ∧ (0 ≤ J1 29 1 ∧ J1 29 1 ≤ 120) ∧ ∀ j : Nat, j < 120 → 0 ≤ J1 30 j ∧ J1 30 j ≤ 255
theorem TF_IX (h : INV J K R) (hT : TF J J1) : IX J1 := by
  obtain ⟨o1, t1, t2, t3⟩ := hT
  obtain ⟨x1, x2, x3, x4, x5, x6⟩ := h.2.2.2.2.2.1
  refine ⟨t1, ?_, ?_, ?_, ?_, t2, t3⟩
  · rw [o1 47 (by decide)]; exact x2
  · rw [o1 53 (by decide)]; exact x3
  · rw [o1 58 (by decide)]; exact x4
  · rw [o1 61 (by decide)]; exact x5
theorem TF_INV (h : INV J K R) (hR' : wfR R') (hT : TF J J1) (h2 : frm SC J1 J2) : INV J2 K R' := INV_G h hR' (TF_IX h hT) (fun a ha => hT.1 a (by omega)) h2
/-- the trial while it goes on -/
def TRB (n : Int) (J : mJ) (R : mm_R) : Prop := wfR R ∧ RS J ∧ J 29 1 = n ∧ ∀ j : Nat, j < 120 → 0 ≤ J 30 j ∧ J 30 j ≤ 255
theorem RS_30 {g : Nat → Int} (h : RS J) (h1 : ∀ a, a ≠ 30 → J1 a = J a) : RS J1 := by
  unfold RS at h ⊢
  rw [h1 32 (by decide), h1 36 (by decide), h1 42 (by decide)]
  exact h
/-- a byte is put otherwise and all is read -/
theorem c_try {e1 : Nat} (h : TRB n J R) (hx : 0 ≤ x ∧ x < n) (hn : n ≤ 120) (hv : 0 ≤ v ∧ v ≤ 255) (hf : ∀ q, q ≠ x → bA J 29 30 q = f q) : ∃ J1 R1, EE (e1 + 11) 17 0 [some (.ref 31), some (.ref 29), none] [] (SH L) (mm_up J 30 x.toNat v) K R = ok (some (vi (okW (pt f x v) n))) (SH L) J1 K R1 ∧ TRB n J1 R1 ∧ (∀ q, q ≠ x → bA J1 29 30 q = f q) ∧ (∀ a, a < 30 ∨ 43 < a → J1 a = J a) ∧ J1 30 = mm_up J 30 x.toNat v 30 := by
  obtain ⟨hR, hS, h29, h30⟩ := h
  have h30' : ∀ j : Nat, j < 120 → 0 ≤ mm_up J 30 x.toNat v 30 j ∧ mm_up J 30 x.toNat v 30 j ≤ 255 := fun j hj => by
    by_cases c : j = x.toNat
    · subst c; rw [up_s]; omega
    · rw [up_j c]; exact h30 j hj
  have e29 : mm_up J 30 x.toNat v 29 1 = n := by rw [up_ne (by decide)]; exact h29
  have hRS : RS (mm_up J 30 x.toNat v) := RS_30 (g := J 30) hS (fun a ha => up_ne ha)
  obtain ⟨J1, R1, b1, b2, b3, b4⟩ := c_ok (L := L) (e1 := e1) (K := K) (RB_30 (L := L) hR (by rw [e29]; omega) h30' (bA_pt (v := v) (by omega) hf)) hRS
  rw [e29] at b1
  have f30 : J1 30 = mm_up J 30 x.toNat v 30 := b3 30 (by decide)
  have f29 : J1 29 = J 29 := by rw [b3 29 (by decide), up_ne (by decide)]
  refine ⟨J1, R1, b1, ⟨b2, b4, by rw [f29]; exact h29, fun j hj => by rw [f30]; exact h30' j hj⟩, fun q hq => ?_, fun a ha => ?_, f30⟩
  · rw [← hf q hq]
    unfold bA
    rw [f29, f30]
    by_cases c : 0 ≤ q ∧ q < J 29 1
    · rw [if_pos c, if_pos c, up_j (by omega)]
    · rw [if_neg c, if_neg c]
  · rw [b3 a (by omega), up_ne (by omega)]
theorem l_fl1 (hx : 0 ≤ x ∧ x < n) (hn : n ≤ 120) (hw : 0 ≤ w ∧ w ≤ 255) : ∀ (i b : Nat) (J : mJ) (R : mm_R) (c : Int), i + b = 8 → TRB n J R → (∀ q, q ≠ x → bA J 29 30 q = f q) → (0 ≤ c ∧ c ≤ 1000 + b) →
    ∃ J' R', EE (d + 12) 111 41 [some (.ref 2), some (vi c), some (vi x), some (vi w), some (vi b)] [] (SH L) J K R = EE (d + 12) 111 85 [some (.ref 2), some (vi (flB f n x w i b c)), some (vi x), some (vi w), some (vi 8)] [] (SH L) J' K R' ∧ TRB n J' R' ∧ (∀ q, q ≠ x → bA J' 29 30 q = f q) ∧ (∀ a, a < 30 ∨ 43 < a → J' a = J a) ∧ ∀ j, j ≠ x.toNat → J' 30 j = J 30 j := by
  intro i
  induction i with
  | zero =>
    intro b J R c hb hT hf hc
    refine ⟨J, R, ?_, hT, hf, fun a ha => rfl, fun j hj => rfl⟩
    have e : (b : Int) = 8 := by omega
    rw [e, show flB f n x w 0 8 c = c from rfl]
    simp (disch := first | assumption | omega | exact bi_lo | exact bi_hi | exact bi_01 | exact jcmp_lo | exact jcmp_hi | exact (jor_r _ _).1 | exact (jor_r _ _).2 | exact (jand_r _ _).1 | exact (jand_r _ _).2) only [x111_41, x111_43, x111_45, kb_some, kb_none, clr_vi, clr_ref, clr_null, clr_none, va_rf_some, va_rf_none, ↓bi_ite_t, ↓bi_ite_f, ↓jc_lt_t, ↓jc_lt_f, ↓jc_gt_t, ↓jc_gt_f, ↓jc_le_t, ↓jc_le_f, ↓jc_ge_t, ↓jc_ge_f, ↓jc_eq_t, ↓jc_eq_f, ↓if_pos, ↓if_neg]
  | succ i ih =>
    intro b J R c hb hT hf hc
    have hR := hT.1
    have s2 : (SH L)[2]? = some (10, 10) := rfl; have r2_0 : R 2 0 = some 3 := rr_lk hR rfl; have r2_1 : R 2 1 = some 15 := rr_lk hR rfl; have r2_3 : R 2 3 = some 27 := rr_lk hR rfl; have r2_4 : R 2 4 = some 29 := rr_lk hR rfl; have r2_5 : R 2 5 = some 31 := rr_lk hR rfl; have r2_6 : R 2 6 = some 46 := rr_lk hR rfl; have r2_7 : R 2 7 = some 57 := rr_lk hR rfl; have r2_8 : R 2 8 = some 60 := rr_lk hR rfl; have r2_9 : R 2 9 = some 63 := rr_lk hR rfl; have s29 : (SH L)[29]? = some (0, 2) := rfl; have r29_0 : R 29 0 = some 30 := rr_lk hR rfl; have s31 : (SH L)[31]? = some (2, 5) := rfl; have r31_0 : R 31 0 = some 32 := rr_lk hR rfl; have r31_1 : R 31 1 = some 36 := rr_lk hR rfl
    have hB : isB (SH L) R 29 30 120 := ⟨rfl, rr_lk hR rfl, rfl, by decide, by decide, by decide⟩
    have hm := jshl_b (b := (b : Int)) (by omega)
    have hv := jxor_byte hw hm
    have hrp := fun d => c_replace (d := d) (J := J) (K := K) (y := jxor w (jshl 1 b)) hB (x := x) (by rw [hT.2.2.1]; exact hx) (by rw [hT.2.2.1]; omega)
    obtain ⟨J1, R1, b1, b2, b3, b4, b5⟩ := c_try (L := L) (e1 := d) (K := K) hT hx hn hv hf
    rw [show flB f n x w (i + 1) b c = flB f n x w i ((b : Int) + 1) (if okW (pt f x (jxor w (jshl 1 b))) n = 1 then c else c + 1) from rfl]
    obtain ⟨J', R', c1, c2, c3, c4, c5⟩ := ih (b + 1) J1 R1 (if okW (pt f x (jxor w (jshl 1 b))) n = 1 then c else c + 1) (by omega) b2 b3 (by split <;> omega)
    rw [Int.natCast_succ] at c1
    refine ⟨J', R', ?_, c2, c3, fun a ha => by rw [c4 a ha, b4 a ha], fun j hj => by rw [c5 j hj, b5, up_j hj]⟩
    rw [← c1]
    rcases okW_01 (f := pt f x (jxor w (jshl 1 b))) (n := n) with q | q
    · rw [q] at b1
      rw [q, if_neg (by omega)]
      have go : ∀ X, EE (d + 12) 111 41 [some (.ref 2), some (vi (c + 1)), some (vi x), some (vi w), some (vi ((b : Int) + 1))] [] (SH L) J1 K R1 = X → EE (d + 12) 111 41 [some (.ref 2), some (vi c), some (vi x), some (vi w), some (vi b)] [] (SH L) J K R = X := by
        intro X hX
        simp (disch := first | assumption | omega | exact bi_lo | exact bi_hi | exact bi_01 | exact jcmp_lo | exact jcmp_hi | exact (jor_r _ _).1 | exact (jor_r _ _).2 | exact (jand_r _ _).1 | exact (jand_r _ _).2) only [x111_41, x111_43, x111_45, kb_some, kb_none, clr_vi, clr_ref, clr_null, clr_none, va_rf_some, va_rf_none, ↓bi_ite_t, ↓bi_ite_f, ↓jc_lt_t, ↓jc_lt_f, ↓jc_gt_t, ↓jc_gt_f, ↓jc_le_t, ↓jc_le_f, ↓jc_ge_t, ↓jc_ge_f, ↓jc_eq_t, ↓jc_eq_f, ↓if_pos, ↓if_neg]
        simp (disch := first | assumption | omega | exact bi_lo | exact bi_hi | exact bi_01 | exact jcmp_lo | exact jcmp_hi | exact (jor_r _ _).1 | exact (jor_r _ _).2 | exact (jand_r _ _).1 | exact (jand_r _ _).2) only [x111_48, x111_49, x111_52, x111_53, x111_54, x111_55, x111_57, x111_58, x111_59, x111_62, x111_63, x111_66, x111_67, x111_70, x111_73, x111_76, x111_79, x111_82, kb_some, kb_none, clr_vi, clr_ref, clr_null, clr_none, va_rf_some, va_rf_none, ↓bi_ite_t, ↓bi_ite_f, ↓jc_lt_t, ↓jc_lt_f, ↓jc_gt_t, ↓jc_gt_f, ↓jc_le_t, ↓jc_le_f, ↓jc_ge_t, ↓jc_ge_f, ↓jc_eq_t, ↓jc_eq_f, ↓if_pos, ↓if_neg, hrp, b1]
        exact hX
      exact go _ rfl
    · rw [q] at b1
      rw [q, if_pos rfl]
      have go : ∀ X, EE (d + 12) 111 41 [some (.ref 2), some (vi c), some (vi x), some (vi w), some (vi ((b : Int) + 1))] [] (SH L) J1 K R1 = X → EE (d + 12) 111 41 [some (.ref 2), some (vi c), some (vi x), some (vi w), some (vi b)] [] (SH L) J K R = X := by
        intro X hX
        simp (disch := first | assumption | omega | exact bi_lo | exact bi_hi | exact bi_01 | exact jcmp_lo | exact jcmp_hi | exact (jor_r _ _).1 | exact (jor_r _ _).2 | exact (jand_r _ _).1 | exact (jand_r _ _).2) only [x111_41, x111_43, x111_45, kb_some, kb_none, clr_vi, clr_ref, clr_null, clr_none, va_rf_some, va_rf_none, ↓bi_ite_t, ↓bi_ite_f, ↓jc_lt_t, ↓jc_lt_f, ↓jc_gt_t, ↓jc_gt_f, ↓jc_le_t, ↓jc_le_f, ↓jc_ge_t, ↓jc_ge_f, ↓jc_eq_t, ↓jc_eq_f, ↓if_pos, ↓if_neg]
        simp (disch := first | assumption | omega | exact bi_lo | exact bi_hi | exact bi_01 | exact jcmp_lo | exact jcmp_hi | exact (jor_r _ _).1 | exact (jor_r _ _).2 | exact (jand_r _ _).1 | exact (jand_r _ _).2) only [x111_48, x111_49, x111_52, x111_53, x111_54, x111_55, x111_57, x111_58, x111_59, x111_62, x111_63, x111_66, x111_67, x111_70, x111_73, x111_76, x111_79, x111_82, kb_some, kb_none, clr_vi, clr_ref, clr_null, clr_none, va_rf_some, va_rf_none, ↓bi_ite_t, ↓bi_ite_f, ↓jc_lt_t, ↓jc_lt_f, ↓jc_gt_t, ↓jc_gt_f, ↓jc_le_t, ↓jc_le_f, ↓jc_ge_t, ↓jc_ge_f, ↓jc_eq_t, ↓jc_eq_f, ↓if_pos, ↓if_neg, hrp, b1]
        exact hX
      exact go _ rfl
theorem l_fl2 (hn : 0 ≤ n ∧ n ≤ 120) : ∀ (i k : Nat) (J : mJ) (R : mm_R) (c : Int) (l3 l4 : Option Value), (i + k : Nat) = n → TRB n J R → bA J 29 30 = f → (0 ≤ c ∧ c ≤ 8 * k) →
    ∃ J' R', EE (d + 12) 111 18 [some (.ref 2), some (vi c), some (vi k), l3, l4] [] (SH L) J K R = ok (some (vi (flA f n i k c))) (SH L) J' K R' ∧ TRB n J' R' ∧ (∀ a, a < 30 ∨ 43 < a → J' a = J a) := by
  intro i
  induction i with
  | zero =>
    intro k J R c l3 l4 hk hT hf hc
    have hR := hT.1
    have s2 : (SH L)[2]? = some (10, 10) := rfl; have r2_0 : R 2 0 = some 3 := rr_lk hR rfl; have r2_1 : R 2 1 = some 15 := rr_lk hR rfl; have r2_3 : R 2 3 = some 27 := rr_lk hR rfl; have r2_4 : R 2 4 = some 29 := rr_lk hR rfl; have r2_5 : R 2 5 = some 31 := rr_lk hR rfl; have r2_6 : R 2 6 = some 46 := rr_lk hR rfl; have r2_7 : R 2 7 = some 57 := rr_lk hR rfl; have r2_8 : R 2 8 = some 60 := rr_lk hR rfl; have r2_9 : R 2 9 = some 63 := rr_lk hR rfl; have s29 : (SH L)[29]? = some (0, 2) := rfl; have r29_0 : R 29 0 = some 30 := rr_lk hR rfl
    have hB : isB (SH L) R 29 30 120 := ⟨rfl, rr_lk hR rfl, rfl, by decide, by decide, by decide⟩
    have hs := fun d => c_size (d := d) (J := J) (K := K) hB
    rw [hT.2.2.1] at hs
    refine ⟨J, R, ?_, hT, fun a ha => rfl⟩
    rw [show flA f n 0 k c = c from rfl]
    simp (disch := first | assumption | omega | exact bi_lo | exact bi_hi | exact bi_01 | exact jcmp_lo | exact jcmp_hi | exact (jor_r _ _).1 | exact (jor_r _ _).2 | exact (jand_r _ _).1 | exact (jand_r _ _).2) only [x111_18, x111_19, x111_20, x111_23, x111_26, x111_100, x111_101, kb_some, kb_none, clr_vi, clr_ref, clr_null, clr_none, va_rf_some, va_rf_none, ↓bi_ite_t, ↓bi_ite_f, ↓jc_lt_t, ↓jc_lt_f, ↓jc_gt_t, ↓jc_gt_f, ↓jc_le_t, ↓jc_le_f, ↓jc_ge_t, ↓jc_ge_f, ↓jc_eq_t, ↓jc_eq_f, ↓if_pos, ↓if_neg, hs]
  | succ i ih =>
    intro k J R c l3 l4 hk hT hf hc
    have hR := hT.1
    have s2 : (SH L)[2]? = some (10, 10) := rfl; have r2_0 : R 2 0 = some 3 := rr_lk hR rfl; have r2_1 : R 2 1 = some 15 := rr_lk hR rfl; have r2_3 : R 2 3 = some 27 := rr_lk hR rfl; have r2_4 : R 2 4 = some 29 := rr_lk hR rfl; have r2_5 : R 2 5 = some 31 := rr_lk hR rfl; have r2_6 : R 2 6 = some 46 := rr_lk hR rfl; have r2_7 : R 2 7 = some 57 := rr_lk hR rfl; have r2_8 : R 2 8 = some 60 := rr_lk hR rfl; have r2_9 : R 2 9 = some 63 := rr_lk hR rfl; have s29 : (SH L)[29]? = some (0, 2) := rfl; have r29_0 : R 29 0 = some 30 := rr_lk hR rfl
    have hB : isB (SH L) R 29 30 120 := ⟨rfl, rr_lk hR rfl, rfl, by decide, by decide, by decide⟩
    have hs := fun d => c_size (d := d) (J := J) (K := K) hB
    rw [hT.2.2.1] at hs
    have hby := fun d => c_at (d := d) (J := J) (K := K) (x := (k : Int)) hB (by omega) (by rw [hT.2.2.1]; exact hn)
    rw [hf] at hby
    have hfk : f k = J 30 k := by
      rw [← hf]; unfold bA
      rw [hT.2.2.1, if_pos (by omega), Int.toNat_natCast]
    have hw := hT.2.2.2 k (by omega)
    rw [← hfk] at hw
    obtain ⟨J1, R1, b1, b2, b3, b4, b5⟩ := l_fl1 (L := L) (d := d) (K := K) (f := f) (x := (k : Int)) (w := f k) (n := n) (by omega) hn.2 hw 8 0 J R c rfl hT (fun q _ => by rw [hf]) (by omega)
    rw [show ((0 : Nat) : Int) = 0 from rfl] at b1
    have hR1 := b2.1
    have hcr := flB_r (f := f) (n := n) (p := k) (w := f k) 8 0 c
    rw [show flA f n (i + 1) k c = flA f n i (k + 1) (flB f n k (f k) 8 0 c) from rfl]
    generalize flB f n k (f k) 8 0 c = c' at *
    have hB1 : isB (SH L) R1 29 30 120 := ⟨rfl, rr_lk hR1 rfl, rfl, by decide, by decide, by decide⟩
    have hrp := fun d => c_replace (d := d) (J := J1) (K := K) (y := f k) hB1 (x := (k : Int)) (by rw [b2.2.2.1]; omega) (by rw [b2.2.2.1]; omega)
    rw [Int.toNat_natCast] at b5
    simp only [Int.toNat_natCast] at hrp
    have e30 : mm_up J1 30 k (f k) 30 = J 30 := by
      funext j
      by_cases cj : j = k
      · subst cj; rw [up_s, hfk]
      · rw [up_j cj, b5 j cj]
    obtain ⟨J', R', c1, c2, c3⟩ := ih (k + 1) (mm_up J1 30 k (f k)) R1 c' (some (vi (f k))) (some (vi 8)) (by omega) ⟨hR1, RS_30 (g := J 30) b2.2.1 (fun a ha => up_ne ha), by rw [up_ne (by decide)]; exact b2.2.2.1, fun j hj => by rw [e30]; exact hT.2.2.2 j hj⟩ (by
      have e : bA (mm_up J1 30 k (f k)) 29 30 = bA J 29 30 := by
        funext q
        unfold bA
        rw [e30, up_ne (show (29 : Nat) ≠ 30 by decide), b2.2.2.1, hT.2.2.1]
      exact e.trans hf) (by omega)
    rw [Int.natCast_succ] at c1
    refine ⟨J', R', ?_, c2, fun a ha => by rw [c3 a ha, up_ne (by omega), b4 a ha]⟩
    rw [← c1]
    have go : ∀ X, EE (d + 12) 111 18 [some (.ref 2), some (vi c'), some (vi ((k : Int) + 1)), some (vi (f k)), some (vi 8)] [] (SH L) (mm_up J1 30 k (f k)) K R1 = X → EE (d + 12) 111 18 [some (.ref 2), some (vi c), some (vi k), l3, l4] [] (SH L) J K R = X := by
      intro X hX
      simp (disch := first | assumption | omega | exact bi_lo | exact bi_hi | exact bi_01 | exact jcmp_lo | exact jcmp_hi | exact (jor_r _ _).1 | exact (jor_r _ _).2 | exact (jand_r _ _).1 | exact (jand_r _ _).2) only [x111_18, x111_19, x111_20, x111_23, x111_26, kb_some, kb_none, clr_vi, clr_ref, clr_null, clr_none, va_rf_some, va_rf_none, ↓bi_ite_t, ↓bi_ite_f, ↓jc_lt_t, ↓jc_lt_f, ↓jc_gt_t, ↓jc_gt_f, ↓jc_le_t, ↓jc_le_f, ↓jc_ge_t, ↓jc_ge_f, ↓jc_eq_t, ↓jc_eq_f, ↓if_pos, ↓if_neg, hs]
      simp (disch := first | assumption | omega | exact bi_lo | exact bi_hi | exact bi_01 | exact jcmp_lo | exact jcmp_hi | exact (jor_r _ _).1 | exact (jor_r _ _).2 | exact (jand_r _ _).1 | exact (jand_r _ _).2) only [x111_29, x111_30, x111_33, x111_34, x111_37, x111_38, x111_39, kb_some, kb_none, clr_vi, clr_ref, clr_null, clr_none, va_rf_some, va_rf_none, ↓bi_ite_t, ↓bi_ite_f, ↓jc_lt_t, ↓jc_lt_f, ↓jc_gt_t, ↓jc_gt_f, ↓jc_le_t, ↓jc_le_f, ↓jc_ge_t, ↓jc_ge_f, ↓jc_eq_t, ↓jc_eq_f, ↓if_pos, ↓if_neg, hby]
      rw [b1]
      have hR := hR1
      have s2 : (SH L)[2]? = some (10, 10) := rfl; have r2_0 : R1 2 0 = some 3 := rr_lk hR rfl; have r2_1 : R1 2 1 = some 15 := rr_lk hR rfl; have r2_3 : R1 2 3 = some 27 := rr_lk hR rfl; have r2_4 : R1 2 4 = some 29 := rr_lk hR rfl; have r2_5 : R1 2 5 = some 31 := rr_lk hR rfl; have r2_6 : R1 2 6 = some 46 := rr_lk hR rfl; have r2_7 : R1 2 7 = some 57 := rr_lk hR rfl; have r2_8 : R1 2 8 = some 60 := rr_lk hR rfl; have r2_9 : R1 2 9 = some 63 := rr_lk hR rfl; have s29 : (SH L)[29]? = some (0, 2) := rfl; have r29_0 : R1 29 0 = some 30 := rr_lk hR rfl
      simp (disch := first | assumption | omega | exact bi_lo | exact bi_hi | exact bi_01 | exact jcmp_lo | exact jcmp_hi | exact (jor_r _ _).1 | exact (jor_r _ _).2 | exact (jand_r _ _).1 | exact (jand_r _ _).2) only [x111_85, x111_86, x111_89, x111_90, x111_91, x111_94, x111_97, kb_some, kb_none, clr_vi, clr_ref, clr_null, clr_none, va_rf_some, va_rf_none, ↓bi_ite_t, ↓bi_ite_f, ↓jc_lt_t, ↓jc_lt_f, ↓jc_gt_t, ↓jc_gt_f, ↓jc_le_t, ↓jc_le_f, ↓jc_ge_t, ↓jc_ge_f, ↓jc_eq_t, ↓jc_eq_f, ↓if_pos, ↓if_neg, hrp]
      exact hX
    exact go _ rfl
theorem c_flips (h : INV J K R) : ∃ J1 R1, EE (d + 12) 111 0 [some (.ref 2), none, none, none, none] [] (SH L) J K R = ok (some (vi (flA (mA J) (J 76 1) (J 76 1).toNat 0 0))) (SH L) J1 K R1 ∧ wfR R1 ∧ TF J J1 := by
  have hR := h.1
  have s2 : (SH L)[2]? = some (10, 10) := rfl; have r2_0 : R 2 0 = some 3 := rr_lk hR rfl; have r2_1 : R 2 1 = some 15 := rr_lk hR rfl; have r2_3 : R 2 3 = some 27 := rr_lk hR rfl; have r2_4 : R 2 4 = some 29 := rr_lk hR rfl; have r2_5 : R 2 5 = some 31 := rr_lk hR rfl; have r2_6 : R 2 6 = some 46 := rr_lk hR rfl; have r2_7 : R 2 7 = some 57 := rr_lk hR rfl; have r2_8 : R 2 8 = some 60 := rr_lk hR rfl; have r2_9 : R 2 9 = some 63 := rr_lk hR rfl; have s3 : (SH L)[3]? = some (6, 4) := rfl; have r3_0 : R 3 0 = some 4 := rr_lk hR rfl; have r3_1 : R 3 1 = some 6 := rr_lk hR rfl; have r3_2 : R 3 2 = some 9 := rr_lk hR rfl; have r3_3 : R 3 3 = some 12 := rr_lk hR rfl; have s4 : (SH L)[4]? = some (0, 2) := rfl; have r4_0 : R 4 0 = some 5 := rr_lk hR rfl; have s29 : (SH L)[29]? = some (0, 2) := rfl; have r29_0 : R 29 0 = some 30 := rr_lk hR rfl
  have hct := fun d => c_trial (L := L) (d := d) h
  obtain ⟨t1, t2, t3⟩ := tr_B h
  have hRS : RS (tr J) := by
    have := h.2.2.2.2.2.1.1
    unfold RS at this ⊢
    rw [tr_o (by decide) (by decide), tr_o (by decide) (by decide), tr_o (by decide) (by decide)]
    exact this
  obtain ⟨J1, R1, b1, b2, b3⟩ := l_fl2 (L := L) (d := d) (K := K) (f := mA J) (n := J 76 1) t1.2 (J 76 1).toNat 0 (tr J) R 0 none none (by omega) ⟨hR, hRS, t1.1, t2⟩ t3 (by omega)
  rw [show ((0 : Nat) : Int) = 0 from rfl] at b1
  refine ⟨J1, R1, ?_, b2.1, fun a ha => ?_, b2.2.1, ?_, b2.2.2.2⟩
  · simp (disch := first | assumption | omega | exact bi_lo | exact bi_hi | exact bi_01 | exact jcmp_lo | exact jcmp_hi | exact (jor_r _ _).1 | exact (jor_r _ _).2 | exact (jand_r _ _).1 | exact (jand_r _ _).2) only [x111_0, x111_1, x111_2, x111_3, x111_6, x111_7, x111_10, x111_13, x111_16, x111_17, kb_some, kb_none, clr_vi, clr_ref, clr_null, clr_none, va_rf_some, va_rf_none, ↓bi_ite_t, ↓bi_ite_f, ↓jc_lt_t, ↓jc_lt_f, ↓jc_gt_t, ↓jc_gt_f, ↓jc_le_t, ↓jc_le_f, ↓jc_ge_t, ↓jc_ge_f, ↓jc_eq_t, ↓jc_eq_f, ↓if_pos, ↓if_neg, hct]
    exact b1
  · rw [b3 a (by omega), tr_o (by omega) (by omega)]
  · rw [b2.2.2.1]; exact t1.2
theorem l_fm1 {k : Nat} {w : Int} (hk : (k : Int) < n) (hn : n ≤ 120) : ∀ (i b : Nat) (J : mJ) (c : Int), i + b = 8 → MR f J R → J 76 1 = n → f k = w → (0 ≤ c ∧ c ≤ 1000 + b) →
    ∃ J', EE (d + 6) 213 14 [some (.ref 76), some (vi c), some (vi k), some (vi b)] [] (SH L) J K R = EE (d + 6) 213 65 [some (.ref 76), some (vi (flB f n k w i b c)), some (vi k), some (vi 8)] [] (SH L) J' K R ∧ frm AR J J' := by
  intro i
  induction i with
  | zero =>
    intro b J c hb hM h1 hw hc
    refine ⟨J, ?_, frm_refl⟩
    have e : (b : Int) = 8 := by omega
    rw [e, show flB f n k w 0 8 c = c from rfl]
    simp (disch := first | assumption | omega | exact bi_lo | exact bi_hi | exact bi_01 | exact jcmp_lo | exact jcmp_hi | exact (jor_r _ _).1 | exact (jor_r _ _).2 | exact (jand_r _ _).1 | exact (jand_r _ _).2) only [x213_14, x213_15, x213_17, kb_some, kb_none, clr_vi, clr_ref, clr_null, clr_none, va_rf_some, va_rf_none, ↓bi_ite_t, ↓bi_ite_f, ↓jc_lt_t, ↓jc_lt_f, ↓jc_gt_t, ↓jc_gt_f, ↓jc_le_t, ↓jc_le_f, ↓jc_ge_t, ↓jc_ge_f, ↓jc_eq_t, ↓jc_eq_f, ↓if_pos, ↓if_neg]
  | succ i ih =>
    intro b J c hb hM h1 hw hc
    have hR := hM.1
    have s76 : (SH L)[76]? = some (11, 58) := rfl; have r76_0 : R 76 0 = some 77 := rr_lk hR rfl; have r76_3 : R 76 3 = some 78 := rr_lk hR rfl; have r76_4 : R 76 4 = some 79 := rr_lk hR rfl; have r76_6 : R 76 6 = some 80 := rr_lk hR rfl; have r76_7 : R 76 7 = some 81 := rr_lk hR rfl; have r76_9 : R 76 9 = some 82 := rr_lk hR rfl; have r76_10 : R 76 10 = some 83 := rr_lk hR rfl; have r76_12 : R 76 12 = some 84 := rr_lk hR rfl; have r76_13 : R 76 13 = some 85 := rr_lk hR rfl; have r76_19 : R 76 19 = some 86 := rr_lk hR rfl; have r76_20 : R 76 20 = some 87 := rr_lk hR rfl; have r76_21 : R 76 21 = some 88 := rr_lk hR rfl; have r76_22 : R 76 22 = some 89 := rr_lk hR rfl; have r76_24 : R 76 24 = some 90 := rr_lk hR rfl; have r76_25 : R 76 25 = some 91 := rr_lk hR rfl; have r76_26 : R 76 26 = some 92 := rr_lk hR rfl; have r76_28 : R 76 28 = some 93 := rr_lk hR rfl; have r76_29 : R 76 29 = some 94 := rr_lk hR rfl; have r76_30 : R 76 30 = some 95 := rr_lk hR rfl; have r76_31 : R 76 31 = some 96 := rr_lk hR rfl; have r76_32 : R 76 32 = some 97 := rr_lk hR rfl; have r76_36 : R 76 36 = some 98 := rr_lk hR rfl; have r76_38 : R 76 38 = some 99 := rr_lk hR rfl; have r76_39 : R 76 39 = some 100 := rr_lk hR rfl; have r76_40 : R 76 40 = some 101 := rr_lk hR rfl; have r76_41 : R 76 41 = some 102 := rr_lk hR rfl; have r76_42 : R 76 42 = some 103 := rr_lk hR rfl; have r76_47 : R 76 47 = some 104 := rr_lk hR rfl; have r76_53 : R 76 53 = some 105 := rr_lk hR rfl; have r76_54 : R 76 54 = some 106 := rr_lk hR rfl; have r76_55 : R 76 55 = some 107 := rr_lk hR rfl; have r76_56 : R 76 56 = some 108 := rr_lk hR rfl; have r76_57 : R 76 57 = some 109 := rr_lk hR rfl; have s77 : (SH L)[77]? = some (20, 120) := rfl
    have hm := jshl_b (b := (b : Int)) (by omega)
    have hfk : w = J 77 k := by
      rw [← hw, ← hM.2.2.2]; unfold mA
      rw [h1, if_pos (by omega), Int.toNat_natCast]
    have hwr := hM.2.2.1 k (by omega)
    have hv := jxor_byte hwr hm
    have h77' : ∀ j : Nat, j < 120 → 0 ≤ mm_up J 77 k (jxor (J 77 k) (jshl 1 b)) 77 j ∧ mm_up J 77 k (jxor (J 77 k) (jshl 1 b)) 77 j ≤ 255 := fun j hj => by
      by_cases cj : j = k
      · subst cj; rw [up_s]; exact hv
      · rw [up_j cj]; exact hM.2.2.1 j hj
    have e1 : mm_up J 77 k (jxor (J 77 k) (jshl 1 b)) 76 1 = n := by rw [up_ne (by decide)]; exact h1
    have hpt := mA_pt (J := J) (x := (k : Int)) (v := jxor (J 77 k) (jshl 1 b)) (f := f) (by omega) (fun q _ => by rw [hM.2.2.2])
    rw [Int.toNat_natCast] at hpt
    obtain ⟨J1, b1, b2⟩ := m_ok (L := L) (e2 := d) (K := K) (f := pt f k (jxor (J 77 k) (jshl 1 b))) (J := mm_up J 77 k (jxor (J 77 k) (jshl 1 b))) (R := R) ⟨hR, by rw [e1]; omega, h77', hpt⟩
    rw [e1] at b1
    have f77 : J1 77 = mm_up J 77 k (jxor (J 77 k) (jshl 1 b)) 77 := by funext j; exact b2 77 j (by unfold AR; omega)
    have ek : J1 77 k = jxor (J 77 k) (jshl 1 b) := by rw [f77, up_s]
    have ex : jxor (J1 77 k) (jshl 1 b) = J 77 k := by rw [ek]; exact jxor_2 (by omega)
    have hfr : frm AR J (mm_up J1 77 k (J 77 k)) := fun a j ha => by
      by_cases cj : a = 77 ∧ j = k
      · rw [cj.1, cj.2, up_s]
      · have e2 := b2 a j ha
        have e3 : mm_up J1 77 k (J 77 k) a j = J1 a j := by unfold mm_up; rw [if_neg cj]
        have e4 : mm_up J 77 k (jxor (J 77 k) (jshl 1 b)) a j = J a j := by unfold mm_up; rw [if_neg cj]
        rw [e3, e2, e4]
    have hM' := MR_frm hM hfr
    obtain ⟨J', c1, c2⟩ := ih (b + 1) (mm_up J1 77 k (J 77 k)) (if okW (pt f k (jxor (J 77 k) (jshl 1 b))) n = 1 then c else c + 1) (by omega) hM' (by rw [hfr 76 1 (by decide)]; exact h1) hw (by split <;> omega)
    rw [Int.natCast_succ] at c1
    rw [show flB f n k w (i + 1) b c = flB f n k w i ((b : Int) + 1) (if okW (pt f k (jxor w (jshl 1 b))) n = 1 then c else c + 1) from rfl, hfk]
    rw [hfk] at c1
    refine ⟨J', ?_, frm_trans hfr c2⟩
    rw [← c1]
    rcases okW_01 (f := pt f k (jxor (J 77 k) (jshl 1 b))) (n := n) with q | q
    · rw [q] at b1
      rw [q, if_neg (by omega)]
      have go : ∀ X, EE (d + 6) 213 14 [some (.ref 76), some (vi (c + 1)), some (vi k), some (vi ((b : Int) + 1))] [] (SH L) (mm_up J1 77 k (J 77 k)) K R = X → EE (d + 6) 213 14 [some (.ref 76), some (vi c), some (vi k), some (vi b)] [] (SH L) J K R = X := by
        intro X hX
        simp (disch := first | assumption | omega | exact bi_lo | exact bi_hi | exact bi_01 | exact jcmp_lo | exact jcmp_hi | exact (jor_r _ _).1 | exact (jor_r _ _).2 | exact (jand_r _ _).1 | exact (jand_r _ _).2) only [x213_14, x213_15, x213_17, kb_some, kb_none, clr_vi, clr_ref, clr_null, clr_none, va_rf_some, va_rf_none, ↓bi_ite_t, ↓bi_ite_f, ↓jc_lt_t, ↓jc_lt_f, ↓jc_gt_t, ↓jc_gt_f, ↓jc_le_t, ↓jc_le_f, ↓jc_ge_t, ↓jc_ge_f, ↓jc_eq_t, ↓jc_eq_f, ↓if_pos, ↓if_neg]
        simp (disch := first | assumption | omega | exact bi_lo | exact bi_hi | exact bi_01 | exact jcmp_lo | exact jcmp_hi | exact (jor_r _ _).1 | exact (jor_r _ _).2 | exact (jand_r _ _).1 | exact (jand_r _ _).2) only [x213_20, x213_21, x213_24, x213_25, x213_26, x213_27, x213_28, x213_29, x213_30, x213_31, x213_32, x213_33, x213_34, x213_37, x213_40, x213_41, x213_44, x213_45, x213_46, x213_47, x213_48, x213_51, x213_52, x213_53, x213_54, x213_55, x213_56, x213_57, x213_58, x213_59, x213_62, kb_some, kb_none, clr_vi, clr_ref, clr_null, clr_none, va_rf_some, va_rf_none, ↓bi_ite_t, ↓bi_ite_f, ↓jc_lt_t, ↓jc_lt_f, ↓jc_gt_t, ↓jc_gt_f, ↓jc_le_t, ↓jc_le_f, ↓jc_ge_t, ↓jc_ge_f, ↓jc_eq_t, ↓jc_eq_f, ↓if_pos, ↓if_neg, Int.toNat_natCast, b1, ex]
        exact hX
      exact go _ rfl
    · rw [q] at b1
      rw [q, if_pos rfl]
      have go : ∀ X, EE (d + 6) 213 14 [some (.ref 76), some (vi c), some (vi k), some (vi ((b : Int) + 1))] [] (SH L) (mm_up J1 77 k (J 77 k)) K R = X → EE (d + 6) 213 14 [some (.ref 76), some (vi c), some (vi k), some (vi b)] [] (SH L) J K R = X := by
        intro X hX
        simp (disch := first | assumption | omega | exact bi_lo | exact bi_hi | exact bi_01 | exact jcmp_lo | exact jcmp_hi | exact (jor_r _ _).1 | exact (jor_r _ _).2 | exact (jand_r _ _).1 | exact (jand_r _ _).2) only [x213_14, x213_15, x213_17, kb_some, kb_none, clr_vi, clr_ref, clr_null, clr_none, va_rf_some, va_rf_none, ↓bi_ite_t, ↓bi_ite_f, ↓jc_lt_t, ↓jc_lt_f, ↓jc_gt_t, ↓jc_gt_f, ↓jc_le_t, ↓jc_le_f, ↓jc_ge_t, ↓jc_ge_f, ↓jc_eq_t, ↓jc_eq_f, ↓if_pos, ↓if_neg]
        simp (disch := first | assumption | omega | exact bi_lo | exact bi_hi | exact bi_01 | exact jcmp_lo | exact jcmp_hi | exact (jor_r _ _).1 | exact (jor_r _ _).2 | exact (jand_r _ _).1 | exact (jand_r _ _).2) only [x213_20, x213_21, x213_24, x213_25, x213_26, x213_27, x213_28, x213_29, x213_30, x213_31, x213_32, x213_33, x213_34, x213_37, x213_40, x213_41, x213_44, x213_45, x213_46, x213_47, x213_48, x213_51, x213_52, x213_53, x213_54, x213_55, x213_56, x213_57, x213_58, x213_59, x213_62, kb_some, kb_none, clr_vi, clr_ref, clr_null, clr_none, va_rf_some, va_rf_none, ↓bi_ite_t, ↓bi_ite_f, ↓jc_lt_t, ↓jc_lt_f, ↓jc_gt_t, ↓jc_gt_f, ↓jc_le_t, ↓jc_le_f, ↓jc_ge_t, ↓jc_ge_f, ↓jc_eq_t, ↓jc_eq_f, ↓if_pos, ↓if_neg, Int.toNat_natCast, b1, ex, Int.add_zero]
        exact hX
      exact go _ rfl
theorem l_fm2 (hn : 0 ≤ n ∧ n ≤ 120) : ∀ (i k : Nat) (J : mJ) (c : Int) (l3 : Option Value), (i + k : Nat) = n → MR f J R → J 76 1 = n → (0 ≤ c ∧ c ≤ 8 * k) →
    ∃ J', EE (d + 6) 213 4 [some (.ref 76), some (vi c), some (vi k), l3] [] (SH L) J K R = ok (some (vi (flA f n i k c))) (SH L) J' K R ∧ frm AR J J' := by
  have s76 : (SH L)[76]? = some (11, 58) := rfl
  intro i
  induction i with
  | zero =>
    intro k J c l3 hk hM h1 hc
    refine ⟨J, ?_, frm_refl⟩
    rw [show flA f n 0 k c = c from rfl]
    simp (disch := first | assumption | omega | exact bi_lo | exact bi_hi | exact bi_01 | exact jcmp_lo | exact jcmp_hi | exact (jor_r _ _).1 | exact (jor_r _ _).2 | exact (jand_r _ _).1 | exact (jand_r _ _).2) only [x213_4, x213_5, x213_6, x213_9, x213_71, x213_72, kb_some, kb_none, clr_vi, clr_ref, clr_null, clr_none, va_rf_some, va_rf_none, ↓bi_ite_t, ↓bi_ite_f, ↓jc_lt_t, ↓jc_lt_f, ↓jc_gt_t, ↓jc_gt_f, ↓jc_le_t, ↓jc_le_f, ↓jc_ge_t, ↓jc_ge_f, ↓jc_eq_t, ↓jc_eq_f, ↓if_pos, ↓if_neg, h1]
  | succ i ih =>
    intro k J c l3 hk hM h1 hc
    obtain ⟨J1, b1, b2⟩ := l_fm1 (L := L) (d := d) (K := K) (R := R) (f := f) (n := n) (k := k) (w := f k) (by omega) hn.2 8 0 J c rfl hM h1 rfl (by omega)
    rw [show ((0 : Nat) : Int) = 0 from rfl] at b1
    have hcr := flB_r (f := f) (n := n) (p := k) (w := f k) 8 0 c
    rw [show flA f n (i + 1) k c = flA f n i (k + 1) (flB f n k (f k) 8 0 c) from rfl]
    generalize flB f n k (f k) 8 0 c = c' at *
    obtain ⟨J', c1, c2⟩ := ih (k + 1) J1 c' (some (vi 8)) (by omega) (MR_frm hM b2) (by rw [b2 76 1 (by decide)]; exact h1) (by omega)
    rw [Int.natCast_succ] at c1
    refine ⟨J', ?_, frm_trans b2 c2⟩
    rw [← c1]
    have go : ∀ X, EE (d + 6) 213 4 [some (.ref 76), some (vi c'), some (vi ((k : Int) + 1)), some (vi 8)] [] (SH L) J1 K R = X → EE (d + 6) 213 4 [some (.ref 76), some (vi c), some (vi k), l3] [] (SH L) J K R = X := by
      intro X hX
      simp (disch := first | assumption | omega | exact bi_lo | exact bi_hi | exact bi_01 | exact jcmp_lo | exact jcmp_hi | exact (jor_r _ _).1 | exact (jor_r _ _).2 | exact (jand_r _ _).1 | exact (jand_r _ _).2) only [x213_4, x213_5, x213_6, x213_9, kb_some, kb_none, clr_vi, clr_ref, clr_null, clr_none, va_rf_some, va_rf_none, ↓bi_ite_t, ↓bi_ite_f, ↓jc_lt_t, ↓jc_lt_f, ↓jc_gt_t, ↓jc_gt_f, ↓jc_le_t, ↓jc_le_f, ↓jc_ge_t, ↓jc_ge_f, ↓jc_eq_t, ↓jc_eq_f, ↓if_pos, ↓if_neg, h1]
      simp (disch := first | assumption | omega | exact bi_lo | exact bi_hi | exact bi_01 | exact jcmp_lo | exact jcmp_hi | exact (jor_r _ _).1 | exact (jor_r _ _).2 | exact (jand_r _ _).1 | exact (jand_r _ _).2) only [x213_12, x213_13, kb_some, kb_none, clr_vi, clr_ref, clr_null, clr_none, va_rf_some, va_rf_none, ↓bi_ite_t, ↓bi_ite_f, ↓jc_lt_t, ↓jc_lt_f, ↓jc_gt_t, ↓jc_gt_f, ↓jc_le_t, ↓jc_le_f, ↓jc_ge_t, ↓jc_ge_f, ↓jc_eq_t, ↓jc_eq_f, ↓if_pos, ↓if_neg]
      rw [b1]
      simp (disch := first | assumption | omega | exact bi_lo | exact bi_hi | exact bi_01 | exact jcmp_lo | exact jcmp_hi | exact (jor_r _ _).1 | exact (jor_r _ _).2 | exact (jand_r _ _).1 | exact (jand_r _ _).2) only [x213_65, x213_68, kb_some, kb_none, clr_vi, clr_ref, clr_null, clr_none, va_rf_some, va_rf_none, ↓bi_ite_t, ↓bi_ite_f, ↓jc_lt_t, ↓jc_lt_f, ↓jc_gt_t, ↓jc_gt_f, ↓jc_le_t, ↓jc_le_f, ↓jc_ge_t, ↓jc_ge_f, ↓jc_eq_t, ↓jc_eq_f, ↓if_pos, ↓if_neg]
      exact hX
    exact go _ rfl
theorem m_flips (hM : MR f J R) : ∃ J2, EE (d + 6) 213 0 [some (.ref 76), none, none, none] [] (SH L) J K R = ok (some (vi (flA f (J 76 1) (J 76 1).toNat 0 0))) (SH L) J2 K R ∧ frm AR J J2 := by
  have h1 := hM.2.1
  obtain ⟨J', b1, b2⟩ := l_fm2 (L := L) (d := d) (K := K) (R := R) (f := f) h1 (J 76 1).toNat 0 J 0 none (by omega) hM rfl (by omega)
  rw [show ((0 : Nat) : Int) = 0 from rfl] at b1
  refine ⟨J', ?_, b2⟩
  simp (disch := first | assumption | omega | exact bi_lo | exact bi_hi | exact bi_01 | exact jcmp_lo | exact jcmp_hi | exact (jor_r _ _).1 | exact (jor_r _ _).2 | exact (jand_r _ _).1 | exact (jand_r _ _).2) only [x213_0, x213_1, x213_2, x213_3, kb_some, kb_none, clr_vi, clr_ref, clr_null, clr_none, va_rf_some, va_rf_none, ↓bi_ite_t, ↓bi_ite_f, ↓jc_lt_t, ↓jc_lt_f, ↓jc_gt_t, ↓jc_gt_f, ↓jc_le_t, ↓jc_le_f, ↓jc_ge_t, ↓jc_ge_f, ↓jc_eq_t, ↓jc_eq_f, ↓if_pos, ↓if_neg]
  exact b1
theorem op_flips (h : INV J K R) : OP L d 111 214 [none, none, none, none] [] J K R := by
  obtain ⟨J1, R1, b1, b2, b3⟩ := c_flips (L := L) (d := d + 8) h
  have o1 := b3.1
  have hM := INV_MR (J' := mm_up J1 76 11 0) h b2 (by rw [up_j (by decide), o1 76 (by decide)]) (by rw [up_ne (by decide), o1 77 (by decide)])
  obtain ⟨J2, g1, g2⟩ := m_flips (L := L) (d := d + 13) (K := K) hM
  rw [up_j (by decide), o1 76 (by decide)] at g1
  have s76 : (SH L)[76]? = some (11, 58) := rfl
  refine ⟨_, J1, K, R1, J2, K, R1, b1, ?_, TF_INV h b2 b3 (fun a j ha => (g2 a j (fun q => ha (AR_SC q))).trans (up11_SC a j ha))⟩
  simp (disch := first | assumption | omega | exact bi_lo | exact bi_hi | exact bi_01 | exact jcmp_lo | exact jcmp_hi | exact (jor_r _ _).1 | exact (jor_r _ _).2 | exact (jand_r _ _).1 | exact (jand_r _ _).2) only [x214_0, x214_1, x214_2, x214_5, x214_6, x214_9, kb_some, kb_none, clr_vi, clr_ref, clr_null, clr_none, va_rf_some, va_rf_none, ↓bi_ite_t, ↓bi_ite_f, ↓jc_lt_t, ↓jc_lt_f, ↓jc_gt_t, ↓jc_gt_f, ↓jc_le_t, ↓jc_le_f, ↓jc_ge_t, ↓jc_ge_f, ↓jc_eq_t, ↓jc_eq_f, ↓if_pos, ↓if_neg, g1]
theorem op_odds (h : INV J K R) (hx : -2147483648 ≤ x ∧ x ≤ 2147483647) : OP L d 115 221 [some (vi x), none] [some (vi x)] J K R := by
  have hR := h.1
  have s2 : (SH L)[2]? = some (10, 10) := rfl; have r2_0 : R 2 0 = some 3 := rr_lk hR rfl; have r2_1 : R 2 1 = some 15 := rr_lk hR rfl; have r2_3 : R 2 3 = some 27 := rr_lk hR rfl; have r2_4 : R 2 4 = some 29 := rr_lk hR rfl; have r2_5 : R 2 5 = some 31 := rr_lk hR rfl; have r2_6 : R 2 6 = some 46 := rr_lk hR rfl; have r2_7 : R 2 7 = some 57 := rr_lk hR rfl; have r2_8 : R 2 8 = some 60 := rr_lk hR rfl; have r2_9 : R 2 9 = some 63 := rr_lk hR rfl; have s3 : (SH L)[3]? = some (6, 4) := rfl; have r3_0 : R 3 0 = some 4 := rr_lk hR rfl; have r3_1 : R 3 1 = some 6 := rr_lk hR rfl; have r3_2 : R 3 2 = some 9 := rr_lk hR rfl; have r3_3 : R 3 3 = some 12 := rr_lk hR rfl; have s4 : (SH L)[4]? = some (0, 2) := rfl; have r4_0 : R 4 0 = some 5 := rr_lk hR rfl; have s76 : (SH L)[76]? = some (11, 58) := rfl; have r76_0 : R 76 0 = some 77 := rr_lk hR rfl; have r76_3 : R 76 3 = some 78 := rr_lk hR rfl; have r76_4 : R 76 4 = some 79 := rr_lk hR rfl; have r76_6 : R 76 6 = some 80 := rr_lk hR rfl; have r76_7 : R 76 7 = some 81 := rr_lk hR rfl; have r76_9 : R 76 9 = some 82 := rr_lk hR rfl; have r76_10 : R 76 10 = some 83 := rr_lk hR rfl; have r76_12 : R 76 12 = some 84 := rr_lk hR rfl; have r76_13 : R 76 13 = some 85 := rr_lk hR rfl; have r76_19 : R 76 19 = some 86 := rr_lk hR rfl; have r76_20 : R 76 20 = some 87 := rr_lk hR rfl; have r76_21 : R 76 21 = some 88 := rr_lk hR rfl; have r76_22 : R 76 22 = some 89 := rr_lk hR rfl; have r76_24 : R 76 24 = some 90 := rr_lk hR rfl; have r76_25 : R 76 25 = some 91 := rr_lk hR rfl; have r76_26 : R 76 26 = some 92 := rr_lk hR rfl; have r76_28 : R 76 28 = some 93 := rr_lk hR rfl; have r76_29 : R 76 29 = some 94 := rr_lk hR rfl; have r76_30 : R 76 30 = some 95 := rr_lk hR rfl; have r76_31 : R 76 31 = some 96 := rr_lk hR rfl; have r76_32 : R 76 32 = some 97 := rr_lk hR rfl; have r76_36 : R 76 36 = some 98 := rr_lk hR rfl; have r76_38 : R 76 38 = some 99 := rr_lk hR rfl; have r76_39 : R 76 39 = some 100 := rr_lk hR rfl; have r76_40 : R 76 40 = some 101 := rr_lk hR rfl; have r76_41 : R 76 41 = some 102 := rr_lk hR rfl; have r76_42 : R 76 42 = some 103 := rr_lk hR rfl; have r76_47 : R 76 47 = some 104 := rr_lk hR rfl; have r76_53 : R 76 53 = some 105 := rr_lk hR rfl; have r76_54 : R 76 54 = some 106 := rr_lk hR rfl; have r76_55 : R 76 55 = some 107 := rr_lk hR rfl; have r76_56 : R 76 56 = some 108 := rr_lk hR rfl; have r76_57 : R 76 57 = some 109 := rr_lk hR rfl
  obtain ⟨a1, a2, a3⟩ := h.2.1
  have hB : isB (SH L) R 4 5 120 := ⟨rfl, rr_lk hR rfl, rfl, by decide, by decide, by decide⟩
  have hs := fun d => c_size (d := d) (J := J) (K := K) hB
  rw [a1] at hs
  have e1 : mm_up J 76 11 0 76 1 = J 76 1 := up_j (by decide)
  have hin := fun d J R => m_in (d := d) (S := SH L) (J := J) (K := K) (R := R) (x := x) (y := 0) (z := 1) (by omega) (by omega) (by omega)
  by_cases c1 : J 76 1 = 0
  · refine ⟨vl (-9223372036854775808), J, K, R, mm_up J 76 11 0, K, R, ?_, ?_, INV_11 h⟩
    · simp (disch := first | assumption | omega | exact bi_lo | exact bi_hi | exact bi_01 | exact jcmp_lo | exact jcmp_hi | exact (jor_r _ _).1 | exact (jor_r _ _).2 | exact (jand_r _ _).1 | exact (jand_r _ _).2) only [x115_0, x115_1, x115_4, x115_7, x115_10, x115_12, x115_13, x115_14, x115_15, x115_18, x115_21, x115_24, x115_25, x115_28, x115_29, x115_30, x115_31, x115_32, x115_35, kb_some, kb_none, clr_vi, clr_ref, clr_null, clr_none, va_rf_some, va_rf_none, ↓bi_ite_t, ↓bi_ite_f, ↓jc_lt_t, ↓jc_lt_f, ↓jc_gt_t, ↓jc_gt_f, ↓jc_le_t, ↓jc_le_f, ↓jc_ge_t, ↓jc_ge_f, ↓jc_eq_t, ↓jc_eq_f, ↓if_pos, ↓if_neg, hs, c1]
    · by_cases c2 : 0 ≤ x ∧ x ≤ 1
      · simp only [bi_t c2] at hin
        simp (disch := first | assumption | omega | exact bi_lo | exact bi_hi | exact bi_01 | exact jcmp_lo | exact jcmp_hi | exact (jor_r _ _).1 | exact (jor_r _ _).2 | exact (jand_r _ _).1 | exact (jand_r _ _).2) only [x221_0, x221_1, x221_2, x221_5, x221_6, x221_7, x221_8, x221_9, x221_12, x221_15, x221_16, x221_19, x221_22, x221_23, x221_26, x221_27, x221_30, x221_31, x221_34, x221_35, x221_36, x221_37, x221_40, x221_43, x221_46, kb_some, kb_none, clr_vi, clr_ref, clr_null, clr_none, va_rf_some, va_rf_none, ↓bi_ite_t, ↓bi_ite_f, ↓jc_lt_t, ↓jc_lt_f, ↓jc_gt_t, ↓jc_gt_f, ↓jc_le_t, ↓jc_le_f, ↓jc_ge_t, ↓jc_ge_f, ↓jc_eq_t, ↓jc_eq_f, ↓if_pos, ↓if_neg, hin, e1, c1]
      · simp only [bi_f c2] at hin
        simp (disch := first | assumption | omega | exact bi_lo | exact bi_hi | exact bi_01 | exact jcmp_lo | exact jcmp_hi | exact (jor_r _ _).1 | exact (jor_r _ _).2 | exact (jand_r _ _).1 | exact (jand_r _ _).2) only [x221_0, x221_1, x221_2, x221_5, x221_6, x221_7, x221_8, x221_9, x221_12, x221_15, x221_16, x221_19, x221_22, x221_23, x221_26, x221_27, x221_30, x221_31, x221_34, x221_35, x221_36, x221_37, x221_40, x221_43, x221_46, kb_some, kb_none, clr_vi, clr_ref, clr_null, clr_none, va_rf_some, va_rf_none, ↓bi_ite_t, ↓bi_ite_f, ↓jc_lt_t, ↓jc_lt_f, ↓jc_gt_t, ↓jc_gt_f, ↓jc_le_t, ↓jc_le_f, ↓jc_ge_t, ↓jc_ge_f, ↓jc_eq_t, ↓jc_eq_f, ↓if_pos, ↓if_neg, hin]
  obtain ⟨J1, R1, b1, b2, b3⟩ := c_flips (L := L) (d := d + 7) h
  have o1 := b3.1
  have hfr := flA_r (f := mA J) (n := J 76 1) (J 76 1).toNat 0 0
  generalize hfl : flA (mA J) (J 76 1) (J 76 1).toNat 0 0 = fl at *
  have hp := fun d => c_partOf (d := d) (J := J1) (K := K) (R := R1) (S := SH L) (v := fl) (w := J 76 1 * 8) (part := x) (by omega) (by omega) hx
  by_cases c2 : 0 ≤ x ∧ x ≤ 1
  · simp only [bi_t c2] at hin
    simp only [if_pos (show 0 < J 76 1 * 8 ∧ 0 ≤ x ∧ x ≤ 1 by omega)] at hp
    have hM := INV_MR (J' := mm_up J1 76 11 0) h b2 (by rw [up_j (by decide), o1 76 (by decide)]) (by rw [up_ne (by decide), o1 77 (by decide)])
    obtain ⟨J2, g1, g2⟩ := m_flips (L := L) (d := d + 13) (K := K) hM
    rw [up_j (by decide), o1 76 (by decide), hfl] at g1
    have e76 : J2 76 1 = J 76 1 := by rw [g2 76 1 (by decide), up_j (by decide), o1 76 (by decide)]
    have e11 : mm_up J1 76 11 0 76 1 = J 76 1 := by rw [up_j (by decide), o1 76 (by decide)]
    have hpm := fun d => m_partOf (d := d) (J := J2) (K := K) (R := R1) (S := SH L) (v := fl) (w := J 76 1 * 8) (part := x) (by omega) (by omega) c2
    refine ⟨vl (frP fl (J 76 1 * 8) x), J1, K, R1, J2, K, R1, ?_, ?_, TF_INV h b2 b3 (fun a j ha => (g2 a j (fun q => ha (AR_SC q))).trans (up11_SC a j ha))⟩
    · simp (disch := first | assumption | omega | exact bi_lo | exact bi_hi | exact bi_01 | exact jcmp_lo | exact jcmp_hi | exact (jor_r _ _).1 | exact (jor_r _ _).2 | exact (jand_r _ _).1 | exact (jand_r _ _).2) only [x115_0, x115_1, x115_4, x115_7, x115_10, x115_12, x115_13, x115_14, x115_15, x115_18, x115_21, x115_24, x115_25, x115_28, x115_29, x115_30, x115_31, x115_32, x115_35, kb_some, kb_none, clr_vi, clr_ref, clr_null, clr_none, va_rf_some, va_rf_none, ↓bi_ite_t, ↓bi_ite_f, ↓jc_lt_t, ↓jc_lt_f, ↓jc_gt_t, ↓jc_gt_f, ↓jc_le_t, ↓jc_le_f, ↓jc_ge_t, ↓jc_ge_f, ↓jc_eq_t, ↓jc_eq_f, ↓if_pos, ↓if_neg, hs, b1, hp]
    · simp (disch := first | assumption | omega | exact bi_lo | exact bi_hi | exact bi_01 | exact jcmp_lo | exact jcmp_hi | exact (jor_r _ _).1 | exact (jor_r _ _).2 | exact (jand_r _ _).1 | exact (jand_r _ _).2) only [x221_0, x221_1, x221_2, x221_5, x221_6, x221_7, x221_8, x221_9, x221_12, x221_15, x221_16, x221_19, x221_22, x221_23, x221_26, x221_27, x221_30, x221_31, x221_34, x221_35, x221_36, x221_37, x221_40, x221_43, x221_46, kb_some, kb_none, clr_vi, clr_ref, clr_null, clr_none, va_rf_some, va_rf_none, ↓bi_ite_t, ↓bi_ite_f, ↓jc_lt_t, ↓jc_lt_f, ↓jc_gt_t, ↓jc_gt_f, ↓jc_le_t, ↓jc_le_f, ↓jc_ge_t, ↓jc_ge_f, ↓jc_eq_t, ↓jc_eq_f, ↓if_pos, ↓if_neg, hin, e11, g1, e76, Int.mul_comm 8, hpm]
  · simp only [bi_f c2] at hin
    simp only [if_neg (show ¬ (0 < J 76 1 * 8 ∧ 0 ≤ x ∧ x ≤ 1) by omega)] at hp
    refine ⟨vl (-9223372036854775808), J1, K, R1, mm_up J1 76 11 0, K, R1, ?_, ?_, TF_INV h b2 b3 up11_SC⟩
    · simp (disch := first | assumption | omega | exact bi_lo | exact bi_hi | exact bi_01 | exact jcmp_lo | exact jcmp_hi | exact (jor_r _ _).1 | exact (jor_r _ _).2 | exact (jand_r _ _).1 | exact (jand_r _ _).2) only [x115_0, x115_1, x115_4, x115_7, x115_10, x115_12, x115_13, x115_14, x115_15, x115_18, x115_21, x115_24, x115_25, x115_28, x115_29, x115_30, x115_31, x115_32, x115_35, kb_some, kb_none, clr_vi, clr_ref, clr_null, clr_none, va_rf_some, va_rf_none, ↓bi_ite_t, ↓bi_ite_f, ↓jc_lt_t, ↓jc_lt_f, ↓jc_gt_t, ↓jc_gt_f, ↓jc_le_t, ↓jc_le_f, ↓jc_ge_t, ↓jc_ge_f, ↓jc_eq_t, ↓jc_eq_f, ↓if_pos, ↓if_neg, hs, b1, hp]
    · simp (disch := first | assumption | omega | exact bi_lo | exact bi_hi | exact bi_01 | exact jcmp_lo | exact jcmp_hi | exact (jor_r _ _).1 | exact (jor_r _ _).2 | exact (jand_r _ _).1 | exact (jand_r _ _).2) only [x221_0, x221_1, x221_2, x221_5, x221_6, x221_7, x221_8, x221_9, x221_12, x221_15, x221_16, x221_19, x221_22, x221_23, x221_26, x221_27, x221_30, x221_31, x221_34, x221_35, x221_36, x221_37, x221_40, x221_43, x221_46, kb_some, kb_none, clr_vi, clr_ref, clr_null, clr_none, va_rf_some, va_rf_none, ↓bi_ite_t, ↓bi_ite_f, ↓jc_lt_t, ↓jc_lt_f, ↓jc_gt_t, ↓jc_gt_f, ↓jc_le_t, ↓jc_le_f, ↓jc_ge_t, ↓jc_ge_f, ↓jc_eq_t, ↓jc_eq_f, ↓if_pos, ↓if_neg, hin]
end
