/-! the reference lays a file -/
/-- all but the checks stands -/
def b0 (g : Int → Int) (v : Int) (m : Nat → Int) : (d : Nat) → Fo d → Nat → Prop
  | 0, _, _ => True
  | d + 1, F, s => List.foldr (fun (x : Da × Fo d) (P : Nat → Prop) (s : Nat) => (m s = x.1.1 ∧ m (s + 1) = ((payT g v d x).length : Nat) ∧ (x.1.1 ≠ 103 → seg m (s + 2) (leafB g x.1))) ∧ b0 g v m d x.2 (s + 2) ∧ P (s + (3 + (payT g v d x).length))) (fun _ => True) F s
theorem b0_cons {g : Int → Int} {v : Int} {m : Nat → Int} {d s : Nat} {x : Nd d} {F : List (Nd d)} : b0 g v m (d + 1) (x :: F : List (Nd d)) s = ((m s = x.1.1 ∧ m (s + 1) = ((payT g v d x).length : Nat) ∧ (x.1.1 ≠ 103 → seg m (s + 2) (leafB g x.1))) ∧ b0 g v m d x.2 (s + 2) ∧ b0 g v m (d + 1) (F : List (Nd d)) (s + (3 + (payT g v d x).length))) := rfl
theorem pay_leaf {g : Int → Int} {v : Int} {d : Nat} {x : Nd d} (c : x.1.1 ≠ 103) : payT g v d x = leafB g x.1 := if_neg c
theorem pay_group {g : Int → Int} {v : Int} {d : Nat} {x : Nd d} (c : x.1.1 = 103) : payT g v d x = wrF g v d x.2 := if_pos c
theorem wr_le {g : Int → Int} {v : Int} {d : Nat} {x : Nd d} (h3 : x.1.1 ≠ 103 → x.2 = fo0 d) : (wrF g v d x.2).length ≤ (payT g v d x).length := by
  by_cases c : x.1.1 = 103
  · rw [pay_group c]; exact Nat.le_refl _
  · rw [h3 c, wrF_0]; exact Nat.zero_le _
theorem b0_congr {g : Int → Int} {v : Int} {m m' : Nat → Int} : ∀ (d : Nat) (F : Fo d) (s : Nat), wF g d F → b0 g v m d F s → (∀ j, s ≤ j → j < s + (wrF g v d F).length → m' j = m j) → b0 g v m' d F s := by
  intro d
  induction d with
  | zero => intro F s hw h h1; trivial
  | succ d ih =>
    intro F
    induction (F : List (Nd d)) with
    | nil => intro s hw h h1; trivial
    | cons x F ihF =>
      intro s hw h h1
      rw [wF_cons] at hw
      rw [b0_cons] at h ⊢
      rw [wrF_len] at h1
      have hle := wr_le (g := g) (v := v) hw.1.2.2.1
      refine ⟨⟨(h1 s (by omega) (by omega)).trans h.1.1, (h1 (s + 1) (by omega) (by omega)).trans h.1.2.1, fun c => seg_congr _ _ (h.1.2.2 c) (fun j j1 j2 => ?_)⟩, ih _ _ hw.1.2.2.2 h.2.1 (fun j j1 j2 => h1 j (by omega) (by omega)), ihF _ hw.2 h.2.2 (fun j j1 j2 => h1 j (by omega) (by omega))⟩
      rw [← pay_leaf (v := v) c] at j2
      exact h1 j (by omega) (by omega)
section
variable {L d : Nat} {J K : mJ} {R : mm_R} {g : Int → Int} {v : Int} {n : Nat}
/-- what stays while the bytes are laid -/
def LY (g : Int → Int) (n : Nat) (J : mJ) : Prop := n ≤ 60 ∧ J 76 18 = n ∧ SP g J
theorem LY_fr {g : Int → Int} {J J' : mJ} (h : LY g n J) (hf : ∀ a j, a ≠ 98 → J' a j = J a j) : LY g n J' := ⟨h.1, (hf 76 18 (by decide)).trans h.2.1, fun p hp => by rw [hf 102 _ (by decide)]; exact h.2.2 p hp⟩
theorem l_lfn (hR : wfR R) {ver e : Int} : ∀ (D : Nat) (F : Fo D) (q i s : Nat) (J : mJ), wF g D F → mF (J 86) (J 87) (J 88) (J 89) D q F i → lF g v (J 99) D F i → pF g v (J 100) D F i s → LY g n J → i + fsz D F ≤ n → q < i → s + (wrF g v D F).length ≤ 400 →
    ∃ J', EE (d + 1) 171 45 [some (.ref 76), some (vi ver), some (vi e), some (vi i)] [] (SH L) J K R = EE (d + 1) 171 45 [some (.ref 76), some (vi ver), some (vi e), some (vi (i + fsz D F : Nat))] [] (SH L) J' K R ∧ (∀ a j, ¬ (a = 98 ∧ s ≤ j ∧ j < s + (wrF g v D F).length) → J' a j = J a j) ∧ b0 g v (J' 98) D F s := by
  have s76 : (SH L)[76]? = some (11, 58) := rfl; have r76_0 : R 76 0 = some 77 := rr_lk hR rfl; have r76_3 : R 76 3 = some 78 := rr_lk hR rfl; have r76_4 : R 76 4 = some 79 := rr_lk hR rfl; have r76_6 : R 76 6 = some 80 := rr_lk hR rfl; have r76_7 : R 76 7 = some 81 := rr_lk hR rfl; have r76_9 : R 76 9 = some 82 := rr_lk hR rfl; have r76_10 : R 76 10 = some 83 := rr_lk hR rfl; have r76_12 : R 76 12 = some 84 := rr_lk hR rfl; have r76_13 : R 76 13 = some 85 := rr_lk hR rfl; have r76_19 : R 76 19 = some 86 := rr_lk hR rfl; have r76_20 : R 76 20 = some 87 := rr_lk hR rfl; have r76_21 : R 76 21 = some 88 := rr_lk hR rfl; have r76_22 : R 76 22 = some 89 := rr_lk hR rfl; have r76_24 : R 76 24 = some 90 := rr_lk hR rfl; have r76_25 : R 76 25 = some 91 := rr_lk hR rfl; have r76_26 : R 76 26 = some 92 := rr_lk hR rfl; have r76_28 : R 76 28 = some 93 := rr_lk hR rfl; have r76_29 : R 76 29 = some 94 := rr_lk hR rfl; have r76_30 : R 76 30 = some 95 := rr_lk hR rfl; have r76_31 : R 76 31 = some 96 := rr_lk hR rfl; have r76_32 : R 76 32 = some 97 := rr_lk hR rfl; have r76_36 : R 76 36 = some 98 := rr_lk hR rfl; have r76_38 : R 76 38 = some 99 := rr_lk hR rfl; have r76_39 : R 76 39 = some 100 := rr_lk hR rfl; have r76_40 : R 76 40 = some 101 := rr_lk hR rfl; have r76_41 : R 76 41 = some 102 := rr_lk hR rfl; have r76_42 : R 76 42 = some 103 := rr_lk hR rfl; have r76_47 : R 76 47 = some 104 := rr_lk hR rfl; have r76_53 : R 76 53 = some 105 := rr_lk hR rfl; have r76_54 : R 76 54 = some 106 := rr_lk hR rfl; have r76_55 : R 76 55 = some 107 := rr_lk hR rfl; have r76_56 : R 76 56 = some 108 := rr_lk hR rfl; have r76_57 : R 76 57 = some 109 := rr_lk hR rfl; have s89 : (SH L)[89]? = some (20, 60) := rfl
  intro D
  induction D with
  | zero => intro F q i s J hw hm hl hp hL hi hq hs; exact ⟨J, rfl, fun _ _ _ => rfl, trivial⟩
  | succ D ih =>
    intro F
    induction (F : List (Nd D)) with
    | nil => intro q i s J hw hm hl hp hL hi hq hs; exact ⟨J, rfl, fun _ _ _ => rfl, trivial⟩
    | cons x F ihF =>
      intro q i s J hw hm hl hp hL hi hq hs
      rw [wF_cons] at hw
      rw [mF_cons] at hm
      rw [lF_cons] at hl
      rw [pF_cons] at hp
      rw [fsz_cons] at hi
      rw [wrF_len] at hs
      obtain ⟨⟨u1, u1b, u1c, u4⟩, u2, u3⟩ := hm
      obtain ⟨w1, w2, w3, w4⟩ := hw.1
      obtain ⟨v1, v2, v3⟩ := hl
      obtain ⟨p1, p2, p3⟩ := hp
      obtain ⟨L1, L2, L3⟩ := hL
      have hle := wr_le (g := g) (v := v) w3
      obtain ⟨J1, a1, a2, a3, a4⟩ := m_layThing (L := L) (d := d) (K := K) (g := g) hR (t := i) (pl := s + 2) (a := x.1) (ln := (payT g v D x).length) (by omega) w1 (fun c => by rw [pay_leaf c]) (by omega) u1 u1b u1c v1 p1 L3 (Or.inr (by omega))
      have a4' := a4 (by omega)
      rw [show s + 2 - 2 = s by omega, show s + 2 - 1 = s + 1 by omega] at a4'
      have fr1 : ∀ a j, ¬ (a = 98 ∧ s ≤ j ∧ j < s + (3 + (payT g v D x).length)) → J1 a j = J a j := fun a j hj => a2 a j (by omega)
      have o1 : ∀ a, a ≠ 98 → J1 a = J a := fun a ha => by funext j; exact fr1 a j (by omega)
      obtain ⟨J2, b1, b2, b3⟩ := ih x.2 i (i + 1) (s + 2) J1 w4 (by rw [o1 86 (by decide), o1 87 (by decide), o1 88 (by decide), o1 89 (by decide)]; exact u2) (by rw [o1 99 (by decide)]; exact v2) (by rw [o1 100 (by decide)]; exact p2) (LY_fr ⟨L1, L2, L3⟩ (fun a j ha => by rw [o1 a ha])) (by omega) (by omega) (by omega)
      have o2 : ∀ a, a ≠ 98 → J2 a = J a := fun a ha => by funext j; rw [b2 a j (by omega), o1 a ha]
      obtain ⟨J3, c1, c2, c3⟩ := ihF q (i + 1 + fsz D x.2) (s + (3 + (payT g v D x).length)) J2 hw.2 (by rw [o2 86 (by decide), o2 87 (by decide), o2 88 (by decide), o2 89 (by decide)]; exact u3) (by rw [o2 99 (by decide)]; exact v3) (by rw [o2 100 (by decide)]; exact p3) (LY_fr ⟨L1, L2, L3⟩ (fun a j ha => by rw [o2 a ha])) (by omega) (by omega) (by omega)
      refine ⟨J3, ?_, ?_, ?_⟩
      · have f89 : J1 89 i = q := by rw [o1 89 (by decide)]; exact u4
        have go : ∀ X, EE (d + 1) 171 45 [some (.ref 76), some (vi ver), some (vi e), some (vi ((i : Int) + 1))] [] (SH L) J1 K R = X → EE (d + 1) 171 45 [some (.ref 76), some (vi ver), some (vi e), some (vi i)] [] (SH L) J K R = X := by
          intro X hX
          simp (disch := first | assumption | omega | exact bi_lo | exact bi_hi | exact bi_01 | exact jcmp_lo | exact jcmp_hi | exact (jor_r _ _).1 | exact (jor_r _ _).2 | exact (jand_r _ _).1 | exact (jand_r _ _).2) only [x171_45, x171_46, x171_47, x171_50, kb_some, kb_none, clr_vi, clr_ref, clr_null, clr_none, va_rf_some, va_rf_none, ↓bi_ite_t, ↓bi_ite_f, ↓jc_lt_t, ↓jc_lt_f, ↓jc_gt_t, ↓jc_gt_f, ↓jc_le_t, ↓jc_le_f, ↓jc_ge_t, ↓jc_ge_f, ↓jc_eq_t, ↓jc_eq_f, ↓if_pos, ↓if_neg]
          simp (disch := first | assumption | omega | exact bi_lo | exact bi_hi | exact bi_01 | exact jcmp_lo | exact jcmp_hi | exact (jor_r _ _).1 | exact (jor_r _ _).2 | exact (jand_r _ _).1 | exact (jand_r _ _).2) only [x171_53, x171_54, x171_55, x171_58, x171_59, x171_62, x171_63, x171_64, x171_119, x171_122, kb_some, kb_none, clr_vi, clr_ref, clr_null, clr_none, va_rf_some, va_rf_none, ↓bi_ite_t, ↓bi_ite_f, ↓jc_lt_t, ↓jc_lt_f, ↓jc_gt_t, ↓jc_gt_f, ↓jc_le_t, ↓jc_le_f, ↓jc_ge_t, ↓jc_ge_f, ↓jc_eq_t, ↓jc_eq_f, ↓if_pos, ↓if_neg, a1, Int.toNat_natCast, f89]
          exact hX
        rw [Int.natCast_succ] at b1
        rw [go _ (b1.trans c1), fsz_cons, show i + 1 + fsz D x.2 + fsz (D + 1) F = i + (1 + fsz D x.2 + fsz (D + 1) F) by omega]
      · rw [wrF_len]
        intro a j hj
        rw [c2 a j (by omega), b2 a j (by omega), fr1 a j (by omega)]
      · rw [b0_cons]
        have k98 : ∀ j, ¬ (s + 2 ≤ j ∧ j < s + 2 + (wrF g v D x.2).length) → j < s + (3 + (payT g v D x).length) → J3 98 j = J1 98 j := fun j j1 j2 => by rw [c2 98 j (by omega), b2 98 j (by omega)]
        refine ⟨⟨by rw [k98 s (by omega) (by omega)]; exact a4'.1, by rw [k98 (s + 1) (by omega) (by omega)]; exact a4'.2, fun c => seg_congr _ _ (a3 c) (fun j j1 j2 => ?_)⟩, b0_congr _ _ _ w4 b3 (fun j j1 j2 => c2 98 j (by omega)), c3⟩
        have ez : (wrF g v D x.2).length = 0 := by rw [w3 c, wrF_0]; rfl
        rw [← pay_leaf (v := v) c] at j2
        exact k98 j (by omega) (by omega)
def b0T (g : Int → Int) (v : Int) (m : Nat → Int) : List (Nd 3) → Nat → Prop
  | [], _ => True
  | x :: F, s => (x.1.1 ≠ 103 → seg m s (leafB g x.1)) ∧ b0 g v m 3 x.2 s ∧ b0T g v m F (s + ((payT g v 3 x).length + 1))
theorem l_lft (hR : wfR R) {ver : Int} : ∀ (F : List (Nd 3)) (i s e : Nat) (J : mJ), wF g 4 F → mF (J 86) (J 87) (J 88) (J 89) 4 (-1) F i → lF g v (J 99) 4 F i → pT g v (J 100) F i s → LY g n J → i + fsz 4 F = n → s + (chL g v F).length ≤ 400 → 4 + 3 * (e + F.length) ≤ s →
    ∃ J' l2, EE (d + 1) 171 45 [some (.ref 76), some (vi ver), some (vi e), some (vi i)] [] (SH L) J K R = EE (d + 1) 171 125 [some (.ref 76), some (vi ver), some (vi l2), some (vi n)] [] (SH L) J' K R ∧ (∀ a j, ¬ (a = 98 ∧ ((s ≤ j ∧ j < s + (chL g v F).length) ∨ (4 + 3 * e ≤ j ∧ j < 4 + 3 * (e + F.length)))) → J' a j = J a j) ∧ b0T g v (J' 98) F s ∧ seg (J' 98) (4 + 3 * e) (entL g v F s) := by
  have s76 : (SH L)[76]? = some (11, 58) := rfl; have r76_0 : R 76 0 = some 77 := rr_lk hR rfl; have r76_3 : R 76 3 = some 78 := rr_lk hR rfl; have r76_4 : R 76 4 = some 79 := rr_lk hR rfl; have r76_6 : R 76 6 = some 80 := rr_lk hR rfl; have r76_7 : R 76 7 = some 81 := rr_lk hR rfl; have r76_9 : R 76 9 = some 82 := rr_lk hR rfl; have r76_10 : R 76 10 = some 83 := rr_lk hR rfl; have r76_12 : R 76 12 = some 84 := rr_lk hR rfl; have r76_13 : R 76 13 = some 85 := rr_lk hR rfl; have r76_19 : R 76 19 = some 86 := rr_lk hR rfl; have r76_20 : R 76 20 = some 87 := rr_lk hR rfl; have r76_21 : R 76 21 = some 88 := rr_lk hR rfl; have r76_22 : R 76 22 = some 89 := rr_lk hR rfl; have r76_24 : R 76 24 = some 90 := rr_lk hR rfl; have r76_25 : R 76 25 = some 91 := rr_lk hR rfl; have r76_26 : R 76 26 = some 92 := rr_lk hR rfl; have r76_28 : R 76 28 = some 93 := rr_lk hR rfl; have r76_29 : R 76 29 = some 94 := rr_lk hR rfl; have r76_30 : R 76 30 = some 95 := rr_lk hR rfl; have r76_31 : R 76 31 = some 96 := rr_lk hR rfl; have r76_32 : R 76 32 = some 97 := rr_lk hR rfl; have r76_36 : R 76 36 = some 98 := rr_lk hR rfl; have r76_38 : R 76 38 = some 99 := rr_lk hR rfl; have r76_39 : R 76 39 = some 100 := rr_lk hR rfl; have r76_40 : R 76 40 = some 101 := rr_lk hR rfl; have r76_41 : R 76 41 = some 102 := rr_lk hR rfl; have r76_42 : R 76 42 = some 103 := rr_lk hR rfl; have r76_47 : R 76 47 = some 104 := rr_lk hR rfl; have r76_53 : R 76 53 = some 105 := rr_lk hR rfl; have r76_54 : R 76 54 = some 106 := rr_lk hR rfl; have r76_55 : R 76 55 = some 107 := rr_lk hR rfl; have r76_56 : R 76 56 = some 108 := rr_lk hR rfl; have r76_57 : R 76 57 = some 109 := rr_lk hR rfl; have s86 : (SH L)[86]? = some (20, 60) := rfl; have s89 : (SH L)[89]? = some (20, 60) := rfl; have s98 : (SH L)[98]? = some (20, 400) := rfl; have s99 : (SH L)[99]? = some (20, 60) := rfl; have s100 : (SH L)[100]? = some (20, 60) := rfl
  intro F
  induction F with
  | nil =>
    intro i s e J hw hm hl hp hL hi hs he
    have hi' : i = n := hi
    have hn := hL.2.1
    have h60 := hL.1
    refine ⟨J, e, ?_, fun _ _ _ => rfl, trivial, trivial⟩
    subst hi'
    simp (disch := first | assumption | omega | exact bi_lo | exact bi_hi | exact bi_01 | exact jcmp_lo | exact jcmp_hi | exact (jor_r _ _).1 | exact (jor_r _ _).2 | exact (jand_r _ _).1 | exact (jand_r _ _).2) only [x171_45, x171_46, x171_47, x171_50, kb_some, kb_none, clr_vi, clr_ref, clr_null, clr_none, va_rf_some, va_rf_none, ↓bi_ite_t, ↓bi_ite_f, ↓jc_lt_t, ↓jc_lt_f, ↓jc_gt_t, ↓jc_gt_f, ↓jc_le_t, ↓jc_le_f, ↓jc_ge_t, ↓jc_ge_f, ↓jc_eq_t, ↓jc_eq_f, ↓if_pos, ↓if_neg]
  | cons x F ihF =>
    intro i s e J hw hm hl hp hL hi hs he
    rw [wF_cons] at hw
    rw [mF_cons] at hm
    rw [lF_cons] at hl
    rw [fsz_c4] at hi
    rw [chL_len] at hs
    rw [List.length_cons] at he
    obtain ⟨⟨u1, u1b, u1c, u4⟩, u2, u3⟩ := hm
    obtain ⟨w1, w2, w3, w4⟩ := hw.1
    obtain ⟨v1, v2, v3⟩ := hl
    obtain ⟨p1, p2, p3⟩ := hp
    obtain ⟨L1, L2, L3⟩ := hL
    have hle := wr_le (g := g) (v := v) w3
    obtain ⟨J1, a1, a2, a3, a4⟩ := m_layThing (L := L) (d := d) (K := K) (g := g) hR (t := i) (pl := s) (a := x.1) (ln := (payT g v 3 x).length) (by omega) w1 (fun c => by rw [pay_leaf c]) (by omega) u1 u1b u1c v1 p1 L3 (Or.inl u4)
    generalize hJ1' : mm_up (mm_up (mm_up J1 98 (4 + 3 * e) x.1.1) 98 (4 + 3 * e + 1) (s : Int)) 98 (4 + 3 * e + 2) ((payT g v 3 x).length : Int) = J1'
    have fr1 : ∀ a j, ¬ (a = 98 ∧ s ≤ j ∧ j < s + (payT g v 3 x).length) → J1 a j = J a j := fun a j hj => a2 a j (by omega)
    have fr1' : ∀ a j, ¬ (a = 98 ∧ (j = 4 + 3 * e ∨ j = 4 + 3 * e + 1 ∨ j = 4 + 3 * e + 2)) → J1' a j = J1 a j := fun a j hj => by
      rw [← hJ1']; unfold mm_up; rw [if_neg (by omega), if_neg (by omega), if_neg (by omega)]
    have o1 : ∀ a, a ≠ 98 → J1' a = J a := fun a ha => by funext j; rw [fr1' a j (by omega), fr1 a j (by omega)]
    obtain ⟨J2, b1, b2, b3⟩ := l_lfn (L := L) (d := d) (K := K) (g := g) (v := v) (n := n) hR (ver := ver) (e := ((e + 1 : Nat) : Int)) 3 x.2 i (i + 1) s J1' w4 (by rw [o1 86 (by decide), o1 87 (by decide), o1 88 (by decide), o1 89 (by decide)]; exact u2) (by rw [o1 99 (by decide)]; exact v2) (by rw [o1 100 (by decide)]; exact p2) (LY_fr ⟨L1, L2, L3⟩ (fun a j ha => by rw [o1 a ha])) (by omega) (by omega) (by omega)
    have o2 : ∀ a, a ≠ 98 → J2 a = J a := fun a ha => by funext j; rw [b2 a j (by omega), o1 a ha]
    obtain ⟨J3, l2, c1, c2, c3, c4⟩ := ihF (i + 1 + fsz 3 x.2) (s + ((payT g v 3 x).length + 1)) (e + 1) J2 hw.2 (by rw [o2 86 (by decide), o2 87 (by decide), o2 88 (by decide), o2 89 (by decide)]; exact u3) (by rw [o2 99 (by decide)]; exact v3) (by rw [o2 100 (by decide)]; exact p3) (LY_fr ⟨L1, L2, L3⟩ (fun a j ha => by rw [o2 a ha])) (by omega) (by omega) (by omega)
    refine ⟨J3, l2, ?_, ?_, ?_, ?_⟩
    · have f89 : J1 89 i = -1 := by rw [fr1 89 i (by omega)]; exact u4
      have f86 : J1 86 i = x.1.1 := by rw [fr1 86 i (by omega)]; exact u1
      have f100 : J1 100 i = s := by rw [fr1 100 i (by omega)]; exact p1
      have f99 : J1 99 i = ((payT g v 3 x).length : Nat) := by rw [fr1 99 i (by omega)]; exact v1
      have t0 : (4 + 3 * (e : Int)).toNat = 4 + 3 * e := by omega
      have t1 : (4 + 3 * (e : Int) + 1).toNat = 4 + 3 * e + 1 := by omega
      have t2 : (4 + 3 * (e : Int) + 2).toNat = 4 + 3 * e + 2 := by omega
      have hen := fun d J => m_entryAt (S := SH L) (d := d) (J := J) (K := K) (R := R) (x := e)
      have go : ∀ X, EE (d + 1) 171 45 [some (.ref 76), some (vi ver), some (vi ((e : Int) + 1)), some (vi ((i : Int) + 1))] [] (SH L) J1' K R = X → EE (d + 1) 171 45 [some (.ref 76), some (vi ver), some (vi e), some (vi i)] [] (SH L) J K R = X := by
        intro X hX
        rw [← hJ1'] at hX
        simp (disch := first | assumption | omega | exact bi_lo | exact bi_hi | exact bi_01 | exact jcmp_lo | exact jcmp_hi | exact (jor_r _ _).1 | exact (jor_r _ _).2 | exact (jand_r _ _).1 | exact (jand_r _ _).2) only [x171_45, x171_46, x171_47, x171_50, kb_some, kb_none, clr_vi, clr_ref, clr_null, clr_none, va_rf_some, va_rf_none, ↓bi_ite_t, ↓bi_ite_f, ↓jc_lt_t, ↓jc_lt_f, ↓jc_gt_t, ↓jc_gt_f, ↓jc_le_t, ↓jc_le_f, ↓jc_ge_t, ↓jc_ge_f, ↓jc_eq_t, ↓jc_eq_f, ↓if_pos, ↓if_neg]
        simp (disch := first | assumption | omega | exact bi_lo | exact bi_hi | exact bi_01 | exact jcmp_lo | exact jcmp_hi | exact (jor_r _ _).1 | exact (jor_r _ _).2 | exact (jand_r _ _).1 | exact (jand_r _ _).2) only [x171_53, x171_54, x171_55, x171_58, x171_59, x171_62, x171_63, x171_64, x171_67, x171_68, x171_71, x171_72, x171_75, x171_76, x171_79, x171_80, x171_81, x171_82, x171_83, x171_86, x171_87, x171_90, x171_91, x171_92, x171_93, x171_96, x171_97, x171_98, x171_99, x171_100, x171_103, x171_104, x171_107, x171_108, x171_109, x171_110, x171_113, x171_114, x171_115, x171_116, x171_119, x171_122, kb_some, kb_none, clr_vi, clr_ref, clr_null, clr_none, va_rf_some, va_rf_none, ↓bi_ite_t, ↓bi_ite_f, ↓jc_lt_t, ↓jc_lt_f, ↓jc_gt_t, ↓jc_gt_f, ↓jc_le_t, ↓jc_le_f, ↓jc_ge_t, ↓jc_ge_f, ↓jc_eq_t, ↓jc_eq_f, ↓if_pos, ↓if_neg, a1, Int.toNat_natCast, f89, f86, f100, f99, hen, t0, t1, t2, up_a]
        exact hX
      rw [Int.natCast_succ, Int.natCast_succ] at b1
      rw [Int.natCast_succ] at c1
      exact go _ (b1.trans c1)
    · rw [chL_len, List.length_cons]
      intro a j hj
      rw [c2 a j (by omega), b2 a j (by omega), fr1' a j (by omega), fr1 a j (by omega)]
    · refine ⟨fun c => seg_congr _ _ (a3 c) (fun j j1 j2 => ?_), b0_congr _ _ _ w4 b3 (fun j j1 j2 => c2 98 j (by omega)), c3⟩
      have ez : (wrF g v 3 x.2).length = 0 := by rw [w3 c, wrF_0]; rfl
      rw [← pay_leaf (v := v) c] at j2
      rw [c2 98 j (by omega), b2 98 j (by omega), fr1' 98 j (by omega)]
    · have k98 : ∀ j, j < s → (j < 4 + 3 * (e + 1)) → J3 98 j = J1' 98 j := fun j j1 j2 => by rw [c2 98 j (by omega), b2 98 j (by omega)]
      show seg (J3 98) (4 + 3 * e) (x.1.1 :: (s : Int) :: ((payT g v 3 x).length : Int) :: entL g v F ((s : Int) + (payT g v 3 x).length + 1))
      refine ⟨?_, ?_, ?_, ?_⟩
      · rw [k98 _ (by omega) (by omega), ← hJ1']; simp [mm_up]
      · rw [k98 _ (by omega) (by omega), ← hJ1']; simp [mm_up]
      · rw [show 4 + 3 * e + 1 + 1 = 4 + 3 * e + 2 by omega, k98 _ (by omega) (by omega), ← hJ1', up_s]
      · rw [show 4 + 3 * e + 1 + 1 + 1 = 4 + 3 * (e + 1) by omega, show (s : Int) + (payT g v 3 x).length + 1 = ((s + ((payT g v 3 x).length + 1) : Nat) : Int) by omega]
        exact c4
end
