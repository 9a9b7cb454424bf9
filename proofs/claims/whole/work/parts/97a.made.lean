/-! the calls, one by one: what is made anew of the file -/
theorem byL_ent {g : Int → Int} {v : Int} : ∀ (F : List (Nd 3)) (a : Int), wF g 4 F → 0 ≤ a → a + (chL g v F).length ≤ 255 → byL (entL g v F a) := by
  intro F
  induction F with
  | nil => intro a h h0 h1 b hb; cases hb
  | cons x F ih =>
    intro a h h0 h1
    rw [wF_cons] at h
    rw [chL_len] at h1
    have ht := wD_ty h.1.1
    rw [show entL g v (x :: F) a = [x.1.1, a, ((payT g v 3 x).length : Int)] ++ entL g v F (a + (payT g v 3 x).length + 1) from rfl]
    refine byL_app ?_ (ih _ h.2 (by omega) (by omega))
    intro b hb
    simp only [List.mem_cons, List.not_mem_nil, or_false] at hb
    rcases hb with q | q | q <;> omega
theorem byL_ch {g : Int → Int} {v : Int} : ∀ (F : List (Nd 3)), wF g 4 F → (chL g v F).length ≤ 255 → byL (chL g v F) := by
  intro F
  induction F with
  | nil => intro h h1 b hb; cases hb
  | cons x F ih =>
    intro h h1
    rw [wF_cons] at h
    rw [chL_len] at h1
    rw [show chL g v (x :: F) = payT g v 3 x ++ [ckL v (payT g v 3 x) 0] ++ chL g v F from rfl]
    exact byL_app (byL_app (byL_pay (by rw [wF_cons]; exact ⟨h.1, trivial⟩) (by omega)) (byL_one (ckL_r _ _ (by omega)))) (ih h.2 (by omega))
theorem byL_file {g : Int → Int} {v : Int} {F : List (Nd 3)} (hv : 0 ≤ v ∧ v ≤ 255) (h : wF g 4 F) (hl : (fileL g v F).length ≤ 250) : byL (fileL g v F) := by
  rw [fileL_len] at hl
  unfold fileL
  refine byL_app (byL_app ?_ (byL_ent _ _ h (by omega) (by omega))) (byL_ch _ h (by omega))
  intro b hb
  simp only [List.mem_cons, List.not_mem_nil, or_false] at hb
  rcases hb with q | q | q | q <;> omega
/-- the reference's own cells, on which nothing rests -/
abbrev SC (a j : Nat) : Prop := a = 84 ∨ (86 ≤ a ∧ a ≤ 102) ∨ a = 104 ∨ a = 108 ∨ (a = 76 ∧ ¬ (j = 1 ∨ j = 2 ∨ j = 5 ∨ j = 8 ∨ j = 14 ∨ j = 43))
section
variable {L d : Nat} {J J' J1 J2 K K' : mJ} {R R1 R' : mm_R} {x y z v w n : Int} {f : Int → Int}
theorem AR_SC {a j : Nat} (h : AR a j) : SC a j := by unfold AR at h; unfold SC; omega
theorem AW_SC {a j : Nat} (h : AW a j) : SC a j := by unfold AW at h; unfold SC; omega
theorem AT_SC {a j : Nat} (h : AT a j) : SC a j := by unfold AT at h; unfold SC; omega
theorem up11_SC : frm SC J (mm_up J 76 11 z) := fun a j ha => by
  unfold mm_up; rw [if_neg (by unfold SC at ha; omega)]
theorem INV_G (h : INV J K R) (hR' : wfR R') (hX : IX J1) (h1 : ∀ a, a < 29 ∨ 62 < a → J1 a = J a) (h2 : frm SC J1 J2) : INV J2 K R' := by
  refine INV_S h hR' (IX_o hX (fun a a1 a2 => ?_)) (fun a p q r s t u => ?_) (fun j hj => ?_)
  · funext j; exact h2 a j (by unfold SC; omega)
  · rw [← h1 a p]; funext j; exact h2 a j (by unfold SC; omega)
  · rw [h2 76 j (by unfold SC; omega), h1 76 (by decide)]
/-- the class reads bytes -/
theorem rd_cB {e c e1 : Nat} (h : RB L e c f J R) (hs : RS J) : ∃ J1 R1, wfR R1 ∧ fr A31 J J1 ∧ RS J1 ∧ match wh f (J e 1) with
    | .error q => EE (e1 + 11) 17 0 [some (.ref 31), some (.ref e), none] [] (SH L) J K R = ok (some (vi 0)) (SH L) J1 K R1 ∧ FH J1 q ∧ (1 ≤ q.length ∧ q.length ≤ 6)
    | .ok F => EE (e1 + 11) 17 0 [some (.ref 31), some (.ref e), none] [] (SH L) J K R = ok (some (vi 1)) (SH L) J1 K R1 ∧ CF f J1 F ∧ (wF f 4 F ∧ F.length ≤ 6 ∧ 3 * fsz 4 F + fby 4 F ≤ 116) ∧ ∀ g v, (fileL g v F).length ≤ 126 := by
  have hn := h.2.2.2.1
  have hr : (∀ q, -1 ≤ f q) ∧ ∀ q, 0 ≤ q → q < J e 1 → 0 ≤ f q ∧ f q ≤ 255 := by
    have hb := h.2.2.2.2.1
    have hf := h.2.2.2.2.2
    rw [← hf]
    refine ⟨fun q => ?_, fun q q1 q2 => ?_⟩
    · unfold bA
      split
      · have := hb q.toNat (by omega); omega
      · omega
    · unfold bA
      rw [if_pos ⟨q1, q2⟩]
      exact hb q.toNat (by omega)
  obtain ⟨m1, m2⟩ := hr
  obtain ⟨v1, J1, K1, R1, b1, b2, b3, b4, b5, b6⟩ := rd_isWhole (L := L) (d := e1) (K := K) h hs
  subst b2
  refine ⟨J1, R1, b3, b4, b5, ?_⟩
  cases hw : wh f (J e 1) with
  | error q =>
    rw [hw] at b6
    obtain ⟨p1, p2⟩ := b6
    subst p1
    exact ⟨b1, p2, wh_len hw⟩
  | ok F =>
    rw [hw] at b6
    obtain ⟨p1, p2⟩ := b6
    subst p1
    exact ⟨b1, p2, wh_wf hn.2 m1 m2 hw, fun g v => wh_file hn.2 m1 m2 hw⟩
/-- the reference reads its file -/
theorem rd_mB {e2 : Nat} (h : MR f J R) : ∃ J2, frm AR J J2 ∧ match wh f (J 76 1) with
    | .error q => EE (e2 + 5) 162 0 [some (.ref 76), none, none] [] (SH L) J K R = ok (some (vi 0)) (SH L) J2 K R ∧ FMo J2 q
    | .ok F => EE (e2 + 5) 162 0 [some (.ref 76), none, none] [] (SH L) J K R = ok (some (vi 1)) (SH L) J2 K R ∧ MF J2 F := by
  obtain ⟨w1, J2, c1, c2, c3⟩ := m_isWhole (L := L) (d := e2) (K := K) h
  refine ⟨J2, c2, ?_⟩
  cases hw : wh f (J 76 1) with
  | error q =>
    rw [hw] at c3
    obtain ⟨p1, p2⟩ := c3
    subst p1
    exact ⟨c1, p2⟩
  | ok F =>
    rw [hw] at c3
    obtain ⟨p1, p2⟩ := c3
    subst p1
    exact ⟨c1, p2⟩
/-- the file's bytes as they will be told of -/
def spJ (J : mJ) (k : Nat) (n : Int) : mJ := fun a j => if a = 102 ∧ k ≤ j ∧ (j : Int) < n then J 77 j else J a j
theorem l_spell (hR : wfR R) (h1 : 0 ≤ n ∧ n ≤ 120) : ∀ (i k : Nat) (J : mJ), n.toNat - k = i → (k : Int) ≤ n → J 76 1 = n → EE d 172 2 [some (.ref 76), some (vi k)] [] (SH L) J K R = ok none (SH L) (spJ J k n) K R := by
  have s76 : (SH L)[76]? = some (11, 58) := rfl; have r76_0 : R 76 0 = some 77 := rr_lk hR rfl; have r76_3 : R 76 3 = some 78 := rr_lk hR rfl; have r76_4 : R 76 4 = some 79 := rr_lk hR rfl; have r76_6 : R 76 6 = some 80 := rr_lk hR rfl; have r76_7 : R 76 7 = some 81 := rr_lk hR rfl; have r76_9 : R 76 9 = some 82 := rr_lk hR rfl; have r76_10 : R 76 10 = some 83 := rr_lk hR rfl; have r76_12 : R 76 12 = some 84 := rr_lk hR rfl; have r76_13 : R 76 13 = some 85 := rr_lk hR rfl; have r76_19 : R 76 19 = some 86 := rr_lk hR rfl; have r76_20 : R 76 20 = some 87 := rr_lk hR rfl; have r76_21 : R 76 21 = some 88 := rr_lk hR rfl; have r76_22 : R 76 22 = some 89 := rr_lk hR rfl; have r76_24 : R 76 24 = some 90 := rr_lk hR rfl; have r76_25 : R 76 25 = some 91 := rr_lk hR rfl; have r76_26 : R 76 26 = some 92 := rr_lk hR rfl; have r76_28 : R 76 28 = some 93 := rr_lk hR rfl; have r76_29 : R 76 29 = some 94 := rr_lk hR rfl; have r76_30 : R 76 30 = some 95 := rr_lk hR rfl; have r76_31 : R 76 31 = some 96 := rr_lk hR rfl; have r76_32 : R 76 32 = some 97 := rr_lk hR rfl; have r76_36 : R 76 36 = some 98 := rr_lk hR rfl; have r76_38 : R 76 38 = some 99 := rr_lk hR rfl; have r76_39 : R 76 39 = some 100 := rr_lk hR rfl; have r76_40 : R 76 40 = some 101 := rr_lk hR rfl; have r76_41 : R 76 41 = some 102 := rr_lk hR rfl; have r76_42 : R 76 42 = some 103 := rr_lk hR rfl; have r76_47 : R 76 47 = some 104 := rr_lk hR rfl; have r76_53 : R 76 53 = some 105 := rr_lk hR rfl; have r76_54 : R 76 54 = some 106 := rr_lk hR rfl; have r76_55 : R 76 55 = some 107 := rr_lk hR rfl; have r76_56 : R 76 56 = some 108 := rr_lk hR rfl; have r76_57 : R 76 57 = some 109 := rr_lk hR rfl; have s77 : (SH L)[77]? = some (20, 120) := rfl; have s102 : (SH L)[102]? = some (20, 200) := rfl
  intro i
  induction i with
  | zero =>
    intro k J hi hk hn
    have e : spJ J k n = J := by funext a j; unfold spJ; rw [if_neg (by omega)]
    rw [e]
    simp (disch := first | assumption | omega | exact bi_lo | exact bi_hi | exact bi_01 | exact jcmp_lo | exact jcmp_hi | exact (jor_r _ _).1 | exact (jor_r _ _).2 | exact (jand_r _ _).1 | exact (jand_r _ _).2) only [x172_2, x172_3, x172_4, x172_7, x172_28, kb_some, kb_none, clr_vi, clr_ref, clr_null, clr_none, va_rf_some, va_rf_none, ↓bi_ite_t, ↓bi_ite_f, ↓jc_lt_t, ↓jc_lt_f, ↓jc_gt_t, ↓jc_gt_f, ↓jc_le_t, ↓jc_le_f, ↓jc_ge_t, ↓jc_ge_f, ↓jc_eq_t, ↓jc_eq_f, ↓if_pos, ↓if_neg]
  | succ i ih =>
    intro k J hi hk hn
    have ih' := ih (k + 1) (mm_up J 102 k (J 77 k)) (by omega) (by omega) (by rw [up_ne (by decide)]; exact hn)
    have e : spJ (mm_up J 102 k (J 77 k)) (k + 1) n = spJ J k n := by
      funext a j; unfold spJ mm_up
      by_cases ca : a = 102
      · subst ca
        by_cases cj : j = k
        · subst cj
          rw [if_neg (by omega), if_pos ⟨rfl, rfl⟩, if_pos (by omega)]
        · by_cases cj2 : k ≤ j ∧ (j : Int) < n
          · rw [if_pos (by omega), if_neg (by omega), if_pos (by omega)]
          · rw [if_neg (by omega), if_neg (by omega), if_neg (by omega)]
      · rw [if_neg (by omega), if_neg (by omega), if_neg (by omega)]
    rw [e, Int.natCast_succ] at ih'
    have go : ∀ X, EE d 172 2 [some (.ref 76), some (vi ((k : Int) + 1))] [] (SH L) (mm_up J 102 k (J 77 k)) K R = X → EE d 172 2 [some (.ref 76), some (vi k)] [] (SH L) J K R = X := by
      intro X hX
      simp (disch := first | assumption | omega | exact bi_lo | exact bi_hi | exact bi_01 | exact jcmp_lo | exact jcmp_hi | exact (jor_r _ _).1 | exact (jor_r _ _).2 | exact (jand_r _ _).1 | exact (jand_r _ _).2) only [x172_2, x172_3, x172_4, x172_7, kb_some, kb_none, clr_vi, clr_ref, clr_null, clr_none, va_rf_some, va_rf_none, ↓bi_ite_t, ↓bi_ite_f, ↓jc_lt_t, ↓jc_lt_f, ↓jc_gt_t, ↓jc_gt_f, ↓jc_le_t, ↓jc_le_f, ↓jc_ge_t, ↓jc_ge_f, ↓jc_eq_t, ↓jc_eq_f, ↓if_pos, ↓if_neg]
      simp (disch := first | assumption | omega | exact bi_lo | exact bi_hi | exact bi_01 | exact jcmp_lo | exact jcmp_hi | exact (jor_r _ _).1 | exact (jor_r _ _).2 | exact (jand_r _ _).1 | exact (jand_r _ _).2) only [x172_10, x172_11, x172_14, x172_15, x172_16, x172_19, x172_20, x172_21, x172_22, x172_25, kb_some, kb_none, clr_vi, clr_ref, clr_null, clr_none, va_rf_some, va_rf_none, ↓bi_ite_t, ↓bi_ite_f, ↓jc_lt_t, ↓jc_lt_f, ↓jc_gt_t, ↓jc_gt_f, ↓jc_le_t, ↓jc_le_f, ↓jc_ge_t, ↓jc_ge_f, ↓jc_eq_t, ↓jc_eq_f, ↓if_pos, ↓if_neg, Int.toNat_natCast]
      exact hX
    exact go _ ih'
theorem m_spell (hR : wfR R) (h1 : 0 ≤ J 76 1 ∧ J 76 1 ≤ 120) : EE d 172 0 [some (.ref 76), none] [] (SH L) J K R = ok none (SH L) (spJ J 0 (J 76 1)) K R := by
  have hl := l_spell (L := L) (d := d) (K := K) hR h1 (J 76 1).toNat 0 J rfl (by omega) rfl
  rw [show ((0 : Nat) : Int) = 0 from rfl] at hl
  simp (disch := first | assumption | omega | exact bi_lo | exact bi_hi | exact bi_01 | exact jcmp_lo | exact jcmp_hi | exact (jor_r _ _).1 | exact (jor_r _ _).2 | exact (jand_r _ _).1 | exact (jand_r _ _).2) only [x172_0, x172_1, kb_some, kb_none, clr_vi, clr_ref, clr_null, clr_none, va_rf_some, va_rf_none, ↓bi_ite_t, ↓bi_ite_f, ↓jc_lt_t, ↓jc_lt_f, ↓jc_gt_t, ↓jc_gt_f, ↓jc_le_t, ↓jc_le_f, ↓jc_ge_t, ↓jc_ge_f, ↓jc_eq_t, ↓jc_eq_f, ↓if_pos, ↓if_neg]
  exact hl
theorem m_made (h : MR f J R) (hv : 1 ≤ v ∧ v ≤ 3) (hw : ∀ F, wh f (J 76 1) = .ok F → (wF f 4 F ∧ F.length ≤ 6 ∧ 3 * fsz 4 F + fby 4 F ≤ 116) ∧ ∀ g v, (fileL g v F).length ≤ 126) : ∃ J2, frm SC J J2 ∧ match wh f (J 76 1) with
    | .error _ => EE (d + 6) 215 0 [some (.ref 76), some (vi v), none] [] (SH L) J K R = ok (some (vi 0)) (SH L) J2 K R
    | .ok F => EE (d + 6) 215 0 [some (.ref 76), some (vi v), none] [] (SH L) J K R = ok (some (vi 1)) (SH L) J2 K R ∧ J2 76 37 = (fileL f v F).length ∧ seg (J2 98) 0 (fileL f v F) := by
  have hR := h.1
  have s76 : (SH L)[76]? = some (11, 58) := rfl; have r76_0 : R 76 0 = some 77 := rr_lk hR rfl; have r76_3 : R 76 3 = some 78 := rr_lk hR rfl; have r76_4 : R 76 4 = some 79 := rr_lk hR rfl; have r76_6 : R 76 6 = some 80 := rr_lk hR rfl; have r76_7 : R 76 7 = some 81 := rr_lk hR rfl; have r76_9 : R 76 9 = some 82 := rr_lk hR rfl; have r76_10 : R 76 10 = some 83 := rr_lk hR rfl; have r76_12 : R 76 12 = some 84 := rr_lk hR rfl; have r76_13 : R 76 13 = some 85 := rr_lk hR rfl; have r76_19 : R 76 19 = some 86 := rr_lk hR rfl; have r76_20 : R 76 20 = some 87 := rr_lk hR rfl; have r76_21 : R 76 21 = some 88 := rr_lk hR rfl; have r76_22 : R 76 22 = some 89 := rr_lk hR rfl; have r76_24 : R 76 24 = some 90 := rr_lk hR rfl; have r76_25 : R 76 25 = some 91 := rr_lk hR rfl; have r76_26 : R 76 26 = some 92 := rr_lk hR rfl; have r76_28 : R 76 28 = some 93 := rr_lk hR rfl; have r76_29 : R 76 29 = some 94 := rr_lk hR rfl; have r76_30 : R 76 30 = some 95 := rr_lk hR rfl; have r76_31 : R 76 31 = some 96 := rr_lk hR rfl; have r76_32 : R 76 32 = some 97 := rr_lk hR rfl; have r76_36 : R 76 36 = some 98 := rr_lk hR rfl; have r76_38 : R 76 38 = some 99 := rr_lk hR rfl; have r76_39 : R 76 39 = some 100 := rr_lk hR rfl; have r76_40 : R 76 40 = some 101 := rr_lk hR rfl; have r76_41 : R 76 41 = some 102 := rr_lk hR rfl; have r76_42 : R 76 42 = some 103 := rr_lk hR rfl; have r76_47 : R 76 47 = some 104 := rr_lk hR rfl; have r76_53 : R 76 53 = some 105 := rr_lk hR rfl; have r76_54 : R 76 54 = some 106 := rr_lk hR rfl; have r76_55 : R 76 55 = some 107 := rr_lk hR rfl; have r76_56 : R 76 56 = some 108 := rr_lk hR rfl; have r76_57 : R 76 57 = some 109 := rr_lk hR rfl
  obtain ⟨J1, a1, a2⟩ := rd_mB (L := L) (e2 := d) (K := K) h
  cases hf : wh f (J 76 1) with
  | error q =>
    rw [hf] at a2
    obtain ⟨p1, p2⟩ := a2
    refine ⟨J1, frm_mono a1 (fun a j => AR_SC), ?_⟩
    simp (disch := first | assumption | omega | exact bi_lo | exact bi_hi | exact bi_01 | exact jcmp_lo | exact jcmp_hi | exact (jor_r _ _).1 | exact (jor_r _ _).2 | exact (jand_r _ _).1 | exact (jand_r _ _).2) only [x215_0, x215_1, x215_4, x215_5, x215_6, x215_9, x215_10, x215_13, x215_14, x215_15, x215_18, x215_19, kb_some, kb_none, clr_vi, clr_ref, clr_null, clr_none, va_rf_some, va_rf_none, ↓bi_ite_t, ↓bi_ite_f, ↓jc_lt_t, ↓jc_lt_f, ↓jc_gt_t, ↓jc_gt_f, ↓jc_le_t, ↓jc_le_f, ↓jc_ge_t, ↓jc_ge_f, ↓jc_eq_t, ↓jc_eq_f, ↓if_pos, ↓if_neg, p1]
  | ok F =>
    rw [hf] at a2
    obtain ⟨p1, p2⟩ := a2
    obtain ⟨⟨w1, w2, w3⟩, w4⟩ := hw F hf
    have e1 : J1 76 1 = J 76 1 := a1 76 1 (by unfold AR; omega)
    have e77 : J1 77 = J 77 := by funext j; exact a1 77 j (by unfold AR; omega)
    have hs := fun d => m_spell (L := L) (d := d) (J := J1) (K := K) hR (by rw [e1]; exact h.2.1)
    have eo : ∀ a j, a ≠ 102 → spJ J1 0 (J1 76 1) a j = J1 a j := fun a j ha => by unfold spJ; rw [if_neg (by omega)]
    have hM : MF (spJ J1 0 (J1 76 1)) F := ⟨by
      have e : ∀ a, 86 ≤ a → a ≤ 89 → spJ J1 0 (J1 76 1) a = J1 a := fun a b1 b2 => by funext j; exact eo a j (by omega)
      rw [e 86 (by decide) (by decide), e 87 (by decide) (by decide), e 88 (by decide) (by decide), e 89 (by decide) (by decide)]
      exact p2.1, by rw [eo 76 18 (by decide)]; exact p2.2⟩
    have hSP : SP f (spJ J1 0 (J1 76 1)) := fun p hp => by
      have hf2 := h.2.2.2
      rw [← hf2] at hp ⊢
      have hp2 : 0 ≤ p ∧ p < J 76 1 := by
        unfold mA at hp
        split at hp
        · assumption
        · omega
      have := h.2.1
      refine ⟨hp2.1, by omega, ?_⟩
      unfold mA spJ
      rw [if_pos hp2, if_pos (by omega), e77]
    obtain ⟨J2, b1, b2, b3, b4⟩ := m_layFile (L := L) (d := d + 1) (J := spJ J1 0 (J1 76 1)) (K := K) hR (v := v) (g := f) ⟨hM, w1, by omega, by omega⟩ hSP hv (by have := w4 f v; omega)
    refine ⟨J2, fun a j ha => ?_, ?_, b3, b4⟩
    · rw [b2 a j (fun q => ha (AW_SC q)), eo a j (by unfold SC at ha; omega), a1 a j (fun q => ha (AR_SC q))]
    · simp (disch := first | assumption | omega | exact bi_lo | exact bi_hi | exact bi_01 | exact jcmp_lo | exact jcmp_hi | exact (jor_r _ _).1 | exact (jor_r _ _).2 | exact (jand_r _ _).1 | exact (jand_r _ _).2) only [x215_0, x215_1, x215_4, x215_5, x215_6, x215_9, x215_10, x215_13, x215_14, x215_15, x215_18, x215_19, kb_some, kb_none, clr_vi, clr_ref, clr_null, clr_none, va_rf_some, va_rf_none, ↓bi_ite_t, ↓bi_ite_f, ↓jc_lt_t, ↓jc_lt_f, ↓jc_gt_t, ↓jc_gt_f, ↓jc_le_t, ↓jc_le_f, ↓jc_ge_t, ↓jc_ge_f, ↓jc_eq_t, ↓jc_eq_f, ↓if_pos, ↓if_neg, p1, hs, b1]
theorem c_made {e1 : Nat} (hR : wfR R1) {F : List (Nd 3)} (hC : CF f J1 F) (h58 : 0 ≤ J1 58 1 ∧ J1 58 1 ≤ 240) (hS : RS J1) (hv : 1 ≤ v ∧ v ≤ 3) (hw : wF f 4 F) (hl : ∀ g v, (fileL g v F).length ≤ 126) : EE (e1 + 10) 35 0 [some (.ref 57), some (.ref 36), some (vi v), none, none] [] (SH L) J1 K R1 = ok (some (.ref 58)) (SH L) (apL 58 59 (wv J1 v) (fileL f v F)) K R1 := by
  have hT := isT_36 (L := L) hR
  refine c_written (L := L) (R := R1) (K := K) (g := f) ⟨hR, hT, by decide, wv_58 h58.1, ?_, ?_, ?_⟩ h58 hC.1 hw hC.2.1 (by have := hl f v; omega)
  · rw [wv_o (by decide)]; exact hS.2.1
  · rw [wv_o (by decide)]; exact hS.2.2
  · rw [wv_57]; exact hv
theorem made_X (h : INV J K R) (b4 : fr A31 J J1) (hS : RS J1) {l : List Int} (hl : l.length ≤ 240) : IX (apL 58 59 (wv J1 v) l) ∧ (∀ a, a < 29 ∨ 62 < a → apL 58 59 (wv J1 v) l a = J a) ∧ apL 58 59 (wv J1 v) l 58 1 = (l.length : Nat) := by
  have hX := h.2.2.2.2.2.1
  have e58 : 0 ≤ J1 58 1 := by rw [b4 58 (by decide)]; exact hX.2.2.2.1.1
  have eo : ∀ a, a ≠ 57 → a ≠ 58 → a ≠ 59 → apL 58 59 (wv J1 v) l a = J1 a := fun a h1 h2 h3 => by rw [apL_o ⟨h2, h3⟩, wv_o ⟨h1, h2⟩]
  have ez : apL 58 59 (wv J1 v) l 58 1 = (l.length : Nat) := by rw [apL_sz (by decide), wv_58 e58]; omega
  refine ⟨?_, fun a ha => ?_, ez⟩
  · obtain ⟨x1, x2, x3, x4, x5, x6⟩ := hX
    refine ⟨?_, ?_, ?_, ?_, ?_, ?_⟩
    · unfold RS at hS ⊢
      rw [eo 32 (by decide) (by decide) (by decide), eo 36 (by decide) (by decide) (by decide), eo 42 (by decide) (by decide) (by decide)]
      exact hS
    · rw [eo 47 (by decide) (by decide) (by decide), b4 47 (by decide)]; exact x2
    · rw [eo 53 (by decide) (by decide) (by decide), b4 53 (by decide)]; exact x3
    · rw [ez]; omega
    · rw [eo 61 (by decide) (by decide) (by decide), b4 61 (by decide)]; exact x5
    · rw [eo 29 (by decide) (by decide) (by decide), eo 30 (by decide) (by decide) (by decide), b4 29 (by decide), b4 30 (by decide)]; exact x6
  · rw [eo a (by omega) (by omega) (by omega), b4 a (by omega)]
end
