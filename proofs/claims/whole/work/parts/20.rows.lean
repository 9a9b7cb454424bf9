/-! runs that end: what holds then -/
abbrev mJ := Nat → Nat → Int
def wp (S : mm_S) (o : Option mm_O) (Q : Option Value → mJ → mJ → mm_R → Prop) : Prop := ∃ v J K R, o = ok v S J K R ∧ Q v J K R
section
variable {S : mm_S} {o o' : Option mm_O} {Q Q' : Option Value → mJ → mJ → mm_R → Prop} {J K : mJ} {R : mm_R} {v : Option Value} {d m pc : Nat} {ls : mm_ls} {rest : List Value}
theorem wp_ok (h : Q v J K R) : wp S (ok v S J K R) Q := ⟨v, J, K, R, rfl, h⟩
theorem wp_eq (e : o = o') (h : wp S o' Q) : wp S o Q := e ▸ h
theorem wp_mono (h : wp S o Q) (hq : ∀ v J K R, Q v J K R → Q' v J K R) : wp S o Q' := by
  obtain ⟨v, J, K, R, e, h⟩ := h
  exact ⟨v, J, K, R, e, hq _ _ _ _ h⟩
theorem wp_kb (h : wp S o Q') (hk : ∀ v J K R, Q' v J K R → wp S (kb (ok v S J K R) d m pc ls rest) Q) : wp S (kb o d m pc ls rest) Q := by
  obtain ⟨v, J, K, R, e, h⟩ := h
  rw [e]; exact hk _ _ _ _ h
theorem wp_ite {c : Prop} {_ : Decidable c} (h1 : c → wp S o Q) (h2 : ¬ c → wp S o' Q) : wp S (if c then o else o') Q := by
  split
  · exact h1 ‹_›
  · exact h2 ‹_›
end
/-- nothing changed but at these places -/
def fr (A : Nat → Prop) (J J' : mJ) : Prop := ∀ a, ¬ A a → J' a = J a
theorem fr_refl {A : Nat → Prop} {J : mJ} : fr A J J := fun _ _ => rfl
theorem fr_trans {A : Nat → Prop} {J J' J'' : mJ} (h : fr A J J') (h' : fr A J' J'') : fr A J J'' := fun a ha => (h' a ha).trans (h a ha)
theorem fr_up {A : Nat → Prop} {J J' : mJ} {a j : Nat} {v : Int} (h : fr A J J') (ha : A a) : fr A J (mm_up J' a j v) := by
  intro b hb
  rw [← h b hb]
  funext i
  exact up_a (by intro e; exact hb (e ▸ ha))
theorem fr_rw {A : Nat → Prop} {J J' : mJ} {a : Nat} {g : Nat → Int} (h : fr A J J') (ha : A a) : fr A J (mm_rw J' a g) := by
  intro b hb
  rw [← h b hb]
  funext i
  exact rw_a (by intro e; exact hb (e ▸ ha))
theorem fr_mono {A B : Nat → Prop} {J J' : mJ} (h : fr A J J') (hab : ∀ a, A a → B a) : fr B J J' := fun a ha => h a (fun h' => ha (hab a h'))
/-! Rows -/
def isW (S : mm_S) (R : mm_R) (r a b n : Nat) : Prop := S[r]? = some (4, 3) ∧ R r 0 = some a ∧ R r 1 = some b ∧ S[a]? = some (20, n) ∧ S[b]? = some (20, n) ∧ 2 ≤ a ∧ 2 ≤ b ∧ r ≠ a ∧ r ≠ b ∧ a ≠ b ∧ n ≤ 1000
section
variable {d r a b n : Nat} {S : mm_S} {J K : mJ} {R : mm_R} {x y z : Int}
theorem w_size (h : isW S R r a b n) : EE d 41 0 [some (.ref r)] [] S J K R = ok (some (vi (J r 2))) S J K R := by
  obtain ⟨h1, h2, h3, h4, h5, h6, h7, h8, h9, h10, h11⟩ := h
  simp (disch := first | assumption | omega | exact bi_lo | exact bi_hi | exact bi_01) only [x41_0, x41_1, x41_4, kb_some, kb_none, clr_vi, clr_ref, clr_null, clr_none, va_rf_some, va_rf_none]
theorem w_becomeEmpty (h : isW S R r a b n) : EE d 42 0 [some (.ref r)] [] S J K R = ok none S (mm_up J r 2 0) K R := by
  obtain ⟨h1, h2, h3, h4, h5, h6, h7, h8, h9, h10, h11⟩ := h
  simp (disch := first | assumption | omega | exact bi_lo | exact bi_hi | exact bi_01) only [x42_0, x42_1, x42_2, x42_5, kb_some, kb_none, clr_vi, clr_ref, clr_null, clr_none, va_rf_some, va_rf_none]
theorem w_append (h : isW S R r a b n) (hs : 0 ≤ J r 2 ∧ J r 2 < n) : EE d 43 0 [some (.ref r), some (vi x), some (vi y)] [] S J K R = ok (some (vi 1)) S (mm_up (mm_up (mm_up J a (J r 2).toNat x) b (J r 2).toNat y) r 2 (J r 2 + 1)) K R := by
  obtain ⟨h1, h2, h3, h4, h5, h6, h7, h8, h9, h10, h11⟩ := h
  simp (disch := first | assumption | omega | exact bi_lo | exact bi_hi | exact bi_01) only [x43_0, x43_1, x43_4, x43_5, x43_8, x43_8l, x43_8a, x43_9, x43_12, x43_13, x43_16, x43_17, x43_20, x43_20l, x43_20a, x43_21, x43_24, x43_25, x43_26, x43_27, x43_30, x43_31, x43_34, x43_35, x43_36, x43_37, x43_40, x43_41, x43_44, x43_45, x43_46, x43_47, x43_48, x43_51, x43_52, x43_53, x43_56, x43_57, kb_some, kb_none, clr_vi, clr_ref, clr_null, clr_none, va_rf_some, va_rf_none, if_neg (show ¬ (n : Int) ≤ J r 2 by omega), if_pos hs.2, h2, h3, up_a]
theorem w_appendF (h : isW S R r a b n) (hs : J r 2 = n) : EE d 43 0 [some (.ref r), some (vi x), some (vi y)] [] S J K R = ok (some (vi 0)) S J K R := by
  obtain ⟨h1, h2, h3, h4, h5, h6, h7, h8, h9, h10, h11⟩ := h
  simp (disch := first | assumption | omega | exact bi_lo | exact bi_hi | exact bi_01) only [x43_0, x43_1, x43_4, x43_5, x43_8, x43_8l, x43_8a, x43_9, x43_12, x43_13, x43_16, x43_17, x43_20, x43_20l, x43_20a, x43_21, x43_24, x43_25, x43_26, x43_27, x43_30, x43_31, x43_34, x43_35, x43_36, x43_37, x43_40, x43_41, x43_44, x43_45, x43_46, x43_47, x43_48, x43_51, x43_52, x43_53, x43_56, x43_57, kb_some, kb_none, clr_vi, clr_ref, clr_null, clr_none, va_rf_some, va_rf_none, if_pos (show (n : Int) ≤ J r 2 by omega), h2, h3, up_a]
theorem c_at {x : Int} (h : isB S R a b n) (hx : -2147483648 ≤ x ∧ x ≤ 2147483647) (hs : 0 ≤ J a 1 ∧ J a 1 ≤ n) : EE d 3 0 [some (.ref a), some (vi x)] [] S J K R = ok (some (vi (bA J a b x))) S J K R := c_byteAt h hx hs
theorem bA_r {x : Int} (hs : J a 1 ≤ n) (hc : ∀ i, i < n → 0 ≤ J b i ∧ J b i ≤ 1000) : -1 ≤ bA J a b x ∧ bA J a b x ≤ 1000 := by
  unfold bA
  split
  · have := hc x.toNat (by omega); omega
  · omega
/-- what a row of pairs says of the bytes g: the first place that is otherwise -/
def firstO (g : Int → Int) (p q : Nat → Int) : Nat → Nat → Int
  | 0, _ => -1
  | i + 1, k => if g (p k) = q k then firstO g p q i (k + 1) else k
theorem l_firstO {e c m : Nat} (h : isW S R r a b n) (he : isB S R e c m) (hs : 0 ≤ J r 2 ∧ J r 2 ≤ n) (hs' : 0 ≤ J e 1 ∧ J e 1 ≤ m)
    (ha : ∀ i : Nat, (i : Int) < J r 2 → 0 ≤ J a i ∧ J a i ≤ 1000) (hb : ∀ i : Nat, (i : Int) < J r 2 → 0 ≤ J b i ∧ J b i ≤ 1000) (hc : ∀ i, i < m → 0 ≤ J c i ∧ J c i ≤ 1000) : ∀ (i k : Nat), ((J r 2).toNat - k) = i → k ≤ n →
    EE (d + 1) 45 2 [some (.ref r), some (.ref e), some (vi k)] [] S J K R = ok (some (vi (firstO (bA J e c) (J a) (J b) i k))) S J K R := by
  have h' := h
  have he' := he
  obtain ⟨h1, h2, h3, h4, h5, h6, h7, h8, h9, h10, h11⟩ := h
  obtain ⟨g1, g2, g3, g4, g5, g6⟩ := he
  intro i
  induction i with
  | zero =>
    intro k hi hk
    simp (disch := first | assumption | omega | exact bi_lo | exact bi_hi | exact bi_01) only [x45_0, x45_1, x45_2, x45_3, x45_4, x45_7, x45_10, x45_10n, x45_11, x45_12, x45_15, x45_16, x45_17, x45_20, x45_21, x45_24, x45_25, x45_26, x45_29, x45_30, x45_31, x45_34, x45_37, x45_38, kb_some, kb_none, clr_vi, clr_ref, clr_null, clr_none, va_rf_some, va_rf_none, if_pos (show J r 2 ≤ (k : Int) by omega), firstO]
  | succ i ih =>
    intro k hi hk
    have hk2 : ¬ J r 2 ≤ (k : Int) := by omega
    have hak := ha k (by omega)
    have hbk := hb k (by omega)
    have hby := c_at (d := d) (K := K) he' (show -2147483648 ≤ J a k ∧ J a k ≤ 2147483647 by omega) hs'
    have ih' := ih (k + 1) (by omega) (by omega)
    rw [Int.natCast_succ] at ih'
    have hbr := bA_r (x := J a k) hs'.2 hc
    simp (disch := first | assumption | omega | exact bi_lo | exact bi_hi | exact bi_01) only [x45_0, x45_1, x45_2, x45_3, x45_4, x45_7, x45_10, x45_10n, x45_11, x45_12, x45_15, x45_16, x45_17, x45_20, x45_21, x45_24, x45_25, x45_26, x45_29, x45_30, x45_31, x45_34, x45_37, x45_38, kb_some, kb_none, clr_vi, clr_ref, clr_null, clr_none, va_rf_some, va_rf_none, if_neg hk2, hby, h2, h3, Int.toNat_natCast, ih', firstO]
    by_cases q : bA J e c (J a k) = J b k
    · rw [if_pos q, if_pos q]
    · rw [if_neg q, if_neg q]
theorem w_firstO {e c m : Nat} (h : isW S R r a b n) (he : isB S R e c m) (hs : 0 ≤ J r 2 ∧ J r 2 ≤ n) (hs' : 0 ≤ J e 1 ∧ J e 1 ≤ m)
    (ha : ∀ i : Nat, (i : Int) < J r 2 → 0 ≤ J a i ∧ J a i ≤ 1000) (hb : ∀ i : Nat, (i : Int) < J r 2 → 0 ≤ J b i ∧ J b i ≤ 1000) (hc : ∀ i, i < m → 0 ≤ J c i ∧ J c i ≤ 1000) :
    EE (d + 1) 45 0 [some (.ref r), some (.ref e), none] [] S J K R = ok (some (vi (firstO (bA J e c) (J a) (J b) (J r 2).toNat 0))) S J K R := by
  have hl := l_firstO (d := d) (K := K) h he hs hs' ha hb hc (J r 2).toNat 0 (by omega) (by omega)
  simp (disch := first | assumption | omega | exact bi_lo | exact bi_hi | exact bi_01) only [x45_0, x45_1, kb_some, kb_none, clr_vi, clr_ref, clr_null, clr_none, va_rf_some, va_rf_none]
  exact hl
/-- the steps of a plan over a size and cells -/
def fu (f : Nat → Int) (i : Nat) (v : Int) : Nat → Int := fun j => if j = i then v else f j
theorem up_row {J : mJ} {c i : Nat} {v : Int} : mm_up J c i v c = fu (J c) i v := by
  funext j
  simp [mm_up, fu]
theorem up_ne {J : mJ} {c e i : Nat} {v : Int} (h : e ≠ c) : mm_up J c i v e = J e := by
  funext j
  exact up_a h
def pl1 (w x : Int) (s : Int × (Nat → Int)) : Int × (Nat → Int) :=
  if x < s.1 then (if w = 2 then (x, s.2) else (s.1, fu s.2 x.toNat (if w = 1 then 0 else 255 - s.2 x.toNat))) else s
def goO (p q : Nat → Int) : Nat → Nat → Int × (Nat → Int) → Int × (Nat → Int)
  | 0, _, s => s
  | i + 1, k, s => goO p q i (k + 1) (pl1 (p k) (q k) s)
theorem l_goOver {e c m : Nat} (h : isW S R r a b n) (he : isB S R e c m) (hre : r ≠ e ∧ a ≠ e ∧ b ≠ e ∧ r ≠ c ∧ a ≠ c ∧ b ≠ c) : ∀ (i k : Nat) (J : mJ) (l3 : Option Value) (hs : 0 ≤ J r 2 ∧ J r 2 ≤ n) (hs' : 0 ≤ J e 1 ∧ J e 1 ≤ m)
    (ha : ∀ i : Nat, (i : Int) < J r 2 → 0 ≤ J a i ∧ J a i ≤ 1000) (hb : ∀ i : Nat, (i : Int) < J r 2 → 0 ≤ J b i ∧ J b i ≤ 1000) (hi : ((J r 2).toNat - k) = i) (hk : k ≤ n),
    wp S (EE (d + 2) 46 2 [some (.ref r), some (.ref e), some (vi k), l3] [] S J K R) fun v J' K' R' => v = none ∧ K' = K ∧ R' = R ∧ fr (fun x => x = e ∨ x = c) J J' ∧ (J' e 1, J' c) = goO (J a) (J b) i k (J e 1, J c) := by
  have h' := h
  have he' := he
  obtain ⟨h1, h2, h3, h4, h5, h6, h7, h8, h9, h10, h11⟩ := h
  obtain ⟨g1, g2, g3, g4, g5, g6⟩ := he
  intro i
  induction i with
  | zero =>
    intro k J l3 hs hs' ha hb hi hk
    simp (disch := first | assumption | omega | exact bi_lo | exact bi_hi | exact bi_01) only [x46_2, x46_3, x46_4, x46_7, x46_77, kb_some, kb_none, clr_vi, clr_ref, clr_null, clr_none, va_rf_some, va_rf_none, if_pos (show J r 2 ≤ (k : Int) by omega)]
    exact wp_ok ⟨rfl, rfl, rfl, fr_refl, rfl⟩
  | succ i ih =>
    intro k J l3 hs hs' ha hb hi hk
    have hk2 : ¬ J r 2 ≤ (k : Int) := by omega
    have hak := ha k (by omega)
    have hbk := hb k (by omega)
    have hby := c_byteAt (d := d) (K := K) he' (show -2147483648 ≤ J b k ∧ J b k ≤ 2147483647 by omega) hs'
    have hby' := c_byteAt (d := d + 1) (K := K) he' (show -2147483648 ≤ J b k ∧ J b k ≤ 2147483647 by omega) hs'
    have hha := c_has (d := d + 1) (K := K) he' (show -2147483648 ≤ J b k ∧ J b k ≤ 2147483647 by omega) hs'
    have hen := c_endBehind (d := d + 1) (K := K) he' (show -2147483648 ≤ J b k ∧ J b k ≤ 2147483647 by omega) hs'
    have go : ∀ J' : mJ, fr (fun x => x = e ∨ x = c) J J' → (0 ≤ J' e 1 ∧ J' e 1 ≤ m) → (J' e 1, J' c) = pl1 (J a k) (J b k) (J e 1, J c) →
        wp S (EE (d + 2) 46 2 [some (.ref r), some (.ref e), some (vi (k + 1)), some (vi (J b k))] [] S J' K R) fun v J' K' R' => v = none ∧ K' = K ∧ R' = R ∧ fr (fun x => x = e ∨ x = c) J J' ∧ (J' e 1, J' c) = goO (J a) (J b) (i + 1) k (J e 1, J c) := by
      intro J' hf hs2 hp
      have er : J' r = J r := hf r (by omega)
      have ea : J' a = J a := hf a (by omega)
      have eb : J' b = J b := hf b (by omega)
      have := ih (k + 1) J' (some (vi (J b k))) (by rw [er]; exact hs) hs2 (by rw [er, ea]; exact ha) (by rw [er, eb]; exact hb) (by rw [er]; omega) (by omega)
      rw [Int.natCast_succ] at this
      refine wp_mono this ?_
      intro v J2 K2 R2 ⟨q1, q2, q3, q4, q5⟩
      refine ⟨q1, q2, q3, fr_trans hf q4, ?_⟩
      rw [q5, ea, eb, hp]; rfl
    simp (disch := first | assumption | omega | exact bi_lo | exact bi_hi | exact bi_01) only [x46_2, x46_3, x46_4, x46_7, kb_some, kb_none, clr_vi, clr_ref, clr_null, clr_none, va_rf_some, va_rf_none, if_neg hk2]
    by_cases c1 : J a k = 2
    · simp (disch := first | assumption | omega | exact bi_lo | exact bi_hi | exact bi_01) only [x46_10, x46_11, x46_14, x46_15, x46_16, x46_17, x46_18, x46_21, x46_22, x46_23, x46_24, x46_27, x46_27n, x46_28, x46_29, x46_32, x46_35, x46_35n, x46_36, x46_37, x46_40, x46_43, x46_43n, x46_44, x46_45, x46_46, x46_49, x46_50, x46_51, x46_52, x46_55, x46_56, x46_59, x46_62, x46_62n, x46_63, x46_64, x46_67, x46_68, x46_71, x46_74, kb_some, kb_none, clr_vi, clr_ref, clr_null, clr_none, va_rf_some, va_rf_none, h2, h3, Int.toNat_natCast, c1, hen, if_neg (show ¬ (2 : Int) ≠ 2 by omega), ne_eq, not_true_eq_false, if_false, if_true]
      refine go _ ?_ ?_ ?_
      · split
        · exact fr_up fr_refl (Or.inl rfl)
        · exact fr_refl
      · split
        · rw [up_s]; omega
        · exact hs'
      · unfold pl1
        by_cases c2 : J b k < J e 1
        · rw [if_pos ⟨hbk.1, c2⟩, if_pos c2, if_pos c1, up_s, up_ne (Ne.symm g5)]
        · rw [if_neg (fun h => c2 h.2), if_neg c2]
    · by_cases c2 : J b k < J e 1
      · have hrp := c_replace (d := d) (K := K) (y := if J a k = 1 then 0 else 255 - J c (J b k).toNat) he' ⟨hbk.1, c2⟩ hs'
        have c3 : 0 ≤ J b k ∧ J b k < J e 1 := ⟨hbk.1, c2⟩
        by_cases c4 : J a k = 1
        · rw [if_pos c4] at hrp
          simp (disch := first | assumption | omega | exact bi_lo | exact bi_hi | exact bi_01) only [x46_10, x46_11, x46_14, x46_15, x46_16, x46_17, x46_18, x46_21, x46_22, x46_23, x46_24, x46_27, x46_27n, x46_28, x46_29, x46_32, x46_35, x46_35n, x46_36, x46_37, x46_40, x46_43, x46_43n, x46_44, x46_45, x46_46, x46_49, x46_50, x46_51, x46_52, x46_55, x46_56, x46_59, x46_62, x46_62n, x46_63, x46_64, x46_67, x46_68, x46_71, x46_74, kb_some, kb_none, clr_vi, clr_ref, clr_null, clr_none, va_rf_some, va_rf_none, h2, h3, Int.toNat_natCast, if_neg c1, hha, bi_t c3, if_pos c4, hrp, ne_eq, not_true_eq_false, if_false, if_true, Int.reduceEq]
          refine go _ (fr_up fr_refl (Or.inr rfl)) (by rw [up_ne g5]; exact hs') ?_
          unfold pl1
          rw [if_pos c2, if_neg c1, if_pos c4, up_ne g5, up_row]
        · rw [if_neg c4] at hrp
          simp (disch := first | assumption | omega | exact bi_lo | exact bi_hi | exact bi_01) only [x46_10, x46_11, x46_14, x46_15, x46_16, x46_17, x46_18, x46_21, x46_22, x46_23, x46_24, x46_27, x46_27n, x46_28, x46_29, x46_32, x46_35, x46_35n, x46_36, x46_37, x46_40, x46_43, x46_43n, x46_44, x46_45, x46_46, x46_49, x46_50, x46_51, x46_52, x46_55, x46_56, x46_59, x46_62, x46_62n, x46_63, x46_64, x46_67, x46_68, x46_71, x46_74, kb_some, kb_none, clr_vi, clr_ref, clr_null, clr_none, va_rf_some, va_rf_none, h2, h3, Int.toNat_natCast, if_neg c1, hha, bi_t c3, if_neg c4, hby', if_pos c3, hrp, ne_eq, not_true_eq_false, if_false, if_true, Int.reduceEq]
          refine go _ (fr_up fr_refl (Or.inr rfl)) (by rw [up_ne g5]; exact hs') ?_
          unfold pl1
          rw [if_pos c2, if_neg c1, if_neg c4, up_ne g5, up_row]
      · have c3 : ¬ (0 ≤ J b k ∧ J b k < J e 1) := fun h => c2 h.2
        simp (disch := first | assumption | omega | exact bi_lo | exact bi_hi | exact bi_01) only [x46_10, x46_11, x46_14, x46_15, x46_16, x46_17, x46_18, x46_21, x46_22, x46_23, x46_24, x46_27, x46_27n, x46_28, x46_29, x46_32, x46_35, x46_35n, x46_36, x46_37, x46_40, x46_43, x46_43n, x46_44, x46_45, x46_46, x46_49, x46_50, x46_51, x46_52, x46_55, x46_56, x46_59, x46_62, x46_62n, x46_63, x46_64, x46_67, x46_68, x46_71, x46_74, kb_some, kb_none, clr_vi, clr_ref, clr_null, clr_none, va_rf_some, va_rf_none, h2, h3, Int.toNat_natCast, if_neg c1, hha, bi_f c3, ne_eq, not_true_eq_false, if_false, if_true, Int.reduceEq]
        refine go _ fr_refl hs' ?_
        unfold pl1
        rw [if_neg c2]
theorem w_goOver {e c m : Nat} (h : isW S R r a b n) (he : isB S R e c m) (hre : r ≠ e ∧ a ≠ e ∧ b ≠ e ∧ r ≠ c ∧ a ≠ c ∧ b ≠ c) (hs : 0 ≤ J r 2 ∧ J r 2 ≤ n) (hs' : 0 ≤ J e 1 ∧ J e 1 ≤ m)
    (ha : ∀ i : Nat, (i : Int) < J r 2 → 0 ≤ J a i ∧ J a i ≤ 1000) (hb : ∀ i : Nat, (i : Int) < J r 2 → 0 ≤ J b i ∧ J b i ≤ 1000) :
    wp S (EE (d + 2) 46 0 [some (.ref r), some (.ref e), none, none] [] S J K R) fun v J' K' R' => v = none ∧ K' = K ∧ R' = R ∧ fr (fun x => x = e ∨ x = c) J J' ∧ (J' e 1, J' c) = goO (J a) (J b) (J r 2).toNat 0 (J e 1, J c) := by
  have hl := l_goOver (d := d) (K := K) h he hre (J r 2).toNat 0 J none hs hs' ha hb (by omega) (by omega)
  simp (disch := first | assumption | omega | exact bi_lo | exact bi_hi | exact bi_01) only [x46_0, x46_1, kb_some, kb_none, clr_vi, clr_ref, clr_null, clr_none, va_rf_some, va_rf_none]
  exact hl
/-- a copy of pairs -/
theorem l_copyW {r' a' b' n' : Nat} (h : isW S R r a b n) (h' : isW S R r' a' b' n') (hd : r' ≠ r ∧ a' ≠ r ∧ b' ≠ r ∧ r' ≠ a ∧ a' ≠ a ∧ b' ≠ a ∧ r' ≠ b ∧ a' ≠ b ∧ b' ≠ b) : ∀ (i k : Nat) (J : mJ) (hs : 0 ≤ J r' 2 ∧ J r' 2 ≤ n' ∧ J r' 2 ≤ n) (hi : ((J r' 2).toNat - k) = i) (hk : (k : Int) ≤ J r' 2) (hkk : J r 2 = k),
    wp S (EE (d + 1) 44 6 [some (.ref r), some (.ref r'), some (vi k)] [] S J K R) fun v J' K' R' => v = none ∧ K' = K ∧ R' = R ∧ fr (fun x => x = r ∨ x = a ∨ x = b) J J' ∧ J' r 2 = J r' 2 ∧ (∀ j : Nat, j < k → J' a j = J a j ∧ J' b j = J b j) ∧ (∀ j : Nat, k ≤ j → (j : Int) < J r' 2 → J' a j = J a' j ∧ J' b j = J b' j) := by
  have hh := h
  obtain ⟨h1, h2, h3, h4, h5, h6, h7, h8, h9, h10, h11⟩ := h
  obtain ⟨g1, g2, g3, g4, g5, g6, g7, g8, g9, g10, g11⟩ := h'
  obtain ⟨d1, d2, d3, d4, d5, d6, d7, d8, d9⟩ := hd
  intro i
  induction i with
  | zero =>
    intro k J hs hi hk hkk
    simp (disch := first | assumption | omega | exact bi_lo | exact bi_hi | exact bi_01) only [x44_6, x44_7, x44_7n, x44_8, x44_11, x44_37, kb_some, kb_none, clr_vi, clr_ref, clr_null, clr_none, va_rf_some, va_rf_none, if_pos (show J r' 2 ≤ (k : Int) by omega)]
    refine wp_ok ⟨rfl, rfl, rfl, fr_refl, by omega, fun _ _ => ⟨rfl, rfl⟩, fun j q1 q2 => by omega⟩
  | succ i ih =>
    intro k J hs hi hk hkk
    have hk2 : ¬ J r' 2 ≤ (k : Int) := by omega
    have hap := fun x y => w_append (d := d) (K := K) (x := x) (y := y) hh (show 0 ≤ J r 2 ∧ J r 2 < n by omega)
    simp (disch := first | assumption | omega | exact bi_lo | exact bi_hi | exact bi_01) only [x44_6, x44_7, x44_7n, x44_8, x44_11, kb_some, kb_none, clr_vi, clr_ref, clr_null, clr_none, va_rf_some, va_rf_none, if_neg hk2]
    simp (disch := first | assumption | omega | exact bi_lo | exact bi_hi | exact bi_01) only [x44_14, x44_15, x44_15n, x44_16, x44_19, x44_20, x44_21, x44_21n, x44_22, x44_25, x44_26, x44_27, x44_30, x44_31, x44_34, kb_some, kb_none, clr_vi, clr_ref, clr_null, clr_none, va_rf_some, va_rf_none, h2, h3, g2, g3, Int.toNat_natCast, hap, hkk]
    have := ih (k + 1) (mm_up (mm_up (mm_up J a k (J a' k)) b k (J b' k)) r 2 (k + 1)) (by simp only [up_ne d1, up_ne d4, up_ne d7]; exact hs) (by simp only [up_ne d1, up_ne d4, up_ne d7]; omega) (by simp only [up_ne d1, up_ne d4, up_ne d7]; omega) (by rw [up_s]; omega)
    rw [Int.natCast_succ] at this
    refine wp_mono this ?_
    intro v J2 K2 R2 ⟨q1, q2, q3, q4, q5, q6, q7⟩
    refine ⟨q1, q2, q3, fr_trans (fr_up (fr_up (fr_up fr_refl (Or.inr (Or.inl rfl))) (Or.inr (Or.inr rfl))) (Or.inl rfl)) q4, ?_, ?_, ?_⟩
    · rw [q5]; simp only [up_ne d1, up_ne d4, up_ne d7]
    · intro j hj
      have := q6 j (by omega)
      rw [this.1, this.2]
      simp only [up_ne (Ne.symm h8), up_ne (Ne.symm h9), up_ne h10, up_ne (Ne.symm h10)]
      rw [up_j (by omega), up_j (by omega), up_ne (Ne.symm h10)]
      exact ⟨rfl, rfl⟩
    · intro j hj1 hj2
      by_cases e : j = k
      · subst e
        have := q6 j (by omega)
        rw [this.1, this.2]
        simp only [up_ne (Ne.symm h8), up_ne (Ne.symm h9), up_ne h10, up_ne (Ne.symm h10), up_s]
        exact ⟨trivial, trivial⟩
      · have := q7 j (by omega) (by simp only [up_ne d1, up_ne d4, up_ne d7]; exact hj2)
        rw [this.1, this.2]
        simp only [up_ne d2, up_ne d3, up_ne d5, up_ne d6, up_ne d8, up_ne d9]
        exact ⟨trivial, trivial⟩
theorem w_copyW {r' a' b' n' : Nat} (h : isW S R r a b n) (h' : isW S R r' a' b' n') (hd : r' ≠ r ∧ a' ≠ r ∧ b' ≠ r ∧ r' ≠ a ∧ a' ≠ a ∧ b' ≠ a ∧ r' ≠ b ∧ a' ≠ b ∧ b' ≠ b) (hs : 0 ≤ J r' 2 ∧ J r' 2 ≤ n' ∧ J r' 2 ≤ n) :
    wp S (EE (d + 1) 44 0 [some (.ref r), some (.ref r'), none] [] S J K R) fun v J' K' R' => v = none ∧ K' = K ∧ R' = R ∧ fr (fun x => x = r ∨ x = a ∨ x = b) J J' ∧ J' r 2 = J r' 2 ∧ (∀ j : Nat, (j : Int) < J r' 2 → J' a j = J a' j ∧ J' b j = J b' j) := by
  have h1 := h.1
  have hb := w_becomeEmpty (d := d) (J := J) (K := K) h
  obtain ⟨d1, d2, d3, d4, d5, d6, d7, d8, d9⟩ := hd
  have hl := l_copyW (d := d) (K := K) h h' ⟨d1, d2, d3, d4, d5, d6, d7, d8, d9⟩ (J r' 2).toNat 0 (mm_up J r 2 0) (by rw [up_ne d1]; exact hs) (by rw [up_ne d1]; omega) (by rw [up_ne d1]; omega) (by rw [up_s]; rfl)
  simp (disch := first | assumption | omega | exact bi_lo | exact bi_hi | exact bi_01) only [x44_0, x44_1, x44_4, x44_5, kb_some, kb_none, clr_vi, clr_ref, clr_null, clr_none, va_rf_some, va_rf_none, hb]
  refine wp_mono hl ?_
  intro v J2 K2 R2 ⟨q1, q2, q3, q4, q5, q6, q7⟩
  refine ⟨q1, q2, q3, fr_trans (fr_up fr_refl (Or.inl rfl)) q4, by rw [q5, up_ne d1], ?_⟩
  intro j hj
  have := q7 j (by omega) (by rw [up_ne d1]; exact hj)
  rw [this.1, this.2, up_ne d2, up_ne d3]
  exact ⟨rfl, rfl⟩
end
