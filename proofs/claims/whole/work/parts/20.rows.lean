/-! runs that end: what holds then -/
abbrev mJ := Nat → Nat → Int
def wp (S : mm_S) (o : Option mm_O) (Q : Option Value → mJ → mJ → mm_R → Prop) : Prop := ∃ v J K R, o = ok v S J K R ∧ Q v J K R
section
variable {S : mm_S} {o o' : Option mm_O} {Q Q' : Option Value → mJ → mJ → mm_R → Prop} {J K : mJ} {R : mm_R} {v : Option Value} {d m pc : Nat} {ls : mm_ls} {rest : List Value}
theorem wp_ok (h : Q v J K R) : wp S (ok v S J K R) Q := ⟨v, J, K, R, rfl, h⟩
theorem wp_eq (e : o = o') (h : wp S o' Q) : wp S o Q := e ▸ h
theorem wp_mono (h : wp S o Q) (hq : ∀ v J K R, Q v J K R → Q' v J K R) : wp S o Q' := by
  obtain ⟨v, J, K, R, e, h⟩ := h
  exact ⟨v, J, K, R, e, hq _ _ _ _ h⟩
theorem wp_kb (h : wp S o Q') (hk : ∀ v J K R, Q' v J K R → wp S (kb (ok v S J K R) d m pc ls rest) Q) : wp S (kb o d m pc ls rest) Q := by
  obtain ⟨v, J, K, R, e, h⟩ := h
  rw [e]; exact hk _ _ _ _ h
theorem wp_ite {c : Prop} {_ : Decidable c} (h1 : c → wp S o Q) (h2 : ¬ c → wp S o' Q) : wp S (if c then o else o') Q := by
  split
  · exact h1 ‹_›
  · exact h2 ‹_›
end
/-- nothing changed but at these places -/
def fr (A : Nat → Prop) (J J' : mJ) : Prop := ∀ a, ¬ A a → J' a = J a
theorem fr_refl {A : Nat → Prop} {J : mJ} : fr A J J := fun _ _ => rfl
theorem fr_trans {A : Nat → Prop} {J J' J'' : mJ} (h : fr A J J') (h' : fr A J' J'') : fr A J J'' := fun a ha => (h' a ha).trans (h a ha)
theorem fr_up {A : Nat → Prop} {J J' : mJ} {a j : Nat} {v : Int} (h : fr A J J') (ha : A a) : fr A J (mm_up J' a j v) := by
  intro b hb
  rw [← h b hb]
  funext i
  exact up_a (by intro e; exact hb (e ▸ ha))
theorem fr_rw {A : Nat → Prop} {J J' : mJ} {a : Nat} {g : Nat → Int} (h : fr A J J') (ha : A a) : fr A J (mm_rw J' a g) := by
  intro b hb
  rw [← h b hb]
  funext i
  exact rw_a (by intro e; exact hb (e ▸ ha))
theorem fr_mono {A B : Nat → Prop} {J J' : mJ} (h : fr A J J') (hab : ∀ a, A a → B a) : fr B J J' := fun a ha => h a (fun h' => ha (hab a h'))
/-! Rows -/
def isW (S : mm_S) (R : mm_R) (r a b n : Nat) : Prop := S[r]? = some (4, 3) ∧ R r 0 = some a ∧ R r 1 = some b ∧ S[a]? = some (20, n) ∧ S[b]? = some (20, n) ∧ 2 ≤ a ∧ 2 ≤ b ∧ r ≠ a ∧ r ≠ b ∧ a ≠ b ∧ n ≤ 1000
section
variable {d r a b n : Nat} {S : mm_S} {J K : mJ} {R : mm_R} {x y z : Int}
theorem w_size (h : isW S R r a b n) : EE d 41 0 [some (.ref r)] [] S J K R = ok (some (vi (J r 2))) S J K R := by
  obtain ⟨h1, h2, h3, h4, h5, h6, h7, h8, h9, h10, h11⟩ := h
  simp (disch := first | assumption | omega | exact bi_lo | exact bi_hi | exact bi_01) only [x41_0, x41_1, x41_4, kb_some, kb_none, clr_vi, clr_ref, clr_null, clr_none, va_rf_some, va_rf_none]
theorem w_becomeEmpty (h : isW S R r a b n) : EE d 42 0 [some (.ref r)] [] S J K R = ok none S (mm_up J r 2 0) K R := by
  obtain ⟨h1, h2, h3, h4, h5, h6, h7, h8, h9, h10, h11⟩ := h
  simp (disch := first | assumption | omega | exact bi_lo | exact bi_hi | exact bi_01) only [x42_0, x42_1, x42_2, x42_5, kb_some, kb_none, clr_vi, clr_ref, clr_null, clr_none, va_rf_some, va_rf_none]
theorem w_append (h : isW S R r a b n) (hs : 0 ≤ J r 2 ∧ J r 2 < n) : EE d 43 0 [some (.ref r), some (vi x), some (vi y)] [] S J K R = ok (some (vi 1)) S (mm_up (mm_up (mm_up J a (J r 2).toNat x) b (J r 2).toNat y) r 2 (J r 2 + 1)) K R := by
  obtain ⟨h1, h2, h3, h4, h5, h6, h7, h8, h9, h10, h11⟩ := h
  simp (disch := first | assumption | omega | exact bi_lo | exact bi_hi | exact bi_01) only [x43_0, x43_1, x43_4, x43_5, x43_8, x43_8l, x43_8a, x43_9, x43_12, x43_13, x43_16, x43_17, x43_20, x43_20l, x43_20a, x43_21, x43_24, x43_25, x43_26, x43_27, x43_30, x43_31, x43_34, x43_35, x43_36, x43_37, x43_40, x43_41, x43_44, x43_45, x43_46, x43_47, x43_48, x43_51, x43_52, x43_53, x43_56, x43_57, kb_some, kb_none, clr_vi, clr_ref, clr_null, clr_none, va_rf_some, va_rf_none, if_neg (show ¬ (n : Int) ≤ J r 2 by omega), if_pos hs.2, h2, h3, up_a]
theorem w_appendF (h : isW S R r a b n) (hs : J r 2 = n) : EE d 43 0 [some (.ref r), some (vi x), some (vi y)] [] S J K R = ok (some (vi 0)) S J K R := by
  obtain ⟨h1, h2, h3, h4, h5, h6, h7, h8, h9, h10, h11⟩ := h
  simp (disch := first | assumption | omega | exact bi_lo | exact bi_hi | exact bi_01) only [x43_0, x43_1, x43_4, x43_5, x43_8, x43_8l, x43_8a, x43_9, x43_12, x43_13, x43_16, x43_17, x43_20, x43_20l, x43_20a, x43_21, x43_24, x43_25, x43_26, x43_27, x43_30, x43_31, x43_34, x43_35, x43_36, x43_37, x43_40, x43_41, x43_44, x43_45, x43_46, x43_47, x43_48, x43_51, x43_52, x43_53, x43_56, x43_57, kb_some, kb_none, clr_vi, clr_ref, clr_null, clr_none, va_rf_some, va_rf_none, if_pos (show (n : Int) ≤ J r 2 by omega), h2, h3, up_a]
/-- what a row of pairs says of the bytes g: the first place that is otherwise -/
def firstO (g : Int → Int) (p q : Nat → Int) : Nat → Nat → Int
  | 0, _ => -1
  | i + 1, k => if g (p k) = q k then firstO g p q i (k + 1) else k
end
