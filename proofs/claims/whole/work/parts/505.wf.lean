/-! what is read is well made -/
def flen : (d : Nat) → Fo d → Nat
  | 0, _ => 0
  | _ + 1, l => List.length l
def wD (g : Int → Int) (a : Da) : Prop := (a.1 = 110 ∧ -2147483648 ≤ a.2.1 ∧ a.2.1 ≤ 2147483647) ∨ ((a.1 = 115 ∨ a.1 = 114) ∧ 0 ≤ a.2.1 ∧ a.2.1 ≤ 20 ∧ 0 ≤ a.2.2 ∧ a.2.2 + a.2.1 ≤ 120 ∧ ∀ k, 0 ≤ k → k < a.2.1 → 0 ≤ g (a.2.2 + k) ∧ g (a.2.2 + k) ≤ 255) ∨ a.1 = 103
def wF (g : Int → Int) : (d : Nat) → Fo d → Prop
  | 0, _ => True
  | d + 1, l => List.foldr (fun (x : Da × Fo d) (P : Prop) => (wD g x.1 ∧ (x.1.1 = 103 → 0 < d ∧ x.1.2.1 = (flen d x.2 : Nat) ∧ x.1.2.1 ≤ 6) ∧ (x.1.1 ≠ 103 → x.2 = fo0 d) ∧ wF g d x.2) ∧ P) True l
section
variable {g : Int → Int} {d : Nat}
theorem wF_nil : wF g (d + 1) ([] : List (Nd d)) = True := rfl
theorem wF_cons {x : Nd d} {F : List (Nd d)} : wF g (d + 1) (x :: F : List (Nd d)) = ((wD g x.1 ∧ (x.1.1 = 103 → 0 < d ∧ x.1.2.1 = (flen d x.2 : Nat) ∧ x.1.2.1 ≤ 6) ∧ (x.1.1 ≠ 103 → x.2 = fo0 d) ∧ wF g d x.2) ∧ wF g (d + 1) (F : List (Nd d))) := rfl
theorem wF_0 : wF g d (fo0 d) := by cases d <;> trivial
end
theorem wD_ty {g : Int → Int} {a : Da} (h : wD g a) : 103 ≤ a.1 ∧ a.1 ≤ 115 := by
  unfold wD at h; omega
theorem numF_r {f : Int → Int} : ∀ (i : Nat) (p w : Int), (-2147483648 ≤ w ∧ w ≤ 2147483647) → -2147483648 ≤ numF f i p w ∧ numF f i p w ≤ 2147483647 := by
  intro i
  induction i with
  | zero => intro p w h; exact h
  | succ i ih => intro p w h; exact ih _ _ (jor_r _ _)
theorem num_r {f : Int → Int} {n : Nat} {p : Int} : -2147483648 ≤ num f n p ∧ num f n p ≤ 2147483647 := by
  unfold num
  exact numF_r _ _ _ (by split <;> omega)
theorem grp_wf {d : Nat} {f : Int → Int} {ch : Int → Int → Int → Except Fl (Nd d)} {layer en pl : Int} (hf : ∀ p, -1 ≤ f p) (hc : ∀ p x, 0 ≤ p → p + 3 + f (p + 1) ≤ en → ch p (p + 1) (p + 2) = .ok x → 0 ≤ f (p + 1) → wF f (d + 1) ([x] : List (Nd d))) (hb : ∀ p, p + 1 ≤ en → 0 ≤ p → 0 ≤ f p) : ∀ (k : Nat) (p : Int) (l : List (Nd d)), 0 ≤ p → p ≤ en → grp f ch layer en pl k p = .ok l → wF f (d + 1) l ∧ l.length ≤ k := by
  intro k
  induction k with
  | zero =>
    intro p l h0 hp h
    unfold grp at h
    split at h
    · cases h
    · cases h; exact ⟨trivial, Nat.le_refl _⟩
  | succ k ih =>
    intro p l h0 hp h
    unfold grp at h
    split at h
    · split at h
      · cases h
      · split at h
        · cases h
        · rename_i x hx
          split at h
          · cases h
          · rename_i l' hl
            cases h
            have hf1 := hf (p + 1)
            have hb1 := hb (p + 1) (by omega) (by omega)
            have h2 := ih _ _ (by omega) (by omega) hl
            have h3 := hc _ _ h0 (by omega) hx hb1
            rw [wF_cons] at h3
            exact ⟨⟨h3.1, h2.1⟩, by rw [List.length_cons]; omega⟩
    · cases h; exact ⟨trivial, Nat.zero_le _⟩
theorem chk_wf {f : Int → Int} {v : Int} {m : Int} (hm : m ≤ 120) (hf : ∀ p, -1 ≤ f p) (hb : ∀ p, 0 ≤ p → p < m → 0 ≤ f p ∧ f p ≤ 255) : ∀ (d : Nat) (tp lp pl : Int) (x : Nd d), 0 ≤ pl → 0 ≤ f lp → pl + f lp < m → chk f v d tp lp pl = .ok x → wF f (d + 1) ([x] : List (Nd d)) := by
  have row : ∀ (lp pl : Int), 0 ≤ pl → 0 ≤ f lp → pl + f lp < m → ∀ k, 0 ≤ k → k < f lp → 0 ≤ f (pl + k) ∧ f (pl + k) ≤ 255 := fun lp pl h0 h1 h2 k k1 k2 => hb _ (by omega) (by omega)
  intro d
  induction d with
  | zero =>
    intro tp lp pl x h0 h1 h2 h
    have hr := row lp pl h0 h1 h2
    unfold chk at h
    simp only at h
    repeat' split at h
    all_goals first | (cases h; done) | skip
    · cases h
      exact ⟨⟨Or.inl ⟨rfl, num_r⟩, fun q => absurd (show (110 : Int) = 103 from q) (by decide), fun _ => rfl, wF_0⟩, trivial⟩
    · cases h
      refine ⟨⟨Or.inr (Or.inl ⟨by assumption, h1, by show f lp ≤ 20; omega, h0, by show pl + f lp ≤ 120; omega, hr⟩), fun q => ?_, fun _ => rfl, wF_0⟩, trivial⟩
      have q' : f tp = 103 := q
      omega
  | succ d ih =>
    intro tp lp pl x h0 h1 h2 h
    have hr := row lp pl h0 h1 h2
    unfold chk at h
    simp only at h
    repeat' split at h
    all_goals first | (cases h; done) | skip
    · cases h
      exact ⟨⟨Or.inl ⟨rfl, num_r⟩, fun q => absurd (show (110 : Int) = 103 from q) (by decide), fun _ => rfl, wF_0⟩, trivial⟩
    · cases h
      refine ⟨⟨Or.inr (Or.inl ⟨by assumption, h1, by show f lp ≤ 20; omega, h0, by show pl + f lp ≤ 120; omega, hr⟩), fun q => ?_, fun _ => rfl, wF_0⟩, trivial⟩
      have q' : f tp = 103 := q
      omega
    · rename_i l hl
      cases h
      have := grp_wf hf (fun p x hp he hx hl => ih p (p + 1) (p + 2) x (by omega) hl (by omega) hx) (fun p h1 h2 => (hb p h2 (by omega)).1) _ _ _ h0 (by omega) hl
      refine ⟨⟨Or.inr (Or.inr rfl), fun _ => ⟨by omega, rfl, ?_⟩, fun q => absurd rfl q, this.1⟩, trivial⟩
      show (l.length : Int) ≤ 6
      have := this.2; omega
theorem entsS_wf {f : Int → Int} {v n E : Int} (hn : n ≤ 120) (hf : ∀ p, -1 ≤ f p) (hb : ∀ p, 0 ≤ p → p < n → 0 ≤ f p ∧ f p ≤ 255) (hs : ∀ o, 0 ≤ o → o < E → 0 ≤ f (4 + 3 * o + 1) ∧ f (4 + 3 * o + 1) + f (4 + 3 * o + 2) + 1 ≤ n) (hE : 4 + 3 * E ≤ n) : ∀ (i : Nat) (e : Int) (l : List (Nd 3)), 0 ≤ e → e + i ≤ E → entsS f v i e = .ok l → wF f 4 l ∧ l.length = i := by
  intro i
  induction i with
  | zero => intro e l h0 h1 h; unfold entsS at h; cases h; exact ⟨trivial, rfl⟩
  | succ i ih =>
    intro e l h0 h1 h
    unfold entsS at h
    split at h
    · cases h
    · rename_i x hx
      split at h
      · cases h
      · rename_i l' hl
        cases h
        have h2 := ih _ _ (by omega) (by omega) hl
        have h3 := hs e (by omega) (by omega)
        have h4 := (hb (4 + 3 * e + 2) (by omega) (by omega)).1
        have h5 := chk_wf hn hf hb 3 _ _ _ x h3.1 h4 (by omega) hx
        rw [wF_cons] at h5
        exact ⟨⟨h5.1, h2.1⟩, by rw [List.length_cons, h2.2]⟩
theorem wh_wf {f : Int → Int} {n : Int} (hn : n ≤ 120) (hf : ∀ p, -1 ≤ f p) (hb : ∀ p, 0 ≤ p → p < n → 0 ≤ f p ∧ f p ≤ 255) {F : List (Nd 3)} (h : wh f n = .ok F) : wF f 4 F ∧ F.length ≤ 6 ∧ 3 * fsz 4 F + fby 4 F ≤ 116 := by
  obtain ⟨hh, ht, he, hr⟩ := wh_ok hn hf (fun p p1 p2 => (hb p p1 p2).1) h
  obtain ⟨h1, h2, h3, h4, h5, h6, h7⟩ := headF_none hh
  have h8 := (hb 3 (by omega) (by omega)).1
  have hs := tabE_none _ _ ht
  have := entsS_wf hn hf hb (E := f 3) (fun o q1 q2 => by have := sound_1 (hs o q1 (by omega)); omega) (by omega) _ _ _ (by omega) (by omega) he
  exact ⟨this.1, by omega, hr⟩
theorem wF_ty {g : Int → Int} {y w s p : Nat → Int} : ∀ (d : Nat) (q : Int) (F : Fo d) (i : Nat), wF g d F → mF y w s p d q F i → ∀ j, i ≤ j → j < i + fsz d F → 103 ≤ y j ∧ y j ≤ 115 := by
  intro d
  induction d with
  | zero => intro q F i hw h j h1 h2; have : fsz 0 F = 0 := rfl; omega
  | succ d ih =>
    intro q F
    induction (F : List (Nd d)) with
    | nil => intro i hw h j h1 h2; rw [fsz_nil] at h2; omega
    | cons x F ihF =>
      intro i hw h j h1 h2
      rw [mF_cons] at h
      rw [wF_cons] at hw
      rw [fsz_cons] at h2
      obtain ⟨u1, u2, u3⟩ := h
      by_cases c1 : j = i
      · subst c1; rw [u1.1]; exact wD_ty hw.1.1
      · by_cases c2 : j < i + 1 + fsz d x.2
        · exact ih _ _ _ hw.1.2.2.2 u2 j (by omega) (by omega)
        · exact ihF _ hw.2 u3 j (by omega) (by omega)
theorem wF_tyC {g g' : Int → Int} {qq : Int} {y w l s o c : Nat → Int} : ∀ (d : Nat) (lv : Int) (F : Fo d) (i : Nat), wF g' d F → cF g qq y w l s o c d lv F i → ∀ j, i ≤ j → j < i + fsz d F → 103 ≤ y j ∧ y j ≤ 115 := by
  intro d
  induction d with
  | zero => intro q F i hw h j h1 h2; have : fsz 0 F = 0 := rfl; omega
  | succ d ih =>
    intro q F
    induction (F : List (Nd d)) with
    | nil => intro i hw h j h1 h2; rw [fsz_nil] at h2; omega
    | cons x F ihF =>
      intro i hw h j h1 h2
      rw [cF_cons] at h
      rw [wF_cons] at hw
      rw [fsz_cons] at h2
      obtain ⟨u1, u2, u3⟩ := h
      by_cases c1 : j = i
      · subst c1; rw [u1.1]; exact wD_ty hw.1.1
      · by_cases c2 : j < i + 1 + fsz d x.2
        · exact ih _ _ _ hw.1.2.2.2 u2 j (by omega) (by omega)
        · exact ihF _ hw.2 u3 j (by omega) (by omega)
