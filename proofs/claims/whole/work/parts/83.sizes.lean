/-! how long a file is that is written anew -/
section
variable {f g : Int → Int} {v w m : Int}
theorem num_1 {p : Int} (h : 0 ≤ f p ∧ f p ≤ 255) (hw : w = 0 ∧ f p ≤ 127 ∨ w = -1 ∧ 127 < f p) : jor (jshl w 8) (f p) = w * 256 + f p := jor_shl (by omega) h
theorem num_len {n : Nat} {p : Int} (hn : 1 ≤ n ∧ n ≤ 4) (hb : ∀ q, p ≤ q → q < p + n → 0 ≤ f q ∧ f q ≤ 255) : lenN (num f n p) ≤ n := by
  have h0 := hb p (by omega) (by omega)
  have hw : (if 127 < f p then (-1 : Int) else 0) = 0 ∧ f p ≤ 127 ∨ (if 127 < f p then (-1 : Int) else 0) = -1 ∧ 127 < f p := by split <;> omega
  have e1 := num_1 h0 hw
  match n, hn with
  | 1, _ =>
    unfold num
    show lenN (jor (jshl (if 127 < f p then -1 else 0) 8) (f p)) ≤ 1
    rw [e1]
    unfold lenN
    rw [if_pos (by omega)]; omega
  | 2, _ =>
    have h1 := hb (p + 1) (by omega) (by omega)
    unfold num
    show lenN (jor (jshl (jor (jshl (if 127 < f p then -1 else 0) 8) (f p)) 8) (f (p + 1))) ≤ 2
    rw [e1, jor_shl (by omega) h1]
    unfold lenN
    repeat' split
    all_goals omega
  | 3, _ =>
    have h1 := hb (p + 1) (by omega) (by omega)
    have h2 := hb (p + 1 + 1) (by omega) (by omega)
    unfold num
    show lenN (jor (jshl (jor (jshl (jor (jshl (if 127 < f p then -1 else 0) 8) (f p)) 8) (f (p + 1))) 8) (f (p + 1 + 1))) ≤ 3
    rw [e1, jor_shl (by omega) h1, jor_shl (by omega) h2]
    unfold lenN
    repeat' split
    all_goals omega
  | 4, _ => exact lenN_r.2
theorem grp_pay {d : Nat} {ch : Int → Int → Int → Except Fl (Nd d)} {layer en pl : Int} (hf : ∀ p, -1 ≤ f p) (hc : ∀ p x, 0 ≤ p → p + 3 + f (p + 1) ≤ en → ch p (p + 1) (p + 2) = .ok x → 0 ≤ f (p + 1) → ((payT g w d x).length : Int) ≤ f (p + 1)) (hb : ∀ p, p + 1 ≤ en → 0 ≤ p → 0 ≤ f p) : ∀ (k : Nat) (p : Int) (l : List (Nd d)), 0 ≤ p → p ≤ en → grp f ch layer en pl k p = .ok l → ((wrF g w (d + 1) l).length : Int) ≤ en - p := by
  intro k
  induction k with
  | zero =>
    intro p l h0 hp h
    unfold grp at h
    split at h
    · cases h
    · cases h; rw [wrF_nil, List.length_nil]; omega
  | succ k ih =>
    intro p l h0 hp h
    unfold grp at h
    split at h
    · split at h
      · cases h
      · split at h
        · cases h
        · rename_i x hx
          split at h
          · cases h
          · rename_i l' hl
            cases h
            have hf1 := hf (p + 1)
            have hb1 := hb (p + 1) (by omega) (by omega)
            have h2 := ih _ _ (by omega) (by omega) hl
            have h3 := hc _ _ h0 (by omega) hx hb1
            rw [wrF_len]
            omega
    · cases h; rw [wrF_nil, List.length_nil]; omega
theorem payl_n {d : Nat} {z p : Int} {F : Fo d} : (payT g w d ((110, z, p), F)).length = lenN z := by
  unfold payT
  rw [if_neg (show ¬ (110 : Int) = 103 by decide), leafB_len]
  exact if_pos rfl
theorem payl_r {d : Nat} {a z p : Int} {F : Fo d} (h : a = 115 ∨ a = 114) : (payT g w d ((a, z, p), F)).length = z.toNat := by
  unfold payT
  rw [if_neg (show ¬ a = 103 by omega), leafB_len]
  exact if_neg (show ¬ a = 110 by omega)
theorem chk_pay (hf : ∀ p, -1 ≤ f p) (hb : ∀ p, 0 ≤ p → p < m → 0 ≤ f p ∧ f p ≤ 255) : ∀ (d : Nat) (tp lp pl : Int) (x : Nd d), 0 ≤ pl → 0 ≤ f lp → pl + f lp < m → chk f v d tp lp pl = .ok x → ((payT g w d x).length : Int) ≤ f lp := by
  have hnum : ∀ (lp pl : Int), 0 ≤ pl → pl + f lp < m → 1 ≤ f lp → f lp ≤ 4 → (lenN (num f (f lp).toNat pl) : Int) ≤ f lp := fun lp pl h0 h1 h2 h3 => by
    have := num_len (f := f) (n := (f lp).toNat) (p := pl) (by omega) (fun q q1 q2 => hb q (by omega) (by omega))
    omega
  intro d
  induction d with
  | zero =>
    intro tp lp pl x h0 h1 h2 h
    unfold chk at h
    simp only at h
    repeat' split at h
    all_goals first | (cases h; done) | skip
    · rename_i c; cases h
      rw [payl_n]
      exact hnum lp pl h0 h2 c.1 c.2
    · rename_i c _ _; cases h
      rw [payl_r c]; omega
  | succ d ih =>
    intro tp lp pl x h0 h1 h2 h
    unfold chk at h
    simp only at h
    repeat' split at h
    all_goals first | (cases h; done) | skip
    · rename_i c; cases h
      rw [payl_n]
      exact hnum lp pl h0 h2 c.1 c.2
    · rename_i c _ _; cases h
      rw [payl_r c]; omega
    · rename_i l hl
      cases h
      have := grp_pay (g := g) (w := w) hf (fun p x hp he hx hl => ih p (p + 1) (p + 2) x (by omega) hl (by omega) hx) (fun p h1 h2 => (hb p h2 (by omega)).1) _ _ _ h0 (by omega) hl
      show ((wrF g w (d + 1) l).length : Int) ≤ f lp
      omega
theorem entsS_pay {n E : Int} (hf : ∀ p, -1 ≤ f p) (hb : ∀ p, 0 ≤ p → p < n → 0 ≤ f p ∧ f p ≤ 255) (hs : ∀ o, 0 ≤ o → o < E → 0 ≤ f (4 + 3 * o + 1) ∧ f (4 + 3 * o + 1) + f (4 + 3 * o + 2) + 1 ≤ n) (hE : 4 + 3 * E ≤ n) : ∀ (i : Nat) (e : Int) (l : List (Nd 3)), 0 ≤ e → e + i ≤ E → entsS f v i e = .ok l → ((chL g w l).length : Int) + 2 * i ≤ sumL f i e ∧ l.length = i := by
  intro i
  induction i with
  | zero => intro e l h0 h1 h; unfold entsS at h; cases h; exact ⟨by show ((0 : Nat) : Int) + 2 * ((0 : Nat) : Int) ≤ 0; omega, rfl⟩
  | succ i ih =>
    intro e l h0 h1 h
    unfold entsS at h
    split at h
    · cases h
    · rename_i x hx
      split at h
      · cases h
      · rename_i l' hl
        cases h
        have h2 := ih _ _ (by omega) (by omega) hl
        have h3 := hs e (by omega) (by omega)
        have h4 := (hb (4 + 3 * e + 2) (by omega) (by omega)).1
        have h5 := chk_pay (g := g) (w := w) hf hb 3 _ _ _ x h3.1 h4 (by omega) hx
        unfold sumL
        rw [chL_len, List.length_cons]
        omega
/-- a file that is read and written anew -/
theorem wh_file {n : Int} (hn : n ≤ 120) (hf : ∀ p, -1 ≤ f p) (hb : ∀ p, 0 ≤ p → p < n → 0 ≤ f p ∧ f p ≤ 255) {F : List (Nd 3)} (h : wh f n = .ok F) : (fileL g w F).length ≤ 126 := by
  obtain ⟨hh, ht, he, hr⟩ := wh_ok hn hf (fun p p1 p2 => (hb p p1 p2).1) h
  obtain ⟨h1, h2, h3, h4, h5, h6, h7⟩ := headF_none hh
  have h8 := (hb 3 (by omega) (by omega)).1
  have hs := tabE_none _ _ ht
  have hro := wh_room hn hf (fun p p1 p2 => (hb p p1 p2).1) hh ht
  have := entsS_pay (g := g) (w := w) hf hb (E := f 3) (fun o q1 q2 => by have := sound_1 (hs o q1 (by omega)); omega) (by omega) _ _ _ (by omega) (by omega) he
  rw [fileL_len]
  omega
end
