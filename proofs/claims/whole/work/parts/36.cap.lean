/-! how much a file can hold: entries that lie apart -/
def sS (g : Int → Int) (lo : Int) : Nat → Int
  | 0 => 0
  | m + 1 => sS g lo m + g (lo + m)
def inI (a b p : Int) : Int := if a ≤ p ∧ p < b then 1 else 0
theorem inI_01 {a b p : Int} : inI a b p = 0 ∨ inI a b p = 1 := by unfold inI; split <;> omega
theorem sS_inI {a b lo : Int} (h1 : lo ≤ a) (h2 : a ≤ b) : ∀ m : Nat, sS (inI a b) lo m = if lo + m ≤ a then 0 else if lo + m ≤ b then lo + m - a else b - a := by
  intro m
  induction m with
  | zero => unfold sS; split <;> (try split) <;> omega
  | succ m ih =>
    unfold sS
    rw [ih]
    unfold inI
    repeat' split
    all_goals omega
theorem sS_add {g h : Int → Int} {lo : Int} : ∀ m : Nat, sS (fun p => g p + h p) lo m = sS g lo m + sS h lo m := by
  intro m
  induction m with
  | zero => rfl
  | succ m ih => unfold sS; rw [ih]; omega
theorem sS_le1 {g : Int → Int} {lo : Int} (h : ∀ p, g p ≤ 1) : ∀ m : Nat, sS g lo m ≤ m := by
  intro m
  induction m with
  | zero => unfold sS; omega
  | succ m ih => unfold sS; have := h (lo + m); omega
def cov (a b : Nat → Int) : Nat → Int → Int
  | 0, _ => 0
  | k + 1, p => cov a b k p + inI (a k) (b k) p
def sumD (a b : Nat → Int) : Nat → Int
  | 0 => 0
  | k + 1 => sumD a b k + (b k - a k)
theorem cov_1 {a b : Nat → Int} {p : Int} : ∀ k : Nat, (∀ i j, i < k → j < i → b i ≤ a j ∨ b j ≤ a i) → (0 ≤ cov a b k p ∧ cov a b k p ≤ 1 ∧ (cov a b k p = 1 → ∃ i, i < k ∧ inI (a i) (b i) p = 1)) := by
  intro k
  induction k with
  | zero => intro h; unfold cov; exact ⟨by omega, by omega, fun h => by omega⟩
  | succ k ih =>
    intro h
    obtain ⟨h1, h2, h3⟩ := ih (fun i j q1 q2 => h i j (by omega) q2)
    unfold cov
    rcases inI_01 (a := a k) (b := b k) (p := p) with e | e
    · rw [e]
      refine ⟨by omega, by omega, fun q => ?_⟩
      obtain ⟨i, i1, i2⟩ := h3 (by omega)
      exact ⟨i, by omega, i2⟩
    · have hz : cov a b k p = 0 := by
        by_cases c : cov a b k p = 1
        · obtain ⟨i, i1, i2⟩ := h3 c
          have := h k i (by omega) i1
          unfold inI at i2 e
          split at i2
          · split at e
            · omega
            · omega
          · omega
        · omega
      rw [e, hz]
      exact ⟨by omega, by omega, fun _ => ⟨k, by omega, e⟩⟩
theorem sS_cov {a b : Nat → Int} {lo : Int} {m : Nat} : ∀ k : Nat, (∀ i, i < k → lo ≤ a i ∧ a i ≤ b i ∧ b i ≤ lo + m) → sS (cov a b k) lo m = sumD a b k := by
  intro k
  induction k with
  | zero =>
    intro h
    have : ∀ m : Nat, sS (cov a b 0) lo m = 0 := by
      intro m
      induction m with
      | zero => rfl
      | succ m ih => unfold sS; rw [ih]; rfl
    rw [this]; rfl
  | succ k ih =>
    intro h
    have e : sS (cov a b (k + 1)) lo m = sS (cov a b k) lo m + sS (inI (a k) (b k)) lo m := sS_add m
    have hk := h k (by omega)
    have e2 : sumD a b (k + 1) = sumD a b k + (b k - a k) := rfl
    rw [e, e2, ih (fun i q => h i (by omega)), sS_inI hk.1 hk.2.1]
    repeat' split
    all_goals omega
theorem apart_sum {a b : Nat → Int} {lo : Int} {m k : Nat} (h1 : ∀ i, i < k → lo ≤ a i ∧ a i ≤ b i ∧ b i ≤ lo + m) (h2 : ∀ i j, i < k → j < i → b i ≤ a j ∨ b j ≤ a i) : sumD a b k ≤ m := by
  rw [← sS_cov k h1]
  exact sS_le1 (fun p => (cov_1 k h2).2.1) m
theorem allB_at {f : Int → Int} {m x : Int} : ∀ (i : Nat) (o : Int), allB f m x i o = true → ∀ q, o ≤ q → q < o + i → counts m q = true → apart f x q := by
  intro i
  induction i with
  | zero => intro o h q h1 h2; omega
  | succ i ih =>
    intro o h q h1 h2 h3
    unfold allB at h
    simp only [Bool.and_eq_true, Bool.or_eq_true, Bool.not_eq_true', decide_eq_true_eq] at h
    by_cases c : q = o
    · subst c
      rcases h.1 with h | h
      · rw [h3] at h; cases h
      · exact h
    · exact ih _ h.2 q (by omega) (by omega) h3
theorem counts_all {o : Int} (h : 0 ≤ o ∧ o ≤ 6) : counts (-1) o = true := by
  have key : ∀ q : Fin 7, counts (-1) (q.val : Int) = true := by decide +kernel
  have := key ⟨o.toNat, by omega⟩
  simp only [Int.toNat_of_nonneg h.1] at this
  exact this
theorem sound_apart {f : Int → Int} {n E x q : Int} (h : sound f n E (-1) x = true) (hx : x ≤ 6) (h0 : 0 ≤ q) (h1 : q < x) : apart f x q := by
  unfold sound at h
  simp only [Bool.and_eq_true] at h
  exact allB_at _ _ h.2 q h0 (by omega) (counts_all (by omega))
/-- so many bytes and marks from the entry e on (of i) -/
def sumL (f : Int → Int) : Nat → Int → Int
  | 0, _ => 0
  | i + 1, e => (f (4 + 3 * e + 2) + 3) + sumL f i (e + 1)
theorem sumL_sum {f : Int → Int} : ∀ (i k : Nat), sumL f i k + (sumD (fun i => f (4 + 3 * i + 1)) (fun i => f (4 + 3 * i + 1) + f (4 + 3 * i + 2) + 1) k + 2 * k) = sumD (fun i => f (4 + 3 * i + 1)) (fun i => f (4 + 3 * i + 1) + f (4 + 3 * i + 2) + 1) (k + i) + 2 * (k + i : Nat) := by
  intro i
  induction i with
  | zero => intro k; unfold sumL; simp
  | succ i ih =>
    intro k
    have := ih (k + 1)
    unfold sumL
    rw [show k + (i + 1) = k + 1 + i by omega, ← this, show ((k : Int) + 1) = ((k + 1 : Nat) : Int) by omega]
    show f (4 + 3 * k + 2) + 3 + _ + _ = _ + (sumD (fun i : Nat => f (4 + 3 * (i : Int) + 1)) (fun i : Nat => f (4 + 3 * (i : Int) + 1) + f (4 + 3 * (i : Int) + 2) + 1) k + (f (4 + 3 * (k : Int) + 1) + f (4 + 3 * (k : Int) + 2) + 1 - f (4 + 3 * (k : Int) + 1)) + 2 * ((k + 1 : Nat) : Int))
    omega
theorem wh_room {f : Int → Int} {n : Int} (hn : n ≤ 120) (hf : ∀ p, -1 ≤ f p) (hb : ∀ p, 0 ≤ p → p < n → 0 ≤ f p) (hh : headF f n = none) (ht : tabE f n (f 3) (f 3).toNat 0 = none) : sumL f (f 3).toNat 0 ≤ 116 := by
  obtain ⟨h1, h2, h3, h4, h5, h6, h7⟩ := headF_none hh
  have h8 := hb 3 (by omega) (by omega)
  have hs := tabE_none _ _ ht
  have key := apart_sum (a := fun i => f (4 + 3 * i + 1)) (b := fun i => f (4 + 3 * i + 1) + f (4 + 3 * i + 2) + 1) (lo := 4 + 3 * f 3) (m := (n - 4 - 3 * f 3).toNat) (k := (f 3).toNat) (by
    intro i hi
    have := sound_1 (hs i (by omega) (by omega))
    have := hb (4 + 3 * i + 2) (by omega) (by omega)
    refine ⟨?_, ?_, ?_⟩ <;> omega) (by
    intro i j hi hj
    exact sound_apart (hs i (by omega) (by omega)) (by omega) (by omega) (by omega))
  have := sumL_sum (f := f) (f 3).toNat 0
  simp only [Nat.zero_add] at this
  have e0 : sumD (fun i => f (4 + 3 * i + 1)) (fun i => f (4 + 3 * i + 1) + f (4 + 3 * i + 2) + 1) 0 = 0 := rfl
  rw [e0, show ((0 : Nat) : Int) = 0 from rfl] at this
  omega
/-- how much a chunk can hold, taken together -/
theorem grp_szj {d : Nat} {f : Int → Int} {ch : Int → Int → Int → Except Fl (Nd d)} {layer en pl : Int} (hf : ∀ p, -1 ≤ f p) (hc : ∀ p x, 0 ≤ p → p + 3 + f (p + 1) ≤ en → ch p (p + 1) (p + 2) = .ok x → 0 ≤ f (p + 1) → ((3 * (1 + fsz d x.2) + (byN x.1 + fby d x.2) : Nat) : Int) ≤ f (p + 1) + 3) (hb : ∀ p, p + 1 ≤ en → 0 ≤ p → 0 ≤ f p) : ∀ (k : Nat) (p : Int) (l : List (Nd d)), 0 ≤ p → p ≤ en → grp f ch layer en pl k p = .ok l → ((3 * fsz (d + 1) l + fby (d + 1) l : Nat) : Int) ≤ en - p := by
  intro k
  induction k with
  | zero =>
    intro p l h0 hp h
    unfold grp at h
    split at h
    · cases h
    · cases h; rw [fsz_nil, fby_nil]; omega
  | succ k ih =>
    intro p l h0 hp h
    unfold grp at h
    split at h
    · split at h
      · cases h
      · split at h
        · cases h
        · rename_i x hx
          split at h
          · cases h
          · rename_i l' hl
            cases h
            have hf1 := hf (p + 1)
            have hb1 := hb (p + 1) (by omega) (by omega)
            have h2 := ih _ _ (by omega) (by omega) hl
            have h3 := hc _ _ h0 (by omega) hx hb1
            rw [fsz_cons, fby_cons']
            omega
    · cases h; rw [fsz_nil, fby_nil]; omega
theorem chk_szj {f : Int → Int} {v : Int} {m : Int} (hf : ∀ p, -1 ≤ f p) (hb : ∀ p, 0 ≤ p → p < m → 0 ≤ f p) : ∀ (d : Nat) (tp lp pl : Int) (x : Nd d), 0 ≤ pl → 0 ≤ f lp → pl + f lp < m → chk f v d tp lp pl = .ok x → ((3 * (1 + fsz d x.2) + (byN x.1 + fby d x.2) : Nat) : Int) ≤ f lp + 3 := by
  intro d
  induction d with
  | zero =>
    intro tp lp pl x h0 h1 h2 h
    unfold chk at h
    simp only at h
    repeat' split at h
    all_goals first | (cases h; done) | (cases h; simp only [fsz_0, fby_0, byN]; split <;> omega)
  | succ d ih =>
    intro tp lp pl x h0 h1 h2 h
    unfold chk at h
    simp only at h
    repeat' split at h
    all_goals first | (cases h; done) | (cases h; simp only [fsz_0, fby_0, byN]; split <;> omega) | skip
    · rename_i l hl
      cases h
      have := grp_szj hf (fun p x hp he hx hl => ih p (p + 1) (p + 2) x (by omega) hl (by omega) hx) (fun p h1 h2 => hb p h2 (by omega)) _ _ _ h0 (by omega) hl
      have hz : byN (103, (l.length : Int), pl) = 0 := rfl
      show ((3 * (1 + fsz (d + 1) l) + (byN (103, (l.length : Int), pl) + fby (d + 1) l) : Nat) : Int) ≤ f lp + 3
      rw [hz]
      omega
theorem entsS_szj {f : Int → Int} {v n E : Int} (hf : ∀ p, -1 ≤ f p) (hb : ∀ p, 0 ≤ p → p < n → 0 ≤ f p) (hs : ∀ o, 0 ≤ o → o < E → 0 ≤ f (4 + 3 * o + 1) ∧ f (4 + 3 * o + 1) + f (4 + 3 * o + 2) + 1 ≤ n) (hE : 4 + 3 * E ≤ n) : ∀ (i : Nat) (e : Int) (l : List (Nd 3)), 0 ≤ e → e + i ≤ E → entsS f v i e = .ok l → ((3 * fsz 4 l + fby 4 l : Nat) : Int) ≤ sumL f i e := by
  intro i
  induction i with
  | zero => intro e l h0 h1 h; unfold entsS at h; cases h; show ((0 : Nat) : Int) ≤ 0; omega
  | succ i ih =>
    intro e l h0 h1 h
    unfold entsS at h
    split at h
    · cases h
    · rename_i x hx
      split at h
      · cases h
      · rename_i l' hl
        cases h
        have h2 := ih _ _ (by omega) (by omega) hl
        have h3 := hs e (by omega) (by omega)
        have h4 := hb (4 + 3 * e + 2) (by omega) (by omega)
        have h5 := chk_szj hf hb 3 _ _ _ x h3.1 h4 (by omega) hx
        unfold sumL
        show ((3 * fsz 4 (x :: l' : List (Nd 3)) + fby 4 (x :: l' : List (Nd 3)) : Nat) : Int) ≤ _
        rw [fsz_c4, fby_c4]
        omega
theorem wh_ok {f : Int → Int} {n : Int} (hn : n ≤ 120) (hf : ∀ p, -1 ≤ f p) (hb : ∀ p, 0 ≤ p → p < n → 0 ≤ f p) {F : List (Nd 3)} (h : wh f n = .ok F) : headF f n = none ∧ tabE f n (f 3) (f 3).toNat 0 = none ∧ entsS f (f 2) (f 3).toNat 0 = .ok F ∧ 3 * fsz 4 F + fby 4 F ≤ 116 := by
  unfold wh at h
  split at h
  · cases h
  · rename_i hh
    split at h
    · cases h
    · rename_i ht
      refine ⟨hh, ht, h, ?_⟩
      obtain ⟨h1, h2, h3, h4, h5, h6, h7⟩ := headF_none hh
      have h8 := hb 3 (by omega) (by omega)
      have hr := wh_room hn hf hb hh ht
      have hs := tabE_none _ _ ht
      have := entsS_szj hf hb (E := f 3) (fun o q1 q2 => by have := sound_1 (hs o q1 (by omega)); omega) (by omega) _ _ _ (by omega) (by omega) h
      omega
