/-! how things are shown -/
def ab (v : Int) : Int := if 0 < v then v else -v
def pwF (r : Int) : Nat → Int → Int
  | 0, p => p
  | k + 1, p => if p * 10 ≤ r then pwF r k (p * 10) else p
def dlF (r : Int) : Nat → Int → List Int
  | 0, _ => []
  | k + 1, p => if 0 < p then (48 + r / p % 10) :: dlF r k (p / 10) else []
def numL (v : Int) : List Int := (if v < 0 then [45] else []) ++ dlF (ab v) 10 (pwF (ab v) 10 1)
def rowL (g : Int → Int) : Nat → Int → List Int
  | 0, _ => []
  | i + 1, p => g p :: rowL g i (p + 1)
/-- bytes with , ahead of each -/
def rawL (g : Int → Int) : Nat → Int → List Int
  | 0, _ => []
  | i + 1, p => 44 :: numL (g p) ++ rawL g i (p + 1)
def leafL (g : Int → Int) (a : Da) : List Int := if a.1 = 110 then numL a.2.1 else if a.1 = 115 then 34 :: rowL g a.2.1.toNat a.2.2 ++ [34] else 60 :: (rawL g a.2.1.toNat a.2.2).drop 1 ++ [62]
/-- things with ; ahead of each -/
def shF (g : Int → Int) : (d : Nat) → Fo d → List Int
  | 0, _ => []
  | d + 1, F => List.foldr (fun (x : Da × Fo d) (r : List Int) => 59 :: (if x.1.1 = 103 then 40 :: (shF g d x.2).drop 1 ++ [41] else leafL g x.1) ++ r) [] F
def shN (g : Int → Int) (d : Nat) (x : Nd d) : List Int := if x.1.1 = 103 then 40 :: (shF g d x.2).drop 1 ++ [41] else leafL g x.1
section
variable {g : Int → Int} {d : Nat}
theorem shF_nil : shF g (d + 1) ([] : List (Nd d)) = [] := rfl
theorem shF_cons {x : Nd d} {F : List (Nd d)} : shF g (d + 1) (x :: F : List (Nd d)) = 59 :: shN g d x ++ shF g (d + 1) (F : List (Nd d)) := rfl
theorem shF_0 : shF g d (fo0 d) = [] := by cases d <;> rfl
theorem dlF_len {r : Int} : ∀ (m n : Nat) (p : Int), p < 10 ^ m → (dlF r n p).length ≤ m := by
  intro m
  induction m with
  | zero =>
    intro n p h
    have h' : p < 1 := h
    cases n with
    | zero => exact Nat.le_refl _
    | succ n => unfold dlF; rw [if_neg (by omega)]; exact Nat.le_refl _
  | succ m ih =>
    intro n p h
    cases n with
    | zero => exact Nat.zero_le _
    | succ n =>
      unfold dlF
      split
      · rw [List.length_cons]
        rw [Int.pow_succ] at h
        have := ih n (p / 10) (by omega)
        omega
      · exact Nat.zero_le _
theorem pwF_le {r : Int} : ∀ (k : Nat) (p : Int), 1 ≤ p → 1 ≤ pwF r k p ∧ (pwF r k p ≤ p ∨ pwF r k p ≤ r) := by
  intro k
  induction k with
  | zero => intro p h; exact ⟨h, Or.inl (Int.le_refl _)⟩
  | succ k ih =>
    intro p h
    unfold pwF
    split
    · have := ih (p * 10) (by omega)
      omega
    · exact ⟨h, Or.inl (Int.le_refl _)⟩
theorem ab_r {v : Int} (h : -2147483648 ≤ v ∧ v ≤ 2147483647) : 0 ≤ ab v ∧ ab v ≤ 2147483648 := by unfold ab; split <;> omega
theorem numL_len {v : Int} (h : -2147483648 ≤ v ∧ v ≤ 2147483647) : (numL v).length ≤ 11 := by
  have h1 := ab_r h
  have h2 := pwF_le (r := ab v) 10 1 (by omega)
  have h3 := dlF_len (r := ab v) 10 10 (pwF (ab v) 10 1) (by show _ < (10000000000 : Int); omega)
  unfold numL
  rw [List.length_append]
  split
  · simp; omega
  · simp; omega
theorem numL_len3 {v : Int} (h : 0 ≤ v ∧ v ≤ 255) : (numL v).length ≤ 3 := by
  have h1 : ab v = v := by unfold ab; split <;> omega
  have h2 := pwF_le (r := ab v) 10 1 (by omega)
  have h3 := dlF_len (r := ab v) 3 10 (pwF (ab v) 10 1) (by show _ < (1000 : Int); omega)
  unfold numL
  rw [if_neg (by omega)]
  exact h3
theorem rowL_len : ∀ (i : Nat) (p : Int), (rowL g i p).length = i := by
  intro i
  induction i with
  | zero => intro p; rfl
  | succ i ih => intro p; unfold rowL; rw [List.length_cons, ih]
theorem rawL_len : ∀ (i : Nat) (p : Int), (∀ k : Int, 0 ≤ k → k < i → 0 ≤ g (p + k) ∧ g (p + k) ≤ 255) → (rawL g i p).length ≤ 4 * i := by
  intro i
  induction i with
  | zero => intro p h; exact Nat.le_refl _
  | succ i ih =>
    intro p h
    unfold rawL
    have h0 := h 0 (by omega) (by omega)
    rw [Int.add_zero] at h0
    have h1 := numL_len3 h0
    have h2 := ih (p + 1) (fun k k1 k2 => by have := h (k + 1) (by omega) (by omega); rw [show p + 1 + k = p + (k + 1) by omega]; exact this)
    rw [List.cons_append, List.length_cons, List.length_append]
    omega
theorem leafL_len {a : Da} (h : wD g a) (h3 : a.1 ≠ 103) : (leafL g a).length + 1 ≤ 12 + 4 * byN a := by
  unfold wD at h
  unfold leafL byN
  rcases h with ⟨h, h1, h2⟩ | ⟨h, h1, h2, h4, h5, h6⟩ | h
  · rw [if_pos h]
    have := numL_len ⟨h1, h2⟩
    omega
  · rw [if_neg (by omega), if_pos h]
    split
    · rw [List.cons_append, List.length_cons, List.length_append, rowL_len]
      simp; omega
    · have := rawL_len (g := g) a.2.1.toNat a.2.2 (fun k k1 k2 => h6 k k1 (by omega))
      rw [List.cons_append, List.length_cons, List.length_append, List.length_drop]
      simp; omega
  · omega
theorem shF_len : ∀ (d : Nat) (F : Fo d), wF g d F → (shF g d F).length ≤ 12 * fsz d F + 4 * fby d F := by
  intro d
  induction d with
  | zero => intro F h; exact Nat.zero_le _
  | succ d ih =>
    intro F
    induction (F : List (Nd d)) with
    | nil => intro h; exact Nat.zero_le _
    | cons x F ihF =>
      intro h
      rw [wF_cons] at h
      have h1 := ihF h.2
      have h2 := ih x.2 h.1.2.2.2
      rw [shF_cons, fsz_cons, fby_cons', List.cons_append, List.length_cons, List.length_append]
      unfold shN
      split
      · rw [List.cons_append, List.length_cons, List.length_append, List.length_drop]
        simp
        omega
      · have := leafL_len h.1.1 (by assumption)
        omega
theorem shN_len {x : Nd d} (h : wF g (d + 1) ([x] : List (Nd d))) : (shN g d x).length + 1 ≤ 12 * (1 + fsz d x.2) + 4 * (byN x.1 + fby d x.2) := by
  have := shF_len (d + 1) _ h
  rw [shF_cons, fsz_cons, fby_cons', shF_nil, fsz_nil, fby_nil, List.cons_append, List.length_cons, List.append_nil] at this
  omega
end
/-! rows of bytes that grow -/
def apd (a b : Nat) (J : mJ) (v : Int) : mJ := mm_up (mm_up J b (J a 1).toNat v) a 1 (J a 1 + 1)
def apL (a b : Nat) (J : mJ) (l : List Int) : mJ := List.foldl (apd a b) J l
section
variable {a b c j : Nat} {J : mJ} {v : Int} {l l' : List Int}
theorem apL_nil : apL a b J [] = J := rfl
theorem apL_cons : apL a b J (v :: l) = apL a b (apd a b J v) l := rfl
theorem apL_app : apL a b J (l ++ l') = apL a b (apL a b J l) l' := List.foldl_append
theorem apL_snoc : apd a b (apL a b J l) v = apL a b J (l ++ [v]) := by rw [apL_app]; rfl
theorem apL_o (h : c ≠ a ∧ c ≠ b) : ∀ {l : List Int} {J : mJ}, apL a b J l c = J c := by
  intro l
  induction l with
  | nil => intro J; rfl
  | cons v l ih => intro J; rw [apL_cons, ih]; unfold apd; rw [up_ne h.1, up_ne h.2]
theorem apL_sz (h : a ≠ b) : ∀ {l : List Int} {J : mJ}, apL a b J l a 1 = J a 1 + l.length := by
  intro l
  induction l with
  | nil => intro J; simp [apL_nil]
  | cons v l ih =>
    intro J
    rw [apL_cons, ih]
    unfold apd
    rw [up_s, List.length_cons]; omega
theorem apL_lo (h : a ≠ b) : ∀ {l : List Int} {J : mJ}, 0 ≤ J a 1 → ∀ j : Nat, (j : Int) < J a 1 → apL a b J l b j = J b j := by
  intro l
  induction l with
  | nil => intro J h0 j hj; rfl
  | cons v l ih =>
    intro J h0 j hj
    have e : apd a b J v a 1 = J a 1 + 1 := up_s
    rw [apL_cons, ih (by omega) j (by omega)]
    unfold apd
    rw [up_ne (Ne.symm h), up_j (by omega)]
theorem apL_hi (h : a ≠ b) : ∀ {l : List Int} {J : mJ}, 0 ≤ J a 1 → ∀ (j : Nat) (hj : j < l.length), apL a b J l b ((J a 1).toNat + j) = l[j] := by
  intro l
  induction l with
  | nil => intro J h0 j hj; simp at hj
  | cons v l ih =>
    intro J h0 j hj
    have e : apd a b J v a 1 = J a 1 + 1 := up_s
    rw [apL_cons]
    cases j with
    | zero =>
      rw [apL_lo h (by omega) _ (by omega)]
      unfold apd
      rw [up_ne (Ne.symm h), Nat.add_zero, up_s]; rfl
    | succ j =>
      have := ih (J := apd a b J v) (by omega) j (by simpa using hj)
      rw [e, show (J a 1 + 1).toNat + j = (J a 1).toNat + (j + 1) by omega] at this
      rw [this]; rfl
end
