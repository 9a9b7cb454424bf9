/-! how a text is told -/
abbrev isL (c : Int) : Prop := 97 ≤ c ∧ c ≤ 122
abbrev isD (c : Int) : Prop := 48 ≤ c ∧ c ≤ 57
abbrev wd3 (t : Int → Int) (p a b c : Int) : Prop := t p = a ∧ t (p + 1) = b ∧ t (p + 2) = c ∧ ¬ isL (t (p + 3))
/-- digits: the number, and where they end -/
def dg (t : Int → Int) : Nat → Int → Int → Int × Int
  | 0, p, v => (v, p)
  | k + 1, p, v => if isD (t p) then dg t k (p + 1) (v * 10 + t p - 48) else (v, p)
/-- so many letters -/
def lc (t : Int → Int) : Nat → Int → Nat
  | 0, _ => 0
  | k + 1, p => if isL (t p) then lc t k (p + 1) + 1 else 0
def rbB (t : Int → Int) (p : Int) : Except Int (Int × Int) :=
  if isD (t p) then (if 255 < (dg t 3 p 0).1 then .error ((dg t 3 p 0).2 - 1) else .ok (dg t 3 p 0)) else .error p
def rwF (t : Int → Int) : Nat → Int → Except Int (List Int × Int)
  | 0, p => match rbB t p with
    | .error e => .error e
    | .ok r => .ok ([r.1], r.2)
  | m + 1, p => match rbB t p with
    | .error e => .error e
    | .ok r => if t r.2 = 44 then (match rwF t m (r.2 + 1) with
      | .error e => .error e
      | .ok s => .ok (r.1 :: s.1, s.2)) else .ok ([r.1], r.2)
abbrev TR (D : Nat) := Nd D × Int × List Int
def grS {D : Nat} (t : Int → Int) (th : Int → Nat → Except Int (TR D)) : Nat → Int → Nat → Except Int (List (Nd D) × Int × List Int)
  | 0, p, _ => .error p
  | k + 1, p, q => match th p q with
    | .error e => .error e
    | .ok r => if t r.2.1 = 41 then .ok ([r.1], r.2.1 + 1, r.2.2) else if k = 0 ∨ t r.2.1 ≠ 59 then .error r.2.1 else match grS t th k (r.2.1 + 1) (q + r.2.2.length) with
      | .error e => .error e
      | .ok s => .ok (r.1 :: s.1, s.2.1, r.2.2 ++ s.2.2)
def thS (t : Int → Int) : (D : Nat) → Int → Nat → Except Int (TR D)
  | D, p, q =>
    if wd3 t p 110 117 109 then
      if t (p + 3) ≠ 32 then .error (p + 3)
      else if isD (t (p + 4 + (if t (p + 4) = 45 then 1 else 0))) then
        .ok (((110, if t (p + 4) = 45 then -(dg t 9 (p + 4 + (if t (p + 4) = 45 then 1 else 0)) 0).1 else (dg t 9 (p + 4 + (if t (p + 4) = 45 then 1 else 0)) 0).1, (q : Int)), fo0 D), (dg t 9 (p + 4 + (if t (p + 4) = 45 then 1 else 0)) 0).2, [])
      else .error (p + 4 + (if t (p + 4) = 45 then 1 else 0))
    else if wd3 t p 115 116 114 then
      if t (p + 3) ≠ 32 then .error (p + 3)
      else .ok (((115, (lc t 20 (p + 4) : Nat), (q : Int)), fo0 D), p + 4 + (lc t 20 (p + 4) : Nat), rowL t (lc t 20 (p + 4)) (p + 4))
    else if wd3 t p 114 97 119 then
      if t (p + 3) ≠ 32 then .error (p + 3)
      else if isD (t (p + 4)) then match rwF t 19 (p + 4) with
        | .error e => .error e
        | .ok s => .ok (((114, (s.1.length : Nat), (q : Int)), fo0 D), s.2, s.1)
      else .ok (((114, 0, (q : Int)), fo0 D), p + 4, [])
    else if wd3 t p 115 101 116 then
      match D with
      | 0 => .error p
      | D' + 1 =>
        if t (p + 3) ≠ 40 then .error (p + 3)
        else if t (p + 4) = 41 then .ok (((103, 0, (q : Int)), ([] : List (Nd D'))), p + 5, [])
        else match grS t (thS t D') 6 (p + 4) q with
          | .error e => .error e
          | .ok s => .ok (((103, (s.1.length : Nat), (q : Int)), s.1), s.2.1, s.2.2)
    else .error p
def tpS (t : Int → Int) (n : Int) : Nat → Int → Nat → Except Int (List (Nd 3) × List Int)
  | 0, p, _ => .error p
  | k + 1, p, q => match thS t 3 p q with
    | .error e => .error e
    | .ok r => if n ≤ r.2.1 then .ok ([r.1], r.2.2) else if k = 0 ∨ t r.2.1 ≠ 59 then .error r.2.1 else match tpS t n k (r.2.1 + 1) (q + r.2.2.length) with
      | .error e => .error e
      | .ok s => .ok (r.1 :: s.1, r.2.2 ++ s.2)
/-! what is told is well made, and not too much -/
section
variable {t : Int → Int} {n : Int}
/-- beyond the end there is nothing -/
def TN (t : Int → Int) (n : Int) : Prop := ∀ p, n ≤ p → t p = -1
theorem dg_r (hn : TN t n) : ∀ (k : Nat) (p v : Int), p ≤ n → 0 ≤ v → 0 ≤ (dg t k p v).1 ∧ (dg t k p v).1 + 1 ≤ (v + 1) * 10 ^ k ∧ p ≤ (dg t k p v).2 ∧ (dg t k p v).2 ≤ n ∧ (dg t k p v).2 ≤ p + k ∧ (dg t k p v).1 + 1 ≤ (v + 1) * 10 ^ ((dg t k p v).2 - p).toNat := by
  intro k
  induction k with
  | zero => intro p v hp hv; exact ⟨hv, by show v + 1 ≤ (v + 1) * 1; omega, Int.le_refl _, hp, by show p ≤ p + ((0 : Nat) : Int); omega, by show v + 1 ≤ (v + 1) * 10 ^ (p - p).toNat; rw [Int.sub_self]; show v + 1 ≤ (v + 1) * 1; omega⟩
  | succ k ih =>
    intro p v hp hv
    unfold dg
    split
    · rename_i c
      have hpn : p < n := by
        by_cases c2 : n ≤ p
        · have := hn p c2; omega
        · omega
      obtain ⟨h1, h2, h3, h4, h5, h6⟩ := ih (p + 1) (v * 10 + t p - 48) (by omega) (by omega)
      generalize dg t k (p + 1) (v * 10 + t p - 48) = r at *
      have e10 : (0 : Int) < 10 ^ k := Int.pow_pos (by decide)
      have b1 : (v * 10 + t p - 48 + 1) * 10 ^ k ≤ ((v + 1) * 10) * 10 ^ k := Int.mul_le_mul_of_nonneg_right (by omega) (by omega)
      have e11 : (0 : Int) < 10 ^ (r.2 - (p + 1)).toNat := Int.pow_pos (by decide)
      have b2 : (v * 10 + t p - 48 + 1) * 10 ^ (r.2 - (p + 1)).toNat ≤ ((v + 1) * 10) * 10 ^ (r.2 - (p + 1)).toNat := Int.mul_le_mul_of_nonneg_right (by omega) (by omega)
      refine ⟨h1, ?_, by omega, h4, by omega, ?_⟩
      · rw [Int.pow_succ, Int.mul_comm (10 ^ k) 10, ← Int.mul_assoc]; omega
      · rw [show (r.2 - p).toNat = (r.2 - (p + 1)).toNat + 1 by omega, Int.pow_succ, Int.mul_comm (10 ^ _) 10, ← Int.mul_assoc]; omega
    · refine ⟨hv, ?_, Int.le_refl _, hp, by omega, by show v + 1 ≤ (v + 1) * 10 ^ (p - p).toNat; rw [Int.sub_self]; show v + 1 ≤ (v + 1) * 1; omega⟩
      have e9 : (0 : Int) < 10 ^ (k + 1) := Int.pow_pos (by decide)
      have e10 : (1 : Int) ≤ 10 ^ (k + 1) := by omega
      have := Int.mul_le_mul_of_nonneg_left e10 (show (0 : Int) ≤ v + 1 by omega)
      rw [Int.mul_one] at this
      show v + 1 ≤ (v + 1) * 10 ^ (k + 1)
      omega
theorem dg_adv {k : Nat} {p v : Int} (h : isD (t p)) (hn : TN t n) (hp : p ≤ n) (hv : 0 ≤ v) : p + 1 ≤ (dg t (k + 1) p v).2 := by
  unfold dg
  rw [if_pos h]
  have hpn : p < n := by
    by_cases c2 : n ≤ p
    · have := hn p c2; omega
    · omega
  exact (dg_r hn k (p + 1) _ (by omega) (by omega)).2.2.1
theorem lc_r (hn : TN t n) : ∀ (k : Nat) (p : Int), p ≤ n → lc t k p ≤ k ∧ p + (lc t k p : Nat) ≤ n := by
  intro k
  induction k with
  | zero => intro p hp; exact ⟨Nat.le_refl _, by show p + ((0 : Nat) : Int) ≤ n; omega⟩
  | succ k ih =>
    intro p hp
    unfold lc
    split
    · have hpn : p < n := by
        by_cases c2 : n ≤ p
        · have := hn p c2; omega
        · omega
      have := ih (p + 1) (by omega)
      omega
    · exact ⟨Nat.zero_le _, by omega⟩
theorem lc_L : ∀ (k : Nat) (p j : Int), 0 ≤ j → j < (lc t k p : Nat) → isL (t (p + j)) := by
  intro k
  induction k with
  | zero => intro p j h1 h2; have : lc t 0 p = 0 := rfl; omega
  | succ k ih =>
    intro p j h1 h2
    unfold lc at h2
    split at h2
    · by_cases c : j = 0
      · rw [c, Int.add_zero]; assumption
      · have := ih (p + 1) (j - 1) (by omega) (by omega)
        rw [show p + 1 + (j - 1) = p + j by omega] at this
        exact this
    · omega
theorem rbB_r (hn : TN t n) {p : Int} (hp : p ≤ n) {r : Int × Int} (h : rbB t p = .ok r) : 0 ≤ r.1 ∧ r.1 ≤ 255 ∧ p + 1 ≤ r.2 ∧ r.2 ≤ n := by
  unfold rbB at h
  split at h
  · rename_i c
    split at h
    · cases h
    · cases h
      have := dg_r hn 3 p 0 hp (by omega)
      have : p + 1 ≤ (dg t 3 p 0).2 := dg_adv (k := 2) c hn hp (v := 0) (by omega)
      omega
  · cases h
theorem rwF_r (hn : TN t n) : ∀ (m : Nat) (p : Int) (s : List Int × Int), p ≤ n → rwF t m p = .ok s → s.1.length ≤ m + 1 ∧ (∀ b ∈ s.1, 0 ≤ b ∧ b ≤ 255) ∧ p + (s.1.length : Nat) ≤ s.2 ∧ s.2 ≤ n := by
  intro m
  induction m with
  | zero =>
    intro p s hp h
    unfold rwF at h
    split at h
    · cases h
    · rename_i r hr
      cases h
      have := rbB_r hn hp hr
      refine ⟨by simp, fun b hb => ?_, by simp; omega, this.2.2.2⟩
      rw [List.mem_singleton] at hb; subst hb; omega
  | succ m ih =>
    intro p s hp h
    unfold rwF at h
    split at h
    · cases h
    · rename_i r hr
      have hrr := rbB_r hn hp hr
      split at h
      · rename_i c
        have hpn : r.2 < n := by
          by_cases c2 : n ≤ r.2
          · have := hn _ c2; omega
          · omega
        split at h
        · cases h
        · rename_i s' hs'
          cases h
          obtain ⟨h1, h2, h3, h4⟩ := ih _ _ (by omega) hs'
          refine ⟨by simp; omega, fun b hb => ?_, by simp; omega, h4⟩
          rcases List.mem_cons.mp hb with q | q
          · rw [q]; omega
          · exact h2 b q
      · cases h
        refine ⟨by simp, fun b hb => ?_, by simp; omega, hrr.2.2.2⟩
        rw [List.mem_singleton] at hb; subst hb; omega
/-- what holds of a thing that is told from p on -/
def TO (t : Int → Int) (n : Int) (D : Nat) (p : Int) (q : Nat) (r : TR D) : Prop :=
  (p + 4 ≤ r.2.1 ∧ r.2.1 ≤ n) ∧ p + (4 * (1 + fsz D r.1.2) + r.2.2.length : Nat) ≤ r.2.1 ∧ (∀ g : Int → Int, (∀ (k : Nat) (h : k < r.2.2.length), g ((q : Int) + k) = r.2.2[k]) → (q + r.2.2.length ≤ 120) → wF g (D + 1) ([r.1] : List (Nd D)) ∧ ∀ v, p + (4 + (payT g v D r.1).length : Nat) ≤ r.2.1)
end
