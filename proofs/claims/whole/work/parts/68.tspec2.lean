/-! what is told is well made, and not too much -/
theorem lenN_dg {v : Int} {k : Nat} (h0 : 0 ≤ v) (hk : 1 ≤ k) (h : v + 1 ≤ 10 ^ k) : lenN v ≤ k ∧ lenN (-v) ≤ k := by
  match k, hk, h with
  | 1, _, h =>
    have h' : v + 1 ≤ 10 := h
    unfold lenN
    rw [if_pos (by omega), if_pos (by omega)]; omega
  | 2, _, h =>
    have h' : v + 1 ≤ 100 := h
    unfold lenN
    rw [if_pos (by omega), if_pos (by omega)]; omega
  | 3, _, h =>
    have h' : v + 1 ≤ 1000 := h
    unfold lenN
    constructor
    · repeat' split
      all_goals omega
    · repeat' split
      all_goals omega
  | k + 4, _, _ =>
    have := lenN_r (v := v)
    have := lenN_r (v := -v)
    omega
section
variable {t : Int → Int} {n : Int}
theorem TN_lt (hn : TN t n) {p c : Int} (h : t p = c) (hc : c ≠ -1) : p < n := by
  by_cases c2 : n ≤ p
  · have := hn p c2; omega
  · omega
theorem wd3_lt (hn : TN t n) {p a b c : Int} (h : wd3 t p a b c) (hc : 0 < c) : p + 3 ≤ n := by
  have := TN_lt hn h.2.2.1 (by omega); omega
/-- what holds of things told between brackets from p on -/
def TG (n : Int) (D : Nat) (k : Nat) (p : Int) (q : Nat) (r : List (Nd D) × Int × List Int) : Prop :=
  r.2.1 ≤ n ∧ p + (4 * fsz (D + 1) r.1 + r.2.2.length + 1 : Nat) ≤ r.2.1 ∧ r.1.length ≤ k ∧ (∀ g : Int → Int, (∀ (k : Nat) (h : k < r.2.2.length), g ((q : Int) + k) = r.2.2[k]) → (q + r.2.2.length ≤ 120) → wF g (D + 1) r.1 ∧ ∀ v, p + ((wrF g v (D + 1) r.1).length + 1 : Nat) ≤ r.2.1)
theorem grS_TG (hn : TN t n) {D : Nat} {th : Int → Nat → Except Int (TR D)} (hth : ∀ p q r, p ≤ n → th p q = .ok r → TO t n D p q r) : ∀ (k : Nat) (p : Int) (q : Nat) (r : List (Nd D) × Int × List Int), p ≤ n → grS t th k p q = .ok r → TG n D k p q r := by
  intro k
  induction k with
  | zero => intro p q r hp h; unfold grS at h; cases h
  | succ k ih =>
    intro p q r hp h
    unfold grS at h
    split at h
    · cases h
    · rename_i x hx
      obtain ⟨⟨h1, h2⟩, h3, h4⟩ := hth _ _ _ hp hx
      split at h
      · rename_i c
        have hlt := TN_lt hn c (by omega)
        cases h
        refine ⟨by show x.2.1 + 1 ≤ n; omega, ?_, by simp, fun g hg hq => ?_⟩
        · show p + (4 * fsz (D + 1) ([x.1] : List (Nd D)) + x.2.2.length + 1 : Nat) ≤ x.2.1 + 1
          have e : fsz (D + 1) ([x.1] : List (Nd D)) = 1 + fsz D x.1.2 := rfl
          rw [e]; omega
        · obtain ⟨g1, g2⟩ := h4 g hg hq
          refine ⟨g1, fun v => ?_⟩
          show p + ((wrF g v (D + 1) ([x.1] : List (Nd D))).length + 1 : Nat) ≤ x.2.1 + 1
          have := g2 v
          rw [wrF_len, wrF_nil]
          simp; omega
      · split at h
        · cases h
        · rename_i c c2
          have c3 : t x.2.1 = 59 := by
            by_cases c4 : t x.2.1 = 59
            · exact c4
            · exact absurd (Or.inr c4) c2
          have hlt := TN_lt hn c3 (by omega)
          split at h
          · cases h
          · rename_i s hs
            cases h
            obtain ⟨s1, s2, s3, s4⟩ := ih _ _ _ (by omega) hs
            refine ⟨s1, ?_, by simp; omega, fun g hg hq => ?_⟩
            · show p + (4 * fsz (D + 1) (x.1 :: s.1 : List (Nd D)) + (x.2.2 ++ s.2.2).length + 1 : Nat) ≤ s.2.1
              rw [fsz_cons, List.length_append]; omega
            · rw [List.length_append] at hq
              obtain ⟨g1, g2⟩ := h4 g (fun k hk => by
                have := hg k (by rw [List.length_append]; omega)
                rw [this, List.getElem_append_left hk]) (by omega)
              obtain ⟨g3, g4⟩ := s4 g (fun k hk => by
                have := hg (x.2.2.length + k) (by rw [List.length_append]; omega)
                rw [show ((q + x.2.2.length : Nat) : Int) + (k : Int) = (q : Int) + ((x.2.2.length + k : Nat) : Int) by omega, this, List.getElem_append_right (by omega)]
                congr 1; omega) (by omega)
              rw [wF_cons] at g1
              refine ⟨⟨g1.1, g3⟩, fun v => ?_⟩
              have a1 := g2 v
              have a2 := g4 v
              show p + ((wrF g v (D + 1) (x.1 :: s.1 : List (Nd D))).length + 1 : Nat) ≤ s.2.1
              rw [wrF_len]; omega
theorem thS_TO (hn : TN t n) : ∀ (D : Nat) (p : Int) (q : Nat) (r : TR D), p ≤ n → thS t D p q = .ok r → TO t n D p q r := by
  have leaf : ∀ (D : Nat) (p : Int) (q : Nat), p + 3 ≤ n →
      (t (p + 3) = 32 → isD (t (p + 4 + (if t (p + 4) = 45 then 1 else 0))) → TO t n D p q (((110, if t (p + 4) = 45 then -(dg t 9 (p + 4 + (if t (p + 4) = 45 then 1 else 0)) 0).1 else (dg t 9 (p + 4 + (if t (p + 4) = 45 then 1 else 0)) 0).1, (q : Int)), fo0 D), (dg t 9 (p + 4 + (if t (p + 4) = 45 then 1 else 0)) 0).2, [])) ∧
      (t (p + 3) = 32 → TO t n D p q (((115, (lc t 20 (p + 4) : Nat), (q : Int)), fo0 D), p + 4 + (lc t 20 (p + 4) : Nat), rowL t (lc t 20 (p + 4)) (p + 4))) ∧
      (t (p + 3) = 32 → ∀ s, rwF t 19 (p + 4) = .ok s → TO t n D p q (((114, (s.1.length : Nat), (q : Int)), fo0 D), s.2, s.1)) ∧
      (t (p + 3) = 32 → TO t n D p q (((114, 0, (q : Int)), fo0 D), p + 4, [])) := by
    intro D p q hp
    refine ⟨fun h hd => ?_, fun h => ?_, fun h s hs => ?_, fun h => ?_⟩
    · have h3 := TN_lt hn h (by omega)
      have h45 : p + 4 + (if t (p + 4) = 45 then 1 else 0) ≤ n := by
        split
        · rename_i c; have := TN_lt hn c (by omega); omega
        · omega
      have hge : p + 4 ≤ p + 4 + (if t (p + 4) = 45 then 1 else 0) := by split <;> omega
      generalize p + 4 + (if t (p + 4) = 45 then 1 else 0) = p2 at *
      obtain ⟨d1, d2, d3, d4, d5, d6⟩ := dg_r hn 9 p2 0 h45 (by omega)
      have hadv : p2 + 1 ≤ (dg t 9 p2 0).2 := dg_adv (k := 8) hd hn h45 (v := 0) (by omega)
      generalize dg t 9 p2 0 = r at *
      have d2' : r.1 + 1 ≤ (0 + 1) * 1000000000 := d2
      rw [Int.zero_add, Int.one_mul] at d6
      have hlen := lenN_dg d1 (show 1 ≤ (r.2 - p2).toNat by omega) d6
      refine ⟨⟨by show p + 4 ≤ r.2; omega, d4⟩, ?_, fun g hg hq => ⟨⟨⟨Or.inl ⟨rfl, ?_⟩, fun q' => absurd (show (110 : Int) = 103 from q') (by decide), fun _ => rfl, wF_0⟩, trivial⟩, fun v => ?_⟩⟩
      · show p + ((4 * (1 + fsz D (fo0 D)) + 0 : Nat) : Int) ≤ r.2
        rw [fsz_0]; omega
      · show -2147483648 ≤ (if t (p + 4) = 45 then -r.1 else r.1) ∧ (if t (p + 4) = 45 then -r.1 else r.1) ≤ 2147483647
        split <;> omega
      · rw [pay_leaf (show (110 : Int) ≠ 103 by decide), leafB_len, if_pos rfl]
        show p + ((4 + lenN (if t (p + 4) = 45 then -r.1 else r.1) : Nat) : Int) ≤ r.2
        split <;> omega
    · have h3 := TN_lt hn h (by omega)
      have hl := lc_r hn 20 (p + 4) (by omega)
      refine ⟨⟨by show p + 4 ≤ p + 4 + _; omega, by show p + 4 + _ ≤ n; omega⟩, ?_, fun g hg hq => ⟨⟨⟨Or.inr (Or.inl ⟨Or.inl rfl, by show (0 : Int) ≤ ((lc t 20 (p + 4) : Nat) : Int); omega, by show (lc t 20 (p + 4) : Int) ≤ 20; omega, by show (0 : Int) ≤ (q : Int); omega, ?_, ?_⟩), fun q' => absurd (show (115 : Int) = 103 from q') (by decide), fun _ => rfl, wF_0⟩, trivial⟩, fun v => ?_⟩⟩
      · show p + ((4 * (1 + fsz D (fo0 D)) + (rowL t (lc t 20 (p + 4)) (p + 4)).length : Nat) : Int) ≤ p + 4 + _
        rw [fsz_0, rowL_len]; omega
      · rw [rowL_len] at hq
        show (q : Int) + (lc t 20 (p + 4) : Nat) ≤ 120
        omega
      · intro k k0 k1
        have k1' : k < (lc t 20 (p + 4) : Nat) := k1
        have := hg k.toNat (by rw [rowL_len]; omega)
        rw [Int.toNat_of_nonneg k0] at this
        show 0 ≤ g ((q : Int) + k) ∧ g ((q : Int) + k) ≤ 255
        rw [this]
        have hL := lc_L 20 (p + 4) k k0 k1'
        have key : ∀ (q k : Nat) (p : Int) (hk : k < (rowL t q p).length), (rowL t q p)[k] = t (p + k) := by
          intro q
          induction q with
          | zero => intro k p hk; simp [rowL] at hk
          | succ q ih2 =>
            intro k p hk
            cases k with
            | zero => show t p = _; congr 1; omega
            | succ k =>
              have hk' : k < (rowL t q (p + 1)).length := by rw [rowL_len] at hk ⊢; omega
              show (rowL t q (p + 1))[k]'hk' = _
              rw [ih2 k]
              congr 1; omega
        rw [key, Int.toNat_of_nonneg k0]
        unfold isL at hL
        omega
      · rw [pay_leaf (show (115 : Int) ≠ 103 by decide), leafB_len, if_neg (show (115 : Int) ≠ 110 by decide)]
        show p + ((4 + ((lc t 20 (p + 4) : Nat) : Int).toNat : Nat) : Int) ≤ p + 4 + _
        omega
    · have h3 := TN_lt hn h (by omega)
      obtain ⟨s1, s2, s3, s4⟩ := rwF_r hn 19 (p + 4) s (by omega) hs
      refine ⟨⟨by show p + 4 ≤ s.2; omega, s4⟩, ?_, fun g hg hq => ⟨⟨⟨Or.inr (Or.inl ⟨Or.inr rfl, by show (0 : Int) ≤ ((s.1.length : Nat) : Int); omega, by show (s.1.length : Int) ≤ 20; omega, by show (0 : Int) ≤ (q : Int); omega, ?_, ?_⟩), fun q' => absurd (show (114 : Int) = 103 from q') (by decide), fun _ => rfl, wF_0⟩, trivial⟩, fun v => ?_⟩⟩
      · show p + ((4 * (1 + fsz D (fo0 D)) + s.1.length : Nat) : Int) ≤ s.2
        rw [fsz_0]; omega
      · have hq' : q + s.1.length ≤ 120 := hq
        show (q : Int) + (s.1.length : Nat) ≤ 120
        omega
      · intro k k0 k1
        have k1' : k < (s.1.length : Nat) := k1
        have := hg k.toNat (by show k.toNat < s.1.length; omega)
        rw [Int.toNat_of_nonneg k0] at this
        show 0 ≤ g ((q : Int) + k) ∧ g ((q : Int) + k) ≤ 255
        rw [this]
        exact s2 _ (List.getElem_mem _)
      · rw [pay_leaf (show (114 : Int) ≠ 103 by decide), leafB_len, if_neg (show (114 : Int) ≠ 110 by decide)]
        show p + ((4 + ((s.1.length : Nat) : Int).toNat : Nat) : Int) ≤ s.2
        omega
    · have h3 := TN_lt hn h (by omega)
      refine ⟨⟨by show p + 4 ≤ p + 4; omega, by show p + 4 ≤ n; omega⟩, ?_, fun g hg hq => ⟨⟨⟨Or.inr (Or.inl ⟨Or.inr rfl, by show (0 : Int) ≤ 0; omega, by show (0 : Int) ≤ 20; omega, by show (0 : Int) ≤ (q : Int); omega, by show (q : Int) + 0 ≤ 120; omega, fun k k0 k1 => by have : k < 0 := k1; omega⟩), fun q' => absurd (show (114 : Int) = 103 from q') (by decide), fun _ => rfl, wF_0⟩, trivial⟩, fun v => ?_⟩⟩
      · show p + ((4 * (1 + fsz D (fo0 D)) + 0 : Nat) : Int) ≤ p + 4
        rw [fsz_0]; omega
      · rw [pay_leaf (show (114 : Int) ≠ 103 by decide), leafB_len, if_neg (show (114 : Int) ≠ 110 by decide)]
        show p + ((4 + (0 : Int).toNat : Nat) : Int) ≤ p + 4
        omega
  have body : ∀ (D : Nat), (∀ D', D = D' + 1 → ∀ p q r, p ≤ n → thS t D' p q = .ok r → TO t n D' p q r) → ∀ (p : Int) (q : Nat) (r : TR D), p ≤ n → thS t D p q = .ok r → TO t n D p q r := by
    intro D hD p q r hp h
    unfold thS at h
    split at h
    · rename_i c
      obtain ⟨l1, l2, l3, l4⟩ := leaf D p q (wd3_lt hn c (by omega))
      split at h
      · cases h
      · rename_i c2
        by_cases c3 : isD (t (p + 4 + (if t (p + 4) = 45 then 1 else 0)))
        · rw [if_pos c3] at h
          cases h
          exact l1 (by omega) c3
        · rw [if_neg c3] at h
          cases h
    · split at h
      · rename_i c
        obtain ⟨l1, l2, l3, l4⟩ := leaf D p q (wd3_lt hn c (by omega))
        split at h
        · cases h
        · cases h
          exact l2 (by omega)
      · split at h
        · rename_i c
          obtain ⟨l1, l2, l3, l4⟩ := leaf D p q (wd3_lt hn c (by omega))
          split at h
          · cases h
          · split at h
            · split at h
              · cases h
              · rename_i s hs
                cases h
                exact l3 (by omega) s hs
            · cases h
              exact l4 (by omega)
        · split at h
          · rename_i c
            cases D with
            | zero => cases h
            | succ D' =>
              simp only at h
              split at h
              · cases h
              · rename_i c1
                have h3 := TN_lt hn (show t (p + 3) = 40 by omega) (by omega)
                split at h
                · rename_i c2
                  have h4 := TN_lt hn c2 (by omega)
                  cases h
                  refine ⟨⟨by show p + 4 ≤ p + 5; omega, by show p + 5 ≤ n; omega⟩, ?_, fun g hg hq => ⟨⟨⟨Or.inr (Or.inr rfl), fun _ => ⟨by omega, rfl, by show (0 : Int) ≤ 6; omega⟩, fun q' => absurd rfl q', trivial⟩, trivial⟩, fun v => ?_⟩⟩
                  · show p + ((4 * (1 + 0) + 0 : Nat) : Int) ≤ p + 5; omega
                  · show p + ((4 + 0 : Nat) : Int) ≤ p + 5; omega
                · split at h
                  · cases h
                  · rename_i s hs
                    obtain ⟨g1, g2, g3, g4⟩ := grS_TG hn (fun p q r hp hr => hD D' rfl p q r hp hr) 6 (p + 4) q s (by omega) hs
                    cases h
                    refine ⟨⟨by show p + 4 ≤ s.2.1; omega, g1⟩, ?_, fun g hg hq => ?_⟩
                    · show p + ((4 * (1 + fsz (D' + 1) s.1) + s.2.2.length : Nat) : Int) ≤ s.2.1
                      omega
                    · obtain ⟨k1, k2⟩ := g4 g hg hq
                      refine ⟨⟨⟨Or.inr (Or.inr rfl), fun _ => ⟨by omega, rfl, by show (s.1.length : Int) ≤ 6; omega⟩, fun q' => absurd rfl q', k1⟩, trivial⟩, fun v => ?_⟩
                      have := k2 v
                      rw [pay_group (show (103 : Int) = 103 from rfl)]
                      show p + ((4 + (wrF g v (D' + 1) s.1).length : Nat) : Int) ≤ s.2.1
                      omega
          · cases h
  intro D
  induction D with
  | zero => exact body 0 (fun D' h => absurd h (by omega))
  | succ D ih =>
    refine body (D + 1) ?_
    intro D' h'
    have e : D = D' := by omega
    subst e
    exact ih
end
