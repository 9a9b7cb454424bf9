/-! no run writes the script's row -/
theorem mm_mem_keep {m Ls : Nat} {i : Instr} {own : String} {res : Int} {st st' : List Value} {S S' : mm_S} {I I' : mm_I} {L L' : mm_L} {R R' : mm_R} (hlk : mm_lkI own i res) (h0 : S[0]? = some (20, Ls)) (h : mm_mem m i res st S I L R = some (st', S', I', L', R')) : S'[0]? = some (20, Ls) ∧ I' 0 = I 0 := by
  have hl : 0 < S.length := (List.getElem?_eq_some_iff.mp h0).1
  have key : ∀ {x : List Value × mm_S × mm_I × mm_L × mm_R}, (x.2.1 = S ∨ ∃ q, x.2.1 = S ++ [q]) → x.2.2.1 0 = I 0 → x = (st', S', I', L', R') → S'[0]? = some (20, Ls) ∧ I' 0 = I 0 := by
    rintro x (hx | ⟨q, hx⟩) hi rfl
    · simp only at hx hi; subst hx; exact ⟨h0, hi⟩
    · simp only at hx hi; subst hx; exact ⟨by rw [List.getElem?_append_left hl]; exact h0, hi⟩
  have ne : ∀ {a k n : Nat}, S[a]? = some (k, n) → k ≠ 20 → 0 ≠ a := by
    rintro a k n ha hk rfl
    rw [h0] at ha
    cases ha
    exact hk rfl
  unfold mm_mem at h
  repeat' split at h
  all_goals first
    | (cases h; done)
    | exact key (Or.inl rfl) rfl (Option.some.inj h)
    | exact key (Or.inr ⟨_, rfl⟩) (mm_rw_ne (by omega)) (Option.some.inj h)
    | exact key (Or.inl rfl) (mm_up_ne (by omega)) (Option.some.inj h)
    | exact key (Or.inl rfl) (mm_rw_ne (by omega)) (Option.some.inj h)
    | (refine key (Or.inl rfl) (mm_up_ne (ne (by assumption) ?_)) (Option.some.inj h); omega)
    | (rename_i hc _ _ _ _; refine key (Or.inl rfl) (mm_up_ne (ne hc.1 ?_)) (Option.some.inj h); have := hlk.2.1; omega)
    | (rename_i hc; exact key (Or.inl rfl) (mm_up_ne (Nat.ne_of_lt (Nat.lt_of_lt_of_le (by decide) hc.2.1))) (Option.some.inj h))
    | (rename_i q1 q2 q3 q4 q5 q6; refine key (Or.inl rfl) (mm_up_ne (ne q1.1 ?_)) (Option.some.inj h); have := hlk.2.1; omega)
    | (rename_i q1 q2 q3 q4 q5 q6; exact key (Or.inl rfl) (mm_rw_ne (Nat.ne_of_lt (Nat.lt_of_lt_of_le (by decide) q5.2.1))) (Option.some.inj h))
theorem mm_ex_keep {Ls : Nat} : ∀ {n d m pc : Nat} {ls : mm_ls} {st : List Value} {S : mm_S} {I : mm_I} {L : mm_L} {R : mm_R} {r : mm_O}, S[0]? = some (20, Ls) → mm_ex n d m pc ls st S I L R = some r → r.2.1[0]? = some (20, Ls) ∧ r.2.2.1 0 = I 0 := by
  intro n
  induction n with
  | zero => intro d m pc ls st S I L R r h0 h; simp [mm_ex] at h
  | succ n ih =>
    intro d m pc ls st S I L R r h0 h
    rw [mm_ex] at h
    cases hf : mm_fetch m pc with
    | none => rw [hf] at h; simp at h
    | some q =>
      obtain ⟨i, len, res⟩ := q
      rw [hf] at h
      dsimp only at h
      cases hp : mm_pure i res ls st with
      | some q => obtain ⟨ls', st'⟩ := q; rw [hp] at h; exact ih h0 h
      | none =>
        rw [hp] at h; dsimp only at h
        cases hj : mm_jump i len pc st with
        | some q => obtain ⟨pc', st'⟩ := q; rw [hj] at h; exact ih h0 h
        | none =>
          rw [hj] at h; dsimp only at h
          cases hm : mm_mem m i res st S I L R with
          | some q =>
            obtain ⟨st', S', I', L', R'⟩ := q
            rw [hm] at h
            have a := mm_mem_keep (mm_fetch_fact hf).2.1 h0 hm
            have b := ih a.1 h
            exact ⟨b.1, b.2.trans a.2⟩
          | none =>
            rw [hm] at h; dsimp only at h
            cases hr : mm_ret m i st with
            | some v => rw [hr] at h; obtain rfl := Option.some.inj h; exact ⟨h0, rfl⟩
            | none =>
              rw [hr] at h; dsimp only at h
              cases hc : mm_call i res st S with
              | none => rw [hc] at h; simp at h
              | some q =>
                obtain ⟨k, as, rest⟩ := q
                rw [hc] at h
                cases d with
                | zero => simp at h
                | succ d =>
                  dsimp only at h
                  cases hx : mm_ex n d k 0 (mm_entry k as) [] S I L R with
                  | none => rw [hx] at h; simp at h
                  | some q =>
                    obtain ⟨v, S', I', L', R'⟩ := q
                    rw [hx] at h
                    have a := ih h0 hx
                    have b := ih a.1 h
                    exact ⟨b.1, b.2.trans a.2⟩
theorem EE_keep {L d m pc : Nat} {ls : mm_ls} {st : List Value} {J K J' K' : mJ} {R R' : mm_R} {v : Option Value} (h : EE d m pc ls st (SH L) J K R = ok v (SH L) J' K' R') : ∀ j, iI (J' 0 j) = iI (J 0 j) := by
  obtain ⟨n, hn⟩ := E_some.mp h
  have := (mm_ex_keep (Ls := L) rfl hn).2
  exact fun j => congrFun this j
/-- what a method answers is of its kind -/
theorem mm_ex_ret : ∀ {n d m pc : Nat} {ls : mm_ls} {st : List Value} {S : mm_S} {I : mm_I} {L : mm_L} {R : mm_R} {r : mm_O}, mm_ex n d m pc ls st S I L R = some r → (mm_rt m = some .int → ∃ x, r.1 = some (.int x)) ∧ (mm_rt m = some .long → ∃ x, r.1 = some (.long x)) := by
  intro n
  induction n with
  | zero => intro d m pc ls st S I L R r h; simp [mm_ex] at h
  | succ n ih =>
    intro d m pc ls st S I L R r h
    rw [mm_ex] at h
    cases hf : mm_fetch m pc with
    | none => rw [hf] at h; simp at h
    | some q =>
      obtain ⟨i, len, res⟩ := q
      rw [hf] at h
      dsimp only at h
      cases hp : mm_pure i res ls st with
      | some q => obtain ⟨ls', st'⟩ := q; rw [hp] at h; exact ih h
      | none =>
        rw [hp] at h; dsimp only at h
        cases hj : mm_jump i len pc st with
        | some q => obtain ⟨pc', st'⟩ := q; rw [hj] at h; exact ih h
        | none =>
          rw [hj] at h; dsimp only at h
          cases hm : mm_mem m i res st S I L R with
          | some q =>
            obtain ⟨st', S', I', L', R'⟩ := q
            rw [hm] at h
            exact ih h
          | none =>
            rw [hm] at h; dsimp only at h
            cases hr : mm_ret m i st with
            | some v =>
              rw [hr] at h
              obtain rfl := Option.some.inj h
              dsimp only
              unfold mm_ret at hr
              refine ⟨fun ht => ?_, fun ht => ?_⟩
              · rw [ht] at hr
                repeat' split at hr
                all_goals first
                  | (cases hr; exact ⟨_, rfl⟩)
                  | (cases hr; done)
                  | simp_all
              · rw [ht] at hr
                repeat' split at hr
                all_goals first
                  | (cases hr; exact ⟨_, rfl⟩)
                  | (cases hr; done)
                  | simp_all
            | none =>
              rw [hr] at h; dsimp only at h
              cases hc : mm_call i res st S with
              | none => rw [hc] at h; simp at h
              | some q =>
                obtain ⟨k, as, rest⟩ := q
                rw [hc] at h
                cases d with
                | zero => simp at h
                | succ d =>
                  dsimp only at h
                  cases hx : mm_ex n d k 0 (mm_entry k as) [] S I L R with
                  | none => rw [hx] at h; simp at h
                  | some q =>
                    obtain ⟨v, S', I', L', R'⟩ := q
                    rw [hx] at h
                    exact ih h
theorem EE_rti {d m pc : Nat} {ls : mm_ls} {st : List Value} {S S' : mm_S} {J K J' K' : mJ} {R R' : mm_R} {v : Value} (h : EE d m pc ls st S J K R = ok (some v) S' J' K' R') (hm : mm_rt m = some .int) : ∃ z, v = vi z ∧ -2147483648 ≤ z ∧ z ≤ 2147483647 := by
  obtain ⟨n, hn⟩ := E_some.mp h
  obtain ⟨x, hx⟩ := (mm_ex_ret hn).1 hm
  cases hx
  exact ⟨x.toInt, vi_of x, i32_r x⟩
theorem EE_rtl {d m pc : Nat} {ls : mm_ls} {st : List Value} {S S' : mm_S} {J K J' K' : mJ} {R R' : mm_R} {v : Value} (h : EE d m pc ls st S J K R = ok (some v) S' J' K' R') (hm : mm_rt m = some .long) : ∃ z, v = vl z ∧ -9223372036854775808 ≤ z ∧ z ≤ 9223372036854775807 := by
  obtain ⟨n, hn⟩ := E_some.mp h
  obtain ⟨x, hx⟩ := (mm_ex_ret hn).2 hm
  cases hx
  exact ⟨x.toInt, vl_of x, Int64.le_toInt x, by have := Int64.toInt_lt x; omega⟩
/-- an int of the script -/
def sx (J : mJ) (j : Nat) : Int := (iI (J 0 j)).toInt
theorem sx_r (J : mJ) (j : Nat) : -2147483648 ≤ sx J j ∧ sx J j ≤ 2147483647 := i32_r _
theorem sx_v (J : mJ) (j : Nat) : vi (J 0 j) = vi (sx J j) := vi_of _
theorem sx_k {L d m pc : Nat} {ls : mm_ls} {st : List Value} {J K J' K' : mJ} {R R' : mm_R} {v : Option Value} (h : EE d m pc ls st (SH L) J K R = ok v (SH L) J' K' R') (j : Nat) : vi (J' 0 j) = vi (sx J j) := by
  have := EE_keep h j
  rw [← sx_v]
  unfold vi
  rw [this]
theorem jand_31 (z : Int) : 0 ≤ jand z 31 ∧ jand z 31 ≤ 31 := by
  have h1 : ((iI z).toBitVec &&& (iI 31).toBitVec).toNat ≤ 31 := by
    show ((BitVec.ofInt 32 z) &&& (BitVec.ofInt 32 31)).toNat ≤ 31
    rw [BitVec.toNat_and]
    exact Nat.and_le_right
  have h2 : jand z 31 = ((iI z).toBitVec &&& (iI 31).toBitVec).toInt := rfl
  have h3 : ((iI z).toBitVec &&& (iI 31).toBitVec).toInt = (((iI z).toBitVec &&& (iI 31).toBitVec).toNat : Int) := BitVec.toInt_eq_toNat_of_lt (by omega)
  rw [h2, h3]
  omega
