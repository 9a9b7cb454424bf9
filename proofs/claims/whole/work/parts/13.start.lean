set_option maxRecDepth 100000
/-! the law's start, of the run of the small machine -/
def mm_I0 (xs : Nat → Int32) : mm_I := fun a j => if a = 0 then xs j else if a = 1 then mm_tf j else 0
def mm_L0 : mm_L := fun _ _ => 0
def mm_R0 : mm_R := fun _ _ => none
def mm_S0 (L : Nat) : mm_S := [(20, L), (20, 4)]
theorem mm_ok0 (L : Nat) (xs : Nat → Int32) : mm_ok L xs (mm_S0 L) (mm_I0 xs) := by
  refine ⟨rfl, rfl, fun j => rfl, fun j _ => rfl, fun k q hk => ?_⟩
  match k, hk with
  | 0, hk => obtain rfl := Option.some.inj hk; exact Or.inr ⟨Nat.le_of_ble_eq_true rfl, Nat.le_of_ble_eq_true rfl⟩
  | 1, hk => obtain rfl := Option.some.inj hk; exact Or.inr ⟨Nat.le_of_ble_eq_true rfl, Nat.le_of_ble_eq_true rfl⟩
  | k + 2, hk => simp [mm_S0] at hk
/-- that the whole law runs to its end with 1: over the small machine -/
def mm_lawRuns (L : Nat) (xs : Nat → Int32) : Prop := ∃ (S' : mm_S) (I' : mm_I) (L' : mm_L) (R' : mm_R), E 600 mm_law 0 (mm_entry mm_law [.ref 0]) [] (mm_S0 L) (mm_I0 xs) mm_L0 mm_R0 = some (some (.int 1), S', I', L', R') ∧ S'.length ≤ 600000 ∧ mm_sl S' ≤ 7302250
