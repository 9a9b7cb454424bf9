/-! what is read out of a file: things, nested; d levels of them -/
abbrev Da := Int × Int × Int
def Fo : Nat → Type
  | 0 => Unit
  | d + 1 => List (Da × Fo d)
abbrev Nd (d : Nat) := Da × Fo d
def fo0 : (d : Nat) → Fo d
  | 0 => ()
  | _ + 1 => ([] : List (Da × Fo _))
def fsz : (d : Nat) → Fo d → Nat
  | 0, _ => 0
  | d + 1, l => List.foldr (fun (x : Da × Fo d) n => 1 + fsz d x.2 + n) 0 l
/-- the bytes that the rows among them hold -/
def fby : (d : Nat) → Fo d → Nat
  | 0, _ => 0
  | d + 1, l => List.foldr (fun (x : Da × Fo d) n => (if x.1.1 = 115 ∨ x.1.1 = 114 then x.1.2.1.toNat else 0) + fby d x.2 + n) 0 l
theorem fsz_nil {d : Nat} : fsz (d + 1) ([] : List (Nd d)) = 0 := rfl
theorem fsz_cons {d : Nat} {x : Nd d} {l : List (Nd d)} : fsz (d + 1) (x :: l : List (Nd d)) = 1 + fsz d x.2 + fsz (d + 1) l := rfl
theorem fsz_0 {d : Nat} : fsz d (fo0 d) = 0 := by cases d <;> rfl
theorem fby_nil {d : Nat} : fby (d + 1) ([] : List (Nd d)) = 0 := rfl
theorem fby_cons {d : Nat} {x : Nd d} {l : List (Nd d)} : fby (d + 1) (x :: l : List (Nd d)) = (if x.1.1 = 115 ∨ x.1.1 = 114 then x.1.2.1.toNat else 0) + fby d x.2 + fby (d + 1) l := rfl
theorem fby_0 {d : Nat} : fby d (fo0 d) = 0 := by cases d <;> rfl
abbrev Fl := List (Int × Int × Int)
/-- a NUMBER's worth -/
def numF (f : Int → Int) : Nat → Int → Int → Int
  | 0, _, w => w
  | i + 1, p, w => numF f i (p + 1) (jor (jshl w 8) (f p))
def num (f : Int → Int) (n : Nat) (p : Int) : Int := numF f n p (if 127 < f p then -1 else 0)
/-- the first place of n from p that holds no sign of words, or -1 -/
def badW (f : Int → Int) : Nat → Int → Int
  | 0, _ => -1
  | i + 1, p => if f p < 32 ∨ 126 < f p then p else badW f i (p + 1)
/-- the things of a group: at most so many more, from place p, to its end en -/
def grp {d : Nat} (f : Int → Int) (ch : Int → Int → Int → Except Fl (Nd d)) (layer en pl : Int) : Nat → Int → Except Fl (List (Nd d))
  | 0, p => if p < en then .error [(7, layer + 1, p), (9, layer, pl)] else .ok []
  | k + 1, p =>
    if p < en then
      if en < p + 3 + f (p + 1) then .error [(3, layer + 1, en), (9, layer, pl)]
      else match ch p (p + 1) (p + 2) with
        | .error e => .error (e ++ [(9, layer, pl)])
        | .ok x => match grp f ch layer en pl k (p + 3 + f (p + 1)) with
          | .error e => .error e
          | .ok l => .ok (x :: l)
    else .ok []
/-- a chunk: what is wrong in it (the deepest first), or the thing -/
def chk (f : Int → Int) (v : Int) : (d : Nat) → Int → Int → Int → Except Fl (Nd d)
  | d, tp, lp, pl =>
    let layer : Int := 5 - d
    if ckf v f (f lp).toNat pl 0 ≠ f (pl + f lp) then .error [(4, layer, pl + f lp)]
    else if f tp = 110 then (if 1 ≤ f lp ∧ f lp ≤ 4 then .ok ((110, num f (f lp).toNat pl, pl), fo0 d) else .error [(7, layer, lp)])
    else if f tp = 115 ∨ f tp = 114 then
      if 20 < f lp then .error [(7, layer, lp)]
      else if f tp = 115 ∧ badW f (f lp).toNat pl ≠ -1 then .error [(7, layer, badW f (f lp).toNat pl)]
      else .ok ((f tp, f lp, pl), fo0 d)
    else if f tp = 103 then
      match d with
      | 0 => .error [(8, layer, tp)]
      | d' + 1 => match grp f (chk f v d') layer (pl + f lp) pl 6 pl with
        | .error e => .error e
        | .ok l => .ok ((103, (l.length : Int), pl), l)
    else .error [(6, layer, tp)]
theorem grp_len {d : Nat} {f : Int → Int} {ch : Int → Int → Int → Except Fl (Nd d)} {layer en pl : Int} {c : Nat} (hc : ∀ p, ∀ e, ch p (p + 1) (p + 2) = .error e → 1 ≤ e.length ∧ e.length ≤ c) (h1 : 1 ≤ c) : ∀ (k : Nat) (p : Int) (e : Fl), grp f ch layer en pl k p = .error e → 1 ≤ e.length ∧ e.length ≤ c + 1 := by
  intro k
  induction k with
  | zero =>
    intro p e h
    unfold grp at h
    split at h
    · cases h; simp; omega
    · cases h
  | succ k ih =>
    intro p e h
    unfold grp at h
    split at h
    · split at h
      · cases h; simp; omega
      · split at h
        · rename_i e' he
          cases h
          have := hc _ _ he
          simp; omega
        · split at h
          · rename_i e' he
            cases h
            exact ih _ _ he
          · cases h
    · cases h
theorem chk_len {f : Int → Int} {v : Int} : ∀ (d : Nat) (tp lp pl : Int) (e : Fl), chk f v d tp lp pl = .error e → 1 ≤ e.length ∧ e.length ≤ d + 1 := by
  intro d
  induction d with
  | zero =>
    intro tp lp pl e h
    unfold chk at h
    simp only at h
    repeat' split at h
    all_goals first | (cases h; done) | (cases h; simp)
  | succ d ih =>
    intro tp lp pl e h
    unfold chk at h
    simp only at h
    repeat' split at h
    all_goals first | (cases h; done) | (cases h; simp; done) | skip
    · rename_i e' he
      cases h
      exact grp_len (fun p e he => ih p (p + 1) (p + 2) e he) (by omega) _ _ _ he
/-- how much a chunk can hold -/
theorem grp_sz {d : Nat} {f : Int → Int} {ch : Int → Int → Int → Except Fl (Nd d)} {layer en pl : Int} (hf : ∀ p, -1 ≤ f p) (hc : ∀ p x, 0 ≤ p → p + 3 + f (p + 1) ≤ en → ch p (p + 1) (p + 2) = .ok x → 0 ≤ f (p + 1) → 3 * (1 + fsz d x.2 : Nat) ≤ f (p + 1) + 3 ∧ ((if x.1.1 = 115 ∨ x.1.1 = 114 then x.1.2.1.toNat else 0) + fby d x.2 : Nat) ≤ f (p + 1)) (hb : ∀ p, p + 1 ≤ en → 0 ≤ p → 0 ≤ f p) : ∀ (k : Nat) (p : Int) (l : List (Nd d)), 0 ≤ p → p ≤ en → grp f ch layer en pl k p = .ok l → 3 * (fsz (d + 1) l : Int) ≤ en - p ∧ (fby (d + 1) l : Int) ≤ en - p := by
  intro k
  induction k with
  | zero =>
    intro p l h0 hp h
    unfold grp at h
    split at h
    · cases h
    · cases h; rw [fsz_nil, fby_nil]; omega
  | succ k ih =>
    intro p l h0 hp h
    unfold grp at h
    split at h
    · split at h
      · cases h
      · split at h
        · cases h
        · rename_i x hx
          split at h
          · cases h
          · rename_i l' hl
            cases h
            have hf1 := hf (p + 1)
            have hb1 := hb (p + 1) (by omega) (by omega)
            have h2 := ih _ _ (by omega) (by omega) hl
            have h3 := hc _ _ h0 (by omega) hx hb1
            rw [fsz_cons, fby_cons]
            omega
    · cases h; rw [fsz_nil, fby_nil]; omega
theorem chk_sz {f : Int → Int} {v : Int} {m : Int} (hf : ∀ p, -1 ≤ f p) (hb : ∀ p, 0 ≤ p → p < m → 0 ≤ f p) : ∀ (d : Nat) (tp lp pl : Int) (x : Nd d), 0 ≤ pl → 0 ≤ f lp → pl + f lp < m → chk f v d tp lp pl = .ok x → 3 * (1 + fsz d x.2 : Nat) ≤ f lp + 3 ∧ ((if x.1.1 = 115 ∨ x.1.1 = 114 then x.1.2.1.toNat else 0) + fby d x.2 : Nat) ≤ f lp := by
  intro d
  induction d with
  | zero =>
    intro tp lp pl x h0 h1 h2 h
    unfold chk at h
    simp only at h
    repeat' split at h
    all_goals first | (cases h; done) | (cases h; simp only [fsz_0, fby_0]; split <;> omega)
  | succ d ih =>
    intro tp lp pl x h0 h1 h2 h
    unfold chk at h
    simp only at h
    repeat' split at h
    all_goals first | (cases h; done) | (cases h; simp only [fsz_0, fby_0]; split <;> omega) | skip
    · rename_i l hl
      cases h
      have := grp_sz hf (fun p x hp he hx hl => ih p (p + 1) (p + 2) x (by omega) hl (by omega) hx) (fun p h1 h2 => hb p h2 (by omega)) _ _ _ h0 (by omega) hl
      simp only [show ¬ ((103 : Int) = 115 ∨ (103 : Int) = 114) by omega, if_false]
      omega
