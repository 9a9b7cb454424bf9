/-! the things as they lie in the rows of the class -/
/-- one thing at i -/
def cN (g : Int → Int) (q : Int) (y w l s o c : Nat → Int) (lv : Int) (a : Da) (n i : Nat) : Prop :=
  y i = a.1 ∧ w i = a.2.1 ∧ l i = lv ∧ s i = 1 + n ∧ (a.1 = 115 ∨ a.1 = 114 → 0 ≤ o i ∧ 0 ≤ a.2.1 ∧ o i + a.2.1 ≤ q ∧ ∀ k : Nat, (k : Int) < a.2.1 → c ((o i).toNat + k) = g (a.2.2 + k))
def cF (g : Int → Int) (q : Int) (y w l s o c : Nat → Int) : (d : Nat) → Int → Fo d → Nat → Prop
  | 0, _, _, _ => True
  | d + 1, lv, F, i => List.foldr (fun (x : Da × Fo d) (P : Nat → Prop) (i : Nat) => cN g q y w l s o c lv x.1 (fsz d x.2) i ∧ cF g q y w l s o c d (lv + 1) x.2 (i + 1) ∧ P (i + 1 + fsz d x.2)) (fun _ => True) F i
section
variable {g : Int → Int} {q q' lv : Int} {y w l s o c y' w' l' s' o' c' : Nat → Int} {d i : Nat}
theorem cF_nil : cF g q y w l s o c (d + 1) lv ([] : List (Nd d)) i = True := rfl
theorem cF_cons {x : Nd d} {F : List (Nd d)} : cF g q y w l s o c (d + 1) lv (x :: F : List (Nd d)) i = (cN g q y w l s o c lv x.1 (fsz d x.2) i ∧ cF g q y w l s o c d (lv + 1) x.2 (i + 1) ∧ cF g q y w l s o c (d + 1) lv (F : List (Nd d)) (i + 1 + fsz d x.2)) := rfl
theorem cF_0 : cF g q y w l s o c d lv (fo0 d) i := by cases d <;> trivial
theorem cN_congr {a : Da} {n : Nat} (h : cN g q y w l s o c lv a n i) (hq : q ≤ q') (h1 : y' i = y i ∧ w' i = w i ∧ l' i = l i ∧ s' i = s i ∧ o' i = o i) (hc : ∀ j : Nat, (j : Int) < q → c' j = c j) : cN g q' y' w' l' s' o' c' lv a n i := by
  obtain ⟨e1, e2, e3, e4, e5⟩ := h
  obtain ⟨f1, f2, f3, f4, f5⟩ := h1
  refine ⟨f1.trans e1, f2.trans e2, f3.trans e3, f4.trans e4, ?_⟩
  intro hh
  obtain ⟨u1, u2, u3, u4⟩ := e5 hh
  rw [f5]
  refine ⟨u1, u2, by omega, fun k hk => ?_⟩
  rw [hc _ (by omega)]
  exact u4 k hk
theorem cF_congr (hq : q ≤ q') (hc : ∀ j : Nat, (j : Int) < q → c' j = c j) : ∀ (d : Nat) (lv : Int) (F : Fo d) (i : Nat), cF g q y w l s o c d lv F i → (∀ j, i ≤ j → j < i + fsz d F → y' j = y j ∧ w' j = w j ∧ l' j = l j ∧ s' j = s j ∧ o' j = o j) → cF g q' y' w' l' s' o' c' d lv F i := by
  intro d
  induction d with
  | zero => intro lv F i h h1; trivial
  | succ d ih =>
    intro lv F
    induction (F : List (Nd d)) with
    | nil => intro i h h1; trivial
    | cons x F ihF =>
      intro i h h1
      rw [cF_cons] at h
      rw [cF_cons]
      rw [fsz_cons] at h1
      obtain ⟨u1, u2, u3⟩ := h
      refine ⟨cN_congr u1 hq (h1 i (by omega) (by omega)) hc, ih _ _ _ u2 (fun j q1 q2 => h1 j (by omega) (by omega)), ihF _ u3 (fun j q1 q2 => h1 j (by omega) (by omega))⟩
end
/-- what the reader stands on while it reads the bytes f of e, c -/
def RD (L e c : Nat) (f : Int → Int) (v : Int) (J : mJ) (R : mm_R) : Prop :=
  wfR R ∧ R 31 2 = some e ∧ isB (SH L) R e c 120 ∧ (e < 31 ∧ c < 31) ∧ (0 ≤ J e 1 ∧ J e 1 ≤ 120) ∧ (∀ i, i < 120 → 0 ≤ J c i ∧ J c i ≤ 255) ∧ bA J e c = f ∧ J 31 3 = v ∧ (0 ≤ J 36 6 ∧ J 36 6 ≤ 40) ∧ (0 ≤ J 42 1 ∧ J 42 1 ≤ 120)
abbrev A32 (a : Nat) : Prop := 32 ≤ a ∧ a ≤ 43
theorem isF_32 {L : Nat} {R : mm_R} (h : wfR R) : isF (SH L) R 32 33 34 35 :=
  ⟨rfl, rr_lk h rfl, rr_lk h rfl, rr_lk h rfl, rfl, rfl, rfl, by decide, by decide, by decide, by decide, by decide, by decide⟩
theorem isT_36 {L : Nat} {R : mm_R} (h : wfR R) : isT (SH L) R 36 37 38 39 40 41 42 43 :=
  ⟨rfl, ⟨rr_lk h rfl, rr_lk h rfl, rr_lk h rfl, rr_lk h rfl, rr_lk h rfl, rr_lk h rfl⟩, ⟨rfl, rfl, rfl, rfl, rfl⟩, ⟨rfl, rr_lk h rfl, rfl, by decide, by decide, by decide⟩, by decide, by decide, by decide, by decide⟩
theorem RD_fr {L e c : Nat} {f : Int → Int} {v : Int} {J J' : mJ} {R : mm_R} (h : RD L e c f v J R) (hf : fr A32 J J') (h1 : 0 ≤ J' 36 6 ∧ J' 36 6 ≤ 40) (h2 : 0 ≤ J' 42 1 ∧ J' 42 1 ≤ 120) : RD L e c f v J' R := by
  obtain ⟨u1, u2, u3, u4, u5, u6, u7, u8, u9, u10⟩ := h
  have e1 : J' e = J e := hf e (by unfold A32; omega)
  have e2 : J' c = J c := hf c (by unfold A32; omega)
  have e3 : J' 31 = J 31 := hf 31 (by unfold A32; omega)
  refine ⟨u1, u2, u3, u4, by rw [e1]; exact u5, by rw [e2]; exact u6, ?_, by rw [e3]; exact u8, h1, h2⟩
  rw [← u7]; unfold bA; rw [e1, e2]
theorem RD_f {L e c : Nat} {f : Int → Int} {v : Int} {J : mJ} {R : mm_R} (h : RD L e c f v J R) (p : Int) : -1 ≤ f p ∧ f p ≤ 255 := by
  obtain ⟨u1, u2, u3, u4, u5, u6, u7, u8, u9, u10⟩ := h
  rw [← u7]; unfold bA
  split
  · have := u6 p.toNat (by omega); omega
  · omega
theorem RD_at {L e c d : Nat} {f : Int → Int} {v : Int} {J K : mJ} {R : mm_R} (h : RD L e c f v J R) (p : Int) (hp : -2147483648 ≤ p ∧ p ≤ 2147483647) : EE d 3 0 [some (.ref e), some (vi p)] [] (SH L) J K R = ok (some (vi (f p))) (SH L) J K R := by
  obtain ⟨u1, u2, u3, u4, u5, u6, u7, u8, u9, u10⟩ := h
  rw [← u7]
  exact c_at u3 hp u5
/-- a fault is raised -/
def hF (x y z : Nat → Int) : Nat → Fl → Prop
  | _, [] => True
  | m, q :: e => (x m = q.1 ∧ y m = q.2.1 ∧ z m = q.2.2) ∧ hF x y z (m + 1) e
