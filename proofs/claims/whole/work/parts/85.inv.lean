/-! what holds between two calls: the class and the reference side by side -/
def IF (J : mJ) : Prop := J 4 1 = J 76 1 ∧ (0 ≤ J 76 1 ∧ J 76 1 ≤ 120) ∧ ∀ i : Nat, i < 120 → (0 ≤ J 5 i ∧ J 5 i ≤ 255) ∧ (0 ≤ J 77 i ∧ J 77 i ≤ 255) ∧ ((i : Int) < J 76 1 → J 5 i = J 77 i)
def IT (J : mJ) : Prop := J 27 1 = J 76 43 ∧ (0 ≤ J 76 43 ∧ J 76 43 ≤ 100) ∧ ∀ i : Nat, i < 100 → (0 ≤ J 28 i ∧ J 28 i ≤ 127) ∧ (0 ≤ J 103 i ∧ J 103 i ≤ 127) ∧ ((i : Int) < J 76 43 → J 28 i = J 103 i)
/-- rows of two numbers -/
def IW (J : mJ) (r c1 c2 s m1 m2 : Nat) (n h1 h2 : Int) : Prop := J r 2 = J 76 s ∧ (0 ≤ J 76 s ∧ J 76 s ≤ n) ∧ ∀ i : Nat, (i : Int) < J 76 s → (J c1 i = J m1 i ∧ 0 ≤ J m1 i ∧ J m1 i ≤ h1) ∧ (J c2 i = J m2 i ∧ 0 ≤ J m2 i ∧ J m2 i ≤ h2)
/-- the image -/
def IG (J : mJ) : Prop := (J 1 0 = 110 ∧ J 1 1 = 115 ∧ J 1 2 = 114 ∧ J 1 3 = 103) ∧ J 2 2 = J 76 14 ∧ ((J 76 14 = 0 ∧ J 16 1 = 0 ∧ J 18 2 = 0 ∧ J 21 2 = 0 ∧ J 24 2 = 0) ∨ (J 76 14 = 1 ∧ (J 16 1 = J 85 0 ∧ J 18 2 = J 85 1 ∧ J 21 2 = J 85 2 ∧ J 24 2 = J 85 3) ∧ (0 ≤ J 85 0 ∧ J 85 0 ≤ 120) ∧ (0 ≤ J 85 1 ∧ J 85 1 ≤ 5) ∧ (0 ≤ J 85 2 ∧ J 85 2 ≤ 10) ∧ (0 ≤ J 85 3 ∧ J 85 3 ≤ 8) ∧ (∀ i : Nat, (i : Int) < J 85 0 → J 17 i = J 85 (4 + i)) ∧ (∀ i : Nat, i < 120 → 0 ≤ J 85 (4 + i) ∧ J 85 (4 + i) ≤ 255) ∧
  (∀ i : Nat, (i : Int) < J 85 1 → (J 19 i = J 85 (124 + 2 * i) ∧ 0 ≤ J 19 i ∧ J 19 i ≤ 119) ∧ (J 20 i = J 85 (125 + 2 * i) ∧ 0 ≤ J 20 i ∧ J 20 i ≤ 255)) ∧
  (∀ i : Nat, (i : Int) < J 85 2 → (J 22 i = J 85 (134 + 2 * i) ∧ 0 ≤ J 22 i ∧ J 22 i ≤ 2) ∧ (J 23 i = J 85 (135 + 2 * i) ∧ 0 ≤ J 23 i ∧ J 23 i ≤ 119)) ∧
  (∀ i : Nat, (i : Int) < J 85 3 → (J 25 i = J 85 (154 + 2 * i) ∧ 0 ≤ J 25 i ∧ J 25 i ≤ 119) ∧ (J 26 i = J 85 (155 + 2 * i) ∧ 0 ≤ J 26 i ∧ J 26 i ≤ 255))))
/-- the ranges of what stands aside -/
def IX (J : mJ) : Prop := RS J ∧ (0 ≤ J 47 6 ∧ J 47 6 ≤ 40) ∧ (0 ≤ J 53 1 ∧ J 53 1 ≤ 120) ∧ (0 ≤ J 58 1 ∧ J 58 1 ≤ 240) ∧ (0 ≤ J 61 1 ∧ J 61 1 ≤ 600) ∧ (0 ≤ J 29 1 ∧ J 29 1 ≤ 120) ∧ ∀ i : Nat, i < 120 → 0 ≤ J 30 i ∧ J 30 i ≤ 255
/-- a tape -/
def IK (J K : mJ) : Prop := ∀ t : Nat, t < 6 → ((J (64 + 2 * t) 1 = -1 ∧ J 109 t = 0 ∧ J (64 + 2 * t) 2 = 0 ∧ J 106 t = 0) ∨ ((0 ≤ J (64 + 2 * t) 1 ∧ J (64 + 2 * t) 1 ≤ 4) ∧ J 109 t = 1 ∧ J 105 t = J (64 + 2 * t) 1 ∧ J (64 + 2 * t) 2 = J 106 t ∧ (0 ≤ J 106 t ∧ J 106 t ≤ 60))) ∧ ∀ k : Nat, (k : Int) < J 106 t → K (65 + 2 * t) k = K 107 (60 * t + k) ∧ -9223372036854775808 ≤ K 107 (60 * t + k) ∧ K 107 (60 * t + k) ≤ 9223372036854775807
def INV (J K : mJ) (R : mm_R) : Prop := wfR R ∧ IF J ∧ IT J ∧ (IW J 6 7 8 2 78 79 5 119 255 ∧ IW J 9 10 11 5 80 81 10 2 119 ∧ IW J 12 13 14 8 82 83 8 119 255) ∧ IG J ∧ IX J ∧ IK J K
/-- a call of both: one answer, and all holds again -/
def OP (L d mc mm : Nat) (lc lm : mm_ls) (J K : mJ) (R : mm_R) : Prop := ∃ v J1 K1 R1 J2 K2 R2, EE (d + 20) mc 0 (some (.ref 2) :: lc) [] (SH L) J K R = ok (some v) (SH L) J1 K1 R1 ∧ EE (d + 20) mm 0 (some (.ref 76) :: lm) [] (SH L) J1 K1 R1 = ok (some v) (SH L) J2 K2 R2 ∧ INV J2 K2 R2
section
variable {J J' K K' : mJ} {R : mm_R}
theorem IF_o (h : IF J) (h1 : J' 4 1 = J 4 1) (h2 : J' 5 = J 5) (h3 : J' 76 1 = J 76 1) (h4 : J' 77 = J 77) : IF J' := by
  unfold IF; rw [h1, h2, h3, h4]; exact h
theorem IT_o (h : IT J) (h1 : J' 27 1 = J 27 1) (h2 : J' 28 = J 28) (h3 : J' 76 43 = J 76 43) (h4 : J' 103 = J 103) : IT J' := by
  unfold IT; rw [h1, h2, h3, h4]; exact h
theorem IW_o {r c1 c2 s m1 m2 : Nat} {n x1 x2 : Int} (h : IW J r c1 c2 s m1 m2 n x1 x2) (h1 : J' r 2 = J r 2) (h2 : J' c1 = J c1) (h3 : J' c2 = J c2) (h4 : J' 76 s = J 76 s) (h5 : J' m1 = J m1) (h6 : J' m2 = J m2) : IW J' r c1 c2 s m1 m2 n x1 x2 := by
  unfold IW; rw [h1, h2, h3, h4, h5, h6]; exact h
/-- the cells that the rest of it speaks of, but for one of its parts -/
theorem IG_o (h : IG J) (h0 : J' 1 = J 1 ∧ J' 2 2 = J 2 2) (h1 : J' 76 14 = J 76 14) (h2 : J' 85 = J 85) (h3 : ∀ a, 15 ≤ a → a ≤ 26 → J' a = J a) : IG J' := by
  unfold IG
  rw [h0.1, h0.2, h1, h2, h3 16 (by decide) (by decide), h3 17 (by decide) (by decide), h3 18 (by decide) (by decide), h3 19 (by decide) (by decide), h3 20 (by decide) (by decide), h3 21 (by decide) (by decide), h3 22 (by decide) (by decide), h3 23 (by decide) (by decide), h3 24 (by decide) (by decide), h3 25 (by decide) (by decide), h3 26 (by decide) (by decide)]
  exact h
theorem IX_o (h : IX J) (h1 : ∀ a, 29 ≤ a → a ≤ 62 → J' a = J a) : IX J' := by
  unfold IX RS
  rw [h1 32 (by decide) (by decide), h1 36 (by decide) (by decide), h1 42 (by decide) (by decide), h1 47 (by decide) (by decide), h1 53 (by decide) (by decide), h1 58 (by decide) (by decide), h1 61 (by decide) (by decide), h1 29 (by decide) (by decide), h1 30 (by decide) (by decide)]
  exact h
theorem IK_o (h : IK J K) (h1 : ∀ a, 64 ≤ a → a ≤ 75 → J' a = J a) (h2 : J' 105 = J 105) (h3 : J' 106 = J 106) (h4 : J' 109 = J 109) : IK J' K := by
  intro t ht
  rw [h1 (64 + 2 * t) (by omega) (by omega), h2, h3, h4]
  exact h t ht
/-- two cells of what isn't spoken of -/
theorem INV_11 (h : INV J K R) {z : Int} : INV (mm_up J 76 11 z) K R := by
  obtain ⟨h1, h2, h3, ⟨h4, h5, h6⟩, h7, h8, h9⟩ := h
  have k : ∀ j, j ≠ 11 → mm_up J 76 11 z 76 j = J 76 j := fun j hj => by unfold mm_up; rw [if_neg (by omega)]
  have kk : ∀ a, a ≠ 76 → mm_up J 76 11 z a = J a := fun a ha => up_ne ha
  refine ⟨h1, IF_o h2 (by rw [kk 4 (by decide)]) (kk _ (by decide)) (k _ (by decide)) (kk _ (by decide)), IT_o h3 (by rw [kk 27 (by decide)]) (kk _ (by decide)) (k _ (by decide)) (kk _ (by decide)), ⟨IW_o h4 (by rw [kk 6 (by decide)]) (kk _ (by decide)) (kk _ (by decide)) (k _ (by decide)) (kk _ (by decide)) (kk _ (by decide)), IW_o h5 (by rw [kk 9 (by decide)]) (kk _ (by decide)) (kk _ (by decide)) (k _ (by decide)) (kk _ (by decide)) (kk _ (by decide)), IW_o h6 (by rw [kk 12 (by decide)]) (kk _ (by decide)) (kk _ (by decide)) (k _ (by decide)) (kk _ (by decide)) (kk _ (by decide))⟩, IG_o h7 ⟨kk 1 (by decide), by rw [kk 2 (by decide)]⟩ (k _ (by decide)) (kk _ (by decide)) (fun a p q => kk _ (by omega)), IX_o h8 (fun a p q => kk _ (by omega)), IK_o h9 (fun a p q => kk _ (by omega)) (kk _ (by decide)) (kk _ (by decide)) (kk _ (by decide))⟩
/-- the file alone is changed -/
theorem INV_F (h : INV J K R) (hF : IF J') (h1 : ∀ a, a ≠ 4 → a ≠ 5 → a ≠ 77 → a ≠ 76 → J' a = J a) (h2 : ∀ j, j ≠ 1 → j ≠ 11 → J' 76 j = J 76 j) : INV J' K R := by
  obtain ⟨g1, g2, g3, ⟨g4, g5, g6⟩, g7, g8, g9⟩ := h
  have kk := fun a (ha : a ≠ 4 ∧ a ≠ 5 ∧ a ≠ 77 ∧ a ≠ 76) => h1 a ha.1 ha.2.1 ha.2.2.1 ha.2.2.2
  have k := fun j (hj : j ≠ 1 ∧ j ≠ 11) => h2 j hj.1 hj.2
  refine ⟨g1, hF, IT_o g3 (by rw [kk 27 (by decide)]) (kk _ (by decide)) (k _ (by decide)) (kk _ (by decide)), ⟨IW_o g4 (by rw [kk 6 (by decide)]) (kk _ (by decide)) (kk _ (by decide)) (k _ (by decide)) (kk _ (by decide)) (kk _ (by decide)), IW_o g5 (by rw [kk 9 (by decide)]) (kk _ (by decide)) (kk _ (by decide)) (k _ (by decide)) (kk _ (by decide)) (kk _ (by decide)), IW_o g6 (by rw [kk 12 (by decide)]) (kk _ (by decide)) (kk _ (by decide)) (k _ (by decide)) (kk _ (by decide)) (kk _ (by decide))⟩, IG_o g7 ⟨kk 1 (by decide), by rw [kk 2 (by decide)]⟩ (k _ (by decide)) (kk _ (by decide)) (fun a p q => kk _ (by omega)), IX_o g8 (fun a p q => kk _ (by omega)), IK_o g9 (fun a p q => kk _ (by omega)) (kk _ (by decide)) (kk _ (by decide)) (kk _ (by decide))⟩
/-- the text alone -/
theorem INV_T (h : INV J K R) (hT : IT J') (h1 : ∀ a, a ≠ 27 → a ≠ 28 → a ≠ 103 → a ≠ 76 → J' a = J a) (h2 : ∀ j, j ≠ 43 → j ≠ 11 → J' 76 j = J 76 j) : INV J' K R := by
  obtain ⟨g1, g2, g3, ⟨g4, g5, g6⟩, g7, g8, g9⟩ := h
  have kk := fun a (ha : a ≠ 27 ∧ a ≠ 28 ∧ a ≠ 103 ∧ a ≠ 76) => h1 a ha.1 ha.2.1 ha.2.2.1 ha.2.2.2
  have k := fun j (hj : j ≠ 43 ∧ j ≠ 11) => h2 j hj.1 hj.2
  refine ⟨g1, IF_o g2 (by rw [kk 4 (by decide)]) (kk _ (by decide)) (k _ (by decide)) (kk _ (by decide)), hT, ⟨IW_o g4 (by rw [kk 6 (by decide)]) (kk _ (by decide)) (kk _ (by decide)) (k _ (by decide)) (kk _ (by decide)) (kk _ (by decide)), IW_o g5 (by rw [kk 9 (by decide)]) (kk _ (by decide)) (kk _ (by decide)) (k _ (by decide)) (kk _ (by decide)) (kk _ (by decide)), IW_o g6 (by rw [kk 12 (by decide)]) (kk _ (by decide)) (kk _ (by decide)) (k _ (by decide)) (kk _ (by decide)) (kk _ (by decide))⟩, IG_o g7 ⟨kk 1 (by decide), by rw [kk 2 (by decide)]⟩ (k _ (by decide)) (kk _ (by decide)) (fun a p q => kk _ (by omega)), IX_o g8 (fun a p q => kk _ (by omega)), IK_o g9 (fun a p q => kk _ (by omega)) (kk _ (by decide)) (kk _ (by decide)) (kk _ (by decide))⟩
end
