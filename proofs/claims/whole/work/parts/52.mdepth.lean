theorem mF_UP {g : Int → Int} {ty w s p : Nat → Int} {r : Nat} : ∀ (d q : Nat) (F : Fo d) (i b : Nat), wF g d F → mF ty w s p d q F i → ty q = 103 → UPr ty p r b q → r < i → i + fsz d F ≤ 60 → ∀ j, i ≤ j → j < i + fsz d F → ∃ b', b' ≤ b + d ∧ UPr ty p r b' j := by
  intro d
  induction d with
  | zero => intro q F i b hw h hq hU hr hi j h1 h2; have : fsz 0 F = 0 := rfl; omega
  | succ d ih =>
    intro q F
    induction (F : List (Nd d)) with
    | nil => intro i b hw h hq hU hr hi j h1 h2; rw [fsz_nil] at h2; omega
    | cons x F ihF =>
      intro i b hw h hq hU hr hi j h1 h2
      rw [mF_cons] at h
      rw [wF_cons] at hw
      rw [fsz_cons] at h2 hi
      obtain ⟨u1, u2, u3⟩ := h
      have hUi : UPr ty p r (b + 1) i := ⟨by omega, by omega, q, u1.2.2.2, hq, hU⟩
      by_cases c1 : j = i
      · subst c1; exact ⟨b + 1, by omega, hUi⟩
      · by_cases c2 : j < i + 1 + fsz d x.2
        · by_cases c3 : x.1.1 = 103
          · obtain ⟨b', b1, b2⟩ := ih i x.2 (i + 1) (b + 1) hw.1.2.2.2 u2 (by rw [u1.1]; exact c3) hUi (by omega) (by omega) j (by omega) (by omega)
            exact ⟨b', by omega, b2⟩
          · rw [hw.1.2.2.1 c3, fsz_0] at c2; omega
        · exact ihF _ _ hw.2 u3 hq hU (by omega) (by omega) j (by omega) (by omega)
theorem MF_UN {g : Int → Int} {J : mJ} {F : List (Nd 3)} {k : Int} {r : Nat} {x : Nd 3} (h : MF J F) (hw : wF g 4 F) (h60 : fsz 4 F ≤ 60) (hn : nthT F 0 k = some (r, x)) (hwx : wF g 4 ([x] : List (Nd 3))) :
    UN (J 86) (J 89) (fsz 4 F) r (1 + fsz 3 x.2) ∧ r + (1 + fsz 3 x.2) ≤ fsz 4 F ∧ mF (J 86) (J 87) (J 88) (J 89) 4 (-1) ([x] : List (Nd 3)) r := by
  obtain ⟨⟨a1, a2, a3⟩, a4⟩ := mF_out F 0 k r x h.1 hn
  have a3' := a3
  rw [mF_cons] at a3
  rw [wF_cons] at hwx
  obtain ⟨u1, u2, -⟩ := a3
  refine ⟨⟨h60, by omega, by omega, fun j j1 j2 => ?_, fun j j1 j2 => ?_⟩, by omega, a3'⟩
  · by_cases c1 : j = r
    · exact ⟨0, by omega, c1, by omega⟩
    · by_cases c3 : x.1.1 = 103
      · obtain ⟨b', b1, b2⟩ := mF_UP 3 r x.2 (r + 1) 0 hwx.1.2.2.2 u2 (by rw [u1.1]; exact c3) ⟨rfl, by omega⟩ (by omega) (by omega) j (by omega) (by omega)
        exact ⟨b', by omega, b2⟩
      · rw [hwx.1.2.2.1 c3, fsz_0] at j2; omega
  · rcases a4 j (by omega) (by omega) j2 with h | h
    · exact Or.inl h
    · refine Or.inr ⟨(J 89 j).toNat, by omega, by omega, by omega⟩
theorem nthT_wf {g : Int → Int} : ∀ (F : List (Nd 3)) (i : Nat) (k : Int) (r : Nat) (x : Nd 3), wF g 4 F → nthT F i k = some (r, x) → wF g 4 ([x] : List (Nd 3)) := by
  intro F
  induction F with
  | nil => intro i k r x hw h; cases h
  | cons z F ih =>
    intro i k r x hw h
    rw [show nthT (z :: F) i k = if k = 0 then some (i, z) else nthT F (i + 1 + fsz 3 z.2) (k - 1) from rfl] at h
    rw [wF_cons] at hw
    by_cases c : k = 0
    · rw [if_pos c] at h
      cases h
      exact ⟨hw.1, trivial⟩
    · rw [if_neg c] at h
      exact ih _ _ _ _ hw.2 h
theorem nthT_C {g : Int → Int} {q : Int} {y w l s o c : Nat → Int} : ∀ (F : List (Nd 3)) (i : Nat) (k : Int) (r : Nat) (x : Nd 3), cF g q y w l s o c 4 0 F i → nthT F i k = some (r, x) → cF g q y w l s o c 4 0 ([x] : List (Nd 3)) r ∧ r + (1 + fsz 3 x.2) ≤ i + fsz 4 F := by
  intro F
  induction F with
  | nil => intro i k r x hw h; cases h
  | cons z F ih =>
    intro i k r x hw h
    rw [show nthT (z :: F) i k = if k = 0 then some (i, z) else nthT F (i + 1 + fsz 3 z.2) (k - 1) from rfl] at h
    rw [cF_cons] at hw
    rw [fsz_c4]
    by_cases c : k = 0
    · rw [if_pos c] at h
      cases h
      exact ⟨⟨hw.1, hw.2.1, trivial⟩, by omega⟩
    · rw [if_neg c] at h
      have := ih _ _ _ _ hw.2.2 h
      exact ⟨this.1, by omega⟩
section
variable {L d : Nat} {J K : mJ} {R : mm_R} {g : Int → Int}
theorem m_depthOf (hR : wfR R) {n r : Nat} {x : Nd 3} (h : UN (J 86) (J 89) n r (1 + fsz 3 x.2)) (hn : J 76 18 = n) (hty : ∀ j : Nat, j < 60 → 0 ≤ J 86 j ∧ J 86 j ≤ 255) (hw : wF g 4 ([x] : List (Nd 3))) (hm : mF (J 86) (J 87) (J 88) (J 89) 4 (-1) ([x] : List (Nd 3)) r) :
    EE (d + 1) 201 0 [some (.ref 76), some (vi r), none, none, none] [] (SH L) J K R = ok (some (vi (dpT x))) (SH L) J K R := by
  have s76 : (SH L)[76]? = some (11, 58) := rfl
  have hm' := hm
  rw [mF_cons] at hm'
  obtain ⟨l1, e1⟩ := l_dskip (L := L) (d := d) (K := K) hR h hn (k := 0) (by omega) r 0 none (by have := h.2.1; omega) (by omega)
  have ez : fsz 4 ([x] : List (Nd 3)) = 1 + fsz 3 x.2 := rfl
  obtain ⟨l2, e2⟩ := l_mdepth (L := L) (d := d) (K := K) (g := g) hR h hn hty 4 (-1) ([x] : List (Nd 3)) r 0 0 l1 hw hm (fun j j1 j2 j3 => by
    by_cases c : j = r
    · exact ⟨c, by have := h.1; have := h.2.1; omega⟩
    · rw [ez] at j3
      rcases mF_chain _ _ _ _ hm'.2.1 j (by omega) (by omega) with q | q <;> omega) (by omega) (by rw [ez]; omega) (by omega) (by omega)
  have hlo := gdA_le 4 ([x] : List (Nd 3)) 0 0
  have hhi := gdA_hi 4 ([x] : List (Nd 3)) 0 0
  have hd : 0 ≤ dpT x ∧ dpT x ≤ 100 := by
    unfold dpT
    refine ⟨hlo, ?_⟩
    unfold mx at hhi
    split at hhi <;> omega
  have e0 : gdA 4 ([x] : List (Nd 3)) ((0 : Nat) : Int) 0 = dpT x := rfl
  rw [e0, ez] at e2
  obtain ⟨l3, e3⟩ := l_dskip (L := L) (d := d) (K := K) hR h hn (k := dpT x) hd (n - (r + (1 + fsz 3 x.2))) (r + (1 + fsz 3 x.2)) l2 (by have := h.2.1; omega) (by omega)
  rw [show r + (1 + fsz 3 x.2) + (n - (r + (1 + fsz 3 x.2))) = n by have := h.2.1; omega] at e3
  have hn60 := h.1
  have go : EE (d + 1) 201 0 [some (.ref 76), some (vi r), none, none, none] [] (SH L) J K R = EE (d + 1) 201 4 [some (.ref 76), some (vi r), some (vi 0), some (vi (0 : Nat)), none] [] (SH L) J K R := by
    simp (disch := first | assumption | omega | exact bi_lo | exact bi_hi | exact bi_01 | exact jcmp_lo | exact jcmp_hi | exact (jor_r _ _).1 | exact (jor_r _ _).2 | exact (jand_r _ _).1 | exact (jand_r _ _).2) only [x201_0, x201_1, x201_2, x201_3, kb_some, kb_none, clr_vi, clr_ref, clr_null, clr_none, va_rf_some, va_rf_none]
    rfl
  rw [Nat.zero_add] at e1
  rw [go, e1, e2, e3]
  simp (disch := first | assumption | omega | exact bi_lo | exact bi_hi | exact bi_01 | exact jcmp_lo | exact jcmp_hi | exact (jor_r _ _).1 | exact (jor_r _ _).2 | exact (jand_r _ _).1 | exact (jand_r _ _).2) only [x201_4, x201_5, x201_6, x201_9, x201_52, x201_53, kb_some, kb_none, clr_vi, clr_ref, clr_null, clr_none, va_rf_some, va_rf_none, ↓bi_ite_t, ↓bi_ite_f, ↓jc_lt_t, ↓jc_lt_f, ↓jc_gt_t, ↓jc_gt_f, ↓jc_le_t, ↓jc_le_f, ↓jc_ge_t, ↓jc_ge_f, ↓jc_eq_t, ↓jc_eq_f, ↓if_pos, ↓if_neg]
end
