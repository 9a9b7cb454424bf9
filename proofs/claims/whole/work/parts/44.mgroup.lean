/-! things as they lie in the reference's rows -/
def mF (y w s p : Nat → Int) : (d : Nat) → Int → Fo d → Nat → Prop
  | 0, _, _, _ => True
  | d + 1, q, F, i => List.foldr (fun (x : Da × Fo d) (P : Nat → Prop) (i : Nat) => (y i = x.1.1 ∧ w i = x.1.2.1 ∧ s i = x.1.2.2 ∧ p i = q) ∧ mF y w s p d i x.2 (i + 1) ∧ P (i + 1 + fsz d x.2)) (fun _ => True) F i
section
variable {y w s p y' w' s' p' : Nat → Int} {d i : Nat} {q : Int}
theorem mF_nil : mF y w s p (d + 1) q ([] : List (Nd d)) i = True := rfl
theorem mF_cons {x : Nd d} {F : List (Nd d)} : mF y w s p (d + 1) q (x :: F : List (Nd d)) i = ((y i = x.1.1 ∧ w i = x.1.2.1 ∧ s i = x.1.2.2 ∧ p i = q) ∧ mF y w s p d i x.2 (i + 1) ∧ mF y w s p (d + 1) q (F : List (Nd d)) (i + 1 + fsz d x.2)) := rfl
theorem mF_0 : mF y w s p d q (fo0 d) i := by cases d <;> trivial
theorem mF_congr : ∀ (d : Nat) (q : Int) (F : Fo d) (i : Nat), mF y w s p d q F i → (∀ j, i ≤ j → j < i + fsz d F → y' j = y j ∧ w' j = w j ∧ s' j = s j ∧ p' j = p j) → mF y' w' s' p' d q F i := by
  intro d
  induction d with
  | zero => intro q F i h h1; trivial
  | succ d ih =>
    intro q F
    induction (F : List (Nd d)) with
    | nil => intro i h h1; trivial
    | cons x F ihF =>
      intro i h h1
      rw [mF_cons] at h
      rw [mF_cons]
      rw [fsz_cons] at h1
      obtain ⟨⟨u1, u2, u3, u4⟩, v1, v2⟩ := h
      obtain ⟨w1, w2, w3, w4⟩ := h1 i (by omega) (by omega)
      exact ⟨⟨w1.trans u1, w2.trans u2, w3.trans u3, w4.trans u4⟩, ih _ _ _ v1 (fun j q1 q2 => h1 j (by omega) (by omega)), ihF _ v2 (fun j q1 q2 => h1 j (by omega) (by omega))⟩
end
abbrev AR (a j : Nat) : Prop := (86 ≤ a ∧ a ≤ 97) ∨ (a = 76 ∧ (j = 18 ∨ j = 23 ∨ j = 27 ∨ j = 33 ∨ j = 34 ∨ j = 35))
/-- what reading a chunk at the depth k, in the group q, leaves -/
def KP (k q : Int) (J J' : mJ) : Prop := frm AR J J' ∧ (∀ j : Nat, (j : Int) < k → J' 93 j = J 93 j ∧ J' 94 j = J 94 j ∧ J' 95 j = J 95 j ∧ J' 96 j = J 96 j ∧ J' 97 j = J 97 j) ∧ J 76 18 ≤ J' 76 18 ∧ J' 76 23 = J 76 23 ∧ J' 76 35 = J 76 35 ∧ (∀ j : Nat, (j : Int) < J 76 18 → J' 86 j = J 86 j ∧ ((j : Int) ≠ q → J' 87 j = J 87 j) ∧ J' 88 j = J 88 j ∧ J' 89 j = J 89 j)
theorem KP_refl {k q : Int} {J : mJ} : KP k q J J := ⟨frm_refl, fun _ _ => ⟨rfl, rfl, rfl, rfl, rfl⟩, by omega, rfl, rfl, fun _ _ => ⟨rfl, fun _ => rfl, rfl, rfl⟩⟩
theorem KP_trans {k q q' : Int} {J J' J'' : mJ} (h : KP k q J J') (h' : KP k q' J' J'') (hq : q' = q ∨ J 76 18 ≤ q') : KP k q J J'' := by
  obtain ⟨u1, u2, u3, u4, u5, u6⟩ := h
  obtain ⟨v1, v2, v3, v4, v5, v6⟩ := h'
  refine ⟨frm_trans u1 v1, fun j hj => ?_, by omega, v4.trans u4, v5.trans u5, fun j hj => ?_⟩
  · obtain ⟨a1, a2, a3, a4, a5⟩ := u2 j hj
    obtain ⟨b1, b2, b3, b4, b5⟩ := v2 j hj
    exact ⟨b1.trans a1, b2.trans a2, b3.trans a3, b4.trans a4, b5.trans a5⟩
  · obtain ⟨a1, a2, a3, a4⟩ := u6 j hj
    obtain ⟨b1, b2, b3, b4⟩ := v6 j (by omega)
    exact ⟨b1.trans a1, fun hh => (b2 (by omega)).trans (a2 hh), b3.trans a3, b4.trans a4⟩
theorem KP_le {k k' q : Int} {J J' : mJ} (h : KP k q J J') (hk : k' ≤ k) : KP k' q J J' := ⟨h.1, fun j hj => h.2.1 j (by omega), h.2.2⟩
theorem MR_frm {f : Int → Int} {J J' : mJ} {R : mm_R} (h : MR f J R) (hf : frm AR J J') : MR f J' R := by
  obtain ⟨u1, u2, u3, u4⟩ := h
  have e1 : J' 76 1 = J 76 1 := hf 76 1 (by unfold AR; omega)
  have e2 : ∀ i, J' 77 i = J 77 i := fun i => hf 77 i (by unfold AR; omega)
  refine ⟨u1, by rw [e1]; exact u2, fun i hi => by rw [e2]; exact u3 i hi, ?_⟩
  rw [← u4]
  funext p
  unfold mA
  rw [e1, e2]
def WL (o : Nat → Int) : Int → Fl → Prop
  | _, [] => True
  | m, q :: r => q = (9, 2 + m, o m.toNat) ∧ WL o (m - 1) r
theorem WL_app {o : Nat → Int} : ∀ (ws : Fl) (m k : Int), WL o m ws → k = m - ws.length → WL o m (ws ++ [(9, 2 + k, o k.toNat)]) := by
  intro ws
  induction ws with
  | nil => intro m k h hk; have : k = m := by simp at hk; exact hk
           subst this; exact ⟨rfl, trivial⟩
  | cons q r ih =>
    intro m k h hk
    rw [List.length_cons] at hk
    exact ⟨h.1, ih (m - 1) k h.2 (by omega)⟩
/-- a fault as the reference keeps it while groups are open, from the depth k on -/
def EM (k : Int) (J : mJ) (e : Fl) : Prop := ∃ ws, e = (J 76 33, 2 + J 76 27, J 76 34) :: ws ∧ (ws.length : Int) = J 76 27 - k ∧ WL (J 94) (J 76 27 - 1) ws ∧ J 76 27 ≤ 3
noncomputable def LH (L d : Nat) (x : Int) (K : mJ) (R : mm_R) (w : Int) (J : mJ) : Option mm_O := EE (d + 4) 160 31 [some (.ref 76), some (vi x), some (vi w)] [] (SH L) J K R
section
variable {L d : Nat} {f : Int → Int} {J K : mJ} {R : mm_R} {x n w ty st : Int}
theorem wr_KP {k q p : Int} : KP k q J (wr J w p) := by
  refine ⟨frm_up (frm_up frm_refl (by unfold AR; omega)) (by unfold AR; omega), fun j hj => ?_, ?_, ?_, ?_, fun j hj => ?_⟩ <;> simp [wr, mm_up]
theorem wr_EM {k p : Int} {e : Fl} (hk : J 76 27 ≤ 3) (he : (e.length : Int) = J 76 27 - k) (hw : WL (J 94) (J 76 27 - 1) e) : EM k (wr J w p) ((w, 2 + J 76 27, p) :: e) := by
  refine ⟨e, ?_, ?_, ?_, ?_⟩
  · simp [wr, mm_up]
  · simp [wr, mm_up, he]
  · have e1 : wr J w p 94 = J 94 := by funext j; simp [wr, mm_up]
    have e2 : wr J w p 76 27 = J 76 27 := by simp [wr, mm_up]
    rw [e1, e2]; exact hw
  · simp [wr, mm_up, hk]
theorem addN_KP (hk : 0 ≤ J 76 27) (ht : 0 ≤ J 76 18) (hq : 0 < J 76 27 → 0 ≤ J 93 (J 76 27 - 1).toNat ∧ J 93 (J 76 27 - 1).toNat < J 76 18) :
    KP (J 76 27) (parN J) J (addN J ty w st) ∧ addN J ty w st 76 27 = J 76 27 ∧ addN J ty w st 76 18 = J 76 18 + 1 ∧ (addN J ty w st 86 (J 76 18).toNat = ty ∧ addN J ty w st 87 (J 76 18).toNat = w ∧ addN J ty w st 88 (J 76 18).toNat = st ∧ addN J ty w st 89 (J 76 18).toNat = parN J) ∧ (0 < J 76 27 → addN J ty w st 87 (parN J).toNat = J 87 (parN J).toNat + 1) := by
  by_cases c : J 76 27 = 0
  · have ep : parN J = -1 := if_pos c
    have e : addN J ty w st = mm_up (addB J ty w st) 76 18 (J 76 18 + 1) := by unfold addN; rw [if_pos c]
    rw [e]
    unfold addB
    refine ⟨⟨?_, ?_, ?_, ?_, ?_, ?_⟩, ?_, ?_, ?_, ?_⟩
    · exact frm_up (frm_up (frm_up (frm_up (frm_up frm_refl (by unfold AR; omega)) (by unfold AR; omega)) (by unfold AR; omega)) (by unfold AR; omega)) (by unfold AR; omega)
    · intro j hj; simp [mm_up]
    · simp [mm_up]; omega
    · simp [mm_up]
    · simp [mm_up]
    · intro j hj
      have : j ≠ (J 76 18).toNat := by omega
      simp [mm_up, this]
    · simp [mm_up]
    · simp [mm_up]
    · simp [mm_up]
    · intro h; omega
  · have hq' := hq (by omega)
    have ep : parN J = J 93 (J 76 27 - 1).toNat := if_neg c
    have e : addN J ty w st = mm_up (mm_up (addB J ty w st) 87 (parN J).toNat (J 87 (parN J).toNat + 1)) 76 18 (J 76 18 + 1) := by unfold addN; rw [if_neg c]
    rw [e]
    unfold addB
    rw [← ep] at hq'
    have hne : (J 76 18).toNat ≠ (parN J).toNat := by omega
    refine ⟨⟨?_, ?_, ?_, ?_, ?_, ?_⟩, ?_, ?_, ?_, ?_⟩
    · exact frm_up (frm_up (frm_up (frm_up (frm_up (frm_up frm_refl (by unfold AR; omega)) (by unfold AR; omega)) (by unfold AR; omega)) (by unfold AR; omega)) (by unfold AR; omega)) (by unfold AR; omega)
    · intro j hj; simp [mm_up]
    · simp [mm_up]; omega
    · simp [mm_up]
    · simp [mm_up]
    · intro j hj
      have : j ≠ (J 76 18).toNat := by omega
      refine ⟨?_, ?_, ?_, ?_⟩
      · simp [mm_up, this]
      · intro hh
        have h2 : j ≠ (parN J).toNat := by omega
        simp [mm_up, this, h2]
      · simp [mm_up, this]
      · simp [mm_up, this]
    · simp [mm_up]
    · simp [mm_up]
    · simp [mm_up, hne]
    · intro _; simp [mm_up]
theorem opn_KP {a b : Int} (hk : 0 ≤ J 76 27) : (frm AR J (opn J a b) ∧ KP (J 76 27) (-1) J (opn J a b)) ∧ opn J a b 76 27 = J 76 27 + 1 ∧ opn J a b 76 18 = J 76 18 ∧ (opn J a b 93 (J 76 27).toNat = J 76 18 - 1 ∧ opn J a b 94 (J 76 27).toNat = a ∧ opn J a b 95 (J 76 27).toNat = b ∧ opn J a b 96 (J 76 27).toNat = a ∧ opn J a b 97 (J 76 27).toNat = 0) ∧ (∀ j, opn J a b 86 j = J 86 j ∧ opn J a b 87 j = J 87 j ∧ opn J a b 88 j = J 88 j ∧ opn J a b 89 j = J 89 j) := by
  unfold opn
  have hf : frm AR J (mm_up (mm_up (mm_up (mm_up (mm_up (mm_up J 93 (J 76 27).toNat (J 76 18 - 1)) 94 (J 76 27).toNat a) 95 (J 76 27).toNat b) 96 (J 76 27).toNat a) 97 (J 76 27).toNat 0) 76 27 (J 76 27 + 1)) :=
    frm_up (frm_up (frm_up (frm_up (frm_up (frm_up frm_refl (by unfold AR; omega)) (by unfold AR; omega)) (by unfold AR; omega)) (by unfold AR; omega)) (by unfold AR; omega)) (by unfold AR; omega)
  refine ⟨⟨hf, hf, ?_, ?_, ?_, ?_, ?_⟩, ?_, ?_, ?_, ?_⟩
  · intro j hj
    have : j ≠ (J 76 27).toNat := by omega
    simp [mm_up, this]
  · simp [mm_up]
  · simp [mm_up]
  · simp [mm_up]
  · intro j hj; simp [mm_up]
  · simp [mm_up]
  · simp [mm_up]
  · simp [mm_up]
  · intro j; simp [mm_up]
theorem LH_step {v : Int} {J1 : mJ} (hk : 0 < J 76 27 ∧ J 76 27 ≤ 4) (h : EE (d + 3) 159 0 [some (.ref 76), none, none] [] (SH L) J K R = ok (some (vi v)) (SH L) J1 K R) : LH L d x K R 0 J = LH L d x K R v J1 := by
  have s76 : (SH L)[76]? = some (11, 58) := rfl
  have go : ∀ X, LH L d x K R v J1 = X → LH L d x K R 0 J = X := by
    intro X hX
    unfold LH at hX ⊢
    simp (disch := first | assumption | omega | exact bi_lo | exact bi_hi | exact bi_01 | exact jcmp_lo | exact jcmp_hi | exact (jor_r _ _).1 | exact (jor_r _ _).2 | exact (jand_r _ _).1 | exact (jand_r _ _).2) only [x160_31, x160_32, x160_35, x160_36, x160_39, kb_some, kb_none, clr_vi, clr_ref, clr_null, clr_none, va_rf_some, va_rf_none, ↓bi_ite_t, ↓bi_ite_f, ↓jc_lt_t, ↓jc_lt_f, ↓jc_gt_t, ↓jc_gt_f, ↓jc_le_t, ↓jc_le_f, ↓jc_ge_t, ↓jc_ge_f, ↓jc_eq_t, ↓jc_eq_f, ↓if_pos, ↓if_neg]
    simp (disch := first | assumption | omega | exact bi_lo | exact bi_hi | exact bi_01 | exact jcmp_lo | exact jcmp_hi | exact (jor_r _ _).1 | exact (jor_r _ _).2 | exact (jand_r _ _).1 | exact (jand_r _ _).2) only [x160_42, x160_43, x160_46, x160_47, kb_some, kb_none, clr_vi, clr_ref, clr_null, clr_none, va_rf_some, va_rf_none, h]
    exact hX
  exact go _ rfl
theorem LH_ok (hk : J 76 27 = 0) : LH L d x K R 0 J = ok (some (vi 0)) (SH L) J K R := by
  have s76 : (SH L)[76]? = some (11, 58) := rfl
  unfold LH
  simp (disch := first | assumption | omega | exact bi_lo | exact bi_hi | exact bi_01 | exact jcmp_lo | exact jcmp_hi | exact (jor_r _ _).1 | exact (jor_r _ _).2 | exact (jand_r _ _).1 | exact (jand_r _ _).2) only [x160_31, x160_32, x160_35, x160_36, x160_39, x160_50, x160_51, kb_some, kb_none, clr_vi, clr_ref, clr_null, clr_none, va_rf_some, va_rf_none, ↓bi_ite_t, ↓bi_ite_f, ↓jc_lt_t, ↓jc_lt_f, ↓jc_gt_t, ↓jc_gt_f, ↓jc_le_t, ↓jc_le_f, ↓jc_ge_t, ↓jc_ge_f, ↓jc_eq_t, ↓jc_eq_f, ↓if_pos, ↓if_neg]
theorem LH_err : LH L d x K R 1 J = ok (some (vi 1)) (SH L) J K R := by
  unfold LH
  simp (disch := first | assumption | omega | exact bi_lo | exact bi_hi | exact bi_01 | exact jcmp_lo | exact jcmp_hi | exact (jor_r _ _).1 | exact (jor_r _ _).2 | exact (jand_r _ _).1 | exact (jand_r _ _).2) only [x160_31, x160_32, x160_50, x160_51, kb_some, kb_none, clr_vi, clr_ref, clr_null, clr_none, va_rf_some, va_rf_none, ↓bi_ite_t, ↓bi_ite_f, ↓jc_lt_t, ↓jc_lt_f, ↓jc_gt_t, ↓jc_gt_f, ↓jc_le_t, ↓jc_le_f, ↓jc_ge_t, ↓jc_ge_f, ↓jc_eq_t, ↓jc_eq_f, ↓if_pos, ↓if_neg]
/-- what is said of chunks of D levels -/
def CL (L d : Nat) (x : Int) (K : mJ) (R : mm_R) (f : Int → Int) (D : Nat) : Prop := ∀ (J : mJ) (tp lp pl : Int), MR f J R → 2 < J 76 1 → J 76 27 = 3 - D → (0 ≤ J 76 18 ∧ 3 * J 76 18 + f lp + 3 ≤ 180) → (0 < J 76 27 → 0 ≤ J 93 (J 76 27 - 1).toNat ∧ J 93 (J 76 27 - 1).toNat < J 76 18) → (0 ≤ tp ∧ tp < J 76 1) → (0 ≤ lp ∧ lp < J 76 1) → 0 ≤ pl → pl + f lp < J 76 1 →
  ∃ v J1, (∀ d', EE (d' + 2) 158 0 [some (.ref 76), some (vi tp), some (vi lp), some (vi pl), none, none] [] (SH L) J K R = ok (some (vi v)) (SH L) J1 K R) ∧ (v = 0 ∨ v = 1) ∧ match chk f (f 2) D tp lp pl with
    | .error e => ∃ J2, LH L d x K R v J1 = LH L d x K R 1 J2 ∧ KP (J 76 27) (parN J) J J2 ∧ EM (J 76 27) J2 e
    | .ok a => ∃ J2, LH L d x K R v J1 = LH L d x K R 0 J2 ∧ KP (J 76 27) (parN J) J J2 ∧ J2 76 27 = J 76 27 ∧ J2 76 18 = J 76 18 + (1 + fsz D a.2 : Nat) ∧ mF (J2 86) (J2 87) (J2 88) (J2 89) (D + 1) (parN J) ([a] : List (Nd D)) (J 76 18).toNat ∧ (0 < J 76 27 → J2 87 (parN J).toNat = J 87 (parN J).toNat + 1)
theorem l_mgroup {D : Nat} (hD : D ≤ 2) (hch : CL L d x K R f D) {k en pl gi : Int} (hk : k = 2 - (D : Int)) : ∀ (m : Nat) (p : Int) (J : mJ), MR f J R → 2 < J 76 1 → J 76 27 = k + 1 → (0 ≤ gi ∧ gi < J 76 18) → J 93 k.toNat = gi → J 94 k.toNat = pl → J 95 k.toNat = en → J 96 k.toNat = p → J 97 k.toNat = 6 - (m : Int) → m ≤ 6 → (0 ≤ p ∧ p ≤ en ∧ en < J 76 1) → 3 * J 76 18 + (en - p) ≤ 180 →
    match grp f (chk f (f 2) D) (2 + k) en pl m p with
    | .error e => ∃ J2, LH L d x K R 0 J = LH L d x K R 1 J2 ∧ KP k gi J J2 ∧ EM k J2 e
    | .ok l => ∃ J2, LH L d x K R 0 J = LH L d x K R 0 J2 ∧ KP k gi J J2 ∧ J2 76 27 = k ∧ J2 76 18 = J 76 18 + (fsz (D + 1) l : Nat) ∧ mF (J2 86) (J2 87) (J2 88) (J2 89) (D + 1) gi l (J 76 18).toNat ∧ J2 87 gi.toNat = J 87 gi.toNat + (l.length : Nat) := by
  have ek : ∀ J : mJ, J 76 27 = k + 1 → (J 76 27 - 1).toNat = k.toNat := fun J h => by omega
  have base : ∀ (J : mJ), MR f J R → J 76 27 = k + 1 → J 95 k.toNat = en → J 96 k.toNat = en → (0 ≤ en ∧ en < J 76 1) → (m : Int) → 0 ≤ m → m ≤ 6 → J 97 k.toNat = m →
      ∃ J2, LH L d x K R 0 J = LH L d x K R 0 J2 ∧ KP k gi J J2 ∧ J2 76 27 = k ∧ J2 76 18 = J 76 18 + (fsz (D + 1) ([] : List (Nd D)) : Nat) ∧ mF (J2 86) (J2 87) (J2 88) (J2 89) (D + 1) gi ([] : List (Nd D)) (J 76 18).toNat ∧ J2 87 gi.toNat = J 87 gi.toNat + (([] : List (Nd D)).length : Nat) := by
    intro J h h27 h95 h96 hen m hm0 hm6 h97
    have hn := m_next (L := L) (d := d + 2) (K := K) h (by omega) (at_ := en) (en := en) (m := m) (by rw [ek J h27]; exact h96) (by rw [ek J h27]; exact h95) (by rw [ek J h27]; exact h97) (by omega) (by omega)
    rw [if_pos rfl] at hn
    refine ⟨_, LH_step (by omega) hn, ⟨frm_up frm_refl (by unfold AR; omega), ?_, ?_, ?_, ?_, ?_⟩, ?_, ?_, trivial, ?_⟩
    · intro j hj; simp [mm_up]
    · simp [mm_up]
    · simp [mm_up]
    · simp [mm_up]
    · intro j hj; simp [mm_up]
    · rw [up_s]; omega
    · simp [mm_up, fsz_nil]
    · simp [mm_up]
  intro m
  induction m with
  | zero =>
    intro p J h h2 h27 hgi h93 h94 h95 h96 h97 hm hp hs
    unfold grp
    by_cases c1 : p < en
    · rw [if_pos c1]
      have hn := m_next (L := L) (d := d + 2) (K := K) h (by omega) (at_ := p) (en := en) (m := 6) (by rw [ek J h27]; exact h96) (by rw [ek J h27]; exact h95) (by rw [ek J h27]; exact h97) (by omega) (by omega)
      rw [if_neg (by omega), if_pos rfl] at hn
      refine ⟨_, LH_step (by omega) hn, wr_KP, ?_⟩
      have := wr_EM (J := J) (w := 7) (p := p) (k := k) (e := [(9, 2 + k, pl)]) (by omega) (by simp; omega) ⟨by rw [show J 76 27 - 1 = k by omega, h94], trivial⟩
      rw [show 2 + k + 1 = 2 + J 76 27 by omega]
      exact this
    · rw [if_neg c1]
      have : p = en := by omega
      subst this
      exact base J h h27 h95 h96 (by omega) 6 (by omega) (by omega) h97
  | succ m ih =>
    intro p J h h2 h27 hgi h93 h94 h95 h96 h97 hm hp hs
    unfold grp
    by_cases c1 : p < en
    · rw [if_pos c1]
      have hn := m_next (L := L) (d := d + 2) (K := K) h (by omega) (at_ := p) (en := en) (m := 6 - ((m + 1 : Nat) : Int)) (by rw [ek J h27]; exact h96) (by rw [ek J h27]; exact h95) (by rw [ek J h27]; exact h97) (by omega) (by omega)
      rw [if_neg (by omega), if_neg (by omega)] at hn
      by_cases c2 : en < p + 3 + f (p + 1)
      · rw [if_pos c2] at hn ⊢
        refine ⟨_, LH_step (by omega) hn, wr_KP, ?_⟩
        have := wr_EM (J := J) (w := 3) (p := en) (k := k) (e := [(9, 2 + k, pl)]) (by omega) (by simp; omega) ⟨by rw [show J 76 27 - 1 = k by omega, h94], trivial⟩
        rw [show 2 + k + 1 = 2 + J 76 27 by omega]
        exact this
      · rw [if_neg c2] at hn ⊢
        obtain ⟨-, f1⟩ := MR_at h (p := p + 1) (by omega) (by omega)
        rw [ek J h27] at hn
        generalize hJ' : mm_up (mm_up J 97 k.toNat (6 - ((m + 1 : Nat) : Int) + 1)) 96 k.toNat (p + 3 + f (p + 1)) = J' at hn
        have hfr : frm AR J J' := by rw [← hJ']; exact frm_up (frm_up frm_refl (by unfold AR; omega)) (by unfold AR; omega)
        have hkp : KP k gi J J' := by
          rw [← hJ']
          refine ⟨frm_up (frm_up frm_refl (by unfold AR; omega)) (by unfold AR; omega), ?_, ?_, ?_, ?_, ?_⟩
          · intro j hj
            have : j ≠ k.toNat := by omega
            simp [mm_up, this]
          · simp [mm_up]
          · simp [mm_up]
          · simp [mm_up]
          · intro j hj; simp [mm_up]
        have j1 : J' 76 1 = J 76 1 := by rw [← hJ']; simp [mm_up]
        have j27 : J' 76 27 = J 76 27 := by rw [← hJ']; simp [mm_up]
        have j18 : J' 76 18 = J 76 18 := by rw [← hJ']; simp [mm_up]
        have j93 : J' 93 k.toNat = gi := by rw [← hJ']; simp [mm_up, h93]
        have j94 : J' 94 k.toNat = pl := by rw [← hJ']; simp [mm_up, h94]
        have j95 : J' 95 k.toNat = en := by rw [← hJ']; simp [mm_up, h95]
        have j96 : J' 96 k.toNat = p + 3 + f (p + 1) := by rw [← hJ']; simp [mm_up]
        have j97 : J' 97 k.toNat = 6 - (m : Int) := by rw [← hJ']; simp [mm_up]; omega
        have j87 : J' 87 gi.toNat = J 87 gi.toNat := by rw [← hJ']; simp [mm_up]
        have hpar : parN J' = gi := by unfold parN; rw [if_neg (by omega), ek J' (by omega), j93]
        have hMR' := MR_frm h hfr
        obtain ⟨v, J1, q1, q2, q3⟩ := hch J' p (p + 1) (p + 2) hMR' (by omega) (by omega) (by omega) (by rw [ek J' (by omega), j93]; intro _; omega) (by omega) (by omega) (by omega) (by omega)
        rw [q1 d] at hn
        have hst : LH L d x K R 0 J = LH L d x K R v J1 := by
          refine LH_step (by omega) (hn.trans ?_)
          simp (disch := first | assumption | omega | exact bi_lo | exact bi_hi | exact bi_01 | exact jcmp_lo | exact jcmp_hi | exact (jor_r _ _).1 | exact (jor_r _ _).2 | exact (jand_r _ _).1 | exact (jand_r _ _).2) only [x159_139, kb_some, kb_none, clr_vi, clr_ref, clr_null, clr_none, va_rf_some, va_rf_none]
        rw [hst]
        rw [hpar, show J' 76 27 = k + 1 by omega, j18] at q3
        have hsz : ∀ a, chk f (f 2) D p (p + 1) (p + 2) = .ok a → 3 * (1 + fsz D a.2 : Nat) ≤ f (p + 1) + 3 := fun a ha => (chk_sz (m := J 76 1) (fun q => (MR_f h).1) (fun q q1 q2 => (MR_at h q1 q2).2.1) D p (p + 1) (p + 2) a (by omega) (by omega) (by omega) ha).1
        generalize chk f (f 2) D p (p + 1) (p + 2) = res at q3 hsz ⊢
        cases res with
        | error e =>
          obtain ⟨J2, r1, r2, ws, r3, r4, r5, r6⟩ := q3
          refine ⟨J2, r1, KP_trans hkp (KP_le r2 (by omega)) (Or.inl rfl), ws ++ [(9, 2 + k, pl)], by rw [r3]; rfl, by simp; omega, ?_, r6⟩
          have e94 : J2 94 k.toNat = pl := by rw [(r2.2.1 k.toNat (by omega)).2.1, j94]
          have := WL_app ws (J2 76 27 - 1) k r5 (by omega)
          rw [e94] at this
          exact this
        | ok a =>
          obtain ⟨J2, r1, r2, r3, r4, r5, r6⟩ := q3
          have hsz' := hsz a rfl
          have hM2 := MR_frm hMR' r2.1
          obtain ⟨o1, o2, o3, o4, o5⟩ := r2.2.1 k.toNat (by omega)
          have e1 : J2 76 1 = J 76 1 := by rw [r2.1 76 1 (by unfold AR; omega), j1]
          have ih' := ih (p + 3 + f (p + 1)) J2 hM2 (by omega) (by omega) (by omega) (by rw [o1, j93]) (by rw [o2, j94]) (by rw [o3, j95]) (by rw [o4, j96]) (by rw [o5, j97]) (by omega) (by omega) (by omega)
          simp only at ih' ⊢
          generalize grp f (chk f (f 2) D) (2 + k) en pl m (p + 3 + f (p + 1)) = r2' at ih' ⊢
          have hkp2 : KP k gi J J2 := KP_trans hkp (KP_le r2 (by omega)) (Or.inl rfl)
          cases r2' with
          | error e =>
            obtain ⟨J3, s1, s2, s3⟩ := ih'
            exact ⟨J3, r1.trans s1, KP_trans hkp2 s2 (Or.inl rfl), s3⟩
          | ok l =>
            obtain ⟨J3, s1, s2, s3, s4, s5, s6⟩ := ih'
            refine ⟨J3, r1.trans s1, KP_trans hkp2 s2 (Or.inl rfl), s3, ?_, ?_, ?_⟩
            · show J3 76 18 = J 76 18 + (fsz (D + 1) (a :: l : List (Nd D)) : Nat)
              rw [fsz_cons, s4, r4]; omega
            · show mF (J3 86) (J3 87) (J3 88) (J3 89) (D + 1) gi (a :: l : List (Nd D)) (J 76 18).toNat
              rw [mF_cons] at r5 ⊢
              rw [show (J 76 18).toNat + 1 + fsz D a.2 = (J2 76 18).toNat by omega]
              have hc : ∀ j : Nat, (J 76 18).toNat ≤ j → (j : Int) < J2 76 18 → J3 86 j = J2 86 j ∧ J3 87 j = J2 87 j ∧ J3 88 j = J2 88 j ∧ J3 89 j = J2 89 j := fun j q1 q2 => by
                obtain ⟨t1, t2, t3, t4⟩ := s2.2.2.2.2.2 j q2
                exact ⟨t1, t2 (by omega), t3, t4⟩
              obtain ⟨t1, t2, t3, t4⟩ := hc (J 76 18).toNat (by omega) (by omega)
              refine ⟨⟨t1.trans r5.1.1, t2.trans r5.1.2.1, t3.trans r5.1.2.2.1, t4.trans r5.1.2.2.2⟩, ?_, s5⟩
              exact mF_congr _ _ _ _ r5.2.1 (fun j q1 q2 => hc j (by omega) (by omega))
            · rw [s6, r6 (by omega), j87, List.length_cons]; omega
    · rw [if_neg c1]
      have : p = en := by omega
      subst this
      exact base J h h27 h95 h96 (by omega) _ (by omega) (by omega) h97
end
