/-! the class reads a file whole -/
/-- the first entry from e on (of i) that is not sound -/
def tabE (f : Int → Int) (n E : Int) : Nat → Int → Option Int
  | 0, _ => none
  | i + 1, e => if sound f n E (-1) e = true then tabE f n E i (e + 1) else some e
def entsS (f : Int → Int) (v : Int) : Nat → Int → Except Fl (List (Nd 3))
  | 0, _ => .ok []
  | i + 1, e => match chk f v 3 (4 + 3 * e) (4 + 3 * e + 2) (f (4 + 3 * e + 1)) with
    | .error q => .error (q ++ [(9, 1, 4 + 3 * e), (9, 0, 0)])
    | .ok x => match entsS f v i (e + 1) with
      | .error q => .error q
      | .ok l => .ok (x :: l)
def wh (f : Int → Int) (n : Int) : Except Fl (List (Nd 3)) :=
  match headF f n with
  | some q => .error [(q.1, 0, q.2)]
  | none => match tabE f n (f 3) (f 3).toNat 0 with
    | some e => .error [(5, 1, 4 + 3 * e + 1), (9, 0, 0)]
    | none => entsS f (f 2) (f 3).toNat 0
theorem fsz_c4 {x : Nd 3} {l : List (Nd 3)} : fsz 4 (x :: l : List (Nd 3)) = 1 + fsz 3 x.2 + fsz 4 l := rfl
theorem fby_c4 {x : Nd 3} {l : List (Nd 3)} : fby 4 (x :: l : List (Nd 3)) = byN x.1 + fby 3 x.2 + fby 4 l := rfl
theorem headF_none {f : Int → Int} {n : Int} (h : headF f n = none) : 3 < n ∧ 1 ≤ f 2 ∧ f 2 ≤ 3 ∧ f 3 ≤ 6 ∧ 3 + 3 * f 3 < n ∧ f 0 = 67 ∧ f 1 = 70 := by
  unfold headF at h
  repeat' split at h
  all_goals first | (cases h; done) | (refine ⟨?_, ?_, ?_, ?_, ?_, ?_, ?_⟩ <;> omega)
theorem tabE_none {f : Int → Int} {n E : Int} : ∀ (i : Nat) (e : Int), tabE f n E i e = none → ∀ o, e ≤ o → o < e + i → sound f n E (-1) o = true := by
  intro i
  induction i with
  | zero => intro e h o h1 h2; omega
  | succ i ih =>
    intro e h o h1 h2
    unfold tabE at h
    split at h
    · by_cases c : o = e
      · subst c; assumption
      · exact ih (e + 1) h o (by omega) (by omega)
    · cases h
theorem sound_1 {f : Int → Int} {n E m x : Int} (h : sound f n E m x = true) : 4 + 3 * E ≤ f (4 + 3 * x + 1) ∧ f (4 + 3 * x + 1) + f (4 + 3 * x + 2) + 1 ≤ n := by
  unfold sound at h
  simp only [Bool.and_eq_true, decide_eq_true_eq] at h
  exact h.1
/-- what the class's reader may be called on -/
def RB (L e c : Nat) (f : Int → Int) (J : mJ) (R : mm_R) : Prop := wfR R ∧ isB (SH L) R e c 120 ∧ (e < 31 ∧ c < 31) ∧ (0 ≤ J e 1 ∧ J e 1 ≤ 120) ∧ (∀ i, i < 120 → 0 ≤ J c i ∧ J c i ≤ 255) ∧ bA J e c = f
def RS (J : mJ) : Prop := (0 ≤ J 32 3 ∧ J 32 3 ≤ 6) ∧ (0 ≤ J 36 6 ∧ J 36 6 ≤ 40) ∧ (0 ≤ J 42 1 ∧ J 42 1 ≤ 120)
/-- the forest F lies in the reader's rows -/
def CF (f : Int → Int) (J : mJ) (F : Fo 4) : Prop := cF f (J 42 1) (J 37) (J 38) (J 39) (J 40) (J 41) (J 43) 4 0 F 0 ∧ J 36 6 = (fsz 4 F : Nat) ∧ J 42 1 = (fby 4 F : Nat)
def bg (J : mJ) : mJ := if 0 < J 42 1 then mm_up (mm_up (mm_up J 32 3 0) 36 6 0) 42 1 0 else mm_up (mm_up J 32 3 0) 36 6 0
theorem bg_fr {J : mJ} : fr A32 J (bg J) := by
  unfold bg
  split
  · exact fr_up (fr_up (fr_up fr_refl (by decide)) (by decide)) (by decide)
  · exact fr_up (fr_up fr_refl (by decide)) (by decide)
theorem bg_0 {J : mJ} (h : 0 ≤ J 42 1) : bg J 32 3 = 0 ∧ bg J 36 6 = 0 ∧ bg J 42 1 = 0 := by
  unfold bg
  split
  · simp [mm_up]
  · simp [mm_up]; omega
section
variable {L d e c : Nat} {f : Int → Int} {ver x : Int} {J K : mJ} {R : mm_R}
theorem rd_begin (hR : wfR R) (h : 0 ≤ J 42 1 ∧ J 42 1 ≤ 120) : EE (d + 2) 19 0 [some (.ref 31), some (.ref e)] [] (SH L) J K R = ok none (SH L) (bg J) K (mm_up R 31 2 (some e)) := by
  have hR' : wfR (mm_up R 31 2 (some e)) := wfR_up hR rfl
  have hb := f_becomeEmpty (d := d + 1) (J := J) (K := K) (isF_32 (L := L) hR')
  have ht := t_becomeEmpty (d := d) (J := mm_up J 32 3 0) (K := K) (isT_36 (L := L) hR') (by rw [up_ne (by decide)]; exact h)
  rw [up_ne (show (42 : Nat) ≠ 32 by decide)] at ht
  have s31 : (SH L)[31]? = some (2, 5) := rfl
  have s32 : (SH L)[32]? = some (1, 4) := rfl
  have s36 : (SH L)[36]? = some (9, 7) := rfl
  have r0 : mm_up R 31 2 (some e) 31 0 = some 32 := rr_lk hR' rfl
  have r1 : mm_up R 31 2 (some e) 31 1 = some 36 := rr_lk hR' rfl
  simp (disch := first | assumption | omega | exact bi_lo | exact bi_hi | exact bi_01 | exact jcmp_lo | exact jcmp_hi | exact (jor_r _ _).1 | exact (jor_r _ _).2 | exact (jand_r _ _).1 | exact (jand_r _ _).2) only [x19_0, x19_1, x19_1n, x19_2, x19_5, x19_6, x19_9, x19_12, x19_13, x19_16, x19_19, kb_some, kb_none, clr_vi, clr_ref, clr_null, clr_none, va_rf_some, va_rf_none, hb, ht]
  rfl
theorem RB_begin (h : RB L e c f J R) (h42 : 0 ≤ J 42 1 ∧ J 42 1 ≤ 120) : RD L e c f (bg J 31 3) (bg J) (mm_up R 31 2 (some e)) ∧ FH (bg J) [] ∧ bg J e 1 = J e 1 := by
  obtain ⟨u1, u2, u3, u4, u5, u6⟩ := h
  have hf := bg_fr (J := J)
  have e1 : bg J e = J e := hf e (by unfold A32; omega)
  have e2 : bg J c = J c := hf c (by unfold A32; omega)
  obtain ⟨z1, z2, z3⟩ := bg_0 (J := J) h42.1
  refine ⟨⟨wfR_up u1 rfl, up_s, ?_, u3, by rw [e1]; exact u4, by rw [e2]; exact u5, ?_, rfl, by omega, by omega⟩, ⟨by rw [z1]; rfl, trivial⟩, by rw [e1]⟩
  · obtain ⟨v1, v2, v3, v4, v5, v6⟩ := u2
    exact ⟨v1, by rw [up_a (by omega)]; exact v2, v3, v4, v5, v6⟩
  · rw [← u6]; unfold bA; rw [e1, e2]
theorem l_tab (h : RD L e c f ver J R) (hE : 0 ≤ J 31 4 ∧ J 31 4 ≤ 6) {a1 : Nat} : ∀ (i : Nat) (x : Int), (J 31 4 - x).toNat = i → 0 ≤ x → x ≤ J 31 4 →
    match tabE f (J e 1) (J 31 4) i x with
    | none => EE (d + 4) 17 16 [some (.ref 31), some (.ref a1), some (vi x)] [] (SH L) J K R = EE (d + 4) 17 68 [some (.ref 31), some (.ref a1), some (vi (J 31 4))] [] (SH L) J K R
    | some y => 0 ≤ y ∧ y ≤ 6 ∧ EE (d + 4) 17 16 [some (.ref 31), some (.ref a1), some (vi x)] [] (SH L) J K R = EE (d + 4) 17 33 [some (.ref 31), some (.ref a1), some (vi y)] [] (SH L) J K R := by
  have s31 : (SH L)[31]? = some (2, 5) := rfl
  intro i
  induction i with
  | zero =>
    intro x hi h0 h1
    have hx : x = J 31 4 := by omega
    unfold tabE
    simp only
    simp (disch := first | assumption | omega | exact bi_lo | exact bi_hi | exact bi_01 | exact jcmp_lo | exact jcmp_hi | exact (jor_r _ _).1 | exact (jor_r _ _).2 | exact (jand_r _ _).1 | exact (jand_r _ _).2) only [x17_16, x17_17, x17_18, x17_21, kb_some, kb_none, clr_vi, clr_ref, clr_null, clr_none, va_rf_some, va_rf_none, if_pos (show J 31 4 ≤ x by omega)]
    rw [hx]
  | succ i ih =>
    intro x hi h0 h1
    have hs := rd_sound (d := d) (K := K) h (x := x) (m := -1) (by omega) (by omega)
    have ih' := ih (x + 1) (by omega) (by omega) (by omega)
    unfold tabE
    by_cases c1 : sound f (J e 1) (J 31 4) (-1) x = true
    · rw [if_pos c1]
      rw [bi_t c1] at hs
      have go : ∀ X, EE (d + 4) 17 16 [some (.ref 31), some (.ref a1), some (vi (x + 1))] [] (SH L) J K R = X → EE (d + 4) 17 16 [some (.ref 31), some (.ref a1), some (vi x)] [] (SH L) J K R = X := by
        intro X hX
        simp (disch := first | assumption | omega | exact bi_lo | exact bi_hi | exact bi_01 | exact jcmp_lo | exact jcmp_hi | exact (jor_r _ _).1 | exact (jor_r _ _).2 | exact (jand_r _ _).1 | exact (jand_r _ _).2) only [x17_16, x17_17, x17_18, x17_21, kb_some, kb_none, clr_vi, clr_ref, clr_null, clr_none, va_rf_some, va_rf_none, if_neg (show ¬ J 31 4 ≤ x by omega)]
        simp (disch := first | assumption | omega | exact bi_lo | exact bi_hi | exact bi_01 | exact jcmp_lo | exact jcmp_hi | exact (jor_r _ _).1 | exact (jor_r _ _).2 | exact (jand_r _ _).1 | exact (jand_r _ _).2) only [x17_24, x17_25, x17_26, x17_27, x17_30, x17_62, x17_65, kb_some, kb_none, clr_vi, clr_ref, clr_null, clr_none, va_rf_some, va_rf_none, hs, if_neg (show ¬ (1 : Int) = 0 by omega)]
        exact hX
      rw [go _ rfl]; exact ih'
    · rw [if_neg c1]
      rw [bi_f c1] at hs
      refine ⟨h0, by omega, ?_⟩
      simp (disch := first | assumption | omega | exact bi_lo | exact bi_hi | exact bi_01 | exact jcmp_lo | exact jcmp_hi | exact (jor_r _ _).1 | exact (jor_r _ _).2 | exact (jand_r _ _).1 | exact (jand_r _ _).2) only [x17_16, x17_17, x17_18, x17_21, kb_some, kb_none, clr_vi, clr_ref, clr_null, clr_none, va_rf_some, va_rf_none, if_neg (show ¬ J 31 4 ≤ x by omega)]
      simp (disch := first | assumption | omega | exact bi_lo | exact bi_hi | exact bi_01 | exact jcmp_lo | exact jcmp_hi | exact (jor_r _ _).1 | exact (jor_r _ _).2 | exact (jand_r _ _).1 | exact (jand_r _ _).2) only [x17_24, x17_25, x17_26, x17_27, x17_30, kb_some, kb_none, clr_vi, clr_ref, clr_null, clr_none, va_rf_some, va_rf_none, hs, if_true]
theorem l_ents (hv : 1 ≤ ver ∧ ver ≤ 3) {E : Int} (hE : 0 ≤ E ∧ E ≤ 6) {a1 : Nat} : ∀ (i : Nat) (x : Int) (J : mJ), RD L e c f ver J R → J 31 4 = E → (0 ≤ J 32 3 ∧ J 32 3 ≤ 6) → (∀ o, 0 ≤ o → o < E → 4 + 3 * E ≤ f (4 + 3 * o + 1) ∧ f (4 + 3 * o + 1) + f (4 + 3 * o + 2) + 1 ≤ J e 1) → 4 + 3 * E ≤ J e 1 → (E - x).toNat = i → 0 ≤ x → x ≤ E →
    wp (SH L) (EE (d + 10) 17 70 [some (.ref 31), some (.ref a1), some (vi x)] [] (SH L) J K R) fun v J' K' R' => K' = K ∧ R' = R ∧ FRM J J' ∧ match entsS f ver i x with
      | .error q => v = some (vi 0) ∧ (FH J [] → FH J' q)
      | .ok l => v = some (vi 1) ∧ J' 32 3 = J 32 3 ∧ (J 36 6 + (fsz 4 l : Nat) ≤ 40 → J 42 1 + (fby 4 l : Nat) ≤ 120 → cF f (J' 42 1) (J' 37) (J' 38) (J' 39) (J' 40) (J' 41) (J' 43) 4 0 l (J 36 6).toNat ∧ J' 36 6 = J 36 6 + (fsz 4 l : Nat) ∧ J' 42 1 = J 42 1 + (fby 4 l : Nat)) := by
  have s31 : (SH L)[31]? = some (2, 5) := rfl
  have s32 : (SH L)[32]? = some (1, 4) := rfl
  intro i
  induction i with
  | zero =>
    intro x J h hJE h32 hs hn hi h0 h1
    have h36 := h.2.2.2.2.2.2.2.2.1
    have h42 := h.2.2.2.2.2.2.2.2.2
    unfold entsS
    simp (disch := first | assumption | omega | exact bi_lo | exact bi_hi | exact bi_01 | exact jcmp_lo | exact jcmp_hi | exact (jor_r _ _).1 | exact (jor_r _ _).2 | exact (jand_r _ _).1 | exact (jand_r _ _).2) only [x17_70, x17_71, x17_72, x17_75, x17_137, x17_138, kb_some, kb_none, clr_vi, clr_ref, clr_null, clr_none, va_rf_some, va_rf_none, if_pos (show J 31 4 ≤ x by omega)]
    exact wp_ok ⟨rfl, rfl, FRM_refl h36.2 h42.2 h32, rfl, rfl, fun _ _ => ⟨trivial, by simp [fsz_nil], by simp [fby_nil]⟩⟩
  | succ i ih =>
    intro x J h hJE h32 hs hn hi h0 h1
    have hR := h.1
    have r31_0 : R 31 0 = some 32 := rr_lk hR rfl
    have h36 := h.2.2.2.2.2.2.2.2.1
    have h42 := h.2.2.2.2.2.2.2.2.2
    have hse := hs x h0 (by omega)
    have hf0 := RD_f0 h (p := 4 + 3 * x + 2) (by omega) (by omega)
    have ho := fun d => rd_offsetOf (d := d) (K := K) h (x := x) (by omega)
    have hp := fun d J => rd_entryPlace (L := L) (d := d) (J := J) (K := K) (R := R) (x := x)
    have hch := rd_chunk (L := L) (d := d) (e := e) (c := c) (f := f) (K := K) (R := R) hv 3 (by omega) J (4 + 3 * x) (4 + 3 * x + 2) (f (4 + 3 * x + 1)) h h32 (by omega) (by omega) (by omega) hf0 (by omega)
    have e5 : (5 : Int) - ((3 : Nat) : Int) = 2 := by omega
    rw [e5] at hch
    have hlen : ∀ q, chk f ver 3 (4 + 3 * x) (4 + 3 * x + 2) (f (4 + 3 * x + 1)) = .error q → q.length ≤ 4 := fun q he => (chk_len 3 _ _ _ q he).2
    unfold entsS
    simp (disch := first | assumption | omega | exact bi_lo | exact bi_hi | exact bi_01 | exact jcmp_lo | exact jcmp_hi | exact (jor_r _ _).1 | exact (jor_r _ _).2 | exact (jand_r _ _).1 | exact (jand_r _ _).2) only [x17_70, x17_71, x17_72, x17_75, kb_some, kb_none, clr_vi, clr_ref, clr_null, clr_none, va_rf_some, va_rf_none, if_neg (show ¬ J 31 4 ≤ x by omega)]
    simp (disch := first | assumption | omega | exact bi_lo | exact bi_hi | exact bi_01 | exact jcmp_lo | exact jcmp_hi | exact (jor_r _ _).1 | exact (jor_r _ _).2 | exact (jand_r _ _).1 | exact (jand_r _ _).2) only [x17_78, x17_79, x17_80, x17_81, x17_84, x17_85, x17_86, x17_89, x17_90, x17_91, x17_92, x17_93, x17_96, x17_97, kb_some, kb_none, clr_vi, clr_ref, clr_null, clr_none, va_rf_some, va_rf_none, hp, ho]
    refine wp_kb hch ?_
    rintro v J1 K1 R1 ⟨rfl, rfl, q3⟩
    generalize chk f ver 3 (4 + 3 * x) (4 + 3 * x + 2) (f (4 + 3 * x + 1)) = res at q3 hlen ⊢
    obtain ⟨q4, q5⟩ := q3
    have h1' := RD_FRM h q4
    cases res with
    | error q =>
      obtain ⟨rfl, q6⟩ := q5
      have := hlen q rfl
      simp only
      simp (disch := first | assumption | omega | exact bi_lo | exact bi_hi | exact bi_01 | exact jcmp_lo | exact jcmp_hi | exact (jor_r _ _).1 | exact (jor_r _ _).2 | exact (jand_r _ _).1 | exact (jand_r _ _).2) only [x17_100, x17_103, x17_104, x17_107, x17_109, x17_110, x17_111, x17_112, x17_115, kb_some, kb_none, clr_vi, clr_ref, clr_null, clr_none, va_rf_some, va_rf_none, hp, if_true]
      refine wp_kb (rd_raise (L := L) hR q4.2.2.2.1 h1'.2.2.2.2.2.2.2.2.1 h1'.2.2.2.2.2.2.2.2.2) ?_
      rintro v J2 K2 R2 ⟨rfl, rfl, rfl, p4, p5, p6, p7⟩
      have h2' := RD_FRM h1' p4
      simp (disch := first | assumption | omega | exact bi_lo | exact bi_hi | exact bi_01 | exact jcmp_lo | exact jcmp_hi | exact (jor_r _ _).1 | exact (jor_r _ _).2 | exact (jand_r _ _).1 | exact (jand_r _ _).2) only [x17_118, x17_119, x17_120, x17_123, x17_125, x17_126, x17_127, kb_some, kb_none, clr_vi, clr_ref, clr_null, clr_none, va_rf_some, va_rf_none]
      refine wp_kb (rd_raise (L := L) hR p4.2.2.2.1 h2'.2.2.2.2.2.2.2.2.1 h2'.2.2.2.2.2.2.2.2.2) ?_
      rintro v J3 K3 R3 ⟨rfl, rfl, rfl, o4, o5, o6, o7⟩
      simp (disch := first | assumption | omega | exact bi_lo | exact bi_hi | exact bi_01 | exact jcmp_lo | exact jcmp_hi | exact (jor_r _ _).1 | exact (jor_r _ _).2 | exact (jand_r _ _).1 | exact (jand_r _ _).2) only [x17_130, kb_some, kb_none, clr_vi, clr_ref, clr_null, clr_none, va_rf_some, va_rf_none]
      refine wp_ok ⟨rfl, rfl, FRM_trans (FRM_trans q4 p4) o4, rfl, fun hf => ?_⟩
      have := o7 _ (by simp; omega) (p7 _ (by omega) (q6 hf))
      rw [List.append_assoc] at this
      exact this
    | ok y =>
      obtain ⟨rfl, q6, q7⟩ := q5
      have ee : J1 e = J e := q4.1 e (by have := h.2.2.2.1; unfold A32; omega)
      have ih' := ih (x + 1) J1 h1' (by rw [q4.1 31 (by decide)]; exact hJE) q4.2.2.2.1 (by rw [ee]; exact hs) (by rw [ee]; exact hn) (by omega) (by omega) (by omega)
      simp (disch := first | assumption | omega | exact bi_lo | exact bi_hi | exact bi_01 | exact jcmp_lo | exact jcmp_hi | exact (jor_r _ _).1 | exact (jor_r _ _).2 | exact (jand_r _ _).1 | exact (jand_r _ _).2) only [x17_100, x17_131, x17_134, kb_some, kb_none, clr_vi, clr_ref, clr_null, clr_none, va_rf_some, va_rf_none, if_neg (show ¬ (1 : Int) = 0 by omega)]
      refine wp_mono ih' ?_
      rintro v J2 K2 R2 ⟨w1, w2, w3, w4⟩
      refine ⟨w1, w2, FRM_trans q4 w3, ?_⟩
      generalize entsS f ver i (x + 1) = r2 at w4 ⊢
      cases r2 with
      | error e2 =>
        obtain ⟨rfl, w5⟩ := w4
        exact ⟨rfl, fun hf => w5 ⟨by rw [q6]; exact hf.1, trivial⟩⟩
      | ok l =>
        obtain ⟨rfl, w5, w6⟩ := w4
        refine ⟨rfl, w5.trans q6, ?_⟩
        show J 36 6 + (fsz 4 (y :: l : List (Nd 3)) : Nat) ≤ 40 → J 42 1 + (fby 4 (y :: l : List (Nd 3)) : Nat) ≤ 120 → _
        rw [fsz_c4, fby_c4]
        intro g1 g2
        obtain ⟨a1, a2, a3⟩ := q7 (by omega) (by omega)
        obtain ⟨b1, b2, b3⟩ := w6 (by omega) (by omega)
        have a1' := FRM_cT a1 w3 (by omega)
        refine ⟨⟨a1'.1, a1'.2, ?_⟩, ?_, ?_⟩
        · show cF f (J2 42 1) (J2 37) (J2 38) (J2 39) (J2 40) (J2 41) (J2 43) 4 0 l ((J 36 6).toNat + 1 + fsz 3 y.2)
          rw [show (J 36 6).toNat + 1 + fsz 3 y.2 = (J1 36 6).toNat by omega]
          exact b1
        · show J2 36 6 = J 36 6 + (fsz 4 (y :: l : List (Nd 3)) : Nat)
          rw [fsz_c4]; omega
        · show J2 42 1 = J 42 1 + (fby 4 (y :: l : List (Nd 3)) : Nat)
          rw [fby_c4]; omega
end
