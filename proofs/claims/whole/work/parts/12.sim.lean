set_option maxRecDepth 100000
theorem mm_mem_ok {m : Nat} {own : String} {i : Instr} {res : Int} {st st' : List Value} {Ls : Nat} {xs : Nat → Int32} {S S' : mm_S} {I I' : mm_I} {L L' : mm_L} {R R' : mm_R} (hlk : mm_lkI own i res) (hok : mm_ok Ls xs S I) (hm : mm_mem m i res st S I L R = some (st', S', I', L', R')) : mm_ok Ls xs S' I' := by
  have hl2 := mm_len2 hok
  have same : ∀ {x : List Value × mm_S × mm_I × mm_L × mm_R}, x.2.1 = S → x.2.2.1 = I → x = (st', S', I', L', R') → mm_ok Ls xs S' I' := by
    rintro x h1 h2 rfl
    simp only at h1 h2
    subst h1; subst h2; exact hok
  have upd : ∀ {x : List Value × mm_S × mm_I × mm_L × mm_R} {a j : Nat} {v : Int32}, 2 ≤ a → x.2.1 = S → x.2.2.1 = mm_up I a j v → x = (st', S', I', L', R') → mm_ok Ls xs S' I' := by
    rintro x a j v ha h1 h2 rfl
    simp only at h1 h2
    subst h1; subst h2; exact mm_ok_put hok (mm_up_ne (by omega)) (mm_up_ne (by omega))
  have push : ∀ {x : List Value × mm_S × mm_I × mm_L × mm_R} {q : Nat × Nat} {g : Nat → Int32}, (q.1 < 12 ∨ (20 ≤ q.1 ∧ q.1 ≤ 23)) → x.2.1 = S ++ [q] → x.2.2.1 = mm_rw I S.length g → x = (st', S', I', L', R') → mm_ok Ls xs S' I' := by
    rintro x q g hq h1 h2 rfl
    simp only at h1 h2
    subst h1; subst h2; exact mm_ok_push hok (mm_rw_ne (by omega)) (mm_rw_ne (by omega)) hq
  unfold mm_mem at hm
  split at hm
  · split at hm
    · exact same rfl rfl (Option.some.inj hm)
    · cases hm
  · obtain ⟨hj, hc12, hl⟩ := hlk
    split at hm
    · rename_i hc
      have ha2 := mm_made hok hc.1 (by omega)
      split at hm
      · exact upd ha2 rfl rfl (Option.some.inj hm)
      · split at hm
        · exact upd ha2 rfl rfl (Option.some.inj hm)
        · cases hm
      · exact same rfl rfl (Option.some.inj hm)
      · exact same rfl rfl (Option.some.inj hm)
      · cases hm
    · cases hm
  · split at hm
    · split at hm
      · exact same rfl rfl (Option.some.inj hm)
      · cases hm
    · cases hm
  · split at hm
    · split at hm
      · exact same rfl rfl (Option.some.inj hm)
      · cases hm
    · cases hm
  · split at hm
    · split at hm
      · exact same rfl rfl (Option.some.inj hm)
      · cases hm
    · cases hm
  · split at hm
    · split at hm
      · exact same rfl rfl (Option.some.inj hm)
      · cases hm
    · cases hm
  · split at hm
    · split at hm
      · rename_i hc
        exact upd hc.2.1 rfl rfl (Option.some.inj hm)
      · cases hm
    · cases hm
  · split at hm
    · rename_i kd n hSa
      split at hm
      · rename_i hc
        exact upd (mm_made hok hSa (by rw [hc.1]; decide)) rfl rfl (Option.some.inj hm)
      · cases hm
    · cases hm
  · split at hm
    · split at hm
      · exact same rfl rfl (Option.some.inj hm)
      · cases hm
    · cases hm
  · split at hm
    · split at hm
      · exact same rfl rfl (Option.some.inj hm)
      · cases hm
    · cases hm
  · split at hm
    · split at hm
      · exact same rfl rfl (Option.some.inj hm)
      · cases hm
    · cases hm
  · rename_i t x r
    split at hm
    · refine push ?_ rfl rfl (Option.some.inj hm)
      show (if t = .int then 20 else if t = .long then 21 else 22 : Nat) < 12 ∨ (20 ≤ (if t = .int then 20 else if t = .long then 21 else 22 : Nat) ∧ (if t = .int then 20 else if t = .long then 21 else 22 : Nat) ≤ 23)
      split
      · omega
      · split <;> omega
    · cases hm
  · split at hm
    · exact push (Or.inr ⟨Nat.le_of_ble_eq_true rfl, Nat.le_of_ble_eq_true rfl⟩) rfl rfl (Option.some.inj hm)
    · cases hm
  · exact push (Or.inl hlk.1) rfl rfl (Option.some.inj hm)
  · exact same rfl rfl (Option.some.inj hm)
  · split at hm
    · split at hm
      · split at hm
        · exact same rfl rfl (Option.some.inj hm)
        · cases hm
      · cases hm
    · cases hm
  · split at hm
    · split at hm
      · split at hm
        · split at hm
          · rename_i hc
            split at hm
            · obtain ⟨rfl, rfl, rfl, rfl, rfl⟩ : _ ∧ _ ∧ _ ∧ _ ∧ _ := by simpa only [Option.some.injEq, Prod.mk.injEq] using hm
              rename_i a' _ _ _ _ _ _ _ _ _ _
              have hb2 : (2 : Nat) ≤ _ := hc.2.1
              exact mm_ok_put hok (mm_rw_ne (by omega)) (mm_rw_ne (by omega))
            · split at hm
              · exact same rfl rfl (Option.some.inj hm)
              · cases hm
          · cases hm
        · cases hm
      · cases hm
    · cases hm
  · cases hm
theorem mm_ex_ok : ∀ {n d m pc : Nat} {ls : mm_ls} {st : List Value} {S : mm_S} {I : mm_I} {L : mm_L} {R : mm_R} {r : mm_O} {Ls : Nat} {xs : Nat → Int32}, mm_ex n d m pc ls st S I L R = some r → mm_ok Ls xs S I → mm_ok Ls xs r.2.1 r.2.2.1 := by
  intro n
  induction n with
  | zero => intro d m pc ls st S I L R r Ls xs h; simp [mm_ex] at h
  | succ n ih =>
    intro d m pc ls st S I L R r Ls xs h hok
    rw [mm_ex] at h
    cases hf : mm_fetch m pc with
    | none => rw [hf] at h; simp at h
    | some q =>
      obtain ⟨i, len, res⟩ := q
      rw [hf] at h
      dsimp only at h
      cases hp : mm_pure i res ls st with
      | some q => obtain ⟨ls', st'⟩ := q; rw [hp] at h; exact ih h hok
      | none =>
        rw [hp] at h; dsimp only at h
        cases hj : mm_jump i len pc st with
        | some q => obtain ⟨pc', st'⟩ := q; rw [hj] at h; exact ih h hok
        | none =>
          rw [hj] at h; dsimp only at h
          cases hm : mm_mem m i res st S I L R with
          | some q =>
            obtain ⟨st', S', I', L', R'⟩ := q
            rw [hm] at h
            exact ih h (mm_mem_ok (mm_fetch_fact hf).2.1 hok hm)
          | none =>
            rw [hm] at h; dsimp only at h
            cases hr : mm_ret m i st with
            | some v => rw [hr] at h; obtain rfl := Option.some.inj h; exact hok
            | none =>
              rw [hr] at h; dsimp only at h
              cases hc : mm_call i res st S with
              | none => rw [hc] at h; simp at h
              | some q =>
                obtain ⟨k, as, rest⟩ := q
                rw [hc] at h
                cases d with
                | zero => simp at h
                | succ d =>
                  dsimp only at h
                  cases hx : mm_ex n d k 0 (mm_entry k as) [] S I L R with
                  | none => rw [hx] at h; simp at h
                  | some q =>
                    obtain ⟨v, S', I', L', R'⟩ := q
                    rw [hx] at h
                    exact ih h (ih hx hok)
section
variable {sz b t0 Ls : Nat} {xs : Nat → Int32} {D : va_G} {cI cJ cZ cT : ClassId}
variable {p : Program} {l : Launch} {e : Env} {Rm : Room} {s : State} {mid : MethodId} {args : Array Value} {below : List Frame} {meth : Method} {c : Code} {H : Heap} {locs : List Loc} {cells slots : Nat} {Q : State → Prop}
variable {S S' : mm_S} {I I' : mm_I} {L L' : mm_L} {R R' : mm_R} {pc len m : Nat} {lsA : Array Slot}
theorem mm_after {mc ms : Nat} {st0 rest' : List Value} {r : mm_O} {a : Array Value} (hr : va_Run p l e Rm s mid args below meth c H locs cells slots mc ms (F0 mid pc lsA st0) rest' (mm_Qc sz b t0 D cI cJ cZ cT r a) (fun q => sz ≤ q)) (hS : va_S (fun q => sz ≤ q) s.heap H locs)
    (k : ∀ (H1 : Heap) (locs1 : List Loc), va_P D vwCl (mm_ws sz b t0 cI cJ cZ cT r.2.1 r.2.2.1 r.2.2.2.1 r.2.2.2.2) H1 → va_S (fun q => sz ≤ q) s.heap H1 locs1 → W p l e Rm s mid args below meth c H1 locs1 (cells + mc) (slots + ms) Q (F0 mid (pc + 3) lsA ((r.1.map (mm_tr sz b t0)).toList ++ rest'))) : W p l e Rm s mid args below meth c H locs cells slots Q (F0 mid pc lsA st0) := by
  intro T hT X
  obtain ⟨v, st₀, t, T', L, h0, X', hL, e1, e2, ⟨q1, q2, q3, q4⟩, st⟩ := hr T hT X
  obtain rfl : v = r.1.map (mm_tr sz b t0) := Outcome.returned.inj q1
  rw [h0] at q3 q4
  obtain ⟨t2, a1, b1⟩ := k T'.heap (locs ++ L) (by rw [e1]; exact q2) ⟨Nat.le_trans hS.1 (by rw [e1]; exact q3), fun q h1 h2 => by rw [e1, q4 q (Nat.lt_of_lt_of_le h1 hS.1) h2]; exact hS.2.1 q h1 h2, fun q hq => by
    rcases List.mem_append.mp hq with h | h
    · exact hS.2.2 q h
    · exact hL q h⟩ T' rfl X'
  exact ⟨t2, st t2 a1, b1⟩
theorem mm_goodIn {k : Nat} (h : mm_lkM k) : GoodIn mm_TB (mm_kw k) := by
  intro w hw
  have g : ∀ w ∈ mm_TB, w ∈ mm_TB ∧ ((w.onTables && w.keeps) = true ∨ ∃ ty, w = .arrayClass ty) := fun w hw => ⟨hw, good_of_word (List.mem_filter.mp hw).2⟩
  rcases List.mem_cons.mp hw with rfl | hw
  · exact g _ h.1
  · exact g _ hw
/-- what holds where a call begins -/
theorem mm_preS {as : List Value} (hB : mm_B sz b t0 Ls xs D cI cJ cZ cT s) (hP : va_P D vwCl (mm_ws sz b t0 cI cJ cZ cT S I L R) H) (hS : va_S (fun q => sz ≤ q) s.heap H locs) (hsz : H.size + 2 = sz + S.length) :
    ∀ U : State, U.heap = H → s.WarmedH U.vm → mm_Pc sz b t0 Ls xs D cI cJ cZ cT as S I L R (as.map (mm_tr sz b t0)).toArray U := by
  intro U hU hW
  exact ⟨rfl, by rw [hU]; exact hP, mm_B_moved hB hW.alike (mm_nw_moved hW hB.2.2.2.2.2.2.1) (fun q h1 h2 => by rw [hU]; exact hS.2.1 q h1 h2) (by rw [hU]; exact hS.1), by rw [hU]; exact hsz⟩
theorem mm_size {k0 : Nat} (hok : mm_ok Ls xs S I) (hB : mm_B sz b t0 Ls xs D cI cJ cZ cT s) (hP : va_P D vwCl (mm_ws sz b t0 cI cJ cZ cT S I L R) H) (hS : va_S (fun q => sz ≤ q) s.heap H locs) (hk0 : s.heap.size + 2 = sz + k0) (hk : k0 ≤ S.length) (hsz : H.size ≤ s.heap.size + (S.length - k0)) : H.size + 2 = sz + S.length := by
  have h2 := mm_len2 hok
  have h3 := hS.1
  have h4 := hB.2.2.1
  by_cases hlt : S.length = 2
  · omega
  · have hq : S.length - 1 < S.length := by omega
    have hS1 : S[S.length - 1]? = some S[S.length - 1] := List.getElem?_eq_getElem hq
    have he := mm_ws_get (sz := sz) (b := b) (t0 := t0) (cI := cI) (cJ := cJ) (cZ := cZ) (cT := cT) (I := I) (L := L) (R := R) hS1 (by omega)
    have hlt2 := (hP _ _ he).lt
    have : mm_ad sz b t0 (S.length - 1) = sz + (S.length - 1 - 2) := mm_ad_made (by omega)
    simp only at hlt2
    omega
theorem mm_sim_call {n d k k0 s0 : Nat} {i : Instr} {res : Int} {st as rest : List Value} {r : mm_O} (ih : mm_sim l sz b t0 Ls xs D cI cJ cZ cT n) (hx : p.tables.exec = Jvm.exec) (hb : c.code = mm_b m) (hml : c.maxLocals = mm_ml m) (hsl : lsA.size = mm_ml m) (hown : s.vm.findClass (mm_y m).cls = some mid.cls) (hts : ∀ w ∈ mm_TB, w.before args s = true) (hB : mm_B sz b t0 Ls xs D cI cJ cZ cT s)
    (hfr : d + 1 + 1 ≤ Rm.frames) (hlo : 100 * (d + 1 + 1) ≤ Rm.locals) (hdg : decode (mm_b m) pc = .ok (i, len)) (hlk : mm_lkI (mm_y m).cls i res) (hln : mm_len i = 0 ∨ mm_len i = len)
    (hok : mm_ok Ls xs S I) (hP : va_P D vwCl (mm_ws sz b t0 cI cJ cZ cT S I L R) H) (hS : va_S (fun q => sz ≤ q) s.heap H locs) (hk0 : s.heap.size + 2 = sz + k0) (hk : k0 ≤ S.length) (hs0 : s0 ≤ mm_sl S)
    (hc : mm_call i res st S = some (k, as, rest)) (hr : mm_ex n d k 0 (mm_entry k as) [] S I L R = some r) (hrc : r.2.1.length - k0 ≤ Rm.cells) (hrs : mm_sl r.2.1 - s0 ≤ Rm.slots)
    (kk : ∀ (H1 : Heap) (locs1 : List Loc), va_P D vwCl (mm_ws sz b t0 cI cJ cZ cT r.2.1 r.2.2.1 r.2.2.2.1 r.2.2.2.2) H1 → va_S (fun q => sz ≤ q) s.heap H1 locs1 → W p l e Rm s mid args below meth c H1 locs1 (r.2.1.length - k0) (mm_sl r.2.1 - s0) Q (F0 mid (pc + len) lsA ((r.1.toList ++ rest).map (mm_tr sz b t0)))) :
    W p l e Rm s mid args below meth c H locs (S.length - k0) (mm_sl S - s0) Q (F0 mid pc lsA (st.map (mm_tr sz b t0))) := by
  have hmono := mm_ex_mono hr
  have hcl := mm_call_len hc
  refine mm_Wsz (fun hsz0 => ?_)
  have hsz := mm_size hok hB hP hS hk0 hk hsz0
  have fin : ∀ (H1 : Heap) (locs1 : List Loc), len = 3 → va_P D vwCl (mm_ws sz b t0 cI cJ cZ cT r.2.1 r.2.2.1 r.2.2.2.1 r.2.2.2.2) H1 → va_S (fun q => sz ≤ q) s.heap H1 locs1 → W p l e Rm s mid args below meth c H1 locs1 (S.length - k0 + (r.2.1.length - S.length)) (mm_sl S - s0 + (mm_sl r.2.1 - mm_sl S)) Q (F0 mid (pc + 3) lsA ((r.1.map (mm_tr sz b t0)).toList ++ rest.map (mm_tr sz b t0))) := by
    intro H1 locs1 hl3 hP1 hS1
    have h := kk H1 locs1 hP1 hS1
    subst hl3
    rw [List.map_append] at h
    rw [show S.length - k0 + (r.2.1.length - S.length) = r.2.1.length - k0 by omega, show mm_sl S - s0 + (mm_sl r.2.1 - mm_sl S) = mm_sl r.2.1 - s0 by omega]
    have e : (r.1.map (mm_tr sz b t0)).toList = r.1.toList.map (mm_tr sz b t0) := by cases r.1 <;> rfl
    rw [e]; exact h
  have hroom : S.length - k0 + (r.2.1.length - S.length) ≤ Rm.cells ∧ mm_sl S - s0 + (mm_sl r.2.1 - mm_sl S) ≤ Rm.slots := ⟨by omega, by omega⟩
  unfold mm_call at hc
  split at hc
  · -- static
    rename_i idx
    split at hc
    · rename_i hq
      obtain ⟨hres, hkd, hnp, hcats, -⟩ := hq
      obtain ⟨rfl, rfl, rfl⟩ : _ ∧ _ ∧ _ := by simpa only [Option.some.injEq, Prod.mk.injEq] using hc
      have e3 : 3 = len := hln.resolve_left (by simp [mm_len])
      subst e3
      have hlk' : mm_lkC (mm_y m).cls idx res.toNat := by
        have h := hlk
        unfold mm_lkI at h
        simp only at h
        rw [if_neg (by omega), if_neg (by omega), if_neg (by omega), if_neg (by omega)] at h
        exact h
      obtain ⟨g1, g2, g3⟩ := hlk'
      have hkm := mm_meth_fact (k := res.toNat) g1 g2
      have hM := mm_met ih hkm hcl hok hr
      obtain ⟨m1, m2, m3, m4, m5, m6⟩ := id hkm
      have hst : Cond.static (mm_y res.toNat) ∈ mm_TB := by
        rcases m6 with h | h | h
        · exact h.2
        · rw [h.1] at hkd; cases hkd
        · rw [h.1] at hkd; cases hkd
      have hlen : ((st.take (mm_np res.toNat)).reverse.map (mm_tr sz b t0)).length = mm_np res.toNat := by simp; omega
      have hstk : st.map (mm_tr sz b t0) = ((st.take (mm_np res.toNat)).reverse.map (mm_tr sz b t0)).reverse ++ (st.drop (mm_np res.toNat)).map (mm_tr sz b t0) := by
        rw [← List.map_reverse, List.reverse_reverse, ← List.map_append, List.take_append_drop]
      have hw8 : 2 * (F0 mid pc lsA (st.map (mm_tr sz b t0))).monitorRoom + (((st.drop (mm_np res.toNat)).map (mm_tr sz b t0)).map fun v => v.category).sum ≤ 8 := lv_room (by rw [mm_cats_tr]; exact hcats)
      have hRr : (mm_rm d (r.2.1.length - S.length) (mm_sl r.2.1 - mm_sl S)).frames + 1 ≤ Rm.frames ∧ 8 + (mm_ml res.toNat + 11) + (mm_rm d (r.2.1.length - S.length) (mm_sl r.2.1 - mm_sl S)).locals ≤ Rm.locals := ⟨hfr, by show 8 + (mm_ml res.toNat + 11) + 100 * (d + 1) ≤ Rm.locals; omega⟩
      rcases g3 with hl | hl
      · exact mm_after (va_runS ⟨hx, hb, hml, hown, hts⟩ hM ⟨callB_of (mm_np res.toNat) hts (mm_goodIn hkm) rfl rfl rfl (hts _ m2) (hts _ hl) m3 hRr, hts _ hst⟩ ⟨mm_blind, mm_preS hB hP hS hsz⟩ rfl hlen hsl hstk hw8 hdg hroom) hS (fun H1 locs1 => fin H1 locs1 rfl)
      · exact mm_after (va_runSN ⟨hx, hb, hml, hown, hts⟩ hM ⟨va_cnB (mm_np res.toNat) hts (mm_goodIn hkm) rfl rfl rfl (hB.2.2.2.2.2.2.1 _ hl) (hts _ m2) m3 hRr, hts _ hst, trivial⟩ ⟨mm_blind, mm_preS hB hP hS hsz⟩ rfl hlen hsl hstk hw8 hdg hroom) hS (fun H1 locs1 => fin H1 locs1 rfl)
    · cases hc
  · -- virtual
    rename_i idx
    split at hc
    · rename_i b' r' hdrop
      split at hc
      · rename_i hq
        obtain ⟨hres, hkd, hnp, hSb, hcats, -⟩ := hq
        obtain ⟨rfl, rfl, rfl⟩ : _ ∧ _ ∧ _ := by simpa only [Option.some.injEq, Prod.mk.injEq] using hc
        have e3 : 3 = len := hln.resolve_left (by simp [mm_len])
        subst e3
        obtain ⟨g1, g2, g3⟩ : mm_lkC (mm_y m).cls idx res.toNat := hlk
        have hkm := mm_meth_fact (k := res.toNat) g1 g2
        have hM := mm_met ih hkm hcl hok hr
        obtain ⟨m1, m2, m3, m4, m5, m6⟩ := id hkm
        obtain ⟨-, hin, hse, hC, h12⟩ : mm_kd res.toNat = 1 ∧ Cond.instanceMethod (mm_y res.toNat) ∈ mm_TB ∧ Cond.selects (mm_y res.toNat).cls (mm_y res.toNat) (mm_y res.toNat) ∈ mm_TB ∧ mm_C (mm_ci res.toNat) = (mm_y res.toNat).cls ∧ mm_ci res.toNat < 12 := by
          rcases m6 with h | h | h
          · rw [h.1] at hkd; cases hkd
          · exact h
          · rw [h.1] at hkd; cases hkd
        have hlen : ((st.take (mm_np res.toNat)).reverse.map (mm_tr sz b t0)).length = mm_np res.toNat := by simp; omega
        have hstk : st.map (mm_tr sz b t0) = ((st.take (mm_np res.toNat)).reverse.map (mm_tr sz b t0)).reverse ++ .ref (mm_ad sz b t0 b') :: r'.map (mm_tr sz b t0) := by
          have h : st.map (mm_tr sz b t0) = ((st.take (mm_np res.toNat)).reverse.map (mm_tr sz b t0)).reverse ++ (st.drop (mm_np res.toNat)).map (mm_tr sz b t0) := by
            rw [← List.map_reverse, List.reverse_reverse, ← List.map_append, List.take_append_drop]
          rw [hdrop] at h
          exact h
        have hw8 : 2 * (F0 mid pc lsA (st.map (mm_tr sz b t0))).monitorRoom + ((r'.map (mm_tr sz b t0)).map fun v => v.category).sum ≤ 8 := lv_room (by rw [mm_cats_tr]; exact hcats)
        have hRr : (mm_rm d (r.2.1.length - S.length) (mm_sl r.2.1 - mm_sl S)).frames + 1 ≤ Rm.frames ∧ 8 + (mm_ml res.toNat + 11) + (mm_rm d (r.2.1.length - S.length) (mm_sl r.2.1 - mm_sl S)).locals ≤ Rm.locals := ⟨hfr, by show 8 + (mm_ml res.toNat + 11) + 100 * (d + 1) ≤ Rm.locals; omega⟩
        have hcls := (mm_cls h12).1
        have he := mm_ws_get (sz := sz) (b := b) (t0 := t0) (cI := cI) (cJ := cJ) (cZ := cZ) (cT := cT) (I := I) (L := L) (R := R) hSb (mm_made hok hSb (by omega))
        rw [mm_ent_obj h12] at he
        have hrecv : ∃ cell : Cell, H[mm_ad sz b t0 b']? = some cell ∧ cell.vm.isStatics = false ∧ s.vm.findClass (mm_y res.toNat).cls = some cell.cls := by
          have h := va_recv hB.2.2.2.2.2.1 hP hcls he
          rw [← hC]; exact h
        rcases g3 with hl | hl
        · exact mm_after (va_runV ⟨hx, hb, hml, hown, hts⟩ hM ⟨callB_of (mm_np res.toNat) hts (mm_goodIn hkm) rfl rfl rfl (hts _ m2) (hts _ hl) m3 hRr, hts _ hin, hts _ hse⟩ ⟨mm_blind, hrecv, mm_preS hB hP hS hsz⟩ rfl hlen hsl hstk hw8 hdg hroom) hS (fun H1 locs1 => fin H1 locs1 rfl)
        · exact mm_after (va_runVN ⟨hx, hb, hml, hown, hts⟩ hM ⟨va_cnB (mm_np res.toNat) hts (mm_goodIn hkm) rfl rfl rfl (hB.2.2.2.2.2.2.1 _ hl) (hts _ m2) m3 hRr, hts _ hin, hts _ hse⟩ ⟨mm_blind, hrecv, mm_preS hB hP hS hsz⟩ rfl hlen hsl hstk hw8 hdg hroom) hS (fun H1 locs1 => fin H1 locs1 rfl)
      · cases hc
    · cases hc
  · -- special: a constructor
    rename_i idx
    split at hc
    · rename_i b' r' hdrop
      split at hc
      · rename_i hq
        obtain ⟨hres, hkd, hnp, hSb, hcats, -⟩ := hq
        obtain ⟨rfl, rfl, rfl⟩ : _ ∧ _ ∧ _ := by simpa only [Option.some.injEq, Prod.mk.injEq] using hc
        have e3 : 3 = len := hln.resolve_left (by simp [mm_len])
        subst e3
        have hlk' : mm_lkC (mm_y m).cls idx res.toNat := by
          have h := hlk
          unfold mm_lkI at h
          simp only at h
          rw [if_neg (by omega)] at h
          exact h
        obtain ⟨g1, g2, g3⟩ := hlk'
        have hkm := mm_meth_fact (k := res.toNat) g1 g2
        have hM := mm_met ih hkm hcl hok hr
        obtain ⟨m1, m2, m3, m4, m5, m6⟩ := id hkm
        obtain ⟨-, hin, hnm, hrt, hC, h12⟩ : mm_kd res.toNat = 2 ∧ Cond.instanceMethod (mm_y res.toNat) ∈ mm_TB ∧ (mm_y res.toNat).name = "<init>" ∧ mm_rt res.toNat = none ∧ mm_C (mm_ci res.toNat) = (mm_y res.toNat).cls ∧ mm_ci res.toNat < 12 := by
          rcases m6 with h | h | h
          · rw [h.1] at hkd; cases hkd
          · rw [h.1] at hkd; cases hkd
          · exact h
        have hlen : ((st.take (mm_np res.toNat)).reverse.map (mm_tr sz b t0)).length = mm_np res.toNat := by simp; omega
        have hstk : st.map (mm_tr sz b t0) = ((st.take (mm_np res.toNat)).reverse.map (mm_tr sz b t0)).reverse ++ .ref (mm_ad sz b t0 b') :: r'.map (mm_tr sz b t0) := by
          have h : st.map (mm_tr sz b t0) = ((st.take (mm_np res.toNat)).reverse.map (mm_tr sz b t0)).reverse ++ (st.drop (mm_np res.toNat)).map (mm_tr sz b t0) := by
            rw [← List.map_reverse, List.reverse_reverse, ← List.map_append, List.take_append_drop]
          rw [hdrop] at h
          exact h
        have hw8 : 2 * (F0 mid pc lsA (st.map (mm_tr sz b t0))).monitorRoom + ((r'.map (mm_tr sz b t0)).map fun v => v.category).sum ≤ 8 := lv_room (by rw [mm_cats_tr]; exact hcats)
        have hRr : (mm_rm d (r.2.1.length - S.length) (mm_sl r.2.1 - mm_sl S)).frames + 1 ≤ Rm.frames ∧ 8 + (mm_ml res.toNat + 11) + (mm_rm d (r.2.1.length - S.length) (mm_sl r.2.1 - mm_sl S)).locals ≤ Rm.locals := ⟨hfr, by show 8 + (mm_ml res.toNat + 11) + 100 * (d + 1) ≤ Rm.locals; omega⟩
        have hkw : mm_kw res.toNat = Cond.code (mm_y res.toNat) (mm_b res.toNat) (mm_ml res.toNat) none :: mm_TB := by unfold mm_kw; rw [hrt]
        rcases g3 with hl | hl
        · exact mm_after (va_runI ⟨hx, hb, hml, hown, hts⟩ hM ⟨callB_of (mm_np res.toNat) hts (mm_goodIn hkm) hkw rfl rfl (hts _ m2) (hts _ hl) m3 hRr, hnm, hts _ hin⟩ ⟨mm_blind, mm_preS (as := .ref b' :: (st.take (mm_np res.toNat)).reverse) hB hP hS hsz⟩ rfl hlen hsl hstk hw8 hdg hroom) hS (fun H1 locs1 => fin H1 locs1 rfl)
        · exact mm_after (va_runIN ⟨hx, hb, hml, hown, hts⟩ hM ⟨va_cnB (mm_np res.toNat) hts (mm_goodIn hkm) hkw rfl rfl (hB.2.2.2.2.2.2.1 _ hl) (hts _ m2) m3 hRr, hnm, hts _ hin⟩ ⟨mm_blind, mm_preS (as := .ref b' :: (st.take (mm_np res.toNat)).reverse) hB hP hS hsz⟩ rfl hlen hsl hstk hw8 hdg hroom) hS (fun H1 locs1 => fin H1 locs1 rfl)
      · cases hc
    · cases hc
  · cases hc
end
/-- THE SIMULATION -/
theorem mm_sim_all (l : Launch) (sz b t0 Ls : Nat) (xs : Nat → Int32) (D : va_G) (cI cJ cZ cT : ClassId) : ∀ n, mm_sim l sz b t0 Ls xs D cI cJ cZ cT n := by
  intro n
  induction n with
  | zero => intro d m pc ls st S I L R r h; simp [mm_ex] at h
  | succ n ih =>
    intro d m pc ls st S I L R r h p e Rm s mid args below meth c lsA H locs k0 s0 Q hx hb hml hown hts hB hini hfr hlo hl hok hP hS hk0 hk hs0 hrc hrs kk
    have hmono := mm_ex_mono h
    rw [mm_ex] at h
    cases hf : mm_fetch m pc with
    | none => rw [hf] at h; simp at h
    | some q =>
      obtain ⟨i, len, res⟩ := q
      obtain ⟨f1, f2, f3, f4⟩ := mm_fetch_fact hf
      rw [hf] at h
      dsimp only at h
      cases hp : mm_pure i res ls st with
      | some q =>
        obtain ⟨ls', st'⟩ := q
        rw [hp] at h
        exact mm_sim_pure hx hb hml hown hts (by omega) (by omega) (by omega) (by omega) hl f1 f2 f3 hp (fun lsA' hl' => ih d m (pc + len) ls' st' S I L R r h p e Rm s mid args below meth c lsA' H locs k0 s0 Q hx hb hml hown hts hB hini hfr hlo hl' hok hP hS hk0 hk hs0 hrc hrs kk)
      | none =>
        rw [hp] at h; dsimp only at h
        cases hj : mm_jump i len pc st with
        | some q =>
          obtain ⟨pc', st'⟩ := q
          rw [hj] at h
          have hres := ih d m pc' ls st' S I L R r h p e Rm s mid args below meth c lsA H locs k0 s0 Q hx hb hml hown hts hB hini hfr hlo hl hok hP hS hk0 hk hs0 hrc hrs kk
          unfold mm_jump at hj
          split at hj
          · split at hj
            · rename_i o r2 ho
              split at hj
              · rename_i t ht
                obtain ⟨rfl, rfl⟩ := Prod.mk.inj (Option.some.inj hj)
                exact mm_sim_jump hx hb f1 f2 f3 f4 ho ht hres
              · cases hj
            · cases hj
          · cases hj
        | none =>
          rw [hj] at h; dsimp only at h
          cases hm : mm_mem m i res st S I L R with
          | some q =>
            obtain ⟨st', S', I', L', R'⟩ := q
            rw [hm] at h
            have a := mm_mem_mono hm
            have a2 := mm_ex_mono h
            exact mm_sim_mem hx hb (hml.trans hl.2.1.symm) hown hts hB hini (by omega) (by omega) f1 f2 f3 hok hP hS hk0 hk hs0 hm (by omega) (by omega) (fun H1 locs1 hok1 hP1 hS1 => ih d m (pc + len) ls st' S' I' L' R' r h p e Rm s mid args below meth c lsA H1 locs1 k0 s0 Q hx hb hml hown hts hB hini hfr hlo hl hok1 hP1 hS1 hk0 (by omega) (by omega) hrc hrs kk)
          | none =>
            rw [hm] at h; dsimp only at h
            cases hr : mm_ret m i st with
            | some v =>
              rw [hr] at h
              obtain rfl := Option.some.inj h
              exact kk H locs pc lsA st i len res hok hP hS hf hr
            | none =>
              rw [hr] at h; dsimp only at h
              cases hc : mm_call i res st S with
              | none => rw [hc] at h; simp at h
              | some q =>
                obtain ⟨k, as, rest⟩ := q
                rw [hc] at h
                cases d with
                | zero => simp at h
                | succ d =>
                  dsimp only at h
                  cases hx2 : mm_ex n d k 0 (mm_entry k as) [] S I L R with
                  | none => rw [hx2] at h; simp at h
                  | some q =>
                    obtain ⟨v, S', I', L', R'⟩ := q
                    rw [hx2] at h
                    have a := mm_ex_mono hx2
                    have a2 := mm_ex_mono h
                    have hok1 := mm_ex_ok hx2 hok
                    dsimp only at a a2 hok1 h
                    exact mm_sim_call ih hx hb hml hl.2.1 hown hts hB hfr hlo f1 f2 f3 hok hP hS hk0 hk hs0 hc hx2 (by dsimp only; omega) (by dsimp only; omega) (fun H1 locs1 hP1 hS1 => ih (d + 1) m (pc + len) ls (v.toList ++ rest) S' I' L' R' r h p e Rm s mid args below meth c lsA H1 locs1 k0 s0 Q hx hb hml hown hts hB hini hfr hlo hl hok1 hP1 hS1 hk0 (by omega) (by omega) hrc hrs kk)
