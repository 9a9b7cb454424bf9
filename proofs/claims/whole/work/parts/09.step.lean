set_option maxRecDepth 100000
/-! one step of each kind -/
section
variable {p : Program} {l : Launch} {e : Env} {Rm : Room} {s : State} {mid : MethodId} {args : Array Value} {below : List Frame} {meth : Method} {c : Code} {H : Heap} {locs : List Loc} {cells slots : Nat} {Q : State → Prop}
variable {sz b t0 : Nat} {pc len m : Nat} {lsA : Array Slot} {ls ls' : mm_ls} {st st' : List Value} {i : Instr} {res : Int}
theorem mm_sim_cst (hx : p.tables.exec = Jvm.exec) (hb : c.code = mm_b m) (hown : s.vm.findClass (mm_y m).cls = some mid.cls) (hts : ∀ w ∈ mm_TB, w.before args s = true)
    (hdg : decode (mm_b m) pc = .ok (i, len)) (hlk : mm_lkI (mm_y m).cls i res) (hln : mm_len i = 0 ∨ mm_len i = len) {v : Value} (hv : mm_cst i res = some v)
    (k : W p l e Rm s mid args below meth c H locs cells slots Q (F0 mid (pc + len) lsA (mm_tr sz b t0 v :: st))) : W p l e Rm s mid args below meth c H locs cells slots Q (F0 mid pc lsA st) := by
  unfold mm_cst at hv
  split at hv
  · obtain rfl := Option.some.inj hv
    have e : 1 = len := hln.resolve_left (by simp [mm_len])
    subst e
    exact lv_iconst hx hb hdg rfl k
  · obtain rfl := Option.some.inj hv
    have e : 2 = len := hln.resolve_left (by simp [mm_len])
    subst e
    exact lv_bipush hx hb hdg hlk k
  · obtain rfl := Option.some.inj hv
    have e : 3 = len := hln.resolve_left (by simp [mm_len])
    subst e
    exact lv_sipush hx hb hdg hlk k
  · obtain rfl := Option.some.inj hv
    have e : 1 = len := hln.resolve_left (by simp [mm_len])
    subst e
    exact lv_lconst hx hb hdg hlk k
  · obtain rfl := Option.some.inj hv
    have e : 3 = len := hln.resolve_left (by simp [mm_len])
    subst e
    exact lv_ldc2 hx hb hown (hts _ hlk) hdg k
  · obtain rfl := Option.some.inj hv
    have e : 3 = len := hln.resolve_left (by simp [mm_len])
    subst e
    exact lv_ldcw hx hb hown (hts _ hlk) hdg k
  · obtain rfl := Option.some.inj hv
    have e : 1 = len := hln.resolve_left (by simp [mm_len])
    subst e
    exact lv_null hx hb hdg k
  · cases hv
theorem mm_is1 {v : Value} (h : mm_is v 1 = true) : ∃ x, v = .int x := by cases v <;> first | exact ⟨_, rfl⟩ | (simp [mm_is] at h)
theorem mm_is2 {v : Value} (h : mm_is v 2 = true) : ∃ x, v = .long x := by cases v <;> first | exact ⟨_, rfl⟩ | (simp [mm_is] at h)
theorem mm_is3 {v : Value} (h : mm_is v 3 = true) : (∃ x, v = .ref x) ∨ v = .null := by cases v <;> first | exact Or.inl ⟨_, rfl⟩ | exact Or.inr rfl | (simp [mm_is] at h)
theorem mm_sim_ld (hx : p.tables.exec = Jvm.exec) (hb : c.code = mm_b m) {n : Nat} (hl : mm_lh sz b t0 lsA n ls)
    (hdg : decode (mm_b m) pc = .ok (i, len)) (hln : mm_len i = 0 ∨ mm_len i = len) {v : Value} {kk t : Nat} (ho : mm_ldop i = some (kk, t)) (hv : mm_ld ls kk = some v) (ht : mm_is v t = true)
    (k : W p l e Rm s mid args below meth c H locs cells slots Q (F0 mid (pc + len) lsA (mm_tr sz b t0 v :: st))) : W p l e Rm s mid args below meth c H locs cells slots Q (F0 mid pc lsA st) := by
  have hg := mm_lh_get hl hv
  unfold mm_ldop at ho
  split at ho
  · obtain ⟨rfl, rfl⟩ := Prod.mk.inj (Option.some.inj ho)
    obtain ⟨x, rfl⟩ := mm_is1 ht
    have e : 2 = len := hln.resolve_left (by simp [mm_len])
    subst e
    exact lv_iload hx hb hdg hg k
  · obtain ⟨rfl, rfl⟩ := Prod.mk.inj (Option.some.inj ho)
    obtain ⟨x, rfl⟩ := mm_is1 ht
    have e : 1 = len := hln.resolve_left (by simp [mm_len])
    subst e
    exact lv_iload_n hx hb hdg rfl hg k
  · obtain ⟨rfl, rfl⟩ := Prod.mk.inj (Option.some.inj ho)
    obtain ⟨x, rfl⟩ := mm_is2 ht
    have e : 2 = len := hln.resolve_left (by simp [mm_len])
    subst e
    exact lv_lload hx hb hdg hg k
  · obtain ⟨rfl, rfl⟩ := Prod.mk.inj (Option.some.inj ho)
    obtain ⟨x, rfl⟩ := mm_is2 ht
    have e : 1 = len := hln.resolve_left (by simp [mm_len])
    subst e
    exact lv_lload_n hx hb hdg rfl hg k
  · obtain ⟨rfl, rfl⟩ := Prod.mk.inj (Option.some.inj ho)
    have e : 2 = len := hln.resolve_left (by simp [mm_len])
    subst e
    rcases mm_is3 ht with ⟨x, rfl⟩ | rfl
    · exact lv_aload hx hb hdg hg k
    · exact lv_aloadN hx hb hdg hg k
  · obtain ⟨rfl, rfl⟩ := Prod.mk.inj (Option.some.inj ho)
    have e : 1 = len := hln.resolve_left (by simp [mm_len])
    subst e
    rcases mm_is3 ht with ⟨x, rfl⟩ | rfl
    · exact lv_aload_n hx hb hdg rfl hg k
    · exact lv_aload_nN hx hb hdg rfl hg k
  · cases ho
theorem mm_sim_st (hx : p.tables.exec = Jvm.exec) (hb : c.code = mm_b m) {n : Nat} (hl : mm_lh sz b t0 lsA n ls)
    (hdg : decode (mm_b m) pc = .ok (i, len)) (hln : mm_len i = 0 ∨ mm_len i = len) {v : Value} {kk t : Nat} (ho : mm_stop i = some (kk, t)) (ht : mm_is v t = true) (hs : (if t = 2 then mm_st2 ls kk v else mm_st1 ls kk v) = some ls')
    (k : ∀ lsA', mm_lh sz b t0 lsA' n ls' → W p l e Rm s mid args below meth c H locs cells slots Q (F0 mid (pc + len) lsA' st)) : W p l e Rm s mid args below meth c H locs cells slots Q (F0 mid pc lsA (mm_tr sz b t0 v :: st)) := by
  obtain ⟨hn, hh⟩ := hl
  unfold mm_stop at ho
  split at ho
  · obtain ⟨rfl, rfl⟩ := Prod.mk.inj (Option.some.inj ho)
    obtain ⟨x, rfl⟩ := mm_is1 ht
    have e : 2 = len := hln.resolve_left (by simp [mm_len])
    subst e
    rw [if_neg (by decide)] at hs
    exact lv_istore hx hb hdg hh (by rw [← hn]; exact (mm_st1_spec hs).1) rfl (fun lsA' h' => k lsA' (mm_lh_st1 hn hs h'))
  · obtain ⟨rfl, rfl⟩ := Prod.mk.inj (Option.some.inj ho)
    obtain ⟨x, rfl⟩ := mm_is1 ht
    have e : 1 = len := hln.resolve_left (by simp [mm_len])
    subst e
    rw [if_neg (by decide)] at hs
    exact lv_istore_n hx hb hdg rfl hh (by rw [← hn]; exact (mm_st1_spec hs).1) rfl (fun lsA' h' => k lsA' (mm_lh_st1 hn hs h'))
  · obtain ⟨rfl, rfl⟩ := Prod.mk.inj (Option.some.inj ho)
    obtain ⟨x, rfl⟩ := mm_is2 ht
    have e : 2 = len := hln.resolve_left (by simp [mm_len])
    subst e
    rw [if_pos rfl] at hs
    exact lv_lstore hx hb hdg hh (by rw [← hn]; exact (mm_st2_spec hs).1) rfl (fun lsA' h' => k lsA' (mm_lh_st2 hn hs h'))
  · obtain ⟨rfl, rfl⟩ := Prod.mk.inj (Option.some.inj ho)
    obtain ⟨x, rfl⟩ := mm_is2 ht
    have e : 1 = len := hln.resolve_left (by simp [mm_len])
    subst e
    rw [if_pos rfl] at hs
    exact lv_lstore_n hx hb hdg rfl hh (by rw [← hn]; exact (mm_st2_spec hs).1) rfl (fun lsA' h' => k lsA' (mm_lh_st2 hn hs h'))
  · obtain ⟨rfl, rfl⟩ := Prod.mk.inj (Option.some.inj ho)
    have e : 2 = len := hln.resolve_left (by simp [mm_len])
    subst e
    rw [if_neg (by decide)] at hs
    rcases mm_is3 ht with ⟨x, rfl⟩ | rfl
    · exact lv_astore hx hb hdg hh (by rw [← hn]; exact (mm_st1_spec hs).1) rfl (fun lsA' h' => k lsA' (mm_lh_st1 hn hs h'))
    · exact lv_astoreN hx hb hdg hh (by rw [← hn]; exact (mm_st1_spec hs).1) rfl (fun lsA' h' => k lsA' (mm_lh_st1 hn hs h'))
  · obtain ⟨rfl, rfl⟩ := Prod.mk.inj (Option.some.inj ho)
    have e : 1 = len := hln.resolve_left (by simp [mm_len])
    subst e
    rw [if_neg (by decide)] at hs
    rcases mm_is3 ht with ⟨x, rfl⟩ | rfl
    · exact lv_astore_n hx hb hdg rfl hh (by rw [← hn]; exact (mm_st1_spec hs).1) rfl (fun lsA' h' => k lsA' (mm_lh_st1 hn hs h'))
    · exact lv_astore_nN hx hb hdg rfl hh (by rw [← hn]; exact (mm_st1_spec hs).1) rfl (fun lsA' h' => k lsA' (mm_lh_st1 hn hs h'))
  · cases ho
theorem mm_sim_iinc (hx : p.tables.exec = Jvm.exec) (hb : c.code = mm_b m) {n : Nat} (hl : mm_lh sz b t0 lsA n ls)
    {kk : Nat} {z : Int} {x : Int32} (hdg : decode (mm_b m) pc = .ok (.iinc kk z, 3)) (hv : mm_ld ls kk = some (.int x)) (hs : mm_st1 ls kk (.int (x + iI z)) = some ls')
    (k : ∀ lsA', mm_lh sz b t0 lsA' n ls' → W p l e Rm s mid args below meth c H locs cells slots Q (F0 mid (pc + 3) lsA' st)) : W p l e Rm s mid args below meth c H locs cells slots Q (F0 mid pc lsA st) := by
  obtain ⟨hn, hh⟩ := hl
  obtain ⟨j, hj⟩ := List.getElem?_of_mem (mm_al_mem.mpr ⟨_, hv, rfl⟩ : (kk, mm_tr sz b t0 (.int x)) ∈ mm_al sz b t0 ls)
  exact lv_iinc hx hb hdg hh hj rfl (by rw [← hn]; exact (mm_st1_spec hs).1) rfl (fun lsA' h' => k lsA' (mm_lh_st1 hn hs h'))
theorem mm_sim_bin (hx : p.tables.exec = Jvm.exec) (hb : c.code = mm_b m)
    (hdg : decode (mm_b m) pc = .ok (i, len)) (hln : mm_len i = 0 ∨ mm_len i = len) {x y z : Int32} (hv : mm_bin i x y = some z)
    (k : W p l e Rm s mid args below meth c H locs cells slots Q (F0 mid (pc + len) lsA (.int z :: st))) : W p l e Rm s mid args below meth c H locs cells slots Q (F0 mid pc lsA (.int y :: .int x :: st)) := by
  unfold mm_bin at hv
  split at hv
  all_goals first
    | (cases hv; done)
    | (have e : 1 = len := hln.resolve_left (by simp [mm_len])
       subst e
       first
       | (obtain rfl := Option.some.inj hv
          first
          | exact lv_iadd hx hb hdg k
          | exact lv_isub hx hb hdg k
          | exact lv_imul hx hb hdg k
          | exact lv_iand hx hb hdg k
          | exact lv_ior hx hb hdg k
          | exact lv_ixor hx hb hdg k
          | exact lv_ishl hx hb hdg k
          | exact lv_ishr hx hb hdg k
          | exact lv_iushr hx hb hdg rfl k)
       | (split at hv
          · cases hv
          · rename_i hne
            obtain rfl := Option.some.inj hv
            exact lv_irem hx hb hdg hne k))
theorem mm_sim_lbin (hx : p.tables.exec = Jvm.exec) (hb : c.code = mm_b m)
    (hdg : decode (mm_b m) pc = .ok (i, len)) (hln : mm_len i = 0 ∨ mm_len i = len) {x y : Int64} {z : Value} (hv : mm_lbin i x y = some z)
    (k : W p l e Rm s mid args below meth c H locs cells slots Q (F0 mid (pc + len) lsA (mm_tr sz b t0 z :: st))) : W p l e Rm s mid args below meth c H locs cells slots Q (F0 mid pc lsA (.long y :: .long x :: st)) := by
  unfold mm_lbin at hv
  split at hv
  all_goals first
    | (cases hv; done)
    | (have e : 1 = len := hln.resolve_left (by simp [mm_len])
       subst e
       first
       | (obtain rfl := Option.some.inj hv
          first
          | exact lv_ladd hx hb hdg k
          | exact lv_lmul hx hb hdg k
          | exact lv_land hx hb hdg k
          | exact lv_lor hx hb hdg k
          | exact W.lcmp hx hb hdg k)
       | (split at hv
          · cases hv
          · rename_i hne
            obtain rfl := Option.some.inj hv
            first
            | exact lv_ldiv hx hb hdg hne k
            | exact lv_lrem hx hb hdg hne k))
theorem mm_sim_un (hx : p.tables.exec = Jvm.exec) (hb : c.code = mm_b m)
    (hdg : decode (mm_b m) pc = .ok (i, len)) (hln : mm_len i = 0 ∨ mm_len i = len) {v z : Value} (hv : mm_un i v = some z)
    (k : W p l e Rm s mid args below meth c H locs cells slots Q (F0 mid (pc + len) lsA (mm_tr sz b t0 z :: st))) : W p l e Rm s mid args below meth c H locs cells slots Q (F0 mid pc lsA (mm_tr sz b t0 v :: st)) := by
  unfold mm_un at hv
  split at hv
  · have e : 1 = len := hln.resolve_left (by simp [mm_len])
    subst e
    obtain rfl := Option.some.inj hv
    exact lv_ineg hx hb hdg k
  · have e : 1 = len := hln.resolve_left (by simp [mm_len])
    subst e
    obtain rfl := Option.some.inj hv
    exact lv_i2l hx hb hdg rfl k
  · have e : 1 = len := hln.resolve_left (by simp [mm_len])
    subst e
    obtain rfl := Option.some.inj hv
    exact lv_i2b hx hb hdg rfl k
  · have e : 1 = len := hln.resolve_left (by simp [mm_len])
    subst e
    obtain rfl := Option.some.inj hv
    exact lv_i2s hx hb hdg rfl k
  · have e : 1 = len := hln.resolve_left (by simp [mm_len])
    subst e
    obtain rfl := Option.some.inj hv
    exact lv_l2i hx hb hdg rfl k
  · have e : 1 = len := hln.resolve_left (by simp [mm_len])
    subst e
    obtain rfl := Option.some.inj hv
    exact lv_lneg hx hb hdg k
  · cases hv
theorem mm_sim_shuf (hx : p.tables.exec = Jvm.exec) (hb : c.code = mm_b m)
    (hdg : decode (mm_b m) pc = .ok (i, len)) (hln : mm_len i = 0 ∨ mm_len i = len) (hv : mm_shuf i st = some st')
    (k : W p l e Rm s mid args below meth c H locs cells slots Q (F0 mid (pc + len) lsA (st'.map (mm_tr sz b t0)))) : W p l e Rm s mid args below meth c H locs cells slots Q (F0 mid pc lsA (st.map (mm_tr sz b t0))) := by
  unfold mm_shuf at hv
  split at hv
  all_goals first
    | (cases hv; done)
    | (have e : 1 = len := hln.resolve_left (by simp [mm_len])
       subst e
       split at hv
       · rename_i hc
         obtain rfl := Option.some.inj hv
         first
         | exact lv_dup hx hb hdg (by rw [mm_tr_cat]; exact hc) k
         | exact lv_pop hx hb hdg (by rw [mm_tr_cat]; exact hc) k
         | exact lv_dup2_11 hx hb hdg (by rw [mm_tr_cat]; exact hc.1) (by rw [mm_tr_cat]; exact hc.2) k
       · cases hv)
end
theorem mm_c1_iff (c : Jvm.ClassFile.Cond) (x : Int32) : (match c with
    | .eq => x = 0
    | .ne => ¬ x = 0
    | .lt => x < 0
    | .ge => 0 ≤ x
    | .gt => 0 < x
    | .le => x ≤ 0) ↔ mm_c1 c x.toInt = true := by
  cases c <;> simp [mm_c1, Int32.lt_iff_toInt_lt, Int32.le_iff_toInt_le, ← Int32.toInt_inj]
theorem mm_c2_iff (c : Jvm.ClassFile.Cond) (x y : Int32) : (match c with
    | .eq => x = y
    | .ne => ¬ x = y
    | .lt => x < y
    | .ge => y ≤ x
    | .gt => y < x
    | .le => x ≤ y) ↔ mm_c2 c x.toInt y.toInt = true := by
  cases c <;> simp [mm_c2, Int32.lt_iff_toInt_lt, Int32.le_iff_toInt_le, ← Int32.toInt_inj]
theorem mm_tgt_spec {pc pc' : Nat} {o : Int} (h : mm_tgt pc o = some pc') : (pc : Int) + o = (pc' : Int) := by
  unfold mm_tgt at h
  split at h
  · rename_i h0
    obtain rfl := Option.some.inj h
    omega
  · cases h
theorem mm_br {pc pc' len : Nat} {o : Int} {cnd : Bool} (h : mm_tgt pc (if cnd = true then o else (len : Int)) = some pc') : (cnd = true → pc' = ((pc : Int) + o).toNat) ∧ (¬ cnd = true → pc' = pc + len) := by
  have h1 := mm_tgt_spec h
  refine ⟨fun hc => ?_, fun hc => ?_⟩
  · rw [if_pos hc] at h1; omega
  · rw [if_neg hc] at h1; omega
section
variable {p : Program} {l : Launch} {e : Env} {Rm : Room} {s : State} {mid : MethodId} {args : Array Value} {below : List Frame} {meth : Method} {c : Code} {H : Heap} {locs : List Loc} {cells slots : Nat} {Q : State → Prop}
variable {sz b t0 : Nat} {pc len m : Nat} {lsA : Array Slot} {ls ls' : mm_ls} {st st' : List Value} {i : Instr} {res : Int}
theorem mm_sim_jump (hx : p.tables.exec = Jvm.exec) (hb : c.code = mm_b m) (hdg : decode (mm_b m) pc = .ok (i, len)) (hlk : mm_lkI (mm_y m).cls i res) (hln : mm_len i = 0 ∨ mm_len i = len)
    (hz : ∀ o, (i = .goto o ∨ (∃ c, i = .ifCond c o) ∨ (∃ c, i = .if_icmp c o) ∨ i = .ifnull o ∨ i = .ifnonnull o) → 0 ≤ (pc : Int) + o) {o : Int} {pc' : Nat} (hj : mm_off i len st = some (o, st')) (ht : mm_tgt pc o = some pc')
    (k : W p l e Rm s mid args below meth c H locs cells slots Q (F0 mid pc' lsA (st'.map (mm_tr sz b t0)))) : W p l e Rm s mid args below meth c H locs cells slots Q (F0 mid pc lsA (st.map (mm_tr sz b t0))) := by
  unfold mm_off at hj
  split at hj
  · -- goto
    obtain ⟨rfl, rfl⟩ := Prod.mk.inj (Option.some.inj hj)
    have e : 3 = len := hln.resolve_left (by simp [mm_len])
    subst e
    exact lv_goto hx hb hdg (mm_tgt_spec ht) k
  · -- ifCond
    rename_i cnd o1 x r
    obtain ⟨rfl, rfl⟩ := Prod.mk.inj (Option.some.inj hj)
    have e : 3 = len := hln.resolve_left (by simp [mm_len])
    subst e
    have h0 := hz o1 (Or.inr (Or.inl ⟨cnd, rfl⟩))
    have hbr := mm_br ht
    have hi := mm_c1_iff cnd x
    have ht0 : (pc : Int) + o1 = ((((pc : Int) + o1).toNat : Nat) : Int) := by omega
    cases cnd
    · exact lv_if_eq hx hb hdg ht0 (fun h => by rw [hbr.1 (hi.mp h)] at k; exact k) (fun h => by rw [hbr.2 (fun q => h (hi.mpr q))] at k; exact k)
    · exact lv_if_ne hx hb hdg ht0 (fun h => by rw [hbr.1 (hi.mp h)] at k; exact k) (fun h => by rw [hbr.2 (fun q => (hi.mpr q) h)] at k; exact k)
    · exact lv_if_lt hx hb hdg ht0 (fun h => by rw [hbr.1 (hi.mp h)] at k; exact k) (fun h => by rw [hbr.2 (fun q => h (hi.mpr q))] at k; exact k)
    · exact lv_if_ge hx hb hdg ht0 (fun h => by rw [hbr.1 (hi.mp h)] at k; exact k) (fun h => by rw [hbr.2 (fun q => h (hi.mpr q))] at k; exact k)
    · exact lv_if_gt hx hb hdg ht0 (fun h => by rw [hbr.1 (hi.mp h)] at k; exact k) (fun h => by rw [hbr.2 (fun q => h (hi.mpr q))] at k; exact k)
    · exact lv_if_le hx hb hdg ht0 (fun h => by rw [hbr.1 (hi.mp h)] at k; exact k) (fun h => by rw [hbr.2 (fun q => h (hi.mpr q))] at k; exact k)
  · -- if_icmp
    rename_i cnd o1 y x r
    obtain ⟨rfl, rfl⟩ := Prod.mk.inj (Option.some.inj hj)
    have e : 3 = len := hln.resolve_left (by simp [mm_len])
    subst e
    have h0 := hz o1 (Or.inr (Or.inr (Or.inl ⟨cnd, rfl⟩)))
    have hbr := mm_br ht
    have hi := mm_c2_iff cnd x y
    have ht0 : (pc : Int) + o1 = ((((pc : Int) + o1).toNat : Nat) : Int) := by omega
    cases cnd
    · exact lv_icmp_eq hx hb hdg ht0 (fun h => by rw [hbr.1 (hi.mp h)] at k; exact k) (fun h => by rw [hbr.2 (fun q => h (hi.mpr q))] at k; exact k)
    · exact lv_icmp_ne hx hb hdg ht0 (fun h => by rw [hbr.1 (hi.mp h)] at k; exact k) (fun h => by rw [hbr.2 (fun q => (hi.mpr q) h)] at k; exact k)
    · exact lv_icmp_lt hx hb hdg ht0 (fun h => by rw [hbr.1 (hi.mp h)] at k; exact k) (fun h => by rw [hbr.2 (fun q => h (hi.mpr q))] at k; exact k)
    · exact lv_icmp_ge hx hb hdg ht0 (fun h => by rw [hbr.1 (hi.mp h)] at k; exact k) (fun h => by rw [hbr.2 (fun q => h (hi.mpr q))] at k; exact k)
    · exact lv_icmp_gt hx hb hdg ht0 (fun h => by rw [hbr.1 (hi.mp h)] at k; exact k) (fun h => by rw [hbr.2 (fun q => h (hi.mpr q))] at k; exact k)
    · exact lv_icmp_le hx hb hdg ht0 (fun h => by rw [hbr.1 (hi.mp h)] at k; exact k) (fun h => by rw [hbr.2 (fun q => h (hi.mpr q))] at k; exact k)
  · -- ifnull of null
    obtain ⟨rfl, rfl⟩ := Prod.mk.inj (Option.some.inj hj)
    have e : 3 = len := hln.resolve_left (by simp [mm_len])
    subst e
    exact lv_ifnullN hx hb hdg (mm_tgt_spec ht) k
  · -- ifnull of a reference
    obtain ⟨rfl, rfl⟩ := Prod.mk.inj (Option.some.inj hj)
    have e : 3 = len := hln.resolve_left (by simp [mm_len])
    subst e
    have h1 := mm_tgt_spec ht
    rw [show pc' = pc + 3 by omega] at k
    exact lv_ifnull hx hb hdg k
  · obtain ⟨rfl, rfl⟩ := Prod.mk.inj (Option.some.inj hj)
    have e : 3 = len := hln.resolve_left (by simp [mm_len])
    subst e
    have h1 := mm_tgt_spec ht
    rw [show pc' = pc + 3 by omega] at k
    exact lv_ifnonnullN hx hb hdg k
  · obtain ⟨rfl, rfl⟩ := Prod.mk.inj (Option.some.inj hj)
    have e : 3 = len := hln.resolve_left (by simp [mm_len])
    subst e
    exact lv_ifnonnull hx hb hdg (mm_tgt_spec ht) k
  · -- tableswitch
    split at hj
    · rename_i hc
      obtain ⟨rfl, rfl⟩ := Prod.mk.inj (Option.some.inj hj)
      exact lv_tableOut hx hb hdg hc (mm_tgt_spec ht) k
    · rename_i hc
      split at hj
      · rename_i o2 ho
        obtain ⟨rfl, rfl⟩ := Prod.mk.inj (Option.some.inj hj)
        exact lv_tableIn hx hb hdg (fun q => hc (Or.inl q)) (fun q => hc (Or.inr q)) (by rw [← Array.getElem?_toList]; exact ho) (mm_tgt_spec ht) k
      · cases hj
  · -- lookupswitch
    obtain ⟨rfl, rfl⟩ := Prod.mk.inj (Option.some.inj hj)
    exact lv_lookup hx hb hdg hlk rfl (mm_tgt_spec ht) k
  · cases hj
end
/-! classes and the memory -/
def mm_ty (c k : Nat) : FieldType := match c with
  | 0 => tyX0 k
  | 1 => tyX1 k
  | 2 => tyX2 k
  | 3 => tyX3 k
  | 4 => tyX4 k
  | 5 => tyX5 k
  | 6 => tyX6 k
  | 7 => tyX7 k
  | 8 => tyX8 k
  | 9 => tyX9 k
  | 10 => tyX10 k
  | _ => tyX11 k
def mm_tyc (t : FieldType) : Nat := match t with
  | .int => 0
  | .boolean => 2
  | .object _ => 1
  | .array _ => 1
  | _ => 9
def mm_clsF (c : Nat) : Prop := vwCl[c]? = some (mm_C c, mm_T c, mm_N c) ∧ (∀ w ∈ u_ws (mm_C c) (mm_T c) (mm_N c), w ∈ mm_TB) ∧ (Cond.instantiable (mm_C c) (mm_N c) ∈ mm_TB ∧ Cond.initialized (mm_C c) ∈ mm_TB) ∧
  (∀ k, k < mm_N c → parseFieldDescriptor (mm_T c k).2.2.1 = some (mm_ty c k)) ∧ (∀ a, a < mm_N c → ∀ b, b < mm_N c → a ≠ b → (mm_T c a).2.1 ≠ (mm_T c b).2.1) ∧ (∀ k, k < mm_N c → mm_tyc (mm_ty c k) = mm_ft c k) ∧ (∀ k, k < mm_N c → (mm_T c k).1 = mm_C c)
theorem cq_0 : ∀ k, k < 2 → mm_tyc (tyX0 k) = mm_ft 0 k := by decide +kernel
theorem cq_1 : ∀ k, k < 4 → mm_tyc (tyX1 k) = mm_ft 1 k := by decide +kernel
theorem cq_2 : ∀ k, k < 5 → mm_tyc (tyX2 k) = mm_ft 2 k := by decide +kernel
theorem cq_3 : ∀ k, k < 2 → mm_tyc (tyX3 k) = mm_ft 3 k := by decide +kernel
theorem cq_4 : ∀ k, k < 3 → mm_tyc (tyX4 k) = mm_ft 4 k := by decide +kernel
theorem cq_5 : ∀ k, k < 1 → mm_tyc (tyX5 k) = mm_ft 5 k := by decide +kernel
theorem cq_6 : ∀ k, k < 4 → mm_tyc (tyX6 k) = mm_ft 6 k := by decide +kernel
theorem cq_7 : ∀ k, k < 3 → mm_tyc (tyX7 k) = mm_ft 7 k := by decide +kernel
theorem cq_8 : ∀ k, k < 5 → mm_tyc (tyX8 k) = mm_ft 8 k := by decide +kernel
theorem cq_9 : ∀ k, k < 7 → mm_tyc (tyX9 k) = mm_ft 9 k := by decide +kernel
theorem cq_10 : ∀ k, k < 10 → mm_tyc (tyX10 k) = mm_ft 10 k := by decide +kernel
theorem cq_11 : ∀ k, k < 58 → mm_tyc (tyX11 k) = mm_ft 11 k := by decide +kernel
theorem cd0_ : ∀ k, k < 2 → (TX0 k).1 = RX0 := by decide +kernel
theorem cd1_ : ∀ k, k < 4 → (TX1 k).1 = RX1 := by decide +kernel
theorem cd2_ : ∀ k, k < 5 → (TX2 k).1 = RX2 := by decide +kernel
theorem cd3_ : ∀ k, k < 2 → (TX3 k).1 = RX3 := by decide +kernel
theorem cd4_ : ∀ k, k < 3 → (TX4 k).1 = RX4 := by decide +kernel
theorem cd5_ : ∀ k, k < 1 → (TX5 k).1 = RX5 := by decide +kernel
theorem cd6_ : ∀ k, k < 4 → (TX6 k).1 = RX6 := by decide +kernel
theorem cd7_ : ∀ k, k < 3 → (TX7 k).1 = RX7 := by decide +kernel
theorem cd8_ : ∀ k, k < 5 → (TX8 k).1 = RX8 := by decide +kernel
theorem cd9_ : ∀ k, k < 7 → (TX9 k).1 = RX9 := by decide +kernel
theorem cd10_ : ∀ k, k < 10 → (TX10 k).1 = RX10 := by decide +kernel
theorem cd11_ : ∀ k, k < 58 → (TX11 k).1 = RX11 := by decide +kernel
theorem mm_cls {c : Nat} (h : c < 12) : mm_clsF c := by
  match c, h with
  | 0, _ => exact ⟨rfl, lkx_0, lky_0, tyX0_ok, nmX0, cq_0, cd0_⟩
  | 1, _ => exact ⟨rfl, lkx_1, lky_1, tyX1_ok, nmX1, cq_1, cd1_⟩
  | 2, _ => exact ⟨rfl, lkx_2, lky_2, tyX2_ok, nmX2, cq_2, cd2_⟩
  | 3, _ => exact ⟨rfl, lkx_3, lky_3, tyX3_ok, nmX3, cq_3, cd3_⟩
  | 4, _ => exact ⟨rfl, lkx_4, lky_4, tyX4_ok, nmX4, cq_4, cd4_⟩
  | 5, _ => exact ⟨rfl, lkx_5, lky_5, tyX5_ok, nmX5, cq_5, cd5_⟩
  | 6, _ => exact ⟨rfl, lkx_6, lky_6, tyX6_ok, nmX6, cq_6, cd6_⟩
  | 7, _ => exact ⟨rfl, lkx_7, lky_7, tyX7_ok, nmX7, cq_7, cd7_⟩
  | 8, _ => exact ⟨rfl, lkx_8, lky_8, tyX8_ok, nmX8, cq_8, cd8_⟩
  | 9, _ => exact ⟨rfl, lkx_9, lky_9, tyX9_ok, nmX9, cq_9, cd9_⟩
  | 10, _ => exact ⟨rfl, lkx_10, lky_10, tyX10_ok, nmX10, cq_10, cd10_⟩
  | 11, _ => exact ⟨rfl, lkx_11, lky_11, tyX11_ok, nmX11, cq_11, cd11_⟩
  | n + 12, h => exact absurd h (by omega)
def mm_tys (cI cJ cZ cT : ClassId) : List (ClassId × FieldType) := [(cI, .int), (cJ, .long), (cZ, .boolean), (cT, .object "ChunkLayers$Tape")]
/-- the static row of types -/
def mm_tf (j : Nat) : Int32 := match j with
  | 0 => 110
  | 1 => 115
  | 2 => 114
  | _ => 103
/-- what stands at the start of a method, of the machine's state there -/
def mm_B (sz b t0 Ls : Nat) (xs : Nat → Int32) (D : va_G) (cI cJ cZ cT : ClassId) (s : State) : Prop :=
  va_X b Ls xs s s.heap ∧ b < sz ∧ sz ≤ s.heap.size ∧ va_Z "ChunkLayers" "TYPE_OF_SORT" "[I" (.ref t0) (fun q => sz ≤ q) s s.heap ∧ va_T .int t0 4 (fun j => .int (mm_tf j)) (fun q => sz ≤ q) s s.heap ∧
  va_K D vwCl (mm_tys cI cJ cZ cT) s ∧ (∀ w ∈ mm_nw, va_Nw w s) ∧ va_AO "ChunkLayers$Tape" s
/-- the shapes and the two rows that aren't made -/
def mm_ok (Ls : Nat) (xs : Nat → Int32) (S : mm_S) (I : mm_I) : Prop := S[0]? = some (20, Ls) ∧ S[1]? = some (20, 4) ∧ (∀ j, I 0 j = xs j) ∧ (∀ j, j < 4 → I 1 j = mm_tf j) ∧ ∀ (k : Nat) (q : Nat × Nat), S[k]? = some q → q.1 < 12 ∨ (20 ≤ q.1 ∧ q.1 ≤ 23)
theorem mm_len2 {Ls : Nat} {xs : Nat → Int32} {S : mm_S} {I : mm_I} (h : mm_ok Ls xs S I) : 2 ≤ S.length := (List.getElem?_eq_some_iff.mp h.2.1).1
theorem mm_made {Ls : Nat} {xs : Nat → Int32} {S : mm_S} {I : mm_I} (h : mm_ok Ls xs S I) {a k n : Nat} (ha : S[a]? = some (k, n)) (hk : k ≠ 20) : 2 ≤ a := by
  obtain ⟨h0, h1, -⟩ := h
  match a, ha with
  | 0, ha => rw [h0] at ha; exact absurd (congrArg Prod.fst (Option.some.inj ha)).symm hk
  | 1, ha => rw [h1] at ha; exact absurd (congrArg Prod.fst (Option.some.inj ha)).symm hk
  | a + 2, _ => omega
section
variable {sz b t0 : Nat} {cI cJ cZ cT : ClassId} {S : mm_S} {I I' : mm_I} {L L' : mm_L} {R R' : mm_R}
theorem mm_ent_obj {a c n : Nat} (hc : c < 12) : mm_ent sz b t0 cI cJ cZ cT I L R a (c, n) = .inr (c, (List.range n).map (fun j => if mm_ft c j = 1 then va_rf ((R a j).map (mm_ad sz b t0)) else .int (I a j))) := by
  simp only [mm_ent, if_neg (show ¬ c = 20 by omega), if_neg (show ¬ c = 21 by omega), if_neg (show ¬ c = 22 by omega), if_neg (show ¬ c = 23 by omega)]
theorem mm_ent_20 {a n : Nat} : mm_ent sz b t0 cI cJ cZ cT I L R a (20, n) = .inl (cI, n, .inl (I a)) := rfl
theorem mm_ent_21 {a n : Nat} : mm_ent sz b t0 cI cJ cZ cT I L R a (21, n) = .inl (cJ, n, .inr (.inl (L a))) := rfl
theorem mm_ent_22 {a n : Nat} : mm_ent sz b t0 cI cJ cZ cT I L R a (22, n) = .inl (cZ, n, .inl (I a)) := rfl
theorem mm_ent_23 {a n : Nat} : mm_ent sz b t0 cI cJ cZ cT I L R a (23, n) = .inl (cT, n, .inr (.inr (.inr (.inr (fun j => (R a j).map (mm_ad sz b t0)))))) := rfl
theorem mm_map_set {α : Type} {n j : Nat} {f g : Nat → α} {x : α} (h : ∀ k, k < n → k ≠ j → g k = f k) (hx : g j = x) : ((List.range n).map f).set j x = (List.range n).map g := by
  apply List.ext_getElem?
  intro k
  by_cases hk : k = j
  · subst hk
    by_cases hn : k < n
    · rw [List.getElem?_set_self (by simpa using hn), List.getElem?_map, List.getElem?_range hn]; simp [hx]
    · rw [List.getElem?_eq_none (by simp; omega), List.getElem?_eq_none (by simp; omega)]
  · rw [List.getElem?_set_ne (fun e => hk e.symm), List.getElem?_map, List.getElem?_map]
    by_cases hn : k < n
    · rw [List.getElem?_range hn]; simp [h k hn hk]
    · rw [List.getElem?_eq_none (by simp; omega)]; rfl
end
