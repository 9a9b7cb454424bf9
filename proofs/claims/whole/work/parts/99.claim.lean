set_option maxRecDepth 100000
/-! THE CLAIM OUT OF ONE WALK OF THE LAW'S BODY. Your part is whole_start (and what it stands on); all else here is the same for every law, but numbers. -/
def R_law : String := "ChunkLayersLaw"
def lw_P (b : Addr) (xs : List Int32) (args : Array Value) (s : State) : Prop := args = #[.ref b] ∧ s.IntsAt b xs ∧ xs.length ≤ 3072 ∧ (Jvm.Cond.and given_1 narrow_1).before args s = true
def lw_Q (_ : Array Value) (s : State) (o : Outcome) (t : State) : Prop := o = .returned (some (.int 1)) ∧ Framed s o t [] 600000 7302250
def lw_Z (below : List Frame) (a : Array Value) (s : State) : State → Prop := fun t => ∃ o, t.status = .running ∧ Ended t below o ∧ lw_Q a s o t
/-- the law's own end, with 1 on the stack, nothing written that was there before, its room as the claim has it -/
theorem lw_ret {p : Program} {l : Launch} {e : Env} {s : State} {m : MethodId} {below : List Frame} {meth : Method} {c : Code} {b : Nat} (hx : p.tables.exec = Jvm.exec) (hb : c.code = code) (hr : meth.sig.returnType = ret) (hlocks : meth.locks = false) {pc : Nat} {H : Heap} {ls : Array Slot} (hdg : decode code pc = .ok (.ireturn, 1)) : W p l e room_1 s m #[Value.ref b] below meth c H [] 600000 7302250 (lw_Z below #[Value.ref b] s) (F0 m pc ls [.int 1]) := by
  intro T hT X
  obtain ⟨fs, hret, hrun, hended, hW, hframe⟩ := X.leave (v := some (.int 1)) (hlocks := hlocks) (fun h => by rw [hr] at h; cases h)
  have hmeth' : T.vm.method? m = some meth := X.method'
  refine ⟨T.setFrames fs, ?_, .returned (some (.int 1)), hrun, hended, rfl, ⟨_, rfl⟩, hW, hframe⟩
  jvm_step X.here [X.here.top, hx, hb, hdg, hmeth', hr, ret, narrow_b1]
  (try refine ⟨rfl, ?_⟩); (try refine ⟨rfl, ?_⟩)
  first | (intro acts; rw [hret _ acts rfl rfl rfl]) | rw [hret _ _ rfl rfl rfl]
  exact Steps.refl _
/-- what holds at the law's entry: the machine, the code, the tables' words (any of lw_tbl by 'hts w (by decide +kernel)'), the script of L ints xs at the cell b, what the Statement gives of the start (any of its parts by flat_of_before) -/
def lw_At (p : Program) (s : State) (m : MethodId) (meth : Method) (c : Code) (b L : Nat) (xs : Nat → Int32) : Prop :=
  p.tables.exec = Jvm.exec ∧ c.code = code ∧ meth.sig.returnType = ret ∧ c.maxLocals = 4 ∧ s.vm.findClass R_law = some m.cls ∧ (∀ w ∈ lw_tbl, w.before #[Value.ref b] s = true) ∧ va_X b L xs s s.heap ∧ b < s.heap.size ∧ meth.locks = false ∧ (Jvm.Cond.and given_1 narrow_1).before #[Value.ref b] s = true
-- ===== YOUR PART BEGINS =====
set_option maxHeartbeats 4000000 in
theorem mm_start {p : Program} {e : Env} {s : State} {m : MethodId} {below : List Frame} {meth : Method} {c : Code} (l : Launch) {b L : Nat} {xs : Nat → Int32} (hrun : mm_lawRuns L xs) (C0 : lw_At p s m meth c b L xs) : W p l e room_1 s m #[Value.ref b] below meth c s.heap [] 0 0 (lw_Z below #[Value.ref b] s) (entryFrame m ([Value.ref b] : List Value).toArray 4) := by
  obtain ⟨hx, hb, hr, hml, hown, hts0, hX, hbl, hlocks, hgv⟩ := C0
  have hts : ∀ w ∈ mm_TB, w.before #[Value.ref b] s = true := fun w hw => hts0 w (List.mem_filter.mp hw).1
  obtain ⟨S', I', L', R', hE, hc1, hc2⟩ := hrun
  obtain ⟨n, hn⟩ := E_some.mp hE
  have hs := flat_of_before _ hgv
  have hA : ∀ a : Nat, a < s.heap.size → ¬ s.heap.size ≤ a := fun a h => Nat.not_le.mpr h
  -- the static row of types
  obtain ⟨t0, ht0, hT⟩ := va_Tof (args := #[Value.ref b]) (s := s) (tm := .static "ChunkLayers" "TYPE_OF_SORT" "[I") (ty := .int) (N := 4) (f := fun j => .int (mm_tf j)) (A := fun q => s.heap.size ≤ q) (by decide)
    (hs _ (by decide +kernel)) (va_eqt (z := 4) (hs _ (by decide +kernel)))
    (fun j hj => by
      match j, hj with
      | 0, _ => exact va_eqt (z := 110) (hs (.eq (.elem (.static "ChunkLayers" "TYPE_OF_SORT" "[I") (.int 0)) (.int 110)) (by decide +kernel))
      | 1, _ => exact va_eqt (z := 115) (hs (.eq (.elem (.static "ChunkLayers" "TYPE_OF_SORT" "[I") (.int 1)) (.int 115)) (by decide +kernel))
      | 2, _ => exact va_eqt (z := 114) (hs (.eq (.elem (.static "ChunkLayers" "TYPE_OF_SORT" "[I") (.int 2)) (.int 114)) (by decide +kernel))
      | 3, _ => exact va_eqt (z := 103) (hs (.eq (.elem (.static "ChunkLayers" "TYPE_OF_SORT" "[I") (.int 3)) (.int 103)) (by decide +kernel))
      | j + 4, h => exact absurd h (by omega)) hA
  have hZ := va_Zref (C := "ChunkLayers") (n := "TYPE_OF_SORT") (d := "[I") (A := fun q => s.heap.size ≤ q) (hts0 (.laysStatic "ChunkLayers" "TYPE_OF_SORT" "[I") (by decide +kernel)) (hts _ lky_10.2) ht0 hA
  -- the classes
  obtain ⟨dC, dI, hKc⟩ : ∃ (dC : Nat → ClassId) (dI : Nat → Nat → Nat), ∀ (k : Nat) (q : vw_C), vwCl[k]? = some q → u_Kn s q.1 q.2.1 q.2.2 (dC k) (dI k) := by
    have one : ∀ k : Nat, ∃ (cC : ClassId) (iS : Nat → Nat), ∀ q : vw_C, vwCl[k]? = some q → u_Kn s q.1 q.2.1 q.2.2 cC iS := by
      intro k
      by_cases hk : k < 12
      · obtain ⟨h1, h2, h3, -⟩ := mm_cls hk
        obtain ⟨cC, iS, h⟩ := u_known hts h2 (hts _ h3.1)
        exact ⟨cC, iS, fun q hq => by rw [h1] at hq; obtain rfl := Option.some.inj hq; exact h⟩
      · exact ⟨0, fun _ => 0, fun q hq => by rw [List.getElem?_eq_none (by simp [vwCl]; omega)] at hq; cases hq⟩
    exact ⟨fun k => Classical.choose (one k), fun k => Classical.choose (Classical.choose_spec (one k)), fun k => Classical.choose_spec (Classical.choose_spec (one k))⟩
  -- the rows' classes
  have arr : ∀ ty : FieldType, (Cond.arrayClass ty).before #[Value.ref b] s = true → ∃ cA, ArrOfT s cA ty ∧ s.vm.findClass ("[" ++ ty.toString) = some cA := by
    intro ty h
    obtain ⟨cA, kA, comp, h1, h2, h3⟩ := Cond.arrayClass_spec h
    exact ⟨cA, fun n z => ⟨fun k h => (by cases h), kA, h2, comp, h3⟩, h1⟩
  obtain ⟨cI, aI, fI⟩ := arr .int (hts _ lkz_0)
  obtain ⟨cJ, aJ, fJ⟩ := arr .long (hts _ lkz_1)
  obtain ⟨cZ, aZ, fZ⟩ := arr .boolean (hts _ lkz_3)
  have hAO : va_AO "ChunkLayers$Tape" s := va_AO.of (A := #[Value.ref b]) (hts0 (.arrayOver (.object "ChunkLayers$Tape")) (by decide +kernel))
  obtain ⟨comp, cT, kT, g1, g2, g3, g4, g5⟩ := Cond.arrayOver_spec (show (Cond.arrayOver (.object "ChunkLayers$Tape")).holds #[] s none s [] = true from hAO)
  have hK : va_K (dC, dI) vwCl (mm_tys cI cJ cZ cT) s := by
    refine ⟨hKc, fun k q hk => ?_⟩
    match k, hk with
    | 0, hk => obtain rfl := Option.some.inj hk; exact ⟨aI, fI⟩
    | 1, hk => obtain rfl := Option.some.inj hk; exact ⟨aJ, fJ⟩
    | 2, hk => obtain rfl := Option.some.inj hk; exact ⟨aZ, fZ⟩
    | 3, hk => obtain rfl := Option.some.inj hk; exact ⟨fun n z => ⟨fun k h => (by cases h), kT, g3, comp, g4⟩, kT, comp, g3, g4, g1, g5⟩
    | k + 4, hk => simp [mm_tys] at hk
  have hnw : ∀ w ∈ mm_nw, va_Nw w s := by
    intro w hw
    have h1 := hts0 w (mm_nw_in w hw)
    exact va_Nw.of (mm_nw_on w hw) h1
  have hB : mm_B s.heap.size b t0 L xs (dC, dI) cI cJ cZ cT s := ⟨hX, hbl, Nat.le_refl _, hZ, hT, hK, hnw, hAO⟩
  have hP : va_P (dC, dI) vwCl (mm_ws s.heap.size b t0 cI cJ cZ cT (mm_S0 L) (mm_I0 xs) mm_L0 mm_R0) s.heap := fun k q h => by simp [mm_ws, mm_S0] at h
  rw [lg_entry_eq]
  have hl : mm_lh s.heap.size b t0 (lg_sl ([Value.ref b]) ++ List.replicate (4 - (lg_sl ([Value.ref b])).length) Slot.unset).toArray 4 (mm_entry mm_law [.ref 0]) := mm_entry_lh (k := mm_law) (as := [.ref 0]) rfl (by decide)
  have hres := mm_sim_all l s.heap.size b t0 L xs (dC, dI) cI cJ cZ cT n 600 mm_law 0 _ [] _ _ _ _ _ hn p e room_1 s m #[Value.ref b] below meth c _ s.heap [] 2 (mm_sl (mm_S0 L)) (lw_Z below #[Value.ref b] s)
    hx hb hml hown hts hB (fun h => absurd h (by decide)) (by decide) (by decide) hl (mm_ok0 L xs) hP va_S.rf rfl (by show 2 ≤ 2; omega) (Nat.le_refl _) (by show S'.length - 2 ≤ 600000; omega) (by show mm_sl S' - _ ≤ 7302250; omega)
    (fun H1 locs1 pc1 lsA1 st1 i1 len1 res1 _ hP1 hS1 hf hret => by
      obtain ⟨f1, -, f3, -⟩ := mm_fetch_fact hf
      unfold mm_ret at hret
      split at hret
      · rename_i v
        have e : 1 = len1 := f3.resolve_left (by simp [mm_len])
        subst e
        have hv : v = 1 := by
          split at hret
          · exact Value.int.inj (Option.some.inj (Option.some.inj hret))
          · split at hret
            · exact Value.int.inj (Option.some.inj (Option.some.inj hret))
            · cases hret
        subst hv
        refine va_forget (fun q hq => hS1.2.2 q hq) ?_
        refine W.widen (k := 600000) (n := 7302250) (by show S'.length - 2 ≤ 600000; omega) (by show mm_sl S' - _ ≤ 7302250; omega) ?_
        exact lw_ret hx hb hr hlocks f1
      · split at hret
        · cases hret
        · cases hret
      · split at hret
        · cases hret
        · cases hret
      · split at hret
        · cases hret
        · cases hret
      · split at hret
        · cases hret
        · cases hret
      · cases hret)
  rw [show (mm_S0 L).length - 2 = 0 from rfl, Nat.sub_self] at hres
  exact hres
/-- YOUR PART: from the entry, for every script of at most 3072 ints, the law comes to its end with true ('hflags': the launch's flags, for a law that throws: no stack traces) -/
theorem whole_start {p : Program} {e : Env} {s : State} {m : MethodId} {below : List Frame} {meth : Method} {c : Code} (l : Launch) (hflags : l.flags = flags0) {b L : Nat} {xs : Nat → Int32} (hL : L ≤ 3072) (C0 : lw_At p s m meth c b L xs) : W p l e room_1 s m #[Value.ref b] below meth c s.heap [] 0 0 (lw_Z below #[Value.ref b] s) (entryFrame m ([Value.ref b] : List Value).toArray 4) := by
  exact mm_start l (law_runs hL xs) C0
-- ===== YOUR PART ENDS =====
set_option maxHeartbeats 4000000 in
theorem lw_walk (l : Launch) (hflags : l.flags = flags0) (b : Addr) (xs : List Int32) : MetFree l x (headSpec (Jvm.Cond.code x code maxLocals ret :: tables_1) room_1) (lw_P b xs) (fun _ _ _ _ _ => True) lw_Q := by
  refine MetFree.of_bodyS (code := code) (maxLocals := maxLocals) (ret := ret) (by decide) ?_ ?_
  · intro args s m h hn
    obtain ⟨meth, c, h1, h2, h3, h4, h5, h6, -, -⟩ := Cond.code_spec hn (atoms_spec (ws := Jvm.Cond.code x code maxLocals ret :: tables_1) h _ List.mem_cons_self)
    exact ⟨meth, c, h1, h2, h3, h4, h5, h6⟩
  · intro p e s m args below meth c s₁ B hml0 hP _
    obtain ⟨rfl, hx, hbd, hgv⟩ := hP
    obtain ⟨scr, harrAt, hlist, hof, hsmall⟩ := hx
    obtain ⟨hcb, hkn, -, -⟩ := State.arrayAt?_spec harrAt
    have hown : s.vm.findClass R_law = some m.cls := findClass_of_methodNamed B.named
    have hts0 : ∀ c ∈ (Jvm.Cond.code x code maxLocals ret :: tables_1), c.before #[Value.ref b] s = true := atoms_spec (ws := Jvm.Cond.code x code maxLocals ret :: tables_1) B.pre
    have hts : ∀ w ∈ lw_tbl, w.before #[Value.ref b] s = true := k2_hts_sels lw_privs (fun w hw => hts0 w (List.mem_cons_of_mem _ hw)) lw_privs_ok
    have hml : c.maxLocals = 4 := B.maxLocals_eq (hts0 _ List.mem_cons_self)
    have X₀ : Stand p l e room_1 s m #[Value.ref b] below meth c s₁ [] 0 0 := Stand.of_body B
    have hh0 : s₁.heap = s.heap := by rw [B.state]; rfl
    have hsz : scr.slots.size = xs.length := by rw [← Array.length_toList, hlist, List.length_map]
    have hval : ∀ j : Nat, j < xs.length → scr.slots[j]? = some (.int (xs.getD j 0)) := fun j hj => by
      rw [← Array.getElem?_toList, hlist]
      simp [hj]
    have hbl : b < s.heap.size := (Array.getElem?_eq_some_iff.mp hcb).1
    have hX : va_X b xs.length (fun j => xs.getD j 0) s s.heap := ⟨scr, hcb, hof, hkn, hsz, hval⟩
    have K : W p l e room_1 s m #[Value.ref b] below meth c s₁.heap [] 0 0 (lw_Z below #[Value.ref b] s) (entryFrame m ([Value.ref b] : List Value).toArray 4) := by
      rw [hh0]
      exact whole_start l hflags hbd ⟨B.exec, B.bytes, B.returns, hml, hown, hts, hX, hbl, B.notSynchronized, hgv⟩
    obtain ⟨t, a1, o, b1, b2, b3⟩ := K s₁ rfl X₀
    exact ⟨t, o, a1, b1, b2, b3⟩
theorem lw_pre_spec {args : Array Value} {s : State} (h : (Jvm.Cond.and given_1 narrow_1).before args s = true) (hr : rest_1_c.before args s = true) : ∃ (b : Addr) (xs : List Int32), lw_P b xs args s := by
  have hs := flat_of_before _ h
  have hq := flat_of_before _ hr
  have hc : (Cond.count 1).before args s = true := hs _ (by decide +kernel)
  have harr : (Cond.arrayOf (.arg 0) .int).before args s = true := hs _ (by decide +kernel)
  have hle : (Cond.le (.length (.arg 0)) (.int 3072)).before args s = true := hs _ (by decide +kernel)
  have hlen : (Cond.isInt (.length (.arg 0))).before args s = true := hq _ (by decide +kernel)
  have hall : (Cond.all (.arg 0) (.isInt (.elem (.arg 0) (.index 0)))).before args s = true := hq _ (by decide +kernel)
  obtain ⟨b, xs, hb, hx⟩ := State.ints_of_pre rfl harr hlen hall
  have hsm : xs.length < 2 ^ 31 := hx.choose_spec.2.2.2
  have hev : (Term.length (.arg 0)).eval args s none [] s = some (.int xs.length.toInt32) := hx.length_eval hb
  have hv := Cond.le_ints hev (show (Term.int 3072).eval args s none [] s = some (.int 3072) from rfl)
  have hd : xs.length.toInt32 ≤ 3072 := by
    simpa [Cond.before, Cond.holds, hv] using hle
  have hN : xs.length ≤ 3072 := (Int32.ofNat_le_ofNat hsm (by decide)).mp (show Int32.ofNat xs.length ≤ Int32.ofNat 3072 from hd)
  exact ⟨b, xs, Cond.one_arg hc (show args[0]? = some (.ref b) from hb), hx, hN, h⟩
theorem lw_comes (l : Launch) (hflags : l.flags = flags0) : Comes l x (Jvm.Cond.code x code maxLocals ret :: tables_1) room_1 (fun tb e args s => Calls_1 tb e args s ∧ rest_1 tb e args s ∧ Pre_1 tb e args s)
    (fun _ _ args s o t => lw_Q args s o t) := by
  intro p e ha hc hk s m args below hf hfit hheap happ hpre
  obtain ⟨b, xs, hP⟩ := lw_pre_spec hpre.2.2 hpre.2.1
  obtain ⟨k, o, h1, h2, h3, hQ⟩ := lw_walk l hflags b xs p e ha hc hk s m args below hf ((Spec.applies_iff_loose hf).mp happ).1 hP trivial
  exact ⟨k, o, h1, h2, h3, hQ⟩
theorem lw_frame {s t : State} {o : Outcome} {args : Array Value} (h : Framed s o t [] 600000 7302250) :
    Framed s o t (fieldLocs frame_1_writes args s ++ arrayLocs frame_1_arrays args s ++ staticLocs frame_1_statics s) 600000 7302250 := h
theorem lw_limb (L : Cond) (hL : ∀ (args : Array Value) (s t : State), L.after args s (.returned (some (.int 1))) t = true) :
    ArmFor flags0 classFile x code maxLocals ret World_1 tables_1 room_1 Calls_1 rest_1 Pre_1
      (fun tb e a s o t => postC L tb e a s o t ∧ Framed s o t (fieldLocs frame_1_writes a s ++ arrayLocs frame_1_arrays a s ++ staticLocs frame_1_statics s) 600000 7302250) := by
  intro l hflags _ _ p e ha hc hk s m args below hf hfit hheap happ hpre
  obtain ⟨k, o, h1, h2, h3, rfl, hF⟩ := lw_comes l hflags p e ha hc hk s m args below hf hfit hheap happ hpre
  exact ⟨k, _, h1, h2, h3, hL args s _, lw_frame hF⟩
theorem i_vc : Claimed_1_1 ∧ Claimed_1_2 := ⟨lw_limb limb_1_1 (fun args s t => by simp [limb_1_1, Cond.after, Cond.holds, Cond.value]), lw_limb limb_1_2 (fun args s t => Cond.after_iff.mpr (by
  first | (rw [show limb_1_2 = Cond.eq .result (.int 1) from rfl, Cond.eq_ints (x := 1) (y := 1) rfl rfl]; simp; done) | (simp [limb_1_2, Cond.value, Term.eval]; done)))⟩
