set_option maxRecDepth 100000
def mm_sl (S : mm_S) : Nat := (S.map fun q => q.2).sum
theorem mm_sl_push (S : mm_S) (q : Nat × Nat) : mm_sl (S ++ [q]) = mm_sl S + q.2 := by simp [mm_sl]
theorem mm_nonneg {x : Int32} (h : 0 ≤ x.toInt) : ¬ x < 0 := by
  rw [Int32.lt_iff_toInt_lt, Int32.toInt_zero]; omega
theorem mm_vin {x : Int32} {n : Nat} (h0 : 0 ≤ x.toInt) (h : x.toInt < n) : vp_in x n := by
  rintro (q | q)
  · exact mm_nonneg h0 q
  · have : n ≤ x.toInt.toNat := q
    omega
section
variable {p : Program} {l : Launch} {e : Env} {Rm : Room} {s : State} {mid : MethodId} {args : Array Value} {below : List Frame} {meth : Method} {c : Code} {H : Heap} {locs : List Loc} {cells slots : Nat} {Q : State → Prop}
variable {sz b t0 Ls : Nat} {xs : Nat → Int32} {D : va_G} {cI cJ cZ cT : ClassId} {S S' : mm_S} {I I' : mm_I} {L L' : mm_L} {R R' : mm_R}
variable {pc len m : Nat} {lsA : Array Slot} {ls : mm_ls} {rest : List Value} {i : Instr} {res : Int}
theorem mm_Wsz {g : JFrame} (k : H.size ≤ s.heap.size + cells → W p l e Rm s mid args below meth c H locs cells slots Q g) : W p l e Rm s mid args below meth c H locs cells slots Q g := fun T hT X => k (by rw [← hT]; exact X.heapSize) T hT X
theorem mm_sim_getf (hx : p.tables.exec = Jvm.exec) (hb : c.code = mm_b m) (hown : s.vm.findClass (mm_y m).cls = some mid.cls) (hts : ∀ w ∈ mm_TB, w.before args s = true) (hB : mm_B sz b t0 Ls xs D cI cJ cZ cT s)
    {a cl j idx : Nat} (hlk : mm_lkF (mm_y m).cls idx cl j) (hok : mm_ok Ls xs S I) (hP : va_P D vwCl (mm_ws sz b t0 cI cJ cZ cT S I L R) H) (hSa : S[a]? = some (cl, mm_N cl)) (hdg : decode (mm_b m) pc = .ok (.getfield idx, 3))
    (k : W p l e Rm s mid args below meth c H locs cells slots Q (F0 mid (pc + 3) lsA (mm_tr sz b t0 (if mm_ft cl j = 1 then va_rf (R a j) else .int (I a j)) :: rest))) : W p l e Rm s mid args below meth c H locs cells slots Q (F0 mid pc lsA (.ref (mm_ad sz b t0 a) :: rest)) := by
  obtain ⟨hj, hc12, hl⟩ := hlk
  have ha2 := mm_made hok hSa (by omega)
  obtain ⟨h1, h2, -⟩ := mm_cls hc12
  have he := mm_ws_get (sz := sz) (b := b) (t0 := t0) (cI := cI) (cJ := cJ) (cZ := cZ) (cT := cT) (I := I) (L := L) (R := R) hSa ha2
  rw [mm_ent_obj hc12] at he
  have hv : ((List.range (mm_N cl)).map (fun j => if mm_ft cl j = 1 then va_rf ((R a j).map (mm_ad sz b t0)) else .int (I a j)))[j]? = some (mm_tr sz b t0 (if mm_ft cl j = 1 then va_rf (R a j) else .int (I a j))) := by
    rw [List.getElem?_map, List.getElem?_range hj]
    simp only [Option.map_some]
    split
    · rw [mm_tr_rf]
    · rfl
  rcases hl with hl | hl
  · exact va_get hx hb hts h2 hown hB.2.2.2.2.2.1 hP (a - 2) he h1 j hj (hts _ hl) (fun _ h => h) hv hdg k
  · exact va_getN hx hb hts h2 hown hB.2.2.2.2.2.1 hP (a - 2) he h1 j hj (va_Nw.use rfl (hB.2.2.2.2.2.2.1 _ hl)) (fun _ h => h) hv hdg k
/-- a field written: the new value as the machine has it, the new entry -/
theorem mm_sim_putf (hx : p.tables.exec = Jvm.exec) (hb : c.code = mm_b m) (hown : s.vm.findClass (mm_y m).cls = some mid.cls) (hts : ∀ w ∈ mm_TB, w.before args s = true) (hB : mm_B sz b t0 Ls xs D cI cJ cZ cT s)
    (hini : mm_kd m = 2 → meth.name = "<init>" ∧ mm_C (mm_ci m) = (mm_y m).cls)
    {a cl j idx : Nat} (hj : j < mm_N cl) (hc12 : cl < 12) (hl : Cond.fieldLink (mm_y m).cls idx (mm_T cl j).1 (mm_T cl j).2.1 (mm_T cl j).2.2.1 ∈ mm_TB) (hok : mm_ok Ls xs S I) (hP : va_P D vwCl (mm_ws sz b t0 cI cJ cZ cT S I L R) H) (hS : va_S (fun q => sz ≤ q) s.heap H locs) (hSa : S[a]? = some (cl, mm_N cl))
    (hfin : mm_fin cl j = false ∨ (mm_kd m = 2 ∧ mm_ci m = cl)) {v : Value} (hn : narrow (mm_ty cl j) v = v) (hfit : fits (mm_ty cl j) v = true) (hnew : (if mm_ft cl j = 1 then va_rf ((R' a j).map (mm_ad sz b t0)) else .int (I' a j)) = v)
    (hsame : ∀ k, k ≠ j → I' a k = I a k ∧ R' a k = R a k) (hoth : ∀ k, k ≠ a → I' k = I k ∧ L' k = L k ∧ R' k = R k) (hdg : decode (mm_b m) pc = .ok (.putfield idx, 3))
    (k : ∀ (H1 : Heap) (locs1 : List Loc), va_P D vwCl (mm_ws sz b t0 cI cJ cZ cT S I' L' R') H1 → va_S (fun q => sz ≤ q) s.heap H1 locs1 → W p l e Rm s mid args below meth c H1 locs1 cells slots Q (F0 mid (pc + 3) lsA rest)) : W p l e Rm s mid args below meth c H locs cells slots Q (F0 mid pc lsA (v :: .ref (mm_ad sz b t0 a) :: rest)) := by
  have ha2 := mm_made hok hSa (by omega)
  obtain ⟨h1, h2, -, h4, h5, h6, h7⟩ := mm_cls hc12
  have he := mm_ws_get (sz := sz) (b := b) (t0 := t0) (cI := cI) (cJ := cJ) (cZ := cZ) (cT := cT) (I := I) (L := L) (R := R) hSa ha2
  rw [mm_ent_obj hc12] at he
  have hset : (mm_ws sz b t0 cI cJ cZ cT S I L R).set (a - 2) (mm_ad sz b t0 a, .inr (cl, ((List.range (mm_N cl)).map (fun j => if mm_ft cl j = 1 then va_rf ((R a j).map (mm_ad sz b t0)) else .int (I a j))).set j v)) = mm_ws sz b t0 cI cJ cZ cT S I' L' R' := by
    rw [← mm_ws_set (I := I) (L := L) (R := R) hSa ha2 (fun k q hk => mm_ent_ne hk (hoth k hk).1 (hoth k hk).2.1 (hoth k hk).2.2), mm_ent_obj hc12]
    rw [mm_map_set (g := fun j => if mm_ft cl j = 1 then va_rf ((R' a j).map (mm_ad sz b t0)) else .int (I' a j)) (fun k _ hk => by simp only [(hsame k hk).1, (hsame k hk).2]) hnew]
  have hlen : j < ((List.range (mm_N cl)).map (fun j => if mm_ft cl j = 1 then va_rf ((R a j).map (mm_ad sz b t0)) else .int (I a j))).length := by simpa using hj
  have hfe : mm_fin cl j = (mm_T cl j).2.2.2 := by unfold mm_fin mm_T; rw [h1]
  cases hf : (mm_T cl j).2.2.2 with
  | false =>
    exact va_put hx hb hts h2 (mm_ty cl) h4 h5 hown hB.2.2.2.2.2.1 hP mm_ws_D hS (a - 2) he h1 j hj (hts _ hl) (fun _ h => h) hf (h4 j hj) hn hfit hlen hdg (fun H1 locs1 hP1 _ hS1 => k H1 locs1 (by rw [hset] at hP1; exact hP1) hS1)
  | true =>
    rw [hfe, hf] at hfin
    obtain ⟨q1, q2⟩ := hfin.resolve_left (by decide)
    obtain ⟨q3, q4⟩ := hini q1
    exact va_putF hx hb hts h2 (mm_ty cl) h4 h5 hown hB.2.2.2.2.2.1 hP mm_ws_D hS (a - 2) he h1 j hj (hts _ hl) (fun _ h => h) hf q3 (by rw [h7 j hj, ← q4, q2]) (h4 j hj) hn hfit hlen hdg (fun H1 locs1 hP1 _ hS1 => k H1 locs1 (by rw [hset] at hP1; exact hP1) hS1)
theorem mm_sim_iald (hx : p.tables.exec = Jvm.exec) (hb : c.code = mm_b m) (hB : mm_B sz b t0 Ls xs D cI cJ cZ cT s) (hok : mm_ok Ls xs S I) (hP : va_P D vwCl (mm_ws sz b t0 cI cJ cZ cT S I L R) H) (hS : va_S (fun q => sz ≤ q) s.heap H locs)
    {a n : Nat} {x : Int32} (hSa : S[a]? = some (20, n)) (h0 : 0 ≤ x.toInt) (hn : x.toInt < n) (hdg : decode (mm_b m) pc = .ok (.iaload, 1))
    (k : W p l e Rm s mid args below meth c H locs cells slots Q (F0 mid (pc + 1) lsA (.int (I a x.toInt.toNat) :: rest))) : W p l e Rm s mid args below meth c H locs cells slots Q (F0 mid pc lsA (.int x :: .ref (mm_ad sz b t0 a) :: rest)) := by
  obtain ⟨g0, g1, g2, g3, -⟩ := hok
  obtain ⟨hX, hbz, hsz, hZ, hT, hK, -⟩ := hB
  match a, hSa, k with
  | 0, hSa, k =>
    rw [g0] at hSa
    have e : Ls = n := congrArg Prod.snd (Option.some.inj hSa)
    subst e
    rw [g2] at k
    exact va_sld hx hb hX (Nat.lt_of_lt_of_le hbz hsz) (Nat.not_le.mpr hbz) hS (mm_vin h0 hn) hdg k
  | 1, hSa, k =>
    rw [g1] at hSa
    have e : 4 = n := congrArg Prod.snd (Option.some.inj hSa)
    subst e
    rw [g3 _ (by omega)] at k
    exact va_ti hx hb hT hS (mm_vin h0 hn) rfl hdg k
  | a + 2, hSa, k =>
    have he := mm_ws_get (sz := sz) (b := b) (t0 := t0) (cI := cI) (cJ := cJ) (cZ := cZ) (cT := cT) (I := I) (L := L) (R := R) hSa (by omega)
    rw [mm_ent_20] at he
    exact va_iald hx hb hK hP (a + 2 - 2) 0 he rfl (mm_vin h0 hn) hdg k
theorem mm_sim_bald (hx : p.tables.exec = Jvm.exec) (hb : c.code = mm_b m) (hB : mm_B sz b t0 Ls xs D cI cJ cZ cT s) (hok : mm_ok Ls xs S I) (hP : va_P D vwCl (mm_ws sz b t0 cI cJ cZ cT S I L R) H)
    {a n : Nat} {x : Int32} (hSa : S[a]? = some (22, n)) (h0 : 0 ≤ x.toInt) (hn : x.toInt < n) (hdg : decode (mm_b m) pc = .ok (.baload, 1))
    (k : W p l e Rm s mid args below meth c H locs cells slots Q (F0 mid (pc + 1) lsA (.int (I a x.toInt.toNat) :: rest))) : W p l e Rm s mid args below meth c H locs cells slots Q (F0 mid pc lsA (.int x :: .ref (mm_ad sz b t0 a) :: rest)) := by
  have he := mm_ws_get (sz := sz) (b := b) (t0 := t0) (cI := cI) (cJ := cJ) (cZ := cZ) (cT := cT) (I := I) (L := L) (R := R) hSa (mm_made hok hSa (by decide))
  rw [mm_ent_22] at he
  exact va_zald hx hb hB.2.2.2.2.2.1 hP (a - 2) 2 he rfl (mm_vin h0 hn) hdg k
theorem mm_sim_lald (hx : p.tables.exec = Jvm.exec) (hb : c.code = mm_b m) (hB : mm_B sz b t0 Ls xs D cI cJ cZ cT s) (hok : mm_ok Ls xs S I) (hP : va_P D vwCl (mm_ws sz b t0 cI cJ cZ cT S I L R) H)
    {a n : Nat} {x : Int32} (hSa : S[a]? = some (21, n)) (h0 : 0 ≤ x.toInt) (hn : x.toInt < n) (hdg : decode (mm_b m) pc = .ok (.laload, 1))
    (k : W p l e Rm s mid args below meth c H locs cells slots Q (F0 mid (pc + 1) lsA (.long (L a x.toInt.toNat) :: rest))) : W p l e Rm s mid args below meth c H locs cells slots Q (F0 mid pc lsA (.int x :: .ref (mm_ad sz b t0 a) :: rest)) := by
  have he := mm_ws_get (sz := sz) (b := b) (t0 := t0) (cI := cI) (cJ := cJ) (cZ := cZ) (cT := cT) (I := I) (L := L) (R := R) hSa (mm_made hok hSa (by decide))
  rw [mm_ent_21] at he
  exact va_lald hx hb hB.2.2.2.2.2.1 hP (a - 2) 1 he rfl (mm_vin h0 hn) hdg k
theorem mm_sim_aald (hx : p.tables.exec = Jvm.exec) (hb : c.code = mm_b m) (hB : mm_B sz b t0 Ls xs D cI cJ cZ cT s) (hok : mm_ok Ls xs S I) (hP : va_P D vwCl (mm_ws sz b t0 cI cJ cZ cT S I L R) H)
    {a n : Nat} {x : Int32} (hSa : S[a]? = some (23, n)) (h0 : 0 ≤ x.toInt) (hn : x.toInt < n) (hdg : decode (mm_b m) pc = .ok (.aaload, 1))
    (k : W p l e Rm s mid args below meth c H locs cells slots Q (F0 mid (pc + 1) lsA (mm_tr sz b t0 (va_rf (R a x.toInt.toNat)) :: rest))) : W p l e Rm s mid args below meth c H locs cells slots Q (F0 mid pc lsA (.int x :: .ref (mm_ad sz b t0 a) :: rest)) := by
  have he := mm_ws_get (sz := sz) (b := b) (t0 := t0) (cI := cI) (cJ := cJ) (cZ := cZ) (cT := cT) (I := I) (L := L) (R := R) hSa (mm_made hok hSa (by decide))
  rw [mm_ent_23] at he
  rw [mm_tr_rf] at k
  exact va_aldq hx hb hB.2.2.2.2.2.1 hP (a - 2) 3 he rfl (mm_vin h0 hn) hdg k
theorem mm_sim_iast (hx : p.tables.exec = Jvm.exec) (hb : c.code = mm_b m) (hB : mm_B sz b t0 Ls xs D cI cJ cZ cT s) (hP : va_P D vwCl (mm_ws sz b t0 cI cJ cZ cT S I L R) H) (hS : va_S (fun q => sz ≤ q) s.heap H locs)
    {a n : Nat} {x v : Int32} (hSa : S[a]? = some (20, n)) (ha2 : 2 ≤ a) (h0 : 0 ≤ x.toInt) (hn : x.toInt < n) (hdg : decode (mm_b m) pc = .ok (.iastore, 1))
    (k : ∀ (H1 : Heap) (locs1 : List Loc), va_P D vwCl (mm_ws sz b t0 cI cJ cZ cT S (mm_up I a x.toInt.toNat v) L R) H1 → va_S (fun q => sz ≤ q) s.heap H1 locs1 → W p l e Rm s mid args below meth c H1 locs1 cells slots Q (F0 mid (pc + 1) lsA rest)) : W p l e Rm s mid args below meth c H locs cells slots Q (F0 mid pc lsA (.int v :: .int x :: .ref (mm_ad sz b t0 a) :: rest)) := by
  have he := mm_ws_get (sz := sz) (b := b) (t0 := t0) (cI := cI) (cJ := cJ) (cZ := cZ) (cT := cT) (I := I) (L := L) (R := R) hSa ha2
  rw [mm_ent_20] at he
  refine va_iast hx hb hB.2.2.2.2.2.1 hP mm_ws_D hS (a - 2) 0 he rfl (mm_vin h0 hn) hdg (fun H1 locs1 hP1 _ hS1 => k H1 locs1 ?_ hS1)
  have h3 := mm_ws_set (sz := sz) (b := b) (t0 := t0) (cI := cI) (cJ := cJ) (cZ := cZ) (cT := cT) (I := I) (L := L) (R := R) (I' := mm_up I a x.toInt.toNat v) (L' := L) (R' := R) hSa ha2 (fun k q hk => mm_ent_ne hk (mm_up_ne hk) rfl rfl)
  rw [mm_ent_20, mm_up_eq] at h3
  rw [← h3]
  exact hP1
theorem mm_sim_bast (hx : p.tables.exec = Jvm.exec) (hb : c.code = mm_b m) (hB : mm_B sz b t0 Ls xs D cI cJ cZ cT s) (hP : va_P D vwCl (mm_ws sz b t0 cI cJ cZ cT S I L R) H) (hS : va_S (fun q => sz ≤ q) s.heap H locs)
    {a n : Nat} {x v : Int32} (hSa : S[a]? = some (22, n)) (ha2 : 2 ≤ a) (hv : v = 0 ∨ v = 1) (h0 : 0 ≤ x.toInt) (hn : x.toInt < n) (hdg : decode (mm_b m) pc = .ok (.bastore, 1))
    (k : ∀ (H1 : Heap) (locs1 : List Loc), va_P D vwCl (mm_ws sz b t0 cI cJ cZ cT S (mm_up I a x.toInt.toNat v) L R) H1 → va_S (fun q => sz ≤ q) s.heap H1 locs1 → W p l e Rm s mid args below meth c H1 locs1 cells slots Q (F0 mid (pc + 1) lsA rest)) : W p l e Rm s mid args below meth c H locs cells slots Q (F0 mid pc lsA (.int v :: .int x :: .ref (mm_ad sz b t0 a) :: rest)) := by
  have he := mm_ws_get (sz := sz) (b := b) (t0 := t0) (cI := cI) (cJ := cJ) (cZ := cZ) (cT := cT) (I := I) (L := L) (R := R) hSa ha2
  rw [mm_ent_22] at he
  have hnar : vp_nar .boolean v = v := by rcases hv with rfl | rfl <;> rfl
  refine va_zast hx hb hB.2.2.2.2.2.1 hP mm_ws_D hS (a - 2) 2 he rfl (mm_vin h0 hn) hdg (fun H1 locs1 hP1 _ hS1 => k H1 locs1 ?_ hS1)
  have h3 := mm_ws_set (sz := sz) (b := b) (t0 := t0) (cI := cI) (cJ := cJ) (cZ := cZ) (cT := cT) (I := I) (L := L) (R := R) (I' := mm_up I a x.toInt.toNat v) (L' := L) (R' := R) hSa ha2 (fun k q hk => mm_ent_ne hk (mm_up_ne hk) rfl rfl)
  rw [mm_ent_22, mm_up_eq] at h3
  rw [← h3]
  rw [hnar] at hP1
  exact hP1
theorem mm_sim_last (hx : p.tables.exec = Jvm.exec) (hb : c.code = mm_b m) (hB : mm_B sz b t0 Ls xs D cI cJ cZ cT s) (hP : va_P D vwCl (mm_ws sz b t0 cI cJ cZ cT S I L R) H) (hS : va_S (fun q => sz ≤ q) s.heap H locs)
    {a n : Nat} {x : Int32} {v : Int64} (hSa : S[a]? = some (21, n)) (ha2 : 2 ≤ a) (h0 : 0 ≤ x.toInt) (hn : x.toInt < n) (hdg : decode (mm_b m) pc = .ok (.lastore, 1))
    (k : ∀ (H1 : Heap) (locs1 : List Loc), va_P D vwCl (mm_ws sz b t0 cI cJ cZ cT S I (mm_up L a x.toInt.toNat v) R) H1 → va_S (fun q => sz ≤ q) s.heap H1 locs1 → W p l e Rm s mid args below meth c H1 locs1 cells slots Q (F0 mid (pc + 1) lsA rest)) : W p l e Rm s mid args below meth c H locs cells slots Q (F0 mid pc lsA (.long v :: .int x :: .ref (mm_ad sz b t0 a) :: rest)) := by
  have he := mm_ws_get (sz := sz) (b := b) (t0 := t0) (cI := cI) (cJ := cJ) (cZ := cZ) (cT := cT) (I := I) (L := L) (R := R) hSa ha2
  rw [mm_ent_21] at he
  refine va_last hx hb hB.2.2.2.2.2.1 hP mm_ws_D hS (a - 2) 1 he rfl (mm_vin h0 hn) hdg (fun H1 locs1 hP1 _ hS1 => k H1 locs1 ?_ hS1)
  have h3 := mm_ws_set (sz := sz) (b := b) (t0 := t0) (cI := cI) (cJ := cJ) (cZ := cZ) (cT := cT) (I := I) (L := L) (R := R) (I' := I) (L' := mm_up L a x.toInt.toNat v) (R' := R) hSa ha2 (fun k q hk => mm_ent_ne hk rfl (mm_up_ne hk) rfl)
  rw [mm_ent_21, mm_up_eq] at h3
  rw [← h3]
  exact hP1
theorem mm_sim_aast (hx : p.tables.exec = Jvm.exec) (hb : c.code = mm_b m) (hB : mm_B sz b t0 Ls xs D cI cJ cZ cT s) (hok : mm_ok Ls xs S I) (hP : va_P D vwCl (mm_ws sz b t0 cI cJ cZ cT S I L R) H) (hS : va_S (fun q => sz ≤ q) s.heap H locs)
    {a n q : Nat} {x : Int32} (hSa : S[a]? = some (23, n)) (hSq : S[q]? = some (7, mm_N 7)) (h0 : 0 ≤ x.toInt) (hn : x.toInt < n) (hdg : decode (mm_b m) pc = .ok (.aastore, 1))
    (k : ∀ (H1 : Heap) (locs1 : List Loc), va_P D vwCl (mm_ws sz b t0 cI cJ cZ cT S I L (mm_up R a x.toInt.toNat (some q))) H1 → va_S (fun q => sz ≤ q) s.heap H1 locs1 → W p l e Rm s mid args below meth c H1 locs1 cells slots Q (F0 mid (pc + 1) lsA rest)) : W p l e Rm s mid args below meth c H locs cells slots Q (F0 mid pc lsA (.ref (mm_ad sz b t0 q) :: .int x :: .ref (mm_ad sz b t0 a) :: rest)) := by
  have ha2 := mm_made hok hSa (by decide)
  have hq2 := mm_made hok hSq (by decide)
  have he := mm_ws_get (sz := sz) (b := b) (t0 := t0) (cI := cI) (cJ := cJ) (cZ := cZ) (cT := cT) (I := I) (L := L) (R := R) hSa ha2
  have hq := mm_ws_get (sz := sz) (b := b) (t0 := t0) (cI := cI) (cJ := cJ) (cZ := cZ) (cT := cT) (I := I) (L := L) (R := R) hSq hq2
  rw [mm_ent_23] at he
  rw [mm_ent_obj (by decide)] at hq
  refine va_astq (r := (RX7, TX7, 3)) hx hb hB.2.2.2.2.2.1 hP mm_ws_D hS (a - 2) 3 (q - 2) 7 he rfl hq rfl (mm_vin h0 hn) hdg (fun H1 locs1 hP1 _ hS1 => k H1 locs1 ?_ hS1)
  have h3 := mm_ws_set (sz := sz) (b := b) (t0 := t0) (cI := cI) (cJ := cJ) (cZ := cZ) (cT := cT) (I := I) (L := L) (R := R) (I' := I) (L' := L) (R' := mm_up R a x.toInt.toNat (some q)) hSa ha2 (fun k q hk => mm_ent_ne hk rfl rfl (mm_up_ne hk))
  rw [mm_ent_23] at h3
  rw [← h3]
  have e : ∀ i : Nat, (fun j => (mm_up R a i (some q) a j).map (mm_ad sz b t0)) = va_up (fun j => (R a j).map (mm_ad sz b t0)) i (some (mm_ad sz b t0 q)) := by
    intro i
    funext j
    by_cases hj : j = i <;> simp [mm_up, va_up, hj]
  rw [e]
  exact hP1
theorem mm_sim_alen (hx : p.tables.exec = Jvm.exec) (hb : c.code = mm_b m) (hB : mm_B sz b t0 Ls xs D cI cJ cZ cT s) (hok : mm_ok Ls xs S I) (hP : va_P D vwCl (mm_ws sz b t0 cI cJ cZ cT S I L R) H) (hS : va_S (fun q => sz ≤ q) s.heap H locs)
    {a n kd : Nat} (hSa : S[a]? = some (kd, n)) (h1 : 20 ≤ kd) (h2 : kd ≤ 23) (hdg : decode (mm_b m) pc = .ok (.arraylength, 1))
    (k : W p l e Rm s mid args below meth c H locs cells slots Q (F0 mid (pc + 1) lsA (.int (Int32.ofNat n) :: rest))) : W p l e Rm s mid args below meth c H locs cells slots Q (F0 mid pc lsA (.ref (mm_ad sz b t0 a) :: rest)) := by
  obtain ⟨g0, g1, g2, g3, -⟩ := hok
  obtain ⟨hX, hbz, hsz, hZ, hT, hK, -⟩ := hB
  match a, hSa with
  | 0, hSa =>
    rw [g0] at hSa
    have e : Ls = n := congrArg Prod.snd (Option.some.inj hSa)
    subst e
    exact va_slen hx hb hX (Nat.lt_of_lt_of_le hbz hsz) (Nat.not_le.mpr hbz) hS hdg k
  | 1, hSa =>
    rw [g1] at hSa
    have e : 4 = n := congrArg Prod.snd (Option.some.inj hSa)
    subst e
    exact va_tlen hx hb hT hS rfl hdg k
  | a + 2, hSa =>
    have he := mm_ws_get (sz := sz) (b := b) (t0 := t0) (cI := cI) (cJ := cJ) (cZ := cZ) (cT := cT) (I := I) (L := L) (R := R) hSa (by omega)
    rcases (show kd = 20 ∨ kd = 21 ∨ kd = 22 ∨ kd = 23 by omega) with rfl | rfl | rfl | rfl
    · rw [mm_ent_20] at he; exact va_alen hx hb hK hP (a + 2 - 2) 0 he rfl rfl hdg k
    · rw [mm_ent_21] at he; exact va_alen hx hb hK hP (a + 2 - 2) 1 he rfl rfl hdg k
    · rw [mm_ent_22] at he; exact va_alen hx hb hK hP (a + 2 - 2) 2 he rfl rfl hdg k
    · rw [mm_ent_23] at he; exact va_alen hx hb hK hP (a + 2 - 2) 3 he rfl rfl hdg k
end
theorem mm_ft_le : ∀ c, c < 12 → ∀ k, k < mm_N c → mm_ft c k ≤ 2 := by decide +kernel
theorem mm_dv {t : FieldType} (h : mm_tyc t ≤ 2) : defaultValue t = if mm_tyc t = 1 then .null else .int 0 := by
  cases t <;> first | rfl | (simp [mm_tyc] at h)
theorem mm_cats_tr (sz b t0 : Nat) (r : List Value) : ((r.map (mm_tr sz b t0)).map fun v => v.category).sum = (r.map fun v => v.category).sum := by
  rw [List.map_map]
  congr 1
  apply List.map_congr_left
  intro v _
  exact mm_tr_cat sz b t0 v
section
variable {p : Program} {l : Launch} {e : Env} {Rm : Room} {s : State} {mid : MethodId} {args : Array Value} {below : List Frame} {meth : Method} {c : Code} {H : Heap} {locs : List Loc} {cells slots : Nat} {Q : State → Prop}
variable {sz b t0 Ls : Nat} {xs : Nat → Int32} {D : va_G} {cI cJ cZ cT : ClassId} {S S' : mm_S} {I I' : mm_I} {L L' : mm_L} {R R' : mm_R}
variable {pc len m : Nat} {lsA : Array Slot} {ls : mm_ls} {rest : List Value} {i : Instr} {res : Int}
/-- a cell just made stands at the next address -/
theorem mm_next {k0 q : Nat} {e0 : va_E} {H1 : Heap} (hok : mm_ok Ls xs S I) (hk0 : s.heap.size + 2 = sz + k0) (hk : k0 ≤ S.length) (hP1 : va_P D vwCl (mm_ws sz b t0 cI cJ cZ cT S I L R ++ [(q, e0)]) H1) (hD1 : va_D (fun q => sz ≤ q) (mm_ws sz b t0 cI cJ cZ cT S I L R ++ [(q, e0)])) (hsz : H1.size ≤ s.heap.size + (S.length - k0 + 1)) : q = sz + (S.length - 2) := by
  have h2 := mm_len2 hok
  have hw : (mm_ws sz b t0 cI cJ cZ cT S I L R).length = S.length - 2 := by simp [mm_ws]
  have hlast : (mm_ws sz b t0 cI cJ cZ cT S I L R ++ [(q, e0)])[S.length - 2]? = some (q, e0) := by
    rw [List.getElem?_append_right (by omega), hw, Nat.sub_self]; rfl
  have g1 : sz ≤ q := hD1.2 _ _ hlast
  have g2 : q < H1.size := (hP1 _ _ hlast).lt
  by_cases hlt : q < sz + (S.length - 2)
  · have hq : (q - sz) + 2 < S.length := by omega
    have hS : S[(q - sz) + 2]? = some S[(q - sz) + 2] := List.getElem?_eq_getElem hq
    have he := mm_ws_get (sz := sz) (b := b) (t0 := t0) (cI := cI) (cJ := cJ) (cZ := cZ) (cT := cT) (I := I) (L := L) (R := R) hS (by omega)
    have he' : (mm_ws sz b t0 cI cJ cZ cT S I L R ++ [(q, e0)])[q - sz]? = some (mm_ad sz b t0 ((q - sz) + 2), mm_ent sz b t0 cI cJ cZ cT I L R ((q - sz) + 2) S[(q - sz) + 2]) := by
      rw [List.getElem?_append_left (by omega)]; exact he
    have := hD1.1 _ _ _ _ he' hlast (by show sz + (q - sz) = q; omega)
    omega
  · omega
theorem mm_sim_new (hx : p.tables.exec = Jvm.exec) (hb : c.code = mm_b m) (hown : s.vm.findClass (mm_y m).cls = some mid.cls) (hts : ∀ w ∈ mm_TB, w.before args s = true) (hB : mm_B sz b t0 Ls xs D cI cJ cZ cT s) (hok : mm_ok Ls xs S I) (hP : va_P D vwCl (mm_ws sz b t0 cI cJ cZ cT S I L R) H) (hS : va_S (fun q => sz ≤ q) s.heap H locs)
    {cl idx k0 s0 : Nat} (hc12 : cl < 12) (hl : Cond.classLink (mm_y m).cls idx (mm_C cl) ∈ mm_TB) (hk0 : s.heap.size + 2 = sz + k0) (hk : k0 ≤ S.length) (hs0 : s0 ≤ mm_sl S) (hrc : S.length + 1 - k0 ≤ Rm.cells) (hrs : mm_sl S + mm_N cl - s0 ≤ Rm.slots) (hdg : decode (mm_b m) pc = .ok (.new idx, 3))
    (k : ∀ (H1 : Heap) (locs1 : List Loc), va_P D vwCl (mm_ws sz b t0 cI cJ cZ cT (S ++ [(cl, mm_N cl)]) (mm_rw I S.length (fun _ => 0)) (mm_rw L S.length (fun _ => 0)) (mm_rw R S.length (fun _ => none))) H1 → va_S (fun q => sz ≤ q) s.heap H1 locs1 → W p l e Rm s mid args below meth c H1 locs1 (S.length + 1 - k0) (mm_sl S + mm_N cl - s0) Q (F0 mid (pc + 3) lsA (.ref (mm_ad sz b t0 S.length) :: rest))) : W p l e Rm s mid args below meth c H locs (S.length - k0) (mm_sl S - s0) Q (F0 mid pc lsA rest) := by
  obtain ⟨h1, h2, h3, h4, h5, h6, h7⟩ := mm_cls hc12
  have hl2 := mm_len2 hok
  have hfs : ∀ j, j < mm_N cl → defaultValue (mm_ty cl j) = vp_V ((List.range (mm_N cl)).map (fun j => if mm_ft cl j = 1 then Value.null else .int 0)) j := by
    intro j hj
    rw [mm_dv (by rw [h6 j hj]; exact mm_ft_le cl hc12 j hj), h6 j hj]
    unfold vp_V
    rw [List.getD_eq_getElem?_getD, List.getElem?_map, List.getElem?_range hj]
    rfl
  refine va_new (ci := cl) hx hb hts h2 (mm_ty cl) h4 hown (hts _ hl) (hts _ h3.1) (hts _ h3.2) hB.2.2.2.2.2.1 hP mm_ws_D hS (fun q h => Nat.le_trans hB.2.2.1 h) h1 hfs (by omega) (by omega) hdg (fun q H1 hP1 hD1 hS1 => ?_)
  refine mm_Wsz (fun hsz => ?_)
  have hq := mm_next hok hk0 hk hP1 hD1 hsz
  subst hq
  have hent : (.inr (cl, (List.range (mm_N cl)).map (fun j => if mm_ft cl j = 1 then Value.null else .int 0)) : va_E) = mm_ent sz b t0 cI cJ cZ cT (mm_rw I S.length (fun _ => 0)) (mm_rw L S.length (fun _ => 0)) (mm_rw R S.length (fun _ => none)) S.length (cl, mm_N cl) := by
    rw [mm_ent_obj hc12, mm_rw_eq, mm_rw_eq]
    rfl
  rw [hent, mm_ws_push hl2 (fun k q hk => mm_ent_ne hk (mm_rw_ne hk) (mm_rw_ne hk) (mm_rw_ne hk))] at hP1
  rw [← mm_ad_made (b := b) (t0 := t0) hl2, show S.length - k0 + 1 = S.length + 1 - k0 by omega, show mm_sl S - s0 + mm_N cl = mm_sl S + mm_N cl - s0 by omega]
  exact k H1 locs hP1 hS1
theorem mm_sim_newa (hx : p.tables.exec = Jvm.exec) (hb : c.code = mm_b m) (hts : ∀ w ∈ mm_TB, w.before args s = true) (hB : mm_B sz b t0 Ls xs D cI cJ cZ cT s) (hok : mm_ok Ls xs S I) (hP : va_P D vwCl (mm_ws sz b t0 cI cJ cZ cT S I L R) H) (hS : va_S (fun q => sz ≤ q) s.heap H locs)
    {t : ArrayType} {x : Int32} {k0 s0 : Nat} (ht : t = .int ∨ t = .long ∨ t = .boolean) (hx0 : 0 ≤ x.toInt) (hx1 : x.toInt ≤ 1000) (hk0 : s.heap.size + 2 = sz + k0) (hk : k0 ≤ S.length) (hs0 : s0 ≤ mm_sl S) (hrc : S.length + 1 - k0 ≤ Rm.cells) (hrs : mm_sl S + x.toInt.toNat - s0 ≤ Rm.slots) (hdg : decode (mm_b m) pc = .ok (.newarray t, 2))
    (k : ∀ (H1 : Heap) (locs1 : List Loc), va_P D vwCl (mm_ws sz b t0 cI cJ cZ cT (S ++ [((if t = .int then 20 else if t = .long then 21 else 22), x.toInt.toNat)]) (mm_rw I S.length (fun _ => 0)) (mm_rw L S.length (fun _ => 0)) (mm_rw R S.length (fun _ => none))) H1 → va_S (fun q => sz ≤ q) s.heap H1 locs1 → W p l e Rm s mid args below meth c H1 locs1 (S.length + 1 - k0) (mm_sl S + x.toInt.toNat - s0) Q (F0 mid (pc + 2) lsA (.ref (mm_ad sz b t0 S.length) :: rest))) : W p l e Rm s mid args below meth c H locs (S.length - k0) (mm_sl S - s0) Q (F0 mid pc lsA (.int x :: rest)) := by
  have hl2 := mm_len2 hok
  have hK := hB.2.2.2.2.2.1
  have hRI : s.vm.findClass ("[" ++ FieldType.int.toString) = some cI := (hK.2 0 (cI, .int) rfl).2
  have hRJ : s.vm.findClass ("[" ++ FieldType.long.toString) = some cJ := (hK.2 1 (cJ, .long) rfl).2
  have hRZ : s.vm.findClass ("[" ++ FieldType.boolean.toString) = some cZ := (hK.2 2 (cZ, .boolean) rfl).2
  have hb4 : x.toInt.toNat ≤ 1000 := by omega
  rcases ht with rfl | rfl | rfl
  · refine va_newa (atype := .int) (a0 := (x.toInt.toNat, .inl (fun _ => 0))) hx hb (hts _ lkz_0) rfl hK hP mm_ws_D hS (fun q h => Nat.le_trans hB.2.2.1 h) (fun cA => rfl) (mm_nonneg hx0) rfl (Nat.le_trans (Nat.mul_le_mul_right _ hb4) (by decide)) (by omega) (by omega) hdg (fun q cA H1 hK1 hP1 hD1 hS1 => ?_)
    have hcA : cA = cI := by
      have h : s.vm.findClass ("[" ++ FieldType.int.toString) = some cA := (hK1.2 4 (cA, .int) rfl).2
      exact Option.some.inj (h.symm.trans hRI)
    subst hcA
    refine mm_Wsz (fun hsz => ?_)
    have hq := mm_next hok hk0 hk hP1 hD1 hsz
    subst hq
    have hent : (.inl (cA, x.toInt.toNat, .inl (fun _ => 0)) : va_E) = mm_ent sz b t0 cA cJ cZ cT (mm_rw I S.length (fun _ => 0)) (mm_rw L S.length (fun _ => 0)) (mm_rw R S.length (fun _ => none)) S.length (20, x.toInt.toNat) := by
      rw [mm_ent_20, mm_rw_eq]
    rw [hent, mm_ws_push hl2 (fun k q hk => mm_ent_ne hk (mm_rw_ne hk) (mm_rw_ne hk) (mm_rw_ne hk))] at hP1
    rw [← mm_ad_made (b := b) (t0 := t0) hl2, show S.length - k0 + 1 = S.length + 1 - k0 by omega, show mm_sl S - s0 + x.toInt.toNat = mm_sl S + x.toInt.toNat - s0 by omega]
    exact k H1 locs hP1 hS1
  · refine va_newa (atype := .long) (a0 := (x.toInt.toNat, .inr (.inl (fun _ => 0)))) hx hb (hts _ lkz_1) rfl hK hP mm_ws_D hS (fun q h => Nat.le_trans hB.2.2.1 h) (fun cA => rfl) (mm_nonneg hx0) rfl (Nat.le_trans (Nat.mul_le_mul_right _ hb4) (by decide)) (by omega) (by omega) hdg (fun q cA H1 hK1 hP1 hD1 hS1 => ?_)
    have hcA : cA = cJ := by
      have h : s.vm.findClass ("[" ++ FieldType.long.toString) = some cA := (hK1.2 4 (cA, .long) rfl).2
      exact Option.some.inj (h.symm.trans hRJ)
    subst hcA
    refine mm_Wsz (fun hsz => ?_)
    have hq := mm_next hok hk0 hk hP1 hD1 hsz
    subst hq
    have hent : (.inl (cA, x.toInt.toNat, .inr (.inl (fun _ => 0))) : va_E) = mm_ent sz b t0 cI cA cZ cT (mm_rw I S.length (fun _ => 0)) (mm_rw L S.length (fun _ => 0)) (mm_rw R S.length (fun _ => none)) S.length (21, x.toInt.toNat) := by
      rw [mm_ent_21, mm_rw_eq]
    rw [hent, mm_ws_push hl2 (fun k q hk => mm_ent_ne hk (mm_rw_ne hk) (mm_rw_ne hk) (mm_rw_ne hk))] at hP1
    rw [← mm_ad_made (b := b) (t0 := t0) hl2, show S.length - k0 + 1 = S.length + 1 - k0 by omega, show mm_sl S - s0 + x.toInt.toNat = mm_sl S + x.toInt.toNat - s0 by omega]
    exact k H1 locs hP1 hS1
  · refine va_newa (atype := .boolean) (a0 := (x.toInt.toNat, .inl (fun _ => 0))) hx hb (hts _ lkz_3) rfl hK hP mm_ws_D hS (fun q h => Nat.le_trans hB.2.2.1 h) (fun cA => rfl) (mm_nonneg hx0) rfl (Nat.le_trans (Nat.mul_le_mul_right _ hb4) (by decide)) (by omega) (by omega) hdg (fun q cA H1 hK1 hP1 hD1 hS1 => ?_)
    have hcA : cA = cZ := by
      have h : s.vm.findClass ("[" ++ FieldType.boolean.toString) = some cA := (hK1.2 4 (cA, .boolean) rfl).2
      exact Option.some.inj (h.symm.trans hRZ)
    subst hcA
    refine mm_Wsz (fun hsz => ?_)
    have hq := mm_next hok hk0 hk hP1 hD1 hsz
    subst hq
    have hent : (.inl (cA, x.toInt.toNat, .inl (fun _ => 0)) : va_E) = mm_ent sz b t0 cI cJ cA cT (mm_rw I S.length (fun _ => 0)) (mm_rw L S.length (fun _ => 0)) (mm_rw R S.length (fun _ => none)) S.length (22, x.toInt.toNat) := by
      rw [mm_ent_22, mm_rw_eq]
    rw [hent, mm_ws_push hl2 (fun k q hk => mm_ent_ne hk (mm_rw_ne hk) (mm_rw_ne hk) (mm_rw_ne hk))] at hP1
    rw [← mm_ad_made (b := b) (t0 := t0) hl2, show S.length - k0 + 1 = S.length + 1 - k0 by omega, show mm_sl S - s0 + x.toInt.toNat = mm_sl S + x.toInt.toNat - s0 by omega]
    exact k H1 locs hP1 hS1
theorem mm_sim_anew (hx : p.tables.exec = Jvm.exec) (hb : c.code = mm_b m) (hown : s.vm.findClass (mm_y m).cls = some mid.cls) (hts : ∀ w ∈ mm_TB, w.before args s = true) (hB : mm_B sz b t0 Ls xs D cI cJ cZ cT s) (hok : mm_ok Ls xs S I) (hP : va_P D vwCl (mm_ws sz b t0 cI cJ cZ cT S I L R) H) (hS : va_S (fun q => sz ≤ q) s.heap H locs)
    {x : Int32} {idx k0 s0 : Nat} (hl : Cond.classLink (mm_y m).cls idx "ChunkLayers$Tape" ∈ mm_TB) (hx0 : 0 ≤ x.toInt) (hx1 : x.toInt ≤ 1000) (hk0 : s.heap.size + 2 = sz + k0) (hk : k0 ≤ S.length) (hs0 : s0 ≤ mm_sl S) (hrc : S.length + 1 - k0 ≤ Rm.cells) (hrs : mm_sl S + x.toInt.toNat - s0 ≤ Rm.slots) (hdg : decode (mm_b m) pc = .ok (.anewarray idx, 3))
    (k : ∀ (H1 : Heap) (locs1 : List Loc), va_P D vwCl (mm_ws sz b t0 cI cJ cZ cT (S ++ [(23, x.toInt.toNat)]) (mm_rw I S.length (fun _ => 0)) (mm_rw L S.length (fun _ => 0)) (mm_rw R S.length (fun _ => none))) H1 → va_S (fun q => sz ≤ q) s.heap H1 locs1 → W p l e Rm s mid args below meth c H1 locs1 (S.length + 1 - k0) (mm_sl S + x.toInt.toNat - s0) Q (F0 mid (pc + 3) lsA (.ref (mm_ad sz b t0 S.length) :: rest))) : W p l e Rm s mid args below meth c H locs (S.length - k0) (mm_sl S - s0) Q (F0 mid pc lsA (.int x :: rest)) := by
  have hl2 := mm_len2 hok
  have hK := hB.2.2.2.2.2.1
  have hb4 : x.toInt.toNat ≤ 1000 := by omega
  refine va_newq (C := "ChunkLayers$Tape") hx hb hown (hts _ hl) hB.2.2.2.2.2.2.2 hK hP mm_ws_D hS (fun q h => Nat.le_trans hB.2.2.1 h) (mm_nonneg hx0) rfl (Nat.le_trans (Nat.mul_le_mul_right 4 hb4) (by decide)) (by omega) (by show _ + x.toInt.toNat ≤ _; omega) hdg (fun q cA H1 hK1 hP1 hD1 hS1 => ?_)
  have hcA : cA = cT := by
    obtain ⟨_, _, -, -, -, h⟩ := (hK1.2 4 (cA, .object "ChunkLayers$Tape") rfl).2
    obtain ⟨_, _, -, -, -, h'⟩ := (hK.2 3 (cT, .object "ChunkLayers$Tape") rfl).2
    exact Option.some.inj (h.symm.trans h')
  subst hcA
  refine mm_Wsz (fun hsz => ?_)
  have hq := mm_next hok hk0 hk hP1 hD1 hsz
  subst hq
  have hent : (.inl (cA, x.toNatClampNeg, .inr (.inr (.inr (.inr (fun _ => none))))) : va_E) = mm_ent sz b t0 cI cJ cZ cA (mm_rw I S.length (fun _ => 0)) (mm_rw L S.length (fun _ => 0)) (mm_rw R S.length (fun _ => none)) S.length (23, x.toInt.toNat) := by
    rw [mm_ent_23, mm_rw_eq]; rfl
  rw [hent, mm_ws_push hl2 (fun k q hk => mm_ent_ne hk (mm_rw_ne hk) (mm_rw_ne hk) (mm_rw_ne hk))] at hP1
  rw [← mm_ad_made (b := b) (t0 := t0) hl2, show S.length - k0 + 1 = S.length + 1 - k0 by omega, show mm_sl S - s0 + x.toNatClampNeg = mm_sl S + x.toInt.toNat - s0 by show _ + x.toInt.toNat = _; omega]
  exact k H1 locs hP1 hS1
theorem mm_sim_gets (hx : p.tables.exec = Jvm.exec) (hb : c.code = mm_b m) (hown : s.vm.findClass (mm_y m).cls = some mid.cls) (hts : ∀ w ∈ mm_TB, w.before args s = true) (hB : mm_B sz b t0 Ls xs D cI cJ cZ cT s) (hS : va_S (fun q => sz ≤ q) s.heap H locs)
    {idx : Nat} (hl : Cond.fieldLink (mm_y m).cls idx "ChunkLayers" "TYPE_OF_SORT" "[I" ∈ mm_TB) (hdg : decode (mm_b m) pc = .ok (.getstatic idx, 3))
    (k : W p l e Rm s mid args below meth c H locs cells slots Q (F0 mid (pc + 3) lsA (.ref (mm_ad sz b t0 1) :: rest))) : W p l e Rm s mid args below meth c H locs cells slots Q (F0 mid pc lsA rest) :=
  va_gets hx hb hB.2.2.2.1 hS hown (hts _ hl) (fun _ h => h) hdg k
theorem mm_sim_oinit (hx : p.tables.exec = Jvm.exec) (hb : c.code = mm_b m) (hml : lsA.size = c.maxLocals) (hown : s.vm.findClass (mm_y m).cls = some mid.cls) (hts : ∀ w ∈ mm_TB, w.before args s = true) (hfr : 1 ≤ Rm.frames) (hlo : 100 ≤ Rm.locals)
    {idx a : Nat} (hc : (rest.map fun v => v.category).sum ≤ 8) (hl : Cond.methodLink (mm_y m).cls idx objectInit ∈ mm_TB) (hdg : decode (mm_b m) pc = .ok (.invokespecial idx, 3))
    (k : W p l e Rm s mid args below meth c H locs cells slots Q (F0 mid (pc + 3) lsA rest)) : W p l e Rm s mid args below meth c H locs cells slots Q (F0 mid pc lsA (.ref a :: rest)) :=
  W.objInit hx hb hown (hts _ hl) (hts _ lkz_7) (hts _ lkz_6) rfl hml rfl hdg hfr (by show 2 * 0 + _ + 12 ≤ _; omega) k
theorem mm_sim_math (hx : p.tables.exec = Jvm.exec) (hb : c.code = mm_b m) (hml : c.maxLocals = lsA.size) (hown : s.vm.findClass (mm_y m).cls = some mid.cls) (hts : ∀ w ∈ mm_TB, w.before args s = true) (hfr : 1 ≤ Rm.frames) (hlo : 100 ≤ Rm.locals) (hcc : cells ≤ Rm.cells) (hss : slots ≤ Rm.slots)
    {idx : Nat} {st st' : List Value} (hlk : mm_lkI (mm_y m).cls (.invokestatic idx) res) (hm : mm_math res st = some st') (hdg : decode (mm_b m) pc = .ok (.invokestatic idx, 3))
    (k : W p l e Rm s mid args below meth c H locs cells slots Q (F0 mid (pc + 3) lsA (st'.map (mm_tr sz b t0)))) : W p l e Rm s mid args below meth c H locs cells slots Q (F0 mid pc lsA (st.map (mm_tr sz b t0))) := by
  unfold mm_math at hm
  by_cases h3 : res = -3
  · subst h3
    rw [if_pos rfl] at hm
    split at hm
    · rename_i x r
      split at hm
      · rename_i hc
        obtain rfl := Option.some.inj hm
        exact va_mabs_long hx hb hml hown (hts _ (show Cond.methodLink (mm_y m).cls idx Lib.MathLoose.abs_long.x ∈ mm_TB from hlk)) (hts _ lkz_12) (hts _ lkz_14) (hts _ lkz_13) hfr (by rw [mm_cats_tr]; omega) hcc hss hdg k
      · cases hm
    · cases hm
  · rw [if_neg h3] at hm
    by_cases h4 : res = -4
    · subst h4
      rw [if_pos rfl] at hm
      split at hm
      · rename_i x y r
        split at hm
        · rename_i hc
          obtain rfl := Option.some.inj hm
          exact va_mmax hx hb hml hown (hts _ (show Cond.methodLink (mm_y m).cls idx Lib.Math.max.name ∈ mm_TB from hlk)) (hts _ lkz_8) (hts _ lkz_14) (hts _ lkz_9) hfr (by rw [mm_cats_tr]; omega) hcc hss hdg k
        · cases hm
      · cases hm
    · rw [if_neg h4] at hm
      by_cases h5 : res = -5
      · subst h5
        rw [if_pos rfl] at hm
        split at hm
        · rename_i x y r
          split at hm
          · rename_i hc
            obtain rfl := Option.some.inj hm
            exact va_mmin hx hb hml hown (hts _ (show Cond.methodLink (mm_y m).cls idx Lib.Math.min.name ∈ mm_TB from hlk)) (hts _ lkz_10) (hts _ lkz_14) (hts _ lkz_11) hfr (by rw [mm_cats_tr]; omega) hcc hss hdg k
          · cases hm
        · cases hm
      · rw [if_neg h5] at hm; cases hm
theorem mm_sim_copyi (hx : p.tables.exec = Jvm.exec) (hb : c.code = mm_b m) (hml : c.maxLocals = lsA.size) (hown : s.vm.findClass (mm_y m).cls = some mid.cls) (hts : ∀ w ∈ mm_TB, w.before args s = true) (hB : mm_B sz b t0 Ls xs D cI cJ cZ cT s) (hP : va_P D vwCl (mm_ws sz b t0 cI cJ cZ cT S I L R) H) (hS : va_S (fun q => sz ≤ q) s.heap H locs) (hfr : 1 ≤ Rm.frames) (hlo : 100 ≤ Rm.locals)
    {idx a a' la lb : Nat} {sp dp n : Int32} (hc : (rest.map fun v => v.category).sum ≤ 8) (hl : Cond.methodLink (mm_y m).cls idx arraycopyName ∈ mm_TB) (hSa : S[a]? = some (20, la)) (hSb : S[a']? = some (20, lb)) (ha2 : 2 ≤ a) (hb2 : 2 ≤ a') (h1 : 0 ≤ n.toInt) (h2 : 0 ≤ sp.toInt) (h3 : 0 ≤ dp.toInt) (h4 : sp.toInt + n.toInt ≤ la) (h5 : dp.toInt + n.toInt ≤ lb) (hdg : decode (mm_b m) pc = .ok (.invokestatic idx, 3))
    (k : ∀ (H1 : Heap) (locs1 : List Loc), va_P D vwCl (mm_ws sz b t0 cI cJ cZ cT S (mm_rw I a' (va_cpy (I a) (I a') sp.toInt.toNat dp.toInt.toNat n.toInt.toNat)) L R) H1 → va_S (fun q => sz ≤ q) s.heap H1 locs1 → W p l e Rm s mid args below meth c H1 locs1 cells slots Q (F0 mid (pc + 3) lsA rest)) : W p l e Rm s mid args below meth c H locs cells slots Q (F0 mid pc lsA (.int n :: .int dp :: .ref (mm_ad sz b t0 a') :: .int sp :: .ref (mm_ad sz b t0 a) :: rest)) := by
  have hea := mm_ws_get (sz := sz) (b := b) (t0 := t0) (cI := cI) (cJ := cJ) (cZ := cZ) (cT := cT) (I := I) (L := L) (R := R) hSa ha2
  have heb := mm_ws_get (sz := sz) (b := b) (t0 := t0) (cI := cI) (cJ := cJ) (cZ := cZ) (cT := cT) (I := I) (L := L) (R := R) hSb hb2
  rw [mm_ent_20] at hea heb
  refine va_copyi (ty := .int) hx hb hml hown (hts _ hl) (hts _ lkz_2) (hts _ lkz_4) (hts _ lkz_5) hB.2.2.2.2.2.1 hP mm_ws_D hS (a - 2) (a' - 2) 0 0 hea heb rfl rfl rfl (mm_nonneg h2) (mm_nonneg h3) (mm_nonneg h1) (by show sp.toInt.toNat + n.toInt.toNat ≤ _; omega) (by show dp.toInt.toNat + n.toInt.toNat ≤ _; omega) (fun _ _ => rfl) hfr (by show _ + (7 + 11) ≤ _; omega) hdg (fun H1 locs1 hP1 _ hS1 => k H1 locs1 ?_ hS1)
  have h3 := mm_ws_set (sz := sz) (b := b) (t0 := t0) (cI := cI) (cJ := cJ) (cZ := cZ) (cT := cT) (I := I) (L := L) (R := R) (I' := mm_rw I a' (va_cpy (I a) (I a') sp.toInt.toNat dp.toInt.toNat n.toInt.toNat)) (L' := L) (R' := R) hSb hb2 (fun k q hk => mm_ent_ne hk (mm_rw_ne hk) rfl rfl)
  rw [mm_ent_20, mm_rw_eq] at h3
  rw [← h3]
  exact hP1
theorem mm_sim_copyl (hx : p.tables.exec = Jvm.exec) (hb : c.code = mm_b m) (hml : c.maxLocals = lsA.size) (hown : s.vm.findClass (mm_y m).cls = some mid.cls) (hts : ∀ w ∈ mm_TB, w.before args s = true) (hB : mm_B sz b t0 Ls xs D cI cJ cZ cT s) (hP : va_P D vwCl (mm_ws sz b t0 cI cJ cZ cT S I L R) H) (hS : va_S (fun q => sz ≤ q) s.heap H locs) (hfr : 1 ≤ Rm.frames) (hlo : 100 ≤ Rm.locals)
    {idx a a' la lb : Nat} {sp dp n : Int32} (hc : (rest.map fun v => v.category).sum ≤ 8) (hl : Cond.methodLink (mm_y m).cls idx arraycopyName ∈ mm_TB) (hSa : S[a]? = some (21, la)) (hSb : S[a']? = some (21, lb)) (ha2 : 2 ≤ a) (hb2 : 2 ≤ a') (h1 : 0 ≤ n.toInt) (h2 : 0 ≤ sp.toInt) (h3 : 0 ≤ dp.toInt) (h4 : sp.toInt + n.toInt ≤ la) (h5 : dp.toInt + n.toInt ≤ lb) (hdg : decode (mm_b m) pc = .ok (.invokestatic idx, 3))
    (k : ∀ (H1 : Heap) (locs1 : List Loc), va_P D vwCl (mm_ws sz b t0 cI cJ cZ cT S I (mm_rw L a' (va_cpy (L a) (L a') sp.toInt.toNat dp.toInt.toNat n.toInt.toNat)) R) H1 → va_S (fun q => sz ≤ q) s.heap H1 locs1 → W p l e Rm s mid args below meth c H1 locs1 cells slots Q (F0 mid (pc + 3) lsA rest)) : W p l e Rm s mid args below meth c H locs cells slots Q (F0 mid pc lsA (.int n :: .int dp :: .ref (mm_ad sz b t0 a') :: .int sp :: .ref (mm_ad sz b t0 a) :: rest)) := by
  have hea := mm_ws_get (sz := sz) (b := b) (t0 := t0) (cI := cI) (cJ := cJ) (cZ := cZ) (cT := cT) (I := I) (L := L) (R := R) hSa ha2
  have heb := mm_ws_get (sz := sz) (b := b) (t0 := t0) (cI := cI) (cJ := cJ) (cZ := cZ) (cT := cT) (I := I) (L := L) (R := R) hSb hb2
  rw [mm_ent_21] at hea heb
  refine va_copyl (ty := .long) hx hb hml hown (hts _ hl) (hts _ lkz_2) (hts _ lkz_4) (hts _ lkz_5) hB.2.2.2.2.2.1 hP mm_ws_D hS (a - 2) (a' - 2) 1 1 hea heb rfl rfl rfl (mm_nonneg h2) (mm_nonneg h3) (mm_nonneg h1) (by show sp.toInt.toNat + n.toInt.toNat ≤ _; omega) (by show dp.toInt.toNat + n.toInt.toNat ≤ _; omega) (fun _ _ => rfl) hfr (by show _ + (7 + 11) ≤ _; omega) hdg (fun H1 locs1 hP1 _ hS1 => k H1 locs1 ?_ hS1)
  have h3 := mm_ws_set (sz := sz) (b := b) (t0 := t0) (cI := cI) (cJ := cJ) (cZ := cZ) (cT := cT) (I := I) (L := L) (R := R) (I' := I) (L' := mm_rw L a' (va_cpy (L a) (L a') sp.toInt.toNat dp.toInt.toNat n.toInt.toNat)) (R' := R) hSb hb2 (fun k q hk => mm_ent_ne hk rfl (mm_rw_ne hk) rfl)
  rw [mm_ent_21, mm_rw_eq] at h3
  rw [← h3]
  exact hP1
end
