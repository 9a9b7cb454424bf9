/-! memory, ends, calls over EE -/
section
variable {d m pc pc' t idx : Nat} {ls ls' : mm_ls} {r st : List Value} {S : mm_S} {J K : Nat → Nat → Int} {R : mm_R} {len : Nat} {res : Int} {x y z : Int} {a q c j N n : Nat}
theorem EE_iinc {k : Nat} {z : Int} (hf : mm_fetch m pc = some (.iinc k z, 3, res)) (hl : mm_ld ls k = some (vi x)) (hs : mm_st1 ls k (vi (x + z)) = some ls') : EE d m pc ls st S J K R = EE d m (pc + 3) ls' st S J K R := by
  refine E_pure hf ?_
  unfold mm_pure
  have e : mm_st1 ls k (.int (iI x + iI z)) = some ls' := by rw [iI_add]; exact hs
  unfold vi at hl
  simp only [mm_kind, hl, e]
theorem EE_getI (hf : mm_fetch m pc = some (.getfield idx, 3, res)) (hc : res.toNat / 1000 = c) (hj : res.toNat % 1000 = j) (hN : mm_N c = N) (ht : mm_ft c j ≠ 1) (hS : S[a]? = some (c, N)) : EE d m pc ls (.ref a :: r) S J K R = EE d m (pc + 3) ls (vi (J a j) :: r) S J K R := by
  subst hc; subst hj; subst hN
  refine E_mem hf rfl rfl ?_
  unfold mm_mem; simp only [hS, if_true, if_neg ht]; rfl
theorem EE_getR (hf : mm_fetch m pc = some (.getfield idx, 3, res)) (hc : res.toNat / 1000 = c) (hj : res.toNat % 1000 = j) (hN : mm_N c = N) (ht : mm_ft c j = 1) (hS : S[a]? = some (c, N)) (hR : R a j = some q) : EE d m pc ls (.ref a :: r) S J K R = EE d m (pc + 3) ls (.ref q :: r) S J K R := by
  subst hc; subst hj; subst hN
  refine E_mem hf rfl rfl ?_
  unfold mm_mem; simp only [hS, if_true, ht, hR]; rfl
theorem EE_putI (hf : mm_fetch m pc = some (.putfield idx, 3, res)) (hc : res.toNat / 1000 = c) (hj : res.toNat % 1000 = j) (hN : mm_N c = N) (ht : mm_ft c j = 0) (hfin : mm_fin c j = false ∨ (mm_kd m = 2 ∧ mm_ci m = c)) (hS : S[a]? = some (c, N)) : EE d m pc ls (vi x :: .ref a :: r) S J K R = EE d m (pc + 3) ls r S (mm_up J a j x) K R := by
  subst hc; subst hj; subst hN
  refine (E_mem (S' := S) (I' := mm_up (mm_i J) a (res.toNat % 1000) (iI x)) (L' := mm_l K) (R' := R) (st' := r) hf rfl rfl ?_).trans ?_
  · unfold mm_mem; simp only [hS, ht, hfin, true_and, if_true, vi]
  · rw [mi_up]; rfl
theorem EE_putZ (hf : mm_fetch m pc = some (.putfield idx, 3, res)) (hc : res.toNat / 1000 = c) (hj : res.toNat % 1000 = j) (hN : mm_N c = N) (ht : mm_ft c j = 2) (hfin : mm_fin c j = false ∨ (mm_kd m = 2 ∧ mm_ci m = c)) (hS : S[a]? = some (c, N)) (hx : x = 0 ∨ x = 1) : EE d m pc ls (vi x :: .ref a :: r) S J K R = EE d m (pc + 3) ls r S (mm_up J a j x) K R := by
  subst hc; subst hj; subst hN
  have h01 : iI x = 0 ∨ iI x = 1 := by rcases hx with rfl | rfl; exact Or.inl rfl; exact Or.inr rfl
  refine (E_mem (S' := S) (I' := mm_up (mm_i J) a (res.toNat % 1000) (iI x)) (L' := mm_l K) (R' := R) (st' := r) hf rfl rfl ?_).trans ?_
  · unfold mm_mem; simp only [hS, ht, hfin, true_and, if_true, vi, h01]
  · rw [mi_up]; rfl
theorem EE_putR (hf : mm_fetch m pc = some (.putfield idx, 3, res)) (hc : res.toNat / 1000 = c) (hj : res.toNat % 1000 = j) (hN : mm_N c = N) (ht : mm_ft c j = 1) (hfin : mm_fin c j = false ∨ (mm_kd m = 2 ∧ mm_ci m = c)) (hS : S[a]? = some (c, N)) : EE d m pc ls (.ref q :: .ref a :: r) S J K R = EE d m (pc + 3) ls r S J K (mm_up R a j (some q)) := by
  subst hc; subst hj; subst hN
  refine E_mem hf rfl rfl ?_
  unfold mm_mem; simp only [hS, ht, hfin, true_and, if_true]
theorem EE_iald (hf : mm_fetch m pc = some (.iaload, 1, res)) (hS : S[a]? = some (20, n)) (h0 : 0 ≤ x) (h1 : x < n) (h2 : x ≤ 2147483647) : EE d m pc ls (vi x :: .ref a :: r) S J K R = EE d m (pc + 1) ls (vi (J a x.toNat) :: r) S J K R := by
  have e : (iI x).toInt = x := iI_toInt (by omega) h2
  refine E_mem hf rfl rfl ?_
  unfold mm_mem; simp only [vi, hS, e, h0, h1, true_and, if_true]; rfl
theorem EE_bald (hf : mm_fetch m pc = some (.baload, 1, res)) (hS : S[a]? = some (22, n)) (h0 : 0 ≤ x) (h1 : x < n) (h2 : x ≤ 2147483647) : EE d m pc ls (vi x :: .ref a :: r) S J K R = EE d m (pc + 1) ls (vi (J a x.toNat) :: r) S J K R := by
  have e : (iI x).toInt = x := iI_toInt (by omega) h2
  refine E_mem hf rfl rfl ?_
  unfold mm_mem; simp only [vi, hS, e, h0, h1, true_and, if_true]; rfl
theorem EE_lald (hf : mm_fetch m pc = some (.laload, 1, res)) (hS : S[a]? = some (21, n)) (h0 : 0 ≤ x) (h1 : x < n) (h2 : x ≤ 2147483647) : EE d m pc ls (vi x :: .ref a :: r) S J K R = EE d m (pc + 1) ls (vl (K a x.toNat) :: r) S J K R := by
  have e : (iI x).toInt = x := iI_toInt (by omega) h2
  refine E_mem hf rfl rfl ?_
  unfold mm_mem; simp only [vi, hS, e, h0, h1, true_and, if_true]; rfl
theorem EE_aald (hf : mm_fetch m pc = some (.aaload, 1, res)) (hS : S[a]? = some (23, n)) (h0 : 0 ≤ x) (h1 : x < n) (h2 : x ≤ 2147483647) : EE d m pc ls (vi x :: .ref a :: r) S J K R = EE d m (pc + 1) ls (va_rf (R a x.toNat) :: r) S J K R := by
  have e : (iI x).toInt = x := iI_toInt (by omega) h2
  refine E_mem hf rfl rfl ?_
  unfold mm_mem; simp only [vi, hS, e, h0, h1, true_and, if_true]
theorem EE_iast (hf : mm_fetch m pc = some (.iastore, 1, res)) (hS : S[a]? = some (20, n)) (ha : 2 ≤ a) (h0 : 0 ≤ x) (h1 : x < n) (h2 : x ≤ 2147483647) : EE d m pc ls (vi y :: vi x :: .ref a :: r) S J K R = EE d m (pc + 1) ls r S (mm_up J a x.toNat y) K R := by
  have e : (iI x).toInt = x := iI_toInt (by omega) h2
  refine (E_mem (S' := S) (I' := mm_up (mm_i J) a x.toNat (iI y)) (L' := mm_l K) (R' := R) (st' := r) hf rfl rfl ?_).trans ?_
  · unfold mm_mem; simp only [vi, hS, e, h0, h1, true_and, if_true]; rw [if_pos ⟨ha, trivial⟩]
  · rw [mi_up]; rfl
theorem EE_bast (hf : mm_fetch m pc = some (.bastore, 1, res)) (hS : S[a]? = some (22, n)) (hy : y = 0 ∨ y = 1) (h0 : 0 ≤ x) (h1 : x < n) (h2 : x ≤ 2147483647) : EE d m pc ls (vi y :: vi x :: .ref a :: r) S J K R = EE d m (pc + 1) ls r S (mm_up J a x.toNat y) K R := by
  have e : (iI x).toInt = x := iI_toInt (by omega) h2
  have h01 : iI y = 0 ∨ iI y = 1 := by rcases hy with rfl | rfl; exact Or.inl rfl; exact Or.inr rfl
  refine (E_mem (S' := S) (I' := mm_up (mm_i J) a x.toNat (iI y)) (L' := mm_l K) (R' := R) (st' := r) hf rfl rfl ?_).trans ?_
  · unfold mm_mem; simp only [vi, hS, e, h0, h1, h01, true_and, if_true]
  · rw [mi_up]; rfl
theorem EE_last (hf : mm_fetch m pc = some (.lastore, 1, res)) (hS : S[a]? = some (21, n)) (h0 : 0 ≤ x) (h1 : x < n) (h2 : x ≤ 2147483647) : EE d m pc ls (vl y :: vi x :: .ref a :: r) S J K R = EE d m (pc + 1) ls r S J (mm_up K a x.toNat y) R := by
  have e : (iI x).toInt = x := iI_toInt (by omega) h2
  refine (E_mem (S' := S) (I' := mm_i J) (L' := mm_up (mm_l K) a x.toNat (lL y)) (R' := R) (st' := r) hf rfl rfl ?_).trans ?_
  · unfold mm_mem; simp only [vi, vl, hS, e, h0, h1, true_and, if_true]
  · rw [ml_up]; rfl
theorem EE_aast (hf : mm_fetch m pc = some (.aastore, 1, res)) (hS : S[a]? = some (23, n)) (hq : S[q]? = some (7, 3)) (h0 : 0 ≤ x) (h1 : x < n) (h2 : x ≤ 2147483647) : EE d m pc ls (.ref q :: vi x :: .ref a :: r) S J K R = EE d m (pc + 1) ls r S J K (mm_up R a x.toNat (some q)) := by
  have e : (iI x).toInt = x := iI_toInt (by omega) h2
  refine E_mem hf rfl rfl ?_
  unfold mm_mem; simp only [vi, hS, hq, e, h0, h1, true_and, if_true]; rw [if_pos ⟨rfl, trivial⟩]
theorem EE_alen {kd : Nat} (hf : mm_fetch m pc = some (.arraylength, 1, res)) (hS : S[a]? = some (kd, n)) (h1 : 20 ≤ kd) (h2 : kd ≤ 23) : EE d m pc ls (.ref a :: r) S J K R = EE d m (pc + 1) ls (vi n :: r) S J K R := by
  refine E_mem hf rfl rfl ?_
  unfold mm_mem; simp only [hS, h1, h2, true_and, if_true]; rfl
theorem EE_newa {ty : ArrayType} {kd : Nat} (hf : mm_fetch m pc = some (.newarray ty, 2, res)) (ht : ty = .int ∨ ty = .long ∨ ty = .boolean) (hk : (if ty = .int then 20 else if ty = .long then 21 else 22) = kd) (h0 : 0 ≤ x) (h1 : x ≤ 1000) : EE d m pc ls (vi x :: r) S J K R = EE d m (pc + 2) ls (.ref S.length :: r) (S ++ [(kd, x.toNat)]) (mm_rw J S.length (fun _ => 0)) (mm_rw K S.length (fun _ => 0)) (mm_rw R S.length (fun _ => none)) := by
  have e : (iI x).toInt = x := iI_toInt (by omega) (by omega)
  subst hk
  refine (E_mem (S' := S ++ [((if ty = .int then 20 else if ty = .long then 21 else 22), x.toNat)]) (I' := mm_rw (mm_i J) S.length (fun _ => 0)) (L' := mm_rw (mm_l K) S.length (fun _ => 0)) (R' := mm_rw R S.length (fun _ => none)) (st' := .ref S.length :: r) hf rfl rfl ?_).trans ?_
  · unfold mm_mem; simp only [vi, e, h0, h1, ht, true_and, if_true]
  · rw [mi_rw0, ml_rw0]; rfl
theorem EE_anew (hf : mm_fetch m pc = some (.anewarray idx, 3, res)) (h0 : 0 ≤ x) (h1 : x ≤ 1000) : EE d m pc ls (vi x :: r) S J K R = EE d m (pc + 3) ls (.ref S.length :: r) (S ++ [(23, x.toNat)]) (mm_rw J S.length (fun _ => 0)) (mm_rw K S.length (fun _ => 0)) (mm_rw R S.length (fun _ => none)) := by
  have e : (iI x).toInt = x := iI_toInt (by omega) (by omega)
  refine (E_mem (S' := S ++ [(23, x.toNat)]) (I' := mm_rw (mm_i J) S.length (fun _ => 0)) (L' := mm_rw (mm_l K) S.length (fun _ => 0)) (R' := mm_rw R S.length (fun _ => none)) (st' := .ref S.length :: r) hf rfl rfl ?_).trans ?_
  · unfold mm_mem; simp only [vi, e, h0, h1, true_and, if_true]
  · rw [mi_rw0, ml_rw0]; rfl
theorem EE_new (hf : mm_fetch m pc = some (.new idx, 3, res)) (hc : res.toNat = c) (hN : mm_N c = N) : EE d m pc ls r S J K R = EE d m (pc + 3) ls (.ref S.length :: r) (S ++ [(c, N)]) (mm_rw J S.length (fun _ => 0)) (mm_rw K S.length (fun _ => 0)) (mm_rw R S.length (fun _ => none)) := by
  subst hc; subst hN
  refine (E_mem (S' := S ++ [(res.toNat, mm_N res.toNat)]) (I' := mm_rw (mm_i J) S.length (fun _ => 0)) (L' := mm_rw (mm_l K) S.length (fun _ => 0)) (R' := mm_rw R S.length (fun _ => none)) (st' := .ref S.length :: r) hf rfl rfl ?_).trans ?_
  · unfold mm_mem; cases r <;> rfl
  · rw [mi_rw0, ml_rw0]; rfl
theorem EE_gets (hf : mm_fetch m pc = some (.getstatic idx, 3, res)) : EE d m pc ls r S J K R = EE d m (pc + 3) ls (.ref 1 :: r) S J K R := by
  refine E_mem hf rfl rfl ?_
  unfold mm_mem; cases r <;> rfl
theorem EE_oinit (hf : mm_fetch m pc = some (.invokespecial idx, 3, -1)) (hc : mm_cats r ≤ 8) : EE d m pc ls (.ref a :: r) S J K R = EE d m (pc + 3) ls r S J K R := by
  refine E_mem hf rfl rfl ?_
  unfold mm_mem
  show (if (-1 : Int) = -1 then (if mm_cats r ≤ 8 then some (r, S, mm_i J, mm_l K, R) else none) else none) = _
  rw [if_pos rfl, if_pos hc]
theorem EE_copyI {b la lb : Nat} {ns nd nn : Int} (hf : mm_fetch m pc = some (.invokestatic idx, 3, -2)) (hc : mm_cats r ≤ 8) (hSa : S[a]? = some (20, la)) (hSb : S[b]? = some (20, lb)) (ha : 2 ≤ a) (hb : 2 ≤ b) (h1 : 0 ≤ nn) (h2 : 0 ≤ ns) (h3 : 0 ≤ nd) (h4 : ns + nn ≤ la) (h5 : nd + nn ≤ lb) (h6 : la ≤ 2147483647) (h7 : lb ≤ 2147483647) :
    EE d m pc ls (vi nn :: vi nd :: .ref b :: vi ns :: .ref a :: r) S J K R = EE d m (pc + 3) ls r S (mm_rw J b (va_cpy (J a) (J b) ns.toNat nd.toNat nn.toNat)) K R := by
  have e1 : (iI nn).toInt = nn := iI_toInt (by omega) (by omega)
  have e2 : (iI ns).toInt = ns := iI_toInt (by omega) (by omega)
  have e3 : (iI nd).toInt = nd := iI_toInt (by omega) (by omega)
  have ec : va_cpy (mm_i J a) (mm_i J b) ns.toNat nd.toNat nn.toNat = fun j => iI (va_cpy (J a) (J b) ns.toNat nd.toNat nn.toNat j) := by
    funext j; simp only [va_cpy, mm_i]; split <;> rfl
  refine (E_mem (S' := S) (I' := mm_rw (mm_i J) b (va_cpy (mm_i J a) (mm_i J b) ns.toNat nd.toNat nn.toNat)) (L' := mm_l K) (R' := R) (st' := r) hf rfl rfl ?_).trans ?_
  · unfold mm_mem
    have hc' : (r.map fun v => v.category).sum ≤ 8 := hc
    simp only [vi, hSa, hSb, e1, e2, e3, h1, h2, h3, h4, h5, hc', true_and, and_true, if_true]
    rw [if_pos ⟨ha, hb⟩]
  · rw [ec, mi_rw]; rfl
theorem EE_copyL {b la lb : Nat} {ns nd nn : Int} (hf : mm_fetch m pc = some (.invokestatic idx, 3, -2)) (hc : mm_cats r ≤ 8) (hSa : S[a]? = some (21, la)) (hSb : S[b]? = some (21, lb)) (ha : 2 ≤ a) (hb : 2 ≤ b) (h1 : 0 ≤ nn) (h2 : 0 ≤ ns) (h3 : 0 ≤ nd) (h4 : ns + nn ≤ la) (h5 : nd + nn ≤ lb) (h6 : la ≤ 2147483647) (h7 : lb ≤ 2147483647) :
    EE d m pc ls (vi nn :: vi nd :: .ref b :: vi ns :: .ref a :: r) S J K R = EE d m (pc + 3) ls r S J (mm_rw K b (va_cpy (K a) (K b) ns.toNat nd.toNat nn.toNat)) R := by
  have e1 : (iI nn).toInt = nn := iI_toInt (by omega) (by omega)
  have e2 : (iI ns).toInt = ns := iI_toInt (by omega) (by omega)
  have e3 : (iI nd).toInt = nd := iI_toInt (by omega) (by omega)
  have ec : va_cpy (mm_l K a) (mm_l K b) ns.toNat nd.toNat nn.toNat = fun j => lL (va_cpy (K a) (K b) ns.toNat nd.toNat nn.toNat j) := by
    funext j; simp only [va_cpy, mm_l]; split <;> rfl
  refine (E_mem (S' := S) (I' := mm_i J) (L' := mm_rw (mm_l K) b (va_cpy (mm_l K a) (mm_l K b) ns.toNat nd.toNat nn.toNat)) (R' := R) (st' := r) hf rfl rfl ?_).trans ?_
  · unfold mm_mem
    have hc' : (r.map fun v => v.category).sum ≤ 8 := hc
    simp only [vi, hSa, hSb, e1, e2, e3, h1, h2, h3, h4, h5, hc', true_and, and_true, if_true]
    rw [if_pos ⟨ha, hb⟩, if_neg (by decide)]
  · rw [ec, ml_rw]; rfl
/-- ends -/
theorem EE_iret (hf : mm_fetch m pc = some (.ireturn, 1, res)) (hr : mm_rt m = some .int) : EE d m pc ls [vi x] S J K R = ok (some (vi x)) S J K R := by
  refine E_ret hf rfl rfl rfl ?_
  unfold mm_ret vi; simp only [hr, if_true]
theorem EE_zret (hf : mm_fetch m pc = some (.ireturn, 1, res)) (hr : mm_rt m = some .boolean) (hx : x = 0 ∨ x = 1) : EE d m pc ls [vi x] S J K R = ok (some (vi x)) S J K R := by
  have h01 : iI x = 0 ∨ iI x = 1 := by rcases hx with rfl | rfl; exact Or.inl rfl; exact Or.inr rfl
  refine E_ret hf rfl rfl rfl ?_
  unfold mm_ret vi
  simp only [hr, h01, and_true, if_true]
  rw [if_neg (by decide)]
theorem EE_lret (hf : mm_fetch m pc = some (.lreturn, 1, res)) (hr : mm_rt m = some .long) : EE d m pc ls [vl x] S J K R = ok (some (vl x)) S J K R := by
  refine E_ret hf rfl rfl rfl ?_
  unfold mm_ret vl; simp only [hr, if_true]
theorem EE_aret {nm : String} (hf : mm_fetch m pc = some (.areturn, 1, res)) (hr : mm_rt m = some (.object nm)) : EE d m pc ls [.ref a] S J K R = ok (some (.ref a)) S J K R := by
  refine E_ret hf rfl rfl rfl ?_
  unfold mm_ret; simp only [hr]
theorem EE_aretN {nm : String} (hf : mm_fetch m pc = some (.areturn, 1, res)) (hr : mm_rt m = some (.object nm)) : EE d m pc ls [.null] S J K R = ok (some .null) S J K R := by
  refine E_ret hf rfl rfl rfl ?_
  unfold mm_ret; simp only [hr]
theorem EE_vret (hf : mm_fetch m pc = some (.return_, 1, res)) (hr : mm_rt m = none) : EE d m pc ls [] S J K R = ok none S J K R := by
  refine E_ret hf rfl rfl rfl ?_
  unfold mm_ret; simp only [hr, if_true]
/-- calls -/
theorem EE_call {i : Instr} {k : Nat} {as rest : List Value} {e : mm_ls} (hf : mm_fetch m pc = some (i, len, res)) (h1 : mm_pure i res ls st = none) (h2 : mm_jump i len pc st = none) (h3 : ∀ S J K R, mm_mem m i res st S (mm_i J) (mm_l K) R = none) (h4 : mm_ret m i st = none) (h5 : mm_call i res st S = some (k, as, rest)) (he : mm_entry k as = e) :
    EE (d + 1) m pc ls st S J K R = kb (EE d k 0 e [] S J K R) d m (pc + len) ls rest := by
  subst he; exact E_call hf h1 h2 (h3 S J K R) h4 h5
theorem mc_V {k : Nat} {as rest : List Value} (hres : res.toNat = k) (h0 : 0 ≤ res) (hd : mm_kd k = 1) (hn : st.drop (mm_np k) = .ref a :: rest) (hl : mm_np k ≤ st.length) (hci : mm_ci k = c) (hN : mm_N c = N) (hS : S[a]? = some (c, N)) (hc : mm_cats rest ≤ 8) (has : (st.take (mm_np k)).reverse = as) (hlen : (mm_lay (.ref a :: as)).length ≤ mm_ml k) : mm_call (.invokevirtual idx) res st S = some (k, .ref a :: as, rest) := by
  subst hres; subst has; subst hci; subst hN
  unfold mm_call
  simp only [hn, h0, hd, hl, hS, hc, hlen, true_and, and_self, if_true]
theorem mc_I {k : Nat} {as rest : List Value} (hres : res.toNat = k) (h0 : 0 ≤ res) (hd : mm_kd k = 2) (hn : st.drop (mm_np k) = .ref a :: rest) (hl : mm_np k ≤ st.length) (hci : mm_ci k = c) (hN : mm_N c = N) (hS : S[a]? = some (c, N)) (hc : mm_cats rest ≤ 8) (has : (st.take (mm_np k)).reverse = as) (hlen : (mm_lay (.ref a :: as)).length ≤ mm_ml k) : mm_call (.invokespecial idx) res st S = some (k, .ref a :: as, rest) := by
  subst hres; subst has; subst hci; subst hN
  unfold mm_call
  simp only [hn, h0, hd, hl, hS, hc, hlen, true_and, and_self, if_true]
theorem mc_S {k : Nat} {as rest : List Value} (hres : res.toNat = k) (h0 : 0 ≤ res) (hd : mm_kd k = 0) (hn : st.drop (mm_np k) = rest) (hl : mm_np k ≤ st.length) (hc : mm_cats rest ≤ 8) (has : (st.take (mm_np k)).reverse = as) (hlen : (mm_lay as).length ≤ mm_ml k) : mm_call (.invokestatic idx) res st S = some (k, as, rest) := by
  subst hres; subst has; subst hn
  unfold mm_call
  simp only [h0, hd, hl, hc, hlen, true_and, and_self, if_true]
/-- switches -/
theorem EE_tswIn {dd lo hi o : Int} {offs : Array Int} (hf : mm_fetch m pc = some (.tableswitch dd lo hi offs, len, res)) (h1 : lo ≤ x) (h2 : x ≤ hi) (h3 : -2147483648 ≤ x) (h4 : x ≤ 2147483647) (ho : offs.toList[(x - lo).toNat]? = some o) (ht : mm_tgt pc o = some t) : EE d m pc ls (vi x :: r) S J K R = EE d m t ls r S J K R := by
  have e : (iI x).toInt = x := iI_toInt h3 h4
  refine E_jump hf rfl ?_; unfold mm_jump
  simp only [mm_kind, mm_off, vi, e, ho]
  rw [if_neg (by omega)]; simp only [ht]
theorem EE_tswOut {dd lo hi : Int} {offs : Array Int} (hf : mm_fetch m pc = some (.tableswitch dd lo hi offs, len, res)) (h1 : x < lo ∨ hi < x) (h3 : -2147483648 ≤ x) (h4 : x ≤ 2147483647) (ht : mm_tgt pc dd = some t) : EE d m pc ls (vi x :: r) S J K R = EE d m t ls r S J K R := by
  have e : (iI x).toInt = x := iI_toInt h3 h4
  refine E_jump hf rfl ?_; unfold mm_jump
  simp only [mm_kind, mm_off, vi, e]
  rw [if_pos h1]; simp only [ht]
theorem EE_lsw {dd o : Int} {ps : Array (Int × Int)} (hf : mm_fetch m pc = some (.lookupswitch dd ps, len, res)) (h3 : -2147483648 ≤ x) (h4 : x ≤ 2147483647) (ho : Op.lookupswitch.offset ps.toList dd x = o) (ht : mm_tgt pc o = some t) : EE d m pc ls (vi x :: r) S J K R = EE d m t ls r S J K R := by
  have e : (iI x).toInt = x := iI_toInt h3 h4
  refine E_jump hf rfl ?_; unfold mm_jump
  simp only [mm_kind, mm_off, vi, e, ho, ht]
end
