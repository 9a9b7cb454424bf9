set_option maxRecDepth 100000
theorem mm_mem_mono {m : Nat} {i : Instr} {res : Int} {st st' : List Value} {S S' : mm_S} {I I' : mm_I} {L L' : mm_L} {R R' : mm_R} (h : mm_mem m i res st S I L R = some (st', S', I', L', R')) : S.length ≤ S'.length ∧ mm_sl S ≤ mm_sl S' := by
  have key : ∀ {x : List Value × mm_S × mm_I × mm_L × mm_R}, (x.2.1 = S ∨ ∃ q, x.2.1 = S ++ [q]) → x = (st', S', I', L', R') → S.length ≤ S'.length ∧ mm_sl S ≤ mm_sl S' := by
    rintro x (hx | ⟨q, hx⟩) rfl
    · simp only at hx; subst hx; exact ⟨Nat.le_refl _, Nat.le_refl _⟩
    · simp only at hx; subst hx; rw [mm_sl_push]; simp
  unfold mm_mem at h
  repeat' split at h
  all_goals first
    | (cases h; done)
    | exact key (Or.inl rfl) (Option.some.inj h)
    | exact key (Or.inr ⟨_, rfl⟩) (Option.some.inj h)
theorem mm_ex_mono : ∀ {n d m pc : Nat} {ls : mm_ls} {st : List Value} {S : mm_S} {I : mm_I} {L : mm_L} {R : mm_R} {r : mm_O}, mm_ex n d m pc ls st S I L R = some r → S.length ≤ r.2.1.length ∧ mm_sl S ≤ mm_sl r.2.1 := by
  intro n
  induction n with
  | zero => intro d m pc ls st S I L R r h; simp [mm_ex] at h
  | succ n ih =>
    intro d m pc ls st S I L R r h
    rw [mm_ex] at h
    cases hf : mm_fetch m pc with
    | none => rw [hf] at h; simp at h
    | some q =>
      obtain ⟨i, len, res⟩ := q
      rw [hf] at h
      dsimp only at h
      cases hp : mm_pure i res ls st with
      | some q => obtain ⟨ls', st'⟩ := q; rw [hp] at h; exact ih h
      | none =>
        rw [hp] at h; dsimp only at h
        cases hj : mm_jump i len pc st with
        | some q => obtain ⟨pc', st'⟩ := q; rw [hj] at h; exact ih h
        | none =>
          rw [hj] at h; dsimp only at h
          cases hm : mm_mem m i res st S I L R with
          | some q =>
            obtain ⟨st', S', I', L', R'⟩ := q
            rw [hm] at h
            have a := mm_mem_mono hm
            have b := ih h
            exact ⟨Nat.le_trans a.1 b.1, Nat.le_trans a.2 b.2⟩
          | none =>
            rw [hm] at h; dsimp only at h
            cases hr : mm_ret m i st with
            | some v => rw [hr] at h; obtain rfl := Option.some.inj h; exact ⟨Nat.le_refl _, Nat.le_refl _⟩
            | none =>
              rw [hr] at h; dsimp only at h
              cases hc : mm_call i res st S with
              | none => rw [hc] at h; simp at h
              | some q =>
                obtain ⟨k, as, rest⟩ := q
                rw [hc] at h
                cases d with
                | zero => simp at h
                | succ d =>
                  dsimp only at h
                  cases hx : mm_ex n d k 0 (mm_entry k as) [] S I L R with
                  | none => rw [hx] at h; simp at h
                  | some q =>
                    obtain ⟨v, S', I', L', R'⟩ := q
                    rw [hx] at h
                    have a := ih hx
                    have b := ih h
                    exact ⟨Nat.le_trans a.1 b.1, Nat.le_trans a.2 b.2⟩
theorem mm_ok_put {Ls : Nat} {xs : Nat → Int32} {S : mm_S} {I I' : mm_I} (h : mm_ok Ls xs S I) (h0 : I' 0 = I 0) (h1 : I' 1 = I 1) : mm_ok Ls xs S I' := by
  obtain ⟨g0, g1, g2, g3, g4⟩ := h
  exact ⟨g0, g1, fun j => by rw [h0]; exact g2 j, fun j hj => by rw [h1]; exact g3 j hj, g4⟩
theorem mm_ok_push {Ls : Nat} {xs : Nat → Int32} {S : mm_S} {I I' : mm_I} {q : Nat × Nat} (h : mm_ok Ls xs S I) (h0 : I' 0 = I 0) (h1 : I' 1 = I 1) (hq : q.1 < 12 ∨ (20 ≤ q.1 ∧ q.1 ≤ 23)) : mm_ok Ls xs (S ++ [q]) I' := by
  have hl := mm_len2 h
  obtain ⟨g0, g1, g2, g3, g4⟩ := h
  refine ⟨by rw [List.getElem?_append_left (by omega)]; exact g0, by rw [List.getElem?_append_left (by omega)]; exact g1, fun j => by rw [h0]; exact g2 j, fun j hj => by rw [h1]; exact g3 j hj, fun k q' hk => ?_⟩
  by_cases hk2 : k < S.length
  · rw [List.getElem?_append_left hk2] at hk; exact g4 k q' hk
  · rw [List.getElem?_append_right (by omega)] at hk
    cases hz : k - S.length with
    | zero => rw [hz] at hk; simp at hk; subst hk; exact hq
    | succ z => rw [hz] at hk; simp at hk
section
variable {p : Program} {l : Launch} {e : Env} {Rm : Room} {s : State} {mid : MethodId} {args : Array Value} {below : List Frame} {meth : Method} {c : Code} {H : Heap} {locs : List Loc} {cells slots : Nat} {Q : State → Prop}
variable {sz b t0 Ls : Nat} {xs : Nat → Int32} {D : va_G} {cI cJ cZ cT : ClassId} {S S' : mm_S} {I I' : mm_I} {L L' : mm_L} {R R' : mm_R}
variable {pc len m : Nat} {lsA : Array Slot} {ls ls' : mm_ls} {st st' rest : List Value} {i : Instr} {res : Int}
set_option maxHeartbeats 8000000 in
theorem mm_sim_mem (hx : p.tables.exec = Jvm.exec) (hb : c.code = mm_b m) (hml : c.maxLocals = lsA.size) (hown : s.vm.findClass (mm_y m).cls = some mid.cls) (hts : ∀ w ∈ mm_TB, w.before args s = true) (hB : mm_B sz b t0 Ls xs D cI cJ cZ cT s)
    (hini : mm_kd m = 2 → meth.name = "<init>" ∧ mm_C (mm_ci m) = (mm_y m).cls) (hfr : 1 ≤ Rm.frames) (hlo : 100 ≤ Rm.locals) (hdg : decode (mm_b m) pc = .ok (i, len)) (hlk : mm_lkI (mm_y m).cls i res) (hln : mm_len i = 0 ∨ mm_len i = len)
    (hok : mm_ok Ls xs S I) (hP : va_P D vwCl (mm_ws sz b t0 cI cJ cZ cT S I L R) H) (hS : va_S (fun q => sz ≤ q) s.heap H locs) {k0 s0 : Nat} (hk0 : s.heap.size + 2 = sz + k0) (hk : k0 ≤ S.length) (hs0 : s0 ≤ mm_sl S)
    (hm : mm_mem m i res st S I L R = some (st', S', I', L', R')) (hrc : S'.length - k0 ≤ Rm.cells) (hrs : mm_sl S' - s0 ≤ Rm.slots)
    (k : ∀ (H1 : Heap) (locs1 : List Loc), mm_ok Ls xs S' I' → va_P D vwCl (mm_ws sz b t0 cI cJ cZ cT S' I' L' R') H1 → va_S (fun q => sz ≤ q) s.heap H1 locs1 → W p l e Rm s mid args below meth c H1 locs1 (S'.length - k0) (mm_sl S' - s0) Q (F0 mid (pc + len) lsA (st'.map (mm_tr sz b t0)))) :
    W p l e Rm s mid args below meth c H locs (S.length - k0) (mm_sl S - s0) Q (F0 mid pc lsA (st.map (mm_tr sz b t0))) := by
  have hl2 := mm_len2 hok
  unfold mm_mem at hm
  split at hm
  · -- getfield
    rename_i idx a r
    have e : 3 = len := hln.resolve_left (by simp [mm_len])
    subst e
    split at hm
    · rename_i hc
      obtain ⟨rfl, rfl, rfl, rfl, rfl⟩ : _ ∧ _ ∧ _ ∧ _ ∧ _ := by simpa only [Option.some.injEq, Prod.mk.injEq] using hm
      exact mm_sim_getf hx hb hown hts hB hlk hok hP hc hdg (k H locs hok hP hS)
    · cases hm
  · -- putfield
    rename_i idx v a r
    have e : 3 = len := hln.resolve_left (by simp [mm_len])
    subst e
    obtain ⟨hj, hc12, hl⟩ := hlk
    split at hm
    · rename_i hc
      obtain ⟨hSa, hfin⟩ := hc
      have ha2 := mm_made hok hSa (by omega)
      have hft := (mm_cls hc12).2.2.2.2.2.1 _ hj
      split at hm
      · rename_i x hf
        obtain ⟨rfl, rfl, rfl, rfl, rfl⟩ : _ ∧ _ ∧ _ ∧ _ ∧ _ := by simpa only [Option.some.injEq, Prod.mk.injEq] using hm
        rw [hf] at hft
        refine mm_sim_putf hx hb hown hts hB hini hj hc12 hl hok hP hS hSa hfin (v := .int x) ?_ ?_ (by rw [hf]; simp [mm_up]) (fun k hk => ⟨by simp [mm_up, hk], rfl⟩) (fun k hk => ⟨mm_up_ne hk, rfl, rfl⟩) hdg (fun H1 locs1 hP1 hS1 => k H1 locs1 (mm_ok_put hok (mm_up_ne (by omega)) (mm_up_ne (by omega))) hP1 hS1)
        · cases ht : mm_ty (res.toNat / 1000) (res.toNat % 1000) <;> first | rfl | (rw [ht] at hft; simp [mm_tyc] at hft)
        · cases ht : mm_ty (res.toNat / 1000) (res.toNat % 1000) <;> first | rfl | (rw [ht] at hft; simp [mm_tyc] at hft)
      · rename_i x hf
        split at hm
        · rename_i h01
          obtain ⟨rfl, rfl, rfl, rfl, rfl⟩ : _ ∧ _ ∧ _ ∧ _ ∧ _ := by simpa only [Option.some.injEq, Prod.mk.injEq] using hm
          rw [hf] at hft
          refine mm_sim_putf hx hb hown hts hB hini hj hc12 hl hok hP hS hSa hfin (v := .int x) ?_ ?_ (by rw [hf]; simp [mm_up]) (fun k hk => ⟨by simp [mm_up, hk], rfl⟩) (fun k hk => ⟨mm_up_ne hk, rfl, rfl⟩) hdg (fun H1 locs1 hP1 hS1 => k H1 locs1 (mm_ok_put hok (mm_up_ne (by omega)) (mm_up_ne (by omega))) hP1 hS1)
          · cases ht : mm_ty (res.toNat / 1000) (res.toNat % 1000) <;> first | (rcases h01 with rfl | rfl <;> rfl) | (rw [ht] at hft; simp [mm_tyc] at hft)
          · cases ht : mm_ty (res.toNat / 1000) (res.toNat % 1000) <;> first | (rcases h01 with rfl | rfl <;> rfl) | (rw [ht] at hft; simp [mm_tyc] at hft)
        · cases hm
      · rename_i q hf
        obtain ⟨rfl, rfl, rfl, rfl, rfl⟩ : _ ∧ _ ∧ _ ∧ _ ∧ _ := by simpa only [Option.some.injEq, Prod.mk.injEq] using hm
        rw [hf] at hft
        refine mm_sim_putf hx hb hown hts hB hini hj hc12 hl hok hP hS hSa hfin (v := .ref (mm_ad sz b t0 q)) ?_ ?_ (by rw [hf]; simp [mm_up, va_rf]) (fun k hk => ⟨rfl, by simp [mm_up, hk]⟩) (fun k hk => ⟨rfl, rfl, mm_up_ne hk⟩) hdg (fun H1 locs1 hP1 hS1 => k H1 locs1 hok hP1 hS1)
        · cases ht : mm_ty (res.toNat / 1000) (res.toNat % 1000) <;> first | rfl | (rw [ht] at hft; simp [mm_tyc] at hft)
        · cases ht : mm_ty (res.toNat / 1000) (res.toNat % 1000) <;> first | rfl | (rw [ht] at hft; simp [mm_tyc] at hft)
      · rename_i hf
        obtain ⟨rfl, rfl, rfl, rfl, rfl⟩ : _ ∧ _ ∧ _ ∧ _ ∧ _ := by simpa only [Option.some.injEq, Prod.mk.injEq] using hm
        rw [hf] at hft
        refine mm_sim_putf hx hb hown hts hB hini hj hc12 hl hok hP hS hSa hfin (v := .null) ?_ ?_ (by rw [hf]; simp [mm_up, va_rf]) (fun k hk => ⟨rfl, by simp [mm_up, hk]⟩) (fun k hk => ⟨rfl, rfl, mm_up_ne hk⟩) hdg (fun H1 locs1 hP1 hS1 => k H1 locs1 hok hP1 hS1)
        · cases ht : mm_ty (res.toNat / 1000) (res.toNat % 1000) <;> first | rfl | (rw [ht] at hft; simp [mm_tyc] at hft)
        · cases ht : mm_ty (res.toNat / 1000) (res.toNat % 1000) <;> first | rfl | (rw [ht] at hft; simp [mm_tyc] at hft)
      · cases hm
    · cases hm
  · -- iaload
    rename_i x a r
    have e : 1 = len := hln.resolve_left (by simp [mm_len])
    subst e
    split at hm
    · rename_i kd n hSa
      split at hm
      · rename_i hc
        obtain ⟨rfl, h0, hn⟩ := hc
        obtain ⟨rfl, rfl, rfl, rfl, rfl⟩ : _ ∧ _ ∧ _ ∧ _ ∧ _ := by simpa only [Option.some.injEq, Prod.mk.injEq] using hm
        exact mm_sim_iald hx hb hB hok hP hS hSa h0 hn hdg (k H locs hok hP hS)
      · cases hm
    · cases hm
  · -- baload
    rename_i x a r
    have e : 1 = len := hln.resolve_left (by simp [mm_len])
    subst e
    split at hm
    · rename_i kd n hSa
      split at hm
      · rename_i hc
        obtain ⟨rfl, h0, hn⟩ := hc
        obtain ⟨rfl, rfl, rfl, rfl, rfl⟩ : _ ∧ _ ∧ _ ∧ _ ∧ _ := by simpa only [Option.some.injEq, Prod.mk.injEq] using hm
        exact mm_sim_bald hx hb hB hok hP hSa h0 hn hdg (k H locs hok hP hS)
      · cases hm
    · cases hm
  · -- laload
    rename_i x a r
    have e : 1 = len := hln.resolve_left (by simp [mm_len])
    subst e
    split at hm
    · rename_i kd n hSa
      split at hm
      · rename_i hc
        obtain ⟨rfl, h0, hn⟩ := hc
        obtain ⟨rfl, rfl, rfl, rfl, rfl⟩ : _ ∧ _ ∧ _ ∧ _ ∧ _ := by simpa only [Option.some.injEq, Prod.mk.injEq] using hm
        exact mm_sim_lald hx hb hB hok hP hSa h0 hn hdg (k H locs hok hP hS)
      · cases hm
    · cases hm
  · -- aaload
    rename_i x a r
    have e : 1 = len := hln.resolve_left (by simp [mm_len])
    subst e
    split at hm
    · rename_i kd n hSa
      split at hm
      · rename_i hc
        obtain ⟨rfl, h0, hn⟩ := hc
        obtain ⟨rfl, rfl, rfl, rfl, rfl⟩ : _ ∧ _ ∧ _ ∧ _ ∧ _ := by simpa only [Option.some.injEq, Prod.mk.injEq] using hm
        exact mm_sim_aald hx hb hB hok hP hSa h0 hn hdg (k H locs hok hP hS)
      · cases hm
    · cases hm
  · -- iastore
    rename_i v x a r
    have e : 1 = len := hln.resolve_left (by simp [mm_len])
    subst e
    split at hm
    · rename_i kd n hSa
      split at hm
      · rename_i hc
        obtain ⟨rfl, ha2, h0, hn⟩ := hc
        obtain ⟨rfl, rfl, rfl, rfl, rfl⟩ : _ ∧ _ ∧ _ ∧ _ ∧ _ := by simpa only [Option.some.injEq, Prod.mk.injEq] using hm
        have ha3 : (2 : Nat) ≤ a := ha2
        have ne0 : (0 : Nat) ≠ a := by omega
        have ne1 : (1 : Nat) ≠ a := by omega
        exact mm_sim_iast hx hb hB hP hS hSa ha2 h0 hn hdg (fun H1 locs1 hP1 hS1 => k H1 locs1 (mm_ok_put hok (mm_up_ne ne0) (mm_up_ne ne1)) hP1 hS1)
      · cases hm
    · cases hm
  · -- bastore
    rename_i v x a r
    have e : 1 = len := hln.resolve_left (by simp [mm_len])
    subst e
    split at hm
    · rename_i kd n hSa
      split at hm
      · rename_i hc
        obtain ⟨rfl, hv, h0, hn⟩ := hc
        have ha2 := mm_made hok hSa (by decide)
        obtain ⟨rfl, rfl, rfl, rfl, rfl⟩ : _ ∧ _ ∧ _ ∧ _ ∧ _ := by simpa only [Option.some.injEq, Prod.mk.injEq] using hm
        exact mm_sim_bast hx hb hB hP hS hSa ha2 hv h0 hn hdg (fun H1 locs1 hP1 hS1 => k H1 locs1 (mm_ok_put hok (mm_up_ne (by omega)) (mm_up_ne (by omega))) hP1 hS1)
      · cases hm
    · cases hm
  · -- lastore
    rename_i v x a r
    have e : 1 = len := hln.resolve_left (by simp [mm_len])
    subst e
    split at hm
    · rename_i kd n hSa
      split at hm
      · rename_i hc
        obtain ⟨rfl, h0, hn⟩ := hc
        have ha2 := mm_made hok hSa (by decide)
        obtain ⟨rfl, rfl, rfl, rfl, rfl⟩ : _ ∧ _ ∧ _ ∧ _ ∧ _ := by simpa only [Option.some.injEq, Prod.mk.injEq] using hm
        exact mm_sim_last hx hb hB hP hS hSa ha2 h0 hn hdg (fun H1 locs1 hP1 hS1 => k H1 locs1 hok hP1 hS1)
      · cases hm
    · cases hm
  · -- aastore
    rename_i q x a r
    have e : 1 = len := hln.resolve_left (by simp [mm_len])
    subst e
    split at hm
    · rename_i kd n cq nq hSa hSq
      split at hm
      · rename_i hc
        obtain ⟨rfl, rfl, rfl, h0, hn⟩ := hc
        obtain ⟨rfl, rfl, rfl, rfl, rfl⟩ : _ ∧ _ ∧ _ ∧ _ ∧ _ := by simpa only [Option.some.injEq, Prod.mk.injEq] using hm
        exact mm_sim_aast hx hb hB hok hP hS hSa hSq h0 hn hdg (fun H1 locs1 hP1 hS1 => k H1 locs1 hok hP1 hS1)
      · cases hm
    · cases hm
  · -- arraylength
    rename_i a r
    have e : 1 = len := hln.resolve_left (by simp [mm_len])
    subst e
    split at hm
    · rename_i kd n hSa
      split at hm
      · rename_i hc
        obtain ⟨rfl, rfl, rfl, rfl, rfl⟩ : _ ∧ _ ∧ _ ∧ _ ∧ _ := by simpa only [Option.some.injEq, Prod.mk.injEq] using hm
        exact mm_sim_alen hx hb hB hok hP hS hSa hc.1 hc.2 hdg (k H locs hok hP hS)
      · cases hm
    · cases hm
  · -- newarray
    rename_i t x r
    have e : 2 = len := hln.resolve_left (by simp [mm_len])
    subst e
    split at hm
    · rename_i hc
      obtain ⟨rfl, rfl, rfl, rfl, rfl⟩ : _ ∧ _ ∧ _ ∧ _ ∧ _ := by simpa only [Option.some.injEq, Prod.mk.injEq] using hm
      have hq : (if t = .int then 20 else if t = .long then 21 else 22 : Nat) < 12 ∨ (20 ≤ (if t = .int then 20 else if t = .long then 21 else 22 : Nat) ∧ (if t = .int then 20 else if t = .long then 21 else 22 : Nat) ≤ 23) := by
        split
        · omega
        · split <;> omega
      rw [List.length_append, List.length_singleton] at hrc k
      rw [mm_sl_push] at hrs k
      exact mm_sim_newa hx hb hts hB hok hP hS hc.1 hc.2.1 hc.2.2 hk0 hk hs0 hrc hrs hdg (fun H1 locs1 hP1 hS1 => k H1 locs1 (mm_ok_push hok (mm_rw_ne (by omega)) (mm_rw_ne (by omega)) hq) hP1 hS1)
    · cases hm
  · -- anewarray
    rename_i idx x r
    have e : 3 = len := hln.resolve_left (by simp [mm_len])
    subst e
    split at hm
    · rename_i hc
      obtain ⟨rfl, rfl, rfl, rfl, rfl⟩ : _ ∧ _ ∧ _ ∧ _ ∧ _ := by simpa only [Option.some.injEq, Prod.mk.injEq] using hm
      rw [List.length_append, List.length_singleton] at hrc k
      rw [mm_sl_push] at hrs k
      exact mm_sim_anew hx hb hown hts hB hok hP hS hlk hc.1 hc.2 hk0 hk hs0 hrc hrs hdg (fun H1 locs1 hP1 hS1 => k H1 locs1 (mm_ok_push hok (mm_rw_ne (by omega)) (mm_rw_ne (by omega)) (Or.inr ⟨Nat.le_of_ble_eq_true rfl, Nat.le_of_ble_eq_true rfl⟩)) hP1 hS1)
    · cases hm
  · -- new
    rename_i idx r
    have e : 3 = len := hln.resolve_left (by simp [mm_len])
    subst e
    obtain ⟨rfl, rfl, rfl, rfl, rfl⟩ : _ ∧ _ ∧ _ ∧ _ ∧ _ := by simpa only [Option.some.injEq, Prod.mk.injEq] using hm
    rw [List.length_append, List.length_singleton] at hrc k
    rw [mm_sl_push] at hrs k
    exact mm_sim_new hx hb hown hts hB hok hP hS hlk.1 hlk.2 hk0 hk hs0 hrc hrs hdg (fun H1 locs1 hP1 hS1 => k H1 locs1 (mm_ok_push hok (mm_rw_ne (by omega)) (mm_rw_ne (by omega)) (Or.inl hlk.1)) hP1 hS1)
  · -- getstatic
    rename_i idx r
    have e : 3 = len := hln.resolve_left (by simp [mm_len])
    subst e
    obtain ⟨rfl, rfl, rfl, rfl, rfl⟩ : _ ∧ _ ∧ _ ∧ _ ∧ _ := by simpa only [Option.some.injEq, Prod.mk.injEq] using hm
    exact mm_sim_gets hx hb hown hts hB hS hlk hdg (k H locs hok hP hS)
  · -- Object.<init>
    rename_i idx
    have e : 3 = len := hln.resolve_left (by simp [mm_len])
    subst e
    split at hm
    · rename_i hres
      subst hres
      split at hm
      · rename_i a r
        split at hm
        · rename_i hc
          obtain ⟨rfl, rfl, rfl, rfl, rfl⟩ : _ ∧ _ ∧ _ ∧ _ ∧ _ := by simpa only [Option.some.injEq, Prod.mk.injEq] using hm
          exact mm_sim_oinit hx hb hml.symm hown hts hfr hlo (by rw [mm_cats_tr]; exact hc) hlk hdg (k H locs hok hP hS)
        · cases hm
      · cases hm
    · cases hm
  · -- arraycopy
    rename_i idx
    have e : 3 = len := hln.resolve_left (by simp [mm_len])
    subst e
    split at hm
    · rename_i hres
      subst hres
      split at hm
      · rename_i n dp a' sp a r
        split at hm
        · rename_i ka la kb lb hSa hSb
          split at hm
          · rename_i hc
            obtain ⟨ha2, hb2, rfl, h1, h2, h3, h4, h5, hc⟩ := hc
            split at hm
            · rename_i h20
              subst h20
              obtain ⟨rfl, rfl, rfl, rfl, rfl⟩ : _ ∧ _ ∧ _ ∧ _ ∧ _ := by simpa only [Option.some.injEq, Prod.mk.injEq] using hm
              have hb3 : (2 : Nat) ≤ a' := hb2
              have ne0 : (0 : Nat) ≠ a' := by omega
              have ne1 : (1 : Nat) ≠ a' := by omega
              exact mm_sim_copyi hx hb hml hown hts hB hP hS hfr hlo (by rw [mm_cats_tr]; exact hc) hlk hSa hSb ha2 hb2 h1 h2 h3 h4 h5 hdg (fun H1 locs1 hP1 hS1 => k H1 locs1 (mm_ok_put hok (mm_rw_ne ne0) (mm_rw_ne ne1)) hP1 hS1)
            · split at hm
              · rename_i h21
                subst h21
                obtain ⟨rfl, rfl, rfl, rfl, rfl⟩ : _ ∧ _ ∧ _ ∧ _ ∧ _ := by simpa only [Option.some.injEq, Prod.mk.injEq] using hm
                exact mm_sim_copyl hx hb hml hown hts hB hP hS hfr hlo (by rw [mm_cats_tr]; exact hc) hlk hSa hSb ha2 hb2 h1 h2 h3 h4 h5 hdg (fun H1 locs1 hP1 hS1 => k H1 locs1 hok hP1 hS1)
              · cases hm
          · cases hm
        · cases hm
      · cases hm
    · cases hm
  · cases hm
end
section
variable {p : Program} {l : Launch} {e : Env} {Rm : Room} {s : State} {mid : MethodId} {args : Array Value} {below : List Frame} {meth : Method} {c : Code} {H : Heap} {locs : List Loc} {cells slots : Nat} {Q : State → Prop}
variable {sz b t0 Ls : Nat} {xs : Nat → Int32} {D : va_G} {cI cJ cZ cT : ClassId} {S S' : mm_S} {I I' : mm_I} {L L' : mm_L} {R R' : mm_R}
variable {pc len m : Nat} {lsA : Array Slot} {ls ls' : mm_ls} {st st' rest : List Value} {i : Instr} {res : Int}
theorem mm_sim_lshl (hx : p.tables.exec = Jvm.exec) (hb : c.code = mm_b m) {x : Int64} {y : Int32} (hdg : decode (mm_b m) pc = .ok (.lshl, 1))
    (k : W p l e Rm s mid args below meth c H locs cells slots Q (F0 mid (pc + 1) lsA (.long (x <<< (y.toInt64 &&& 63)) :: rest))) : W p l e Rm s mid args below meth c H locs cells slots Q (F0 mid pc lsA (.int y :: .long x :: rest)) :=
  lv_lshl hx hb hdg rfl k
theorem mm_kind13 (h : mm_kind i = 13) : i = .lshl := by
  unfold mm_kind at h
  split at h <;> first | rfl | (simp at h)
theorem mm_sim_pure (hx : p.tables.exec = Jvm.exec) (hb : c.code = mm_b m) (hml : c.maxLocals = mm_ml m) (hown : s.vm.findClass (mm_y m).cls = some mid.cls) (hts : ∀ w ∈ mm_TB, w.before args s = true)
    (hfr : 1 ≤ Rm.frames) (hlo : 100 ≤ Rm.locals) (hcc : cells ≤ Rm.cells) (hss : slots ≤ Rm.slots) (hl : mm_lh sz b t0 lsA (mm_ml m) ls) (hdg : decode (mm_b m) pc = .ok (i, len)) (hlk : mm_lkI (mm_y m).cls i res) (hln : mm_len i = 0 ∨ mm_len i = len)
    (hp : mm_pure i res ls st = some (ls', st'))
    (k : ∀ lsA', mm_lh sz b t0 lsA' (mm_ml m) ls' → W p l e Rm s mid args below meth c H locs cells slots Q (F0 mid (pc + len) lsA' (st'.map (mm_tr sz b t0)))) : W p l e Rm s mid args below meth c H locs cells slots Q (F0 mid pc lsA (st.map (mm_tr sz b t0))) := by
  unfold mm_pure at hp
  split at hp
  · split at hp
    · rename_i v hv
      obtain ⟨rfl, rfl⟩ := Prod.mk.inj (Option.some.inj hp)
      exact mm_sim_cst hx hb hown hts hdg hlk hln hv (k lsA hl)
    · cases hp
  · split at hp
    · rename_i kk t ho
      split at hp
      · rename_i v hv
        split at hp
        · rename_i ht
          obtain ⟨rfl, rfl⟩ := Prod.mk.inj (Option.some.inj hp)
          exact mm_sim_ld hx hb hl hdg hln ho hv ht (k lsA hl)
        · cases hp
      · cases hp
    · cases hp
  · split at hp
    · rename_i kk t v r ho
      split at hp
      · rename_i ht
        split at hp
        · rename_i ls2 hs
          obtain ⟨rfl, rfl⟩ := Prod.mk.inj (Option.some.inj hp)
          exact mm_sim_st hx hb hl hdg hln ho ht hs k
        · cases hp
      · cases hp
    · cases hp
  · split at hp
    · rename_i kk z
      have e : 3 = len := hln.resolve_left (by simp [mm_len])
      subst e
      split at hp
      · rename_i x hv
        split at hp
        · rename_i ls2 hs
          obtain ⟨rfl, rfl⟩ := Prod.mk.inj (Option.some.inj hp)
          exact mm_sim_iinc hx hb hl hdg hv hs k
        · cases hp
      · cases hp
    · cases hp
  · split at hp
    · rename_i y x r
      split at hp
      · rename_i z hz
        obtain ⟨rfl, rfl⟩ := Prod.mk.inj (Option.some.inj hp)
        exact mm_sim_bin hx hb hdg hln hz (k lsA hl)
      · cases hp
    · cases hp
  · split at hp
    · rename_i y x r
      split at hp
      · rename_i z hz
        obtain ⟨rfl, rfl⟩ := Prod.mk.inj (Option.some.inj hp)
        exact mm_sim_lbin hx hb hdg hln hz (k lsA hl)
      · cases hp
    · cases hp
  · split at hp
    · rename_i v r
      split at hp
      · rename_i z hz
        obtain ⟨rfl, rfl⟩ := Prod.mk.inj (Option.some.inj hp)
        exact mm_sim_un hx hb hdg hln hz (k lsA hl)
      · cases hp
    · cases hp
  · split at hp
    · rename_i r hz
      obtain ⟨rfl, rfl⟩ := Prod.mk.inj (Option.some.inj hp)
      exact mm_sim_shuf hx hb hdg hln hz (k lsA hl)
    · cases hp
  · split at hp
    · rename_i idx
      have e : 3 = len := hln.resolve_left (by simp [mm_len])
      subst e
      split at hp
      · rename_i r hz
        obtain ⟨rfl, rfl⟩ := Prod.mk.inj (Option.some.inj hp)
        exact mm_sim_math hx hb (hml.trans hl.2.1.symm) hown hts hfr hlo hcc hss hlk hz hdg (k lsA hl)
      · cases hp
    · cases hp
  · rename_i h13
    obtain rfl := mm_kind13 h13
    have e : 1 = len := hln.resolve_left (by simp [mm_len])
    subst e
    split at hp
    · obtain ⟨rfl, rfl⟩ := Prod.mk.inj (Option.some.inj hp)
      exact mm_sim_lshl hx hb hdg (k lsA hl)
    · cases hp
  · cases hp
theorem mm_sim_ret {Qc : Array Value → State → Outcome → State → Prop} {free : Addr → Prop} (hx : p.tables.exec = Jvm.exec) (hb : c.code = mm_b m) (hr : meth.sig.returnType = mm_rt m) (hlocks : meth.locks = false) (hdg : decode (mm_b m) pc = .ok (i, len)) (hln : mm_len i = 0 ∨ mm_len i = len) {v : Option Value} (hret : mm_ret m i st = some v)
    (hq : ∀ t : State, t.heap = H → s.WarmedH t.vm → Qc args s (.returned (v.map (mm_tr sz b t0))) t) (hf : ∀ q ∈ locs, free q.base) : W p l e Rm s mid args below meth c H locs cells slots (MQ below Qc args s cells slots free) (F0 mid pc lsA (st.map (mm_tr sz b t0))) := by
  unfold mm_ret at hret
  split at hret
  · rename_i x
    have e : 1 = len := hln.resolve_left (by simp [mm_len])
    subst e
    split at hret
    · rename_i ht
      obtain rfl := Option.some.inj hret
      exact W.iret hx hb (hr.trans ht) hq hf hdg hlocks
    · split at hret
      · rename_i ht
        obtain ⟨ht, h01⟩ := ht
        obtain rfl := Option.some.inj hret
        exact W.zret (ty := .boolean) hx hb (hr.trans ht) (by rcases h01 with rfl | rfl <;> rfl) hq hf hdg hlocks
      · cases hret
  · rename_i x
    have e : 1 = len := hln.resolve_left (by simp [mm_len])
    subst e
    split at hret
    · rename_i ht
      obtain rfl := Option.some.inj hret
      exact W.lret hx hb (hr.trans ht) hq hf hdg hlocks
    · cases hret
  · rename_i x
    have e : 1 = len := hln.resolve_left (by simp [mm_len])
    subst e
    split at hret
    · rename_i n ht
      obtain rfl := Option.some.inj hret
      exact W.aret hx hb (hr.trans ht) (Or.inl ⟨n, rfl⟩) (Or.inr ⟨_, rfl⟩) hq hf hdg hlocks
    · cases hret
  · have e : 1 = len := hln.resolve_left (by simp [mm_len])
    subst e
    split at hret
    · rename_i n ht
      obtain rfl := Option.some.inj hret
      exact W.aret hx hb (hr.trans ht) (Or.inl ⟨n, rfl⟩) (Or.inl rfl) hq hf hdg hlocks
    · cases hret
  · have e : 1 = len := hln.resolve_left (by simp [mm_len])
    subst e
    split at hret
    · rename_i ht
      obtain rfl := Option.some.inj hret
      exact W.vret hx hb (hr.trans ht) hq hf hdg hlocks
    · cases hret
  · cases hret
end
/-! a method's contract, of a run -/
section
variable {sz b t0 Ls : Nat} {xs : Nat → Int32} {D : va_G} {cI cJ cZ cT : ClassId}
theorem mm_nw_moved {s U : State} (hW : s.WarmedH U.vm) (h : ∀ w ∈ mm_nw, va_Nw w s) : ∀ w ∈ mm_nw, va_Nw w U := by
  intro w hw
  have h1 := h w hw
  simp only [mm_nw, List.mem_cons, List.not_mem_nil, or_false] at hw
  rcases hw with rfl | rfl | rfl | rfl | rfl | rfl | rfl | rfl | rfl | rfl | rfl | rfl | rfl | rfl <;> first | exact va_Nw.warmM hW h1 | exact va_Nw.warmF hW h1
/-- the base facts at a later state with tables alike, whose heap is the old one but for what has been made -/
theorem mm_B_moved {s U : State} (hB : mm_B sz b t0 Ls xs D cI cJ cZ cT s) (hvm : s.vm.Alike U.vm) (hnw : ∀ w ∈ mm_nw, va_Nw w U) (hh : ∀ q : Nat, q < s.heap.size → ¬ sz ≤ q → U.heap[q]? = s.heap[q]?) (hsz : s.heap.size ≤ U.heap.size) : mm_B sz b t0 Ls xs D cI cJ cZ cT U := by
  obtain ⟨h1, h2, h3, h4, h5, h6, h7, h8⟩ := hB
  exact ⟨va_X.moved hvm (h1.kept (hh b (Nat.lt_of_lt_of_le h2 h3) (Nat.not_le.mpr h2))), h2, Nat.le_trans h3 hsz, va_Z.moved hvm (h4.kept hh), va_T.moved hvm (h5.kept hh), va_K.moved hvm h6, hnw, va_AO.moved hvm h8⟩
def mm_Pc (sz b t0 Ls : Nat) (xs : Nat → Int32) (D : va_G) (cI cJ cZ cT : ClassId) (as : List Value) (S : mm_S) (I : mm_I) (L : mm_L) (R : mm_R) : Array Value → State → Prop :=
  va_Pc (as.map (mm_tr sz b t0)) (fun U => va_P D vwCl (mm_ws sz b t0 cI cJ cZ cT S I L R) U.heap ∧ mm_B sz b t0 Ls xs D cI cJ cZ cT U ∧ U.heap.size + 2 = sz + S.length)
def mm_Qc (sz b t0 : Nat) (D : va_G) (cI cJ cZ cT : ClassId) (r : mm_O) : Array Value → State → Outcome → State → Prop := fun _ st o t =>
  o = .returned (r.1.map (mm_tr sz b t0)) ∧ va_P D vwCl (mm_ws sz b t0 cI cJ cZ cT r.2.1 r.2.2.1 r.2.2.2.1 r.2.2.2.2) t.heap ∧ va_F (fun q => sz ≤ q) st t
def mm_rm (d : Nat) (mc ms : Nat) : Room := { frames := d + 1, cells := mc, slots := ms, locals := 100 * (d + 1) }
def mm_kw (k : Nat) : List Cond := Cond.code (mm_y k) (mm_b k) (mm_ml k) (mm_rt k) :: mm_TB
theorem mm_nw_on : ∀ w ∈ mm_nw, w.onTables = true := by
  intro w hw
  simp only [mm_nw, List.mem_cons, List.not_mem_nil, or_false] at hw
  rcases hw with rfl | rfl | rfl | rfl | rfl | rfl | rfl | rfl | rfl | rfl | rfl | rfl | rfl | rfl <;> rfl
theorem mm_blind {as : List Value} {S : mm_S} {I : mm_I} {L : mm_L} {R : mm_R} : FrameBlind (mm_Pc sz b t0 Ls xs D cI cJ cZ cT as S I L R) := by
  rintro a U g mk ⟨q0, q1, q2, q3⟩
  exact ⟨q0, q1, mm_B_moved q2 (Vm.Alike.refl U.vm) (fun w hw => va_Nw.same (u := U) (mm_nw_on w hw) rfl (q2.2.2.2.2.2.2.1 w hw)) (fun _ _ _ => rfl) (Nat.le_refl _), q3⟩
/-- what the simulation says of runs of so much fuel -/
def mm_sim (l : Launch) (sz b t0 Ls : Nat) (xs : Nat → Int32) (D : va_G) (cI cJ cZ cT : ClassId) (n : Nat) : Prop :=
  ∀ (d m pc : Nat) (ls : mm_ls) (st : List Value) (S : mm_S) (I : mm_I) (L : mm_L) (R : mm_R) (r : mm_O), mm_ex n d m pc ls st S I L R = some r →
  ∀ (p : Program) (e : Env) (Rm : Room) (s : State) (mid : MethodId) (args : Array Value) (below : List Frame) (meth : Method) (c : Code) (lsA : Array Slot) (H : Heap) (locs : List Loc) (k0 s0 : Nat) (Q : State → Prop),
  p.tables.exec = Jvm.exec → c.code = mm_b m → c.maxLocals = mm_ml m → s.vm.findClass (mm_y m).cls = some mid.cls → (∀ w ∈ mm_TB, w.before args s = true) → mm_B sz b t0 Ls xs D cI cJ cZ cT s →
  (mm_kd m = 2 → meth.name = "<init>" ∧ mm_C (mm_ci m) = (mm_y m).cls) → d + 1 ≤ Rm.frames → 100 * (d + 1) ≤ Rm.locals →
  mm_lh sz b t0 lsA (mm_ml m) ls → mm_ok Ls xs S I → va_P D vwCl (mm_ws sz b t0 cI cJ cZ cT S I L R) H → va_S (fun q => sz ≤ q) s.heap H locs →
  s.heap.size + 2 = sz + k0 → k0 ≤ S.length → s0 ≤ mm_sl S → r.2.1.length - k0 ≤ Rm.cells → mm_sl r.2.1 - s0 ≤ Rm.slots →
  (∀ (H1 : Heap) (locs1 : List Loc) (pc1 : Nat) (lsA1 : Array Slot) (st1 : List Value) (i1 : Instr) (len1 : Nat) (res1 : Int), mm_ok Ls xs r.2.1 r.2.2.1 → va_P D vwCl (mm_ws sz b t0 cI cJ cZ cT r.2.1 r.2.2.1 r.2.2.2.1 r.2.2.2.2) H1 → va_S (fun q => sz ≤ q) s.heap H1 locs1 →
    mm_fetch m pc1 = some (i1, len1, res1) → mm_ret m i1 st1 = some r.1 → W p l e Rm s mid args below meth c H1 locs1 (r.2.1.length - k0) (mm_sl r.2.1 - s0) Q (F0 mid pc1 lsA1 (st1.map (mm_tr sz b t0)))) →
  W p l e Rm s mid args below meth c H locs (S.length - k0) (mm_sl S - s0) Q (F0 mid pc lsA (st.map (mm_tr sz b t0)))
theorem mm_lg_len (as : List Value) : (lg_sl (as.map (mm_tr sz b t0))).length = (mm_lay as).length := by
  induction as with
  | nil => rfl
  | cons v r ih =>
    unfold lg_sl at ih ⊢
    rw [List.map_cons, List.flatMap_cons, List.length_append, ih]
    cases v <;> simp [mm_tr, Value.category, mm_lay] <;> omega
theorem mm_ld_app {l : mm_ls} {n k : Nat} {v : Value} (h : mm_ld (l ++ List.replicate n none) k = some v) : mm_ld l k = some v := by
  unfold mm_ld at h ⊢
  by_cases hk : k < l.length
  · rw [List.getElem?_append_left hk] at h; exact h
  · rw [List.getElem?_append_right (by omega), List.getElem?_replicate] at h
    split at h
    · rename_i q hq
      split at hq
      · cases hq
      · cases hq
    · cases h
theorem mm_lay_at : ∀ (as : List Value) (i k : Nat) (v : Value), mm_ld (mm_lay as) k = some v → (i + k, mm_tr sz b t0 v) ∈ lv_args i (as.map (mm_tr sz b t0)) := by
  intro as
  induction as with
  | nil => intro i k v h; simp [mm_lay, mm_ld] at h
  | cons a r ih =>
    intro i k v h
    rw [List.map_cons, lv_args]
    have two : a.category = 2 → mm_lay (a :: r) = some a :: none :: mm_lay r := by
      intro hc
      cases a <;> first | rfl | (simp [Value.category] at hc)
    have one : ¬ a.category = 2 → mm_lay (a :: r) = some a :: mm_lay r := by
      intro hc
      cases a <;> first | rfl | (exact absurd rfl hc)
    rw [mm_tr_cat]
    by_cases hc : a.category = 2
    · rw [if_pos hc]
      rw [two hc] at h
      match k, h with
      | 0, h => rw [mm_ld_cons0] at h; obtain rfl := Option.some.inj h; exact List.mem_cons_self
      | 1, h => rw [mm_ld_cons, mm_ld_cons0] at h; cases h
      | k + 2, h =>
        rw [mm_ld_cons, mm_ld_cons] at h
        have := ih (i + 2) k v h
        rw [show i + (k + 2) = i + 2 + k by omega]
        exact List.mem_cons_of_mem _ this
    · rw [if_neg hc]
      rw [one hc] at h
      match k, h with
      | 0, h => rw [mm_ld_cons0] at h; obtain rfl := Option.some.inj h; exact List.mem_cons_self
      | k + 1, h =>
        rw [mm_ld_cons] at h
        have := ih (i + 1) k v h
        rw [show i + (k + 1) = i + 1 + k by omega]
        exact List.mem_cons_of_mem _ this
theorem mm_entry_lh {as : List Value} {k n : Nat} (hn : mm_ml k = n) (h : (mm_lay as).length ≤ n) : mm_lh sz b t0 (lg_sl (as.map (mm_tr sz b t0)) ++ List.replicate (n - (lg_sl (as.map (mm_tr sz b t0))).length) Slot.unset).toArray n (mm_entry k as) := by
  subst hn
  have hl := lv_entry (as.map (mm_tr sz b t0)) (n := mm_ml k) (by rw [mm_lg_len]; exact h)
  refine ⟨by unfold mm_entry; simp; omega, hl.1, hl.2.1, fun q hq => hl.2.2 q ?_⟩
  obtain ⟨j, w⟩ := q
  obtain ⟨v, hv, rfl⟩ := mm_al_mem.mp hq
  have := mm_lay_at (sz := sz) (b := b) (t0 := t0) as 0 j v (mm_ld_app hv)
  rw [Nat.zero_add] at this
  exact this
theorem mm_call_len {i : Instr} {res : Int} {st : List Value} {S : mm_S} {k : Nat} {as rest : List Value} (h : mm_call i res st S = some (k, as, rest)) : (mm_lay as).length ≤ mm_ml k := by
  unfold mm_call at h
  split at h
  · split at h
    · rename_i hc
      obtain ⟨rfl, rfl, rfl⟩ : _ ∧ _ ∧ _ := by simpa only [Option.some.injEq, Prod.mk.injEq] using h
      exact hc.2.2.2.2
    · cases h
  · split at h
    · split at h
      · rename_i hc
        obtain ⟨rfl, rfl, rfl⟩ : _ ∧ _ ∧ _ := by simpa only [Option.some.injEq, Prod.mk.injEq] using h
        exact hc.2.2.2.2.2
      · cases h
    · cases h
  · split at h
    · split at h
      · rename_i hc
        obtain ⟨rfl, rfl, rfl⟩ : _ ∧ _ ∧ _ := by simpa only [Option.some.injEq, Prod.mk.injEq] using h
        exact hc.2.2.2.2.2
      · cases h
    · cases h
  · cases h
/-- a run gives a contract -/
theorem mm_met {l : Launch} {n d k : Nat} {as : List Value} {S : mm_S} {I : mm_I} {L : mm_L} {R : mm_R} {r : mm_O} (hsim : mm_sim l sz b t0 Ls xs D cI cJ cZ cT n) (hk : mm_lkM k) (hla : (mm_lay as).length ≤ mm_ml k) (hok : mm_ok Ls xs S I) (h : mm_ex n d k 0 (mm_entry k as) [] S I L R = some r) :
    Met l (mm_y k) (mm_kw k) (mm_rm d (r.2.1.length - S.length) (mm_sl r.2.1 - mm_sl S)) (mm_Pc sz b t0 Ls xs D cI cJ cZ cT as S I L R) (mm_Qc sz b t0 D cI cJ cZ cT r) (r.2.1.length - S.length) (mm_sl r.2.1 - mm_sl S) (fun q => sz ≤ q) := by
  obtain ⟨k1, k2, k3, k4, k5, k6⟩ := hk
  refine Met.ofW (cc := mm_b k) (maxL := mm_ml k) (ret := mm_rt k) k4 rfl ?_
  intro p e s m args below meth c s₁ B hml hv
  obtain ⟨rfl, hP, hB, hsz⟩ := hv
  have hx := B.exec
  have hb := B.bytes
  have hr := B.returns
  have hts : ∀ w ∈ mm_TB, w.before _ s = true := fun w hw => atoms_spec (ws := mm_kw k) B.pre w (List.mem_cons_of_mem _ hw)
  have hown : s.vm.findClass (mm_y k).cls = some m.cls := findClass_of_methodNamed B.named
  have hlocks := B.notSynchronized
  have hnm : meth.name = (mm_y k).name := (name_of_methodNamed B.named B.method).1
  rw [lg_entry_eq]
  have hl := mm_entry_lh (sz := sz) (b := b) (t0 := t0) (k := k) rfl hla
  have hres := hsim d k 0 (mm_entry k as) [] S I L R r h p e (headSpec (mm_kw k) (mm_rm d (r.2.1.length - S.length) (mm_sl r.2.1 - mm_sl S))).room s m (as.map (mm_tr sz b t0)).toArray below meth c _ s.heap [] S.length (mm_sl S)
    (MQ below (mm_Qc sz b t0 D cI cJ cZ cT r) (as.map (mm_tr sz b t0)).toArray s (r.2.1.length - S.length) (mm_sl r.2.1 - mm_sl S) (fun q => sz ≤ q)) hx hb hml hown hts hB
    (fun h2 => by
      rcases k6 with h6 | h6 | h6
      · rw [h6.1] at h2; cases h2
      · rw [h6.1] at h2; cases h2
      · exact ⟨hnm.trans h6.2.2.1, h6.2.2.2.2.1⟩) (Nat.le_refl _) (Nat.le_refl _) hl hok hP va_S.rf hsz (Nat.le_refl _) (Nat.le_refl _) (Nat.le_refl _) (Nat.le_refl _)
    (fun H1 locs1 pc1 lsA1 st1 i1 len1 res1 _ hP1 hS1 hf hret => by
      obtain ⟨f1, f2, f3, f4⟩ := mm_fetch_fact hf
      exact mm_sim_ret hx hb hr hlocks f1 f3 hret (fun t ht hW => ⟨rfl, by rw [ht]; exact hP1, hS1.F ht⟩) hS1.2.2)
  rw [Nat.sub_self, Nat.sub_self] at hres
  exact hres
end
