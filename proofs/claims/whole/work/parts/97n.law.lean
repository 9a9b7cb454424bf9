/-! the law's loop -/
section
variable {L d : Nat} {J K : mJ} {R : mm_R} {i : Int}
theorem lw_0 (h : INV J K R) (hi : 0 ≤ i ∧ i + 6 ≤ (L : Int)) (hL : L ≤ 3072) : ∃ J2 K2 R2, EE (d + 21) 237 176 [some (.ref 0), some (.ref 2), some (.ref 76), some (vi i)] [] (SH L) J K R = EE (d + 21) 237 1106 [some (.ref 0), some (.ref 2), some (.ref 76), some (vi i)] [] (SH L) J2 K2 R2 ∧ INV J2 K2 R2 := by
  have s0 : (SH L)[0]? = some (20, L) := rfl
  have s2 : (SH L)[2]? = some (10, 10) := rfl
  have s76 : (SH L)[76]? = some (11, 58) := rfl
  have r1 := sx_r J (i + 1).toNat
  have a1 := sx_v J (i + 1).toNat
  obtain ⟨v, J1, K1, R1, J2, K2, R2, e1, e2, hI⟩ := op_put (L := L) (d := d) h r1
  obtain ⟨z, rfl, hz⟩ := EE_rti e1 rfl
  have b1 := sx_k e1 (i + 1).toNat
  refine ⟨J2, K2, R2, ?_, hI⟩
  simp (disch := first | assumption | omega | exact bi_lo | exact bi_hi | exact bi_01 | exact jcmp_lo | exact jcmp_hi | exact (jor_r _ _).1 | exact (jor_r _ _).2 | exact (jand_r _ _).1 | exact (jand_r _ _).2) only [x237_176, x237_176n, x237_177, x237_177n, x237_178, x237_179, x237_180, x237_181, x237_182, x237_185, x237_185n, x237_186, x237_186n, x237_187, x237_188, x237_189, x237_190, x237_191, x237_194, kb_some, kb_none, clr_vi, clr_ref, clr_null, clr_none, va_rf_some, va_rf_none, ↓bi_ite_t, ↓bi_ite_f, ↓jc_lt_t, ↓jc_lt_f, ↓jc_gt_t, ↓jc_gt_f, ↓jc_le_t, ↓jc_le_f, ↓jc_ge_t, ↓jc_ge_f, ↓jc_eq_t, ↓jc_eq_f, ↓if_pos, ↓if_neg, a1, b1, e1, e2]
theorem lw_1 (h : INV J K R) (hi : 0 ≤ i ∧ i + 6 ≤ (L : Int)) (hL : L ≤ 3072) : ∃ J2 K2 R2, EE (d + 21) 237 199 [some (.ref 0), some (.ref 2), some (.ref 76), some (vi i)] [] (SH L) J K R = EE (d + 21) 237 1106 [some (.ref 0), some (.ref 2), some (.ref 76), some (vi i)] [] (SH L) J2 K2 R2 ∧ INV J2 K2 R2 := by
  have s0 : (SH L)[0]? = some (20, L) := rfl
  have s2 : (SH L)[2]? = some (10, 10) := rfl
  have s76 : (SH L)[76]? = some (11, 58) := rfl
  have r1 := sx_r J (i + 1).toNat
  have a1 := sx_v J (i + 1).toNat
  have r2 := sx_r J (i + 2).toNat
  have a2 := sx_v J (i + 2).toNat
  obtain ⟨v, J1, K1, R1, J2, K2, R2, e1, e2, hI⟩ := op_set (L := L) (d := d) h r1 r2
  obtain ⟨z, rfl, hz⟩ := EE_rti e1 rfl
  have b1 := sx_k e1 (i + 1).toNat
  have b2 := sx_k e1 (i + 2).toNat
  refine ⟨J2, K2, R2, ?_, hI⟩
  simp (disch := first | assumption | omega | exact bi_lo | exact bi_hi | exact bi_01 | exact jcmp_lo | exact jcmp_hi | exact (jor_r _ _).1 | exact (jor_r _ _).2 | exact (jand_r _ _).1 | exact (jand_r _ _).2) only [x237_199, x237_199n, x237_200, x237_200n, x237_201, x237_202, x237_203, x237_204, x237_205, x237_205n, x237_206, x237_207, x237_208, x237_209, x237_210, x237_213, x237_213n, x237_214, x237_214n, x237_215, x237_216, x237_217, x237_218, x237_219, x237_219n, x237_220, x237_221, x237_222, x237_223, x237_224, x237_227, kb_some, kb_none, clr_vi, clr_ref, clr_null, clr_none, va_rf_some, va_rf_none, ↓bi_ite_t, ↓bi_ite_f, ↓jc_lt_t, ↓jc_lt_f, ↓jc_gt_t, ↓jc_gt_f, ↓jc_le_t, ↓jc_le_f, ↓jc_ge_t, ↓jc_ge_f, ↓jc_eq_t, ↓jc_eq_f, ↓if_pos, ↓if_neg, a1, b1, a2, b2, e1, e2]
theorem lw_2 (h : INV J K R) (hi : 0 ≤ i ∧ i + 6 ≤ (L : Int)) (hL : L ≤ 3072) : ∃ J2 K2 R2, EE (d + 21) 237 232 [some (.ref 0), some (.ref 2), some (.ref 76), some (vi i)] [] (SH L) J K R = EE (d + 21) 237 1106 [some (.ref 0), some (.ref 2), some (.ref 76), some (vi i)] [] (SH L) J2 K2 R2 ∧ INV J2 K2 R2 := by
  have s0 : (SH L)[0]? = some (20, L) := rfl
  have s2 : (SH L)[2]? = some (10, 10) := rfl
  have s76 : (SH L)[76]? = some (11, 58) := rfl
  have r1 := sx_r J (i + 1).toNat
  have a1 := sx_v J (i + 1).toNat
  obtain ⟨v, J1, K1, R1, J2, K2, R2, e1, e2, hI⟩ := op_cut (L := L) (d := d) h r1
  obtain ⟨z, rfl, hz⟩ := EE_rti e1 rfl
  have b1 := sx_k e1 (i + 1).toNat
  refine ⟨J2, K2, R2, ?_, hI⟩
  simp (disch := first | assumption | omega | exact bi_lo | exact bi_hi | exact bi_01 | exact jcmp_lo | exact jcmp_hi | exact (jor_r _ _).1 | exact (jor_r _ _).2 | exact (jand_r _ _).1 | exact (jand_r _ _).2) only [x237_232, x237_232n, x237_233, x237_233n, x237_234, x237_235, x237_236, x237_237, x237_238, x237_241, x237_241n, x237_242, x237_242n, x237_243, x237_244, x237_245, x237_246, x237_247, x237_250, kb_some, kb_none, clr_vi, clr_ref, clr_null, clr_none, va_rf_some, va_rf_none, ↓bi_ite_t, ↓bi_ite_f, ↓jc_lt_t, ↓jc_lt_f, ↓jc_gt_t, ↓jc_gt_f, ↓jc_le_t, ↓jc_le_f, ↓jc_ge_t, ↓jc_ge_f, ↓jc_eq_t, ↓jc_eq_f, ↓if_pos, ↓if_neg, a1, b1, e1, e2]
theorem lw_3 (h : INV J K R) (hi : 0 ≤ i ∧ i + 6 ≤ (L : Int)) (hL : L ≤ 3072) : ∃ J2 K2 R2, EE (d + 21) 237 255 [some (.ref 0), some (.ref 2), some (.ref 76), some (vi i)] [] (SH L) J K R = EE (d + 21) 237 1106 [some (.ref 0), some (.ref 2), some (.ref 76), some (vi i)] [] (SH L) J2 K2 R2 ∧ INV J2 K2 R2 := by
  have s0 : (SH L)[0]? = some (20, L) := rfl
  have s2 : (SH L)[2]? = some (10, 10) := rfl
  have s76 : (SH L)[76]? = some (11, 58) := rfl
  have r1 := sx_r J (i + 1).toNat
  have a1 := sx_v J (i + 1).toNat
  obtain ⟨v, J1, K1, R1, J2, K2, R2, e1, e2, hI⟩ := op_at (L := L) (d := d) h r1
  obtain ⟨z, rfl, hz⟩ := EE_rti e1 rfl
  have b1 := sx_k e1 (i + 1).toNat
  refine ⟨J2, K2, R2, ?_, hI⟩
  simp (disch := first | assumption | omega | exact bi_lo | exact bi_hi | exact bi_01 | exact jcmp_lo | exact jcmp_hi | exact (jor_r _ _).1 | exact (jor_r _ _).2 | exact (jand_r _ _).1 | exact (jand_r _ _).2) only [x237_255, x237_255n, x237_256, x237_256n, x237_257, x237_258, x237_259, x237_260, x237_261, x237_264, x237_264n, x237_265, x237_265n, x237_266, x237_267, x237_268, x237_269, x237_270, x237_273, kb_some, kb_none, clr_vi, clr_ref, clr_null, clr_none, va_rf_some, va_rf_none, ↓bi_ite_t, ↓bi_ite_f, ↓jc_lt_t, ↓jc_lt_f, ↓jc_gt_t, ↓jc_gt_f, ↓jc_le_t, ↓jc_le_f, ↓jc_ge_t, ↓jc_ge_f, ↓jc_eq_t, ↓jc_eq_f, ↓if_pos, ↓if_neg, a1, b1, e1, e2]
theorem lw_4 (h : INV J K R) (hi : 0 ≤ i ∧ i + 6 ≤ (L : Int)) (hL : L ≤ 3072) : ∃ J2 K2 R2, EE (d + 21) 237 278 [some (.ref 0), some (.ref 2), some (.ref 76), some (vi i)] [] (SH L) J K R = EE (d + 21) 237 1106 [some (.ref 0), some (.ref 2), some (.ref 76), some (vi i)] [] (SH L) J2 K2 R2 ∧ INV J2 K2 R2 := by
  have s0 : (SH L)[0]? = some (20, L) := rfl
  have s2 : (SH L)[2]? = some (10, 10) := rfl
  have s76 : (SH L)[76]? = some (11, 58) := rfl
  have r1 := sx_r J (i + 1).toNat
  have a1 := sx_v J (i + 1).toNat
  have r2 := sx_r J (i + 2).toNat
  have a2 := sx_v J (i + 2).toNat
  have r3 := sx_r J (i + 3).toNat
  have a3 := sx_v J (i + 3).toNat
  obtain ⟨v, J1, K1, R1, J2, K2, R2, e1, e2, hI⟩ := op_check (L := L) (d := d) h r1 r2 r3
  obtain ⟨z, rfl, hz⟩ := EE_rti e1 rfl
  have b1 := sx_k e1 (i + 1).toNat
  have b2 := sx_k e1 (i + 2).toNat
  have b3 := sx_k e1 (i + 3).toNat
  refine ⟨J2, K2, R2, ?_, hI⟩
  simp (disch := first | assumption | omega | exact bi_lo | exact bi_hi | exact bi_01 | exact jcmp_lo | exact jcmp_hi | exact (jor_r _ _).1 | exact (jor_r _ _).2 | exact (jand_r _ _).1 | exact (jand_r _ _).2) only [x237_278, x237_278n, x237_279, x237_279n, x237_280, x237_281, x237_282, x237_283, x237_284, x237_284n, x237_285, x237_286, x237_287, x237_288, x237_289, x237_289n, x237_290, x237_291, x237_292, x237_293, x237_294, x237_297, x237_297n, x237_298, x237_298n, x237_299, x237_300, x237_301, x237_302, x237_303, x237_303n, x237_304, x237_305, x237_306, x237_307, x237_308, x237_308n, x237_309, x237_310, x237_311, x237_312, x237_313, x237_316, kb_some, kb_none, clr_vi, clr_ref, clr_null, clr_none, va_rf_some, va_rf_none, ↓bi_ite_t, ↓bi_ite_f, ↓jc_lt_t, ↓jc_lt_f, ↓jc_gt_t, ↓jc_gt_f, ↓jc_le_t, ↓jc_le_f, ↓jc_ge_t, ↓jc_ge_f, ↓jc_eq_t, ↓jc_eq_f, ↓if_pos, ↓if_neg, a1, b1, a2, b2, a3, b3, e1, e2]
theorem lw_5 (h : INV J K R) (hi : 0 ≤ i ∧ i + 6 ≤ (L : Int)) (hL : L ≤ 3072) : ∃ J2 K2 R2, EE (d + 21) 237 321 [some (.ref 0), some (.ref 2), some (.ref 76), some (vi i)] [] (SH L) J K R = EE (d + 21) 237 1106 [some (.ref 0), some (.ref 2), some (.ref 76), some (vi i)] [] (SH L) J2 K2 R2 ∧ INV J2 K2 R2 := by
  have s0 : (SH L)[0]? = some (20, L) := rfl
  have s2 : (SH L)[2]? = some (10, 10) := rfl
  have s76 : (SH L)[76]? = some (11, 58) := rfl
  have r1 := sx_r J (i + 1).toNat
  have a1 := sx_v J (i + 1).toNat
  obtain ⟨v, J1, K1, R1, J2, K2, R2, e1, e2, hI⟩ := op_feed (L := L) (d := d) h r1
  obtain ⟨z, rfl, hz⟩ := EE_rti e1 rfl
  have b1 := sx_k e1 (i + 1).toNat
  refine ⟨J2, K2, R2, ?_, hI⟩
  simp (disch := first | assumption | omega | exact bi_lo | exact bi_hi | exact bi_01 | exact jcmp_lo | exact jcmp_hi | exact (jor_r _ _).1 | exact (jor_r _ _).2 | exact (jand_r _ _).1 | exact (jand_r _ _).2) only [x237_321, x237_321n, x237_322, x237_322n, x237_323, x237_324, x237_325, x237_326, x237_327, x237_330, x237_330n, x237_331, x237_331n, x237_332, x237_333, x237_334, x237_335, x237_336, x237_339, kb_some, kb_none, clr_vi, clr_ref, clr_null, clr_none, va_rf_some, va_rf_none, ↓bi_ite_t, ↓bi_ite_f, ↓jc_lt_t, ↓jc_lt_f, ↓jc_gt_t, ↓jc_gt_f, ↓jc_le_t, ↓jc_le_f, ↓jc_ge_t, ↓jc_ge_f, ↓jc_eq_t, ↓jc_eq_f, ↓if_pos, ↓if_neg, a1, b1, e1, e2]
theorem lw_6 (h : INV J K R) (hi : 0 ≤ i ∧ i + 6 ≤ (L : Int)) (hL : L ≤ 3072) : ∃ J2 K2 R2, EE (d + 21) 237 344 [some (.ref 0), some (.ref 2), some (.ref 76), some (vi i)] [] (SH L) J K R = EE (d + 21) 237 1106 [some (.ref 0), some (.ref 2), some (.ref 76), some (vi i)] [] (SH L) J2 K2 R2 ∧ INV J2 K2 R2 := by
  have s0 : (SH L)[0]? = some (20, L) := rfl
  have s2 : (SH L)[2]? = some (10, 10) := rfl
  have s76 : (SH L)[76]? = some (11, 58) := rfl
  have r1 := sx_r J (i + 1).toNat
  have a1 := sx_v J (i + 1).toNat
  obtain ⟨v, J1, K1, R1, J2, K2, R2, e1, e2, hI⟩ := op_write (L := L) (d := d) h r1
  obtain ⟨z, rfl, hz⟩ := EE_rti e1 rfl
  have b1 := sx_k e1 (i + 1).toNat
  refine ⟨J2, K2, R2, ?_, hI⟩
  simp (disch := first | assumption | omega | exact bi_lo | exact bi_hi | exact bi_01 | exact jcmp_lo | exact jcmp_hi | exact (jor_r _ _).1 | exact (jor_r _ _).2 | exact (jand_r _ _).1 | exact (jand_r _ _).2) only [x237_344, x237_344n, x237_345, x237_345n, x237_346, x237_347, x237_348, x237_349, x237_350, x237_353, x237_353n, x237_354, x237_354n, x237_355, x237_356, x237_357, x237_358, x237_359, x237_362, kb_some, kb_none, clr_vi, clr_ref, clr_null, clr_none, va_rf_some, va_rf_none, ↓bi_ite_t, ↓bi_ite_f, ↓jc_lt_t, ↓jc_lt_f, ↓jc_gt_t, ↓jc_gt_f, ↓jc_le_t, ↓jc_le_f, ↓jc_ge_t, ↓jc_ge_f, ↓jc_eq_t, ↓jc_eq_f, ↓if_pos, ↓if_neg, a1, b1, e1, e2]
theorem lw_7 (h : INV J K R) (hi : 0 ≤ i ∧ i + 6 ≤ (L : Int)) (hL : L ≤ 3072) : ∃ J2 K2 R2, EE (d + 21) 237 367 [some (.ref 0), some (.ref 2), some (.ref 76), some (vi i)] [] (SH L) J K R = EE (d + 21) 237 1106 [some (.ref 0), some (.ref 2), some (.ref 76), some (vi i)] [] (SH L) J2 K2 R2 ∧ INV J2 K2 R2 := by
  have s0 : (SH L)[0]? = some (20, L) := rfl
  have s2 : (SH L)[2]? = some (10, 10) := rfl
  have s76 : (SH L)[76]? = some (11, 58) := rfl
  obtain ⟨v, J1, K1, R1, J2, K2, R2, e1, e2, hI⟩ := op_read (L := L) (d := d) h
  obtain ⟨z, rfl, hz⟩ := EE_rti e1 rfl
  refine ⟨J2, K2, R2, ?_, hI⟩
  simp (disch := first | assumption | omega | exact bi_lo | exact bi_hi | exact bi_01 | exact jcmp_lo | exact jcmp_hi | exact (jor_r _ _).1 | exact (jor_r _ _).2 | exact (jand_r _ _).1 | exact (jand_r _ _).2) only [x237_367, x237_367n, x237_368, x237_371, x237_371n, x237_372, x237_375, kb_some, kb_none, clr_vi, clr_ref, clr_null, clr_none, va_rf_some, va_rf_none, ↓bi_ite_t, ↓bi_ite_f, ↓jc_lt_t, ↓jc_lt_f, ↓jc_gt_t, ↓jc_gt_f, ↓jc_le_t, ↓jc_le_f, ↓jc_ge_t, ↓jc_ge_f, ↓jc_eq_t, ↓jc_eq_f, ↓if_pos, ↓if_neg, e1, e2]
theorem lw_8 (h : INV J K R) (hi : 0 ≤ i ∧ i + 6 ≤ (L : Int)) (hL : L ≤ 3072) : ∃ J2 K2 R2, EE (d + 21) 237 380 [some (.ref 0), some (.ref 2), some (.ref 76), some (vi i)] [] (SH L) J K R = EE (d + 21) 237 1106 [some (.ref 0), some (.ref 2), some (.ref 76), some (vi i)] [] (SH L) J2 K2 R2 ∧ INV J2 K2 R2 := by
  have s0 : (SH L)[0]? = some (20, L) := rfl
  have s2 : (SH L)[2]? = some (10, 10) := rfl
  have s76 : (SH L)[76]? = some (11, 58) := rfl
  have r1 := sx_r J (i + 1).toNat
  have a1 := sx_v J (i + 1).toNat
  have r2 := sx_r J (i + 2).toNat
  have a2 := sx_v J (i + 2).toNat
  obtain ⟨v, J1, K1, R1, J2, K2, R2, e1, e2, hI⟩ := op_fault (L := L) (d := d) h r1 r2
  obtain ⟨z, rfl, hz⟩ := EE_rti e1 rfl
  have b1 := sx_k e1 (i + 1).toNat
  have b2 := sx_k e1 (i + 2).toNat
  refine ⟨J2, K2, R2, ?_, hI⟩
  simp (disch := first | assumption | omega | exact bi_lo | exact bi_hi | exact bi_01 | exact jcmp_lo | exact jcmp_hi | exact (jor_r _ _).1 | exact (jor_r _ _).2 | exact (jand_r _ _).1 | exact (jand_r _ _).2) only [x237_380, x237_380n, x237_381, x237_381n, x237_382, x237_383, x237_384, x237_385, x237_386, x237_386n, x237_387, x237_388, x237_389, x237_390, x237_391, x237_394, x237_394n, x237_395, x237_395n, x237_396, x237_397, x237_398, x237_399, x237_400, x237_400n, x237_401, x237_402, x237_403, x237_404, x237_405, x237_408, kb_some, kb_none, clr_vi, clr_ref, clr_null, clr_none, va_rf_some, va_rf_none, ↓bi_ite_t, ↓bi_ite_f, ↓jc_lt_t, ↓jc_lt_f, ↓jc_gt_t, ↓jc_gt_f, ↓jc_le_t, ↓jc_le_f, ↓jc_ge_t, ↓jc_ge_f, ↓jc_eq_t, ↓jc_eq_f, ↓if_pos, ↓if_neg, a1, b1, a2, b2, e1, e2]
theorem lw_9 (h : INV J K R) (hi : 0 ≤ i ∧ i + 6 ≤ (L : Int)) (hL : L ≤ 3072) : ∃ J2 K2 R2, EE (d + 21) 237 413 [some (.ref 0), some (.ref 2), some (.ref 76), some (vi i)] [] (SH L) J K R = EE (d + 21) 237 1106 [some (.ref 0), some (.ref 2), some (.ref 76), some (vi i)] [] (SH L) J2 K2 R2 ∧ INV J2 K2 R2 := by
  have s0 : (SH L)[0]? = some (20, L) := rfl
  have s2 : (SH L)[2]? = some (10, 10) := rfl
  have s76 : (SH L)[76]? = some (11, 58) := rfl
  obtain ⟨v, J1, K1, R1, J2, K2, R2, e1, e2, hI⟩ := op_recovered (L := L) (d := d) h
  obtain ⟨z, rfl, hz⟩ := EE_rti e1 rfl
  refine ⟨J2, K2, R2, ?_, hI⟩
  simp (disch := first | assumption | omega | exact bi_lo | exact bi_hi | exact bi_01 | exact jcmp_lo | exact jcmp_hi | exact (jor_r _ _).1 | exact (jor_r _ _).2 | exact (jand_r _ _).1 | exact (jand_r _ _).2) only [x237_413, x237_413n, x237_414, x237_417, x237_417n, x237_418, x237_421, kb_some, kb_none, clr_vi, clr_ref, clr_null, clr_none, va_rf_some, va_rf_none, ↓bi_ite_t, ↓bi_ite_f, ↓jc_lt_t, ↓jc_lt_f, ↓jc_gt_t, ↓jc_gt_f, ↓jc_le_t, ↓jc_le_f, ↓jc_ge_t, ↓jc_ge_f, ↓jc_eq_t, ↓jc_eq_f, ↓if_pos, ↓if_neg, e1, e2]
theorem lw_10 (h : INV J K R) (hi : 0 ≤ i ∧ i + 6 ≤ (L : Int)) (hL : L ≤ 3072) : ∃ J2 K2 R2, EE (d + 21) 237 426 [some (.ref 0), some (.ref 2), some (.ref 76), some (vi i)] [] (SH L) J K R = EE (d + 21) 237 1106 [some (.ref 0), some (.ref 2), some (.ref 76), some (vi i)] [] (SH L) J2 K2 R2 ∧ INV J2 K2 R2 := by
  have s0 : (SH L)[0]? = some (20, L) := rfl
  have s2 : (SH L)[2]? = some (10, 10) := rfl
  have s76 : (SH L)[76]? = some (11, 58) := rfl
  have r1 := sx_r J (i + 1).toNat
  have a1 := sx_v J (i + 1).toNat
  have r2 := sx_r J (i + 2).toNat
  have a2 := sx_v J (i + 2).toNat
  obtain ⟨v, J1, K1, R1, J2, K2, R2, e1, e2, hI⟩ := op_thing (L := L) (d := d) h r1 r2
  obtain ⟨z, rfl, hz⟩ := EE_rtl e1 rfl
  have b1 := sx_k e1 (i + 1).toNat
  have b2 := sx_k e1 (i + 2).toNat
  refine ⟨J2, K2, R2, ?_, hI⟩
  simp (disch := first | assumption | omega | exact bi_lo | exact bi_hi | exact bi_01 | exact jcmp_lo | exact jcmp_hi | exact (jor_r _ _).1 | exact (jor_r _ _).2 | exact (jand_r _ _).1 | exact (jand_r _ _).2) only [x237_426, x237_426n, x237_427, x237_427n, x237_428, x237_429, x237_430, x237_431, x237_432, x237_432n, x237_433, x237_434, x237_435, x237_436, x237_437, x237_440, x237_440n, x237_441, x237_441n, x237_442, x237_443, x237_444, x237_445, x237_446, x237_446n, x237_447, x237_448, x237_449, x237_450, x237_451, x237_454, x237_455, kb_some, kb_none, clr_vi, clr_ref, clr_null, clr_none, va_rf_some, va_rf_none, ↓bi_ite_t, ↓bi_ite_f, ↓jc_lt_t, ↓jc_lt_f, ↓jc_gt_t, ↓jc_gt_f, ↓jc_le_t, ↓jc_le_f, ↓jc_ge_t, ↓jc_ge_f, ↓jc_eq_t, ↓jc_eq_f, ↓if_pos, ↓if_neg, a1, b1, a2, b2, e1, e2]
theorem lw_11 (h : INV J K R) (hi : 0 ≤ i ∧ i + 6 ≤ (L : Int)) (hL : L ≤ 3072) : ∃ J2 K2 R2, EE (d + 21) 237 460 [some (.ref 0), some (.ref 2), some (.ref 76), some (vi i)] [] (SH L) J K R = EE (d + 21) 237 1106 [some (.ref 0), some (.ref 2), some (.ref 76), some (vi i)] [] (SH L) J2 K2 R2 ∧ INV J2 K2 R2 := by
  have s0 : (SH L)[0]? = some (20, L) := rfl
  have s2 : (SH L)[2]? = some (10, 10) := rfl
  have s76 : (SH L)[76]? = some (11, 58) := rfl
  have r1 := sx_r J (i + 1).toNat
  have a1 := sx_v J (i + 1).toNat
  have r2 := sx_r J (i + 2).toNat
  have a2 := sx_v J (i + 2).toNat
  obtain ⟨v, J1, K1, R1, J2, K2, R2, e1, e2, hI⟩ := op_shown (L := L) (d := d) h r1 r2
  obtain ⟨z, rfl, hz⟩ := EE_rti e1 rfl
  have b1 := sx_k e1 (i + 1).toNat
  have b2 := sx_k e1 (i + 2).toNat
  refine ⟨J2, K2, R2, ?_, hI⟩
  simp (disch := first | assumption | omega | exact bi_lo | exact bi_hi | exact bi_01 | exact jcmp_lo | exact jcmp_hi | exact (jor_r _ _).1 | exact (jor_r _ _).2 | exact (jand_r _ _).1 | exact (jand_r _ _).2) only [x237_460, x237_460n, x237_461, x237_461n, x237_462, x237_463, x237_464, x237_465, x237_466, x237_466n, x237_467, x237_468, x237_469, x237_470, x237_471, x237_474, x237_474n, x237_475, x237_475n, x237_476, x237_477, x237_478, x237_479, x237_480, x237_480n, x237_481, x237_482, x237_483, x237_484, x237_485, x237_488, kb_some, kb_none, clr_vi, clr_ref, clr_null, clr_none, va_rf_some, va_rf_none, ↓bi_ite_t, ↓bi_ite_f, ↓jc_lt_t, ↓jc_lt_f, ↓jc_gt_t, ↓jc_gt_f, ↓jc_le_t, ↓jc_le_f, ↓jc_ge_t, ↓jc_ge_f, ↓jc_eq_t, ↓jc_eq_f, ↓if_pos, ↓if_neg, a1, b1, a2, b2, e1, e2]
theorem lw_12 (h : INV J K R) (hi : 0 ≤ i ∧ i + 6 ≤ (L : Int)) (hL : L ≤ 3072) : ∃ J2 K2 R2, EE (d + 21) 237 493 [some (.ref 0), some (.ref 2), some (.ref 76), some (vi i)] [] (SH L) J K R = EE (d + 21) 237 1106 [some (.ref 0), some (.ref 2), some (.ref 76), some (vi i)] [] (SH L) J2 K2 R2 ∧ INV J2 K2 R2 := by
  have s0 : (SH L)[0]? = some (20, L) := rfl
  have s2 : (SH L)[2]? = some (10, 10) := rfl
  have s76 : (SH L)[76]? = some (11, 58) := rfl
  have r1 := sx_r J (i + 1).toNat
  have a1 := sx_v J (i + 1).toNat
  have r2 := sx_r J (i + 2).toNat
  have a2 := sx_v J (i + 2).toNat
  obtain ⟨v, J1, K1, R1, J2, K2, R2, e1, e2, hI⟩ := op_mends (L := L) (d := d) h r1 r2
  obtain ⟨z, rfl, hz⟩ := EE_rti e1 rfl
  have b1 := sx_k e1 (i + 1).toNat
  have b2 := sx_k e1 (i + 2).toNat
  refine ⟨J2, K2, R2, ?_, hI⟩
  simp (disch := first | assumption | omega | exact bi_lo | exact bi_hi | exact bi_01 | exact jcmp_lo | exact jcmp_hi | exact (jor_r _ _).1 | exact (jor_r _ _).2 | exact (jand_r _ _).1 | exact (jand_r _ _).2) only [x237_493, x237_493n, x237_494, x237_494n, x237_495, x237_496, x237_497, x237_498, x237_499, x237_499n, x237_500, x237_501, x237_502, x237_503, x237_504, x237_507, x237_507n, x237_508, x237_508n, x237_509, x237_510, x237_511, x237_512, x237_513, x237_513n, x237_514, x237_515, x237_516, x237_517, x237_518, x237_521, kb_some, kb_none, clr_vi, clr_ref, clr_null, clr_none, va_rf_some, va_rf_none, ↓bi_ite_t, ↓bi_ite_f, ↓jc_lt_t, ↓jc_lt_f, ↓jc_gt_t, ↓jc_gt_f, ↓jc_le_t, ↓jc_le_f, ↓jc_ge_t, ↓jc_ge_f, ↓jc_eq_t, ↓jc_eq_f, ↓if_pos, ↓if_neg, a1, b1, a2, b2, e1, e2]
theorem lw_13 (h : INV J K R) (hi : 0 ≤ i ∧ i + 6 ≤ (L : Int)) (hL : L ≤ 3072) : ∃ J2 K2 R2, EE (d + 21) 237 526 [some (.ref 0), some (.ref 2), some (.ref 76), some (vi i)] [] (SH L) J K R = EE (d + 21) 237 1106 [some (.ref 0), some (.ref 2), some (.ref 76), some (vi i)] [] (SH L) J2 K2 R2 ∧ INV J2 K2 R2 := by
  have s0 : (SH L)[0]? = some (20, L) := rfl
  have s2 : (SH L)[2]? = some (10, 10) := rfl
  have s76 : (SH L)[76]? = some (11, 58) := rfl
  obtain ⟨v, J1, K1, R1, J2, K2, R2, e1, e2, hI⟩ := op_flips (L := L) (d := d) h
  obtain ⟨z, rfl, hz⟩ := EE_rti e1 rfl
  refine ⟨J2, K2, R2, ?_, hI⟩
  simp (disch := first | assumption | omega | exact bi_lo | exact bi_hi | exact bi_01 | exact jcmp_lo | exact jcmp_hi | exact (jor_r _ _).1 | exact (jor_r _ _).2 | exact (jand_r _ _).1 | exact (jand_r _ _).2) only [x237_526, x237_526n, x237_527, x237_530, x237_530n, x237_531, x237_534, kb_some, kb_none, clr_vi, clr_ref, clr_null, clr_none, va_rf_some, va_rf_none, ↓bi_ite_t, ↓bi_ite_f, ↓jc_lt_t, ↓jc_lt_f, ↓jc_gt_t, ↓jc_gt_f, ↓jc_le_t, ↓jc_le_f, ↓jc_ge_t, ↓jc_ge_f, ↓jc_eq_t, ↓jc_eq_f, ↓if_pos, ↓if_neg, e1, e2]
theorem lw_14 (h : INV J K R) (hi : 0 ≤ i ∧ i + 6 ≤ (L : Int)) (hL : L ≤ 3072) : ∃ J2 K2 R2, EE (d + 21) 237 539 [some (.ref 0), some (.ref 2), some (.ref 76), some (vi i)] [] (SH L) J K R = EE (d + 21) 237 1106 [some (.ref 0), some (.ref 2), some (.ref 76), some (vi i)] [] (SH L) J2 K2 R2 ∧ INV J2 K2 R2 := by
  have s0 : (SH L)[0]? = some (20, L) := rfl
  have s2 : (SH L)[2]? = some (10, 10) := rfl
  have s76 : (SH L)[76]? = some (11, 58) := rfl
  have r1 := sx_r J (i + 1).toNat
  have a1 := sx_v J (i + 1).toNat
  have r2 := sx_r J (i + 2).toNat
  have a2 := sx_v J (i + 2).toNat
  obtain ⟨v, J1, K1, R1, J2, K2, R2, e1, e2, hI⟩ := op_as (L := L) (d := d) h r1 r2
  obtain ⟨z, rfl, hz⟩ := EE_rti e1 rfl
  have b1 := sx_k e1 (i + 1).toNat
  have b2 := sx_k e1 (i + 2).toNat
  refine ⟨J2, K2, R2, ?_, hI⟩
  simp (disch := first | assumption | omega | exact bi_lo | exact bi_hi | exact bi_01 | exact jcmp_lo | exact jcmp_hi | exact (jor_r _ _).1 | exact (jor_r _ _).2 | exact (jand_r _ _).1 | exact (jand_r _ _).2) only [x237_539, x237_539n, x237_540, x237_540n, x237_541, x237_542, x237_543, x237_544, x237_545, x237_545n, x237_546, x237_547, x237_548, x237_549, x237_550, x237_553, x237_553n, x237_554, x237_554n, x237_555, x237_556, x237_557, x237_558, x237_559, x237_559n, x237_560, x237_561, x237_562, x237_563, x237_564, x237_567, kb_some, kb_none, clr_vi, clr_ref, clr_null, clr_none, va_rf_some, va_rf_none, ↓bi_ite_t, ↓bi_ite_f, ↓jc_lt_t, ↓jc_lt_f, ↓jc_gt_t, ↓jc_gt_f, ↓jc_le_t, ↓jc_le_f, ↓jc_ge_t, ↓jc_ge_f, ↓jc_eq_t, ↓jc_eq_f, ↓if_pos, ↓if_neg, a1, b1, a2, b2, e1, e2]
theorem lw_15 (h : INV J K R) (hi : 0 ≤ i ∧ i + 6 ≤ (L : Int)) (hL : L ≤ 3072) : ∃ J2 K2 R2, EE (d + 21) 237 572 [some (.ref 0), some (.ref 2), some (.ref 76), some (vi i)] [] (SH L) J K R = EE (d + 21) 237 1106 [some (.ref 0), some (.ref 2), some (.ref 76), some (vi i)] [] (SH L) J2 K2 R2 ∧ INV J2 K2 R2 := by
  have s0 : (SH L)[0]? = some (20, L) := rfl
  have s2 : (SH L)[2]? = some (10, 10) := rfl
  have s76 : (SH L)[76]? = some (11, 58) := rfl
  have r1 := sx_r J (i + 1).toNat
  have a1 := sx_v J (i + 1).toNat
  have r2 := sx_r J (i + 2).toNat
  have a2 := sx_v J (i + 2).toNat
  obtain ⟨v, J1, K1, R1, J2, K2, R2, e1, e2, hI⟩ := op_see (L := L) (d := d) h r1 r2
  obtain ⟨z, rfl, hz⟩ := EE_rti e1 rfl
  have b1 := sx_k e1 (i + 1).toNat
  have b2 := sx_k e1 (i + 2).toNat
  refine ⟨J2, K2, R2, ?_, hI⟩
  simp (disch := first | assumption | omega | exact bi_lo | exact bi_hi | exact bi_01 | exact jcmp_lo | exact jcmp_hi | exact (jor_r _ _).1 | exact (jor_r _ _).2 | exact (jand_r _ _).1 | exact (jand_r _ _).2) only [x237_572, x237_572n, x237_573, x237_573n, x237_574, x237_575, x237_576, x237_577, x237_578, x237_578n, x237_579, x237_580, x237_581, x237_582, x237_583, x237_586, x237_586n, x237_587, x237_587n, x237_588, x237_589, x237_590, x237_591, x237_592, x237_592n, x237_593, x237_594, x237_595, x237_596, x237_597, x237_600, kb_some, kb_none, clr_vi, clr_ref, clr_null, clr_none, va_rf_some, va_rf_none, ↓bi_ite_t, ↓bi_ite_f, ↓jc_lt_t, ↓jc_lt_f, ↓jc_gt_t, ↓jc_gt_f, ↓jc_le_t, ↓jc_le_f, ↓jc_ge_t, ↓jc_ge_f, ↓jc_eq_t, ↓jc_eq_f, ↓if_pos, ↓if_neg, a1, b1, a2, b2, e1, e2]
theorem lw_16 (h : INV J K R) (hi : 0 ≤ i ∧ i + 6 ≤ (L : Int)) (hL : L ≤ 3072) : ∃ J2 K2 R2, EE (d + 21) 237 605 [some (.ref 0), some (.ref 2), some (.ref 76), some (vi i)] [] (SH L) J K R = EE (d + 21) 237 1106 [some (.ref 0), some (.ref 2), some (.ref 76), some (vi i)] [] (SH L) J2 K2 R2 ∧ INV J2 K2 R2 := by
  have s0 : (SH L)[0]? = some (20, L) := rfl
  have s2 : (SH L)[2]? = some (10, 10) := rfl
  have s76 : (SH L)[76]? = some (11, 58) := rfl
  have r1 := sx_r J (i + 1).toNat
  have a1 := sx_v J (i + 1).toNat
  obtain ⟨v, J1, K1, R1, J2, K2, R2, e1, e2, hI⟩ := op_fits (L := L) (d := d) h r1
  obtain ⟨z, rfl, hz⟩ := EE_rti e1 rfl
  have b1 := sx_k e1 (i + 1).toNat
  refine ⟨J2, K2, R2, ?_, hI⟩
  simp (disch := first | assumption | omega | exact bi_lo | exact bi_hi | exact bi_01 | exact jcmp_lo | exact jcmp_hi | exact (jor_r _ _).1 | exact (jor_r _ _).2 | exact (jand_r _ _).1 | exact (jand_r _ _).2) only [x237_605, x237_605n, x237_606, x237_606n, x237_607, x237_608, x237_609, x237_610, x237_611, x237_614, x237_614n, x237_615, x237_615n, x237_616, x237_617, x237_618, x237_619, x237_620, x237_623, kb_some, kb_none, clr_vi, clr_ref, clr_null, clr_none, va_rf_some, va_rf_none, ↓bi_ite_t, ↓bi_ite_f, ↓jc_lt_t, ↓jc_lt_f, ↓jc_gt_t, ↓jc_gt_f, ↓jc_le_t, ↓jc_le_f, ↓jc_ge_t, ↓jc_ge_f, ↓jc_eq_t, ↓jc_eq_f, ↓if_pos, ↓if_neg, a1, b1, e1, e2]
theorem lw_17 (h : INV J K R) (hi : 0 ≤ i ∧ i + 6 ≤ (L : Int)) (hL : L ≤ 3072) : ∃ J2 K2 R2, EE (d + 21) 237 628 [some (.ref 0), some (.ref 2), some (.ref 76), some (vi i)] [] (SH L) J K R = EE (d + 21) 237 1106 [some (.ref 0), some (.ref 2), some (.ref 76), some (vi i)] [] (SH L) J2 K2 R2 ∧ INV J2 K2 R2 := by
  have s0 : (SH L)[0]? = some (20, L) := rfl
  have s2 : (SH L)[2]? = some (10, 10) := rfl
  have s76 : (SH L)[76]? = some (11, 58) := rfl
  have r1 := sx_r J (i + 1).toNat
  have a1 := sx_v J (i + 1).toNat
  obtain ⟨v, J1, K1, R1, J2, K2, R2, e1, e2, hI⟩ := op_odds (L := L) (d := d) h r1
  obtain ⟨z, rfl, hz⟩ := EE_rtl e1 rfl
  have b1 := sx_k e1 (i + 1).toNat
  refine ⟨J2, K2, R2, ?_, hI⟩
  simp (disch := first | assumption | omega | exact bi_lo | exact bi_hi | exact bi_01 | exact jcmp_lo | exact jcmp_hi | exact (jor_r _ _).1 | exact (jor_r _ _).2 | exact (jand_r _ _).1 | exact (jand_r _ _).2) only [x237_628, x237_628n, x237_629, x237_629n, x237_630, x237_631, x237_632, x237_633, x237_634, x237_637, x237_637n, x237_638, x237_638n, x237_639, x237_640, x237_641, x237_642, x237_643, x237_646, x237_647, kb_some, kb_none, clr_vi, clr_ref, clr_null, clr_none, va_rf_some, va_rf_none, ↓bi_ite_t, ↓bi_ite_f, ↓jc_lt_t, ↓jc_lt_f, ↓jc_gt_t, ↓jc_gt_f, ↓jc_le_t, ↓jc_le_f, ↓jc_ge_t, ↓jc_ge_f, ↓jc_eq_t, ↓jc_eq_f, ↓if_pos, ↓if_neg, a1, b1, e1, e2]
theorem lw_18 (h : INV J K R) (hi : 0 ≤ i ∧ i + 6 ≤ (L : Int)) (hL : L ≤ 3072) : ∃ J2 K2 R2, EE (d + 21) 237 652 [some (.ref 0), some (.ref 2), some (.ref 76), some (vi i)] [] (SH L) J K R = EE (d + 21) 237 1106 [some (.ref 0), some (.ref 2), some (.ref 76), some (vi i)] [] (SH L) J2 K2 R2 ∧ INV J2 K2 R2 := by
  have s0 : (SH L)[0]? = some (20, L) := rfl
  have s2 : (SH L)[2]? = some (10, 10) := rfl
  have s76 : (SH L)[76]? = some (11, 58) := rfl
  have r1 := sx_r J (i + 1).toNat
  have a1 := sx_v J (i + 1).toNat
  obtain ⟨v, J1, K1, R1, J2, K2, R2, e1, e2, hI⟩ := op_mean (L := L) (d := d) h r1
  obtain ⟨z, rfl, hz⟩ := EE_rtl e1 rfl
  have b1 := sx_k e1 (i + 1).toNat
  refine ⟨J2, K2, R2, ?_, hI⟩
  simp (disch := first | assumption | omega | exact bi_lo | exact bi_hi | exact bi_01 | exact jcmp_lo | exact jcmp_hi | exact (jor_r _ _).1 | exact (jor_r _ _).2 | exact (jand_r _ _).1 | exact (jand_r _ _).2) only [x237_652, x237_652n, x237_653, x237_653n, x237_654, x237_655, x237_656, x237_657, x237_658, x237_661, x237_661n, x237_662, x237_662n, x237_663, x237_664, x237_665, x237_666, x237_667, x237_670, x237_671, kb_some, kb_none, clr_vi, clr_ref, clr_null, clr_none, va_rf_some, va_rf_none, ↓bi_ite_t, ↓bi_ite_f, ↓jc_lt_t, ↓jc_lt_f, ↓jc_gt_t, ↓jc_gt_f, ↓jc_le_t, ↓jc_le_f, ↓jc_ge_t, ↓jc_ge_f, ↓jc_eq_t, ↓jc_eq_f, ↓if_pos, ↓if_neg, a1, b1, e1, e2]
theorem lw_19 (h : INV J K R) (hi : 0 ≤ i ∧ i + 6 ≤ (L : Int)) (hL : L ≤ 3072) : ∃ J2 K2 R2, EE (d + 21) 237 676 [some (.ref 0), some (.ref 2), some (.ref 76), some (vi i)] [] (SH L) J K R = EE (d + 21) 237 1106 [some (.ref 0), some (.ref 2), some (.ref 76), some (vi i)] [] (SH L) J2 K2 R2 ∧ INV J2 K2 R2 := by
  have s0 : (SH L)[0]? = some (20, L) := rfl
  have s2 : (SH L)[2]? = some (10, 10) := rfl
  have s76 : (SH L)[76]? = some (11, 58) := rfl
  have r1 := sx_r J (i + 1).toNat
  have a1 := sx_v J (i + 1).toNat
  have r2 := sx_r J (i + 2).toNat
  have a2 := sx_v J (i + 2).toNat
  obtain ⟨v, J1, K1, R1, J2, K2, R2, e1, e2, hI⟩ := op_plan (L := L) (d := d) h r1 r2
  obtain ⟨z, rfl, hz⟩ := EE_rti e1 rfl
  have b1 := sx_k e1 (i + 1).toNat
  have b2 := sx_k e1 (i + 2).toNat
  refine ⟨J2, K2, R2, ?_, hI⟩
  simp (disch := first | assumption | omega | exact bi_lo | exact bi_hi | exact bi_01 | exact jcmp_lo | exact jcmp_hi | exact (jor_r _ _).1 | exact (jor_r _ _).2 | exact (jand_r _ _).1 | exact (jand_r _ _).2) only [x237_676, x237_676n, x237_677, x237_677n, x237_678, x237_679, x237_680, x237_681, x237_682, x237_682n, x237_683, x237_684, x237_685, x237_686, x237_687, x237_690, x237_690n, x237_691, x237_691n, x237_692, x237_693, x237_694, x237_695, x237_696, x237_696n, x237_697, x237_698, x237_699, x237_700, x237_701, x237_704, kb_some, kb_none, clr_vi, clr_ref, clr_null, clr_none, va_rf_some, va_rf_none, ↓bi_ite_t, ↓bi_ite_f, ↓jc_lt_t, ↓jc_lt_f, ↓jc_gt_t, ↓jc_gt_f, ↓jc_le_t, ↓jc_le_f, ↓jc_ge_t, ↓jc_ge_f, ↓jc_eq_t, ↓jc_eq_f, ↓if_pos, ↓if_neg, a1, b1, a2, b2, e1, e2]
theorem lw_20 (h : INV J K R) (hi : 0 ≤ i ∧ i + 6 ≤ (L : Int)) (hL : L ≤ 3072) : ∃ J2 K2 R2, EE (d + 21) 237 709 [some (.ref 0), some (.ref 2), some (.ref 76), some (vi i)] [] (SH L) J K R = EE (d + 21) 237 1106 [some (.ref 0), some (.ref 2), some (.ref 76), some (vi i)] [] (SH L) J2 K2 R2 ∧ INV J2 K2 R2 := by
  have s0 : (SH L)[0]? = some (20, L) := rfl
  have s2 : (SH L)[2]? = some (10, 10) := rfl
  have s76 : (SH L)[76]? = some (11, 58) := rfl
  have r1 := sx_r J (i + 1).toNat
  have a1 := sx_v J (i + 1).toNat
  obtain ⟨v, J1, K1, R1, J2, K2, R2, e1, e2, hI⟩ := op_ends (L := L) (d := d) h r1
  obtain ⟨z, rfl, hz⟩ := EE_rti e1 rfl
  have b1 := sx_k e1 (i + 1).toNat
  refine ⟨J2, K2, R2, ?_, hI⟩
  simp (disch := first | assumption | omega | exact bi_lo | exact bi_hi | exact bi_01 | exact jcmp_lo | exact jcmp_hi | exact (jor_r _ _).1 | exact (jor_r _ _).2 | exact (jand_r _ _).1 | exact (jand_r _ _).2) only [x237_709, x237_709n, x237_710, x237_710n, x237_711, x237_712, x237_713, x237_714, x237_715, x237_718, x237_718n, x237_719, x237_719n, x237_720, x237_721, x237_722, x237_723, x237_724, x237_727, kb_some, kb_none, clr_vi, clr_ref, clr_null, clr_none, va_rf_some, va_rf_none, ↓bi_ite_t, ↓bi_ite_f, ↓jc_lt_t, ↓jc_lt_f, ↓jc_gt_t, ↓jc_gt_f, ↓jc_le_t, ↓jc_le_f, ↓jc_ge_t, ↓jc_ge_f, ↓jc_eq_t, ↓jc_eq_f, ↓if_pos, ↓if_neg, a1, b1, e1, e2]
theorem lw_21 (h : INV J K R) (hi : 0 ≤ i ∧ i + 6 ≤ (L : Int)) (hL : L ≤ 3072) : ∃ J2 K2 R2, EE (d + 21) 237 732 [some (.ref 0), some (.ref 2), some (.ref 76), some (vi i)] [] (SH L) J K R = EE (d + 21) 237 1106 [some (.ref 0), some (.ref 2), some (.ref 76), some (vi i)] [] (SH L) J2 K2 R2 ∧ INV J2 K2 R2 := by
  have s0 : (SH L)[0]? = some (20, L) := rfl
  have s2 : (SH L)[2]? = some (10, 10) := rfl
  have s76 : (SH L)[76]? = some (11, 58) := rfl
  have r1 := sx_r J (i + 1).toNat
  have a1 := sx_v J (i + 1).toNat
  have r2 := sx_r J (i + 2).toNat
  have a2 := sx_v J (i + 2).toNat
  obtain ⟨v, J1, K1, R1, J2, K2, R2, e1, e2, hI⟩ := op_book (L := L) (d := d) h r1 r2
  obtain ⟨z, rfl, hz⟩ := EE_rti e1 rfl
  have b1 := sx_k e1 (i + 1).toNat
  have b2 := sx_k e1 (i + 2).toNat
  refine ⟨J2, K2, R2, ?_, hI⟩
  simp (disch := first | assumption | omega | exact bi_lo | exact bi_hi | exact bi_01 | exact jcmp_lo | exact jcmp_hi | exact (jor_r _ _).1 | exact (jor_r _ _).2 | exact (jand_r _ _).1 | exact (jand_r _ _).2) only [x237_732, x237_732n, x237_733, x237_733n, x237_734, x237_735, x237_736, x237_737, x237_738, x237_738n, x237_739, x237_740, x237_741, x237_742, x237_743, x237_746, x237_746n, x237_747, x237_747n, x237_748, x237_749, x237_750, x237_751, x237_752, x237_752n, x237_753, x237_754, x237_755, x237_756, x237_757, x237_760, kb_some, kb_none, clr_vi, clr_ref, clr_null, clr_none, va_rf_some, va_rf_none, ↓bi_ite_t, ↓bi_ite_f, ↓jc_lt_t, ↓jc_lt_f, ↓jc_gt_t, ↓jc_gt_f, ↓jc_le_t, ↓jc_le_f, ↓jc_ge_t, ↓jc_ge_f, ↓jc_eq_t, ↓jc_eq_f, ↓if_pos, ↓if_neg, a1, b1, a2, b2, e1, e2]
theorem lw_22 (h : INV J K R) (hi : 0 ≤ i ∧ i + 6 ≤ (L : Int)) (hL : L ≤ 3072) : ∃ J2 K2 R2, EE (d + 21) 237 765 [some (.ref 0), some (.ref 2), some (.ref 76), some (vi i)] [] (SH L) J K R = EE (d + 21) 237 1106 [some (.ref 0), some (.ref 2), some (.ref 76), some (vi i)] [] (SH L) J2 K2 R2 ∧ INV J2 K2 R2 := by
  have s0 : (SH L)[0]? = some (20, L) := rfl
  have s2 : (SH L)[2]? = some (10, 10) := rfl
  have s76 : (SH L)[76]? = some (11, 58) := rfl
  obtain ⟨v, J1, K1, R1, J2, K2, R2, e1, e2, hI⟩ := op_looked (L := L) (d := d) h
  obtain ⟨z, rfl, hz⟩ := EE_rti e1 rfl
  refine ⟨J2, K2, R2, ?_, hI⟩
  simp (disch := first | assumption | omega | exact bi_lo | exact bi_hi | exact bi_01 | exact jcmp_lo | exact jcmp_hi | exact (jor_r _ _).1 | exact (jor_r _ _).2 | exact (jand_r _ _).1 | exact (jand_r _ _).2) only [x237_765, x237_765n, x237_766, x237_769, x237_769n, x237_770, x237_773, kb_some, kb_none, clr_vi, clr_ref, clr_null, clr_none, va_rf_some, va_rf_none, ↓bi_ite_t, ↓bi_ite_f, ↓jc_lt_t, ↓jc_lt_f, ↓jc_gt_t, ↓jc_gt_f, ↓jc_le_t, ↓jc_le_f, ↓jc_ge_t, ↓jc_ge_f, ↓jc_eq_t, ↓jc_eq_f, ↓if_pos, ↓if_neg, e1, e2]
theorem lw_23 (h : INV J K R) (hi : 0 ≤ i ∧ i + 6 ≤ (L : Int)) (hL : L ≤ 3072) : ∃ J2 K2 R2, EE (d + 21) 237 778 [some (.ref 0), some (.ref 2), some (.ref 76), some (vi i)] [] (SH L) J K R = EE (d + 21) 237 1106 [some (.ref 0), some (.ref 2), some (.ref 76), some (vi i)] [] (SH L) J2 K2 R2 ∧ INV J2 K2 R2 := by
  have s0 : (SH L)[0]? = some (20, L) := rfl
  have s2 : (SH L)[2]? = some (10, 10) := rfl
  have s76 : (SH L)[76]? = some (11, 58) := rfl
  have r1 := sx_r J (i + 1).toNat
  have a1 := sx_v J (i + 1).toNat
  have r2 := sx_r J (i + 2).toNat
  have a2 := sx_v J (i + 2).toNat
  obtain ⟨v, J1, K1, R1, J2, K2, R2, e1, e2, hI⟩ := op_judge (L := L) (d := d) h r1 r2
  obtain ⟨z, rfl, hz⟩ := EE_rti e1 rfl
  have b1 := sx_k e1 (i + 1).toNat
  have b2 := sx_k e1 (i + 2).toNat
  refine ⟨J2, K2, R2, ?_, hI⟩
  simp (disch := first | assumption | omega | exact bi_lo | exact bi_hi | exact bi_01 | exact jcmp_lo | exact jcmp_hi | exact (jor_r _ _).1 | exact (jor_r _ _).2 | exact (jand_r _ _).1 | exact (jand_r _ _).2) only [x237_778, x237_778n, x237_779, x237_779n, x237_780, x237_781, x237_782, x237_783, x237_784, x237_784n, x237_785, x237_786, x237_787, x237_788, x237_789, x237_792, x237_792n, x237_793, x237_793n, x237_794, x237_795, x237_796, x237_797, x237_798, x237_798n, x237_799, x237_800, x237_801, x237_802, x237_803, x237_806, kb_some, kb_none, clr_vi, clr_ref, clr_null, clr_none, va_rf_some, va_rf_none, ↓bi_ite_t, ↓bi_ite_f, ↓jc_lt_t, ↓jc_lt_f, ↓jc_gt_t, ↓jc_gt_f, ↓jc_le_t, ↓jc_le_f, ↓jc_ge_t, ↓jc_ge_f, ↓jc_eq_t, ↓jc_eq_f, ↓if_pos, ↓if_neg, a1, b1, a2, b2, e1, e2]
theorem lw_24 (h : INV J K R) (hi : 0 ≤ i ∧ i + 6 ≤ (L : Int)) (hL : L ≤ 3072) : ∃ J2 K2 R2, EE (d + 21) 237 811 [some (.ref 0), some (.ref 2), some (.ref 76), some (vi i)] [] (SH L) J K R = EE (d + 21) 237 1106 [some (.ref 0), some (.ref 2), some (.ref 76), some (vi i)] [] (SH L) J2 K2 R2 ∧ INV J2 K2 R2 := by
  have s0 : (SH L)[0]? = some (20, L) := rfl
  have s2 : (SH L)[2]? = some (10, 10) := rfl
  have s76 : (SH L)[76]? = some (11, 58) := rfl
  obtain ⟨v, J1, K1, R1, J2, K2, R2, e1, e2, hI⟩ := op_image (L := L) (d := d) h
  obtain ⟨z, rfl, hz⟩ := EE_rti e1 rfl
  refine ⟨J2, K2, R2, ?_, hI⟩
  simp (disch := first | assumption | omega | exact bi_lo | exact bi_hi | exact bi_01 | exact jcmp_lo | exact jcmp_hi | exact (jor_r _ _).1 | exact (jor_r _ _).2 | exact (jand_r _ _).1 | exact (jand_r _ _).2) only [x237_811, x237_811n, x237_812, x237_815, x237_815n, x237_816, x237_819, kb_some, kb_none, clr_vi, clr_ref, clr_null, clr_none, va_rf_some, va_rf_none, ↓bi_ite_t, ↓bi_ite_f, ↓jc_lt_t, ↓jc_lt_f, ↓jc_gt_t, ↓jc_gt_f, ↓jc_le_t, ↓jc_le_f, ↓jc_ge_t, ↓jc_ge_f, ↓jc_eq_t, ↓jc_eq_f, ↓if_pos, ↓if_neg, e1, e2]
theorem lw_25 (h : INV J K R) (hi : 0 ≤ i ∧ i + 6 ≤ (L : Int)) (hL : L ≤ 3072) : ∃ J2 K2 R2, EE (d + 21) 237 824 [some (.ref 0), some (.ref 2), some (.ref 76), some (vi i)] [] (SH L) J K R = EE (d + 21) 237 1106 [some (.ref 0), some (.ref 2), some (.ref 76), some (vi i)] [] (SH L) J2 K2 R2 ∧ INV J2 K2 R2 := by
  have s0 : (SH L)[0]? = some (20, L) := rfl
  have s2 : (SH L)[2]? = some (10, 10) := rfl
  have s76 : (SH L)[76]? = some (11, 58) := rfl
  obtain ⟨v, J1, K1, R1, J2, K2, R2, e1, e2, hI⟩ := op_undo (L := L) (d := d) h
  obtain ⟨z, rfl, hz⟩ := EE_rti e1 rfl
  refine ⟨J2, K2, R2, ?_, hI⟩
  simp (disch := first | assumption | omega | exact bi_lo | exact bi_hi | exact bi_01 | exact jcmp_lo | exact jcmp_hi | exact (jor_r _ _).1 | exact (jor_r _ _).2 | exact (jand_r _ _).1 | exact (jand_r _ _).2) only [x237_824, x237_824n, x237_825, x237_828, x237_828n, x237_829, x237_832, kb_some, kb_none, clr_vi, clr_ref, clr_null, clr_none, va_rf_some, va_rf_none, ↓bi_ite_t, ↓bi_ite_f, ↓jc_lt_t, ↓jc_lt_f, ↓jc_gt_t, ↓jc_gt_f, ↓jc_le_t, ↓jc_le_f, ↓jc_ge_t, ↓jc_ge_f, ↓jc_eq_t, ↓jc_eq_f, ↓if_pos, ↓if_neg, e1, e2]
theorem lw_26 (h : INV J K R) (hi : 0 ≤ i ∧ i + 6 ≤ (L : Int)) (hL : L ≤ 3072) : ∃ J2 K2 R2, EE (d + 21) 237 837 [some (.ref 0), some (.ref 2), some (.ref 76), some (vi i)] [] (SH L) J K R = EE (d + 21) 237 1106 [some (.ref 0), some (.ref 2), some (.ref 76), some (vi i)] [] (SH L) J2 K2 R2 ∧ INV J2 K2 R2 := by
  have s0 : (SH L)[0]? = some (20, L) := rfl
  have s2 : (SH L)[2]? = some (10, 10) := rfl
  have s76 : (SH L)[76]? = some (11, 58) := rfl
  have r1 := sx_r J (i + 1).toNat
  have a1 := sx_v J (i + 1).toNat
  have r2 := sx_r J (i + 2).toNat
  have a2 := sx_v J (i + 2).toNat
  obtain ⟨v, J1, K1, R1, J2, K2, R2, e1, e2, hI⟩ := op_taken (L := L) (d := d) h r1 r2
  obtain ⟨z, rfl, hz⟩ := EE_rti e1 rfl
  have b1 := sx_k e1 (i + 1).toNat
  have b2 := sx_k e1 (i + 2).toNat
  refine ⟨J2, K2, R2, ?_, hI⟩
  simp (disch := first | assumption | omega | exact bi_lo | exact bi_hi | exact bi_01 | exact jcmp_lo | exact jcmp_hi | exact (jor_r _ _).1 | exact (jor_r _ _).2 | exact (jand_r _ _).1 | exact (jand_r _ _).2) only [x237_837, x237_837n, x237_838, x237_838n, x237_839, x237_840, x237_841, x237_842, x237_843, x237_843n, x237_844, x237_845, x237_846, x237_847, x237_848, x237_851, x237_851n, x237_852, x237_852n, x237_853, x237_854, x237_855, x237_856, x237_857, x237_857n, x237_858, x237_859, x237_860, x237_861, x237_862, x237_865, kb_some, kb_none, clr_vi, clr_ref, clr_null, clr_none, va_rf_some, va_rf_none, ↓bi_ite_t, ↓bi_ite_f, ↓jc_lt_t, ↓jc_lt_f, ↓jc_gt_t, ↓jc_gt_f, ↓jc_le_t, ↓jc_le_f, ↓jc_ge_t, ↓jc_ge_f, ↓jc_eq_t, ↓jc_eq_f, ↓if_pos, ↓if_neg, a1, b1, a2, b2, e1, e2]
theorem lw_27 (h : INV J K R) (hi : 0 ≤ i ∧ i + 6 ≤ (L : Int)) (hL : L ≤ 3072) : ∃ J2 K2 R2, EE (d + 21) 237 870 [some (.ref 0), some (.ref 2), some (.ref 76), some (vi i)] [] (SH L) J K R = EE (d + 21) 237 1106 [some (.ref 0), some (.ref 2), some (.ref 76), some (vi i)] [] (SH L) J2 K2 R2 ∧ INV J2 K2 R2 := by
  have s0 : (SH L)[0]? = some (20, L) := rfl
  have s2 : (SH L)[2]? = some (10, 10) := rfl
  have s76 : (SH L)[76]? = some (11, 58) := rfl
  have r1 := sx_r J (i + 1).toNat
  have a1 := sx_v J (i + 1).toNat
  obtain ⟨v, J1, K1, R1, J2, K2, R2, e1, e2, hI⟩ := op_count (L := L) (d := d) h r1
  obtain ⟨z, rfl, hz⟩ := EE_rti e1 rfl
  have b1 := sx_k e1 (i + 1).toNat
  refine ⟨J2, K2, R2, ?_, hI⟩
  simp (disch := first | assumption | omega | exact bi_lo | exact bi_hi | exact bi_01 | exact jcmp_lo | exact jcmp_hi | exact (jor_r _ _).1 | exact (jor_r _ _).2 | exact (jand_r _ _).1 | exact (jand_r _ _).2) only [x237_870, x237_870n, x237_871, x237_871n, x237_872, x237_873, x237_874, x237_875, x237_876, x237_879, x237_879n, x237_880, x237_880n, x237_881, x237_882, x237_883, x237_884, x237_885, x237_888, kb_some, kb_none, clr_vi, clr_ref, clr_null, clr_none, va_rf_some, va_rf_none, ↓bi_ite_t, ↓bi_ite_f, ↓jc_lt_t, ↓jc_lt_f, ↓jc_gt_t, ↓jc_gt_f, ↓jc_le_t, ↓jc_le_f, ↓jc_ge_t, ↓jc_ge_f, ↓jc_eq_t, ↓jc_eq_f, ↓if_pos, ↓if_neg, a1, b1, e1, e2]
theorem lw_28 (h : INV J K R) (hi : 0 ≤ i ∧ i + 6 ≤ (L : Int)) (hL : L ≤ 3072) : ∃ J2 K2 R2, EE (d + 21) 237 893 [some (.ref 0), some (.ref 2), some (.ref 76), some (vi i)] [] (SH L) J K R = EE (d + 21) 237 1106 [some (.ref 0), some (.ref 2), some (.ref 76), some (vi i)] [] (SH L) J2 K2 R2 ∧ INV J2 K2 R2 := by
  have s0 : (SH L)[0]? = some (20, L) := rfl
  have s2 : (SH L)[2]? = some (10, 10) := rfl
  have s76 : (SH L)[76]? = some (11, 58) := rfl
  have r1 := sx_r J (i + 1).toNat
  have a1 := sx_v J (i + 1).toNat
  have r2 := sx_r J (i + 2).toNat
  have a2 := sx_v J (i + 2).toNat
  have r3 := sx_r J (i + 3).toNat
  have a3 := sx_v J (i + 3).toNat
  obtain ⟨v, J1, K1, R1, J2, K2, R2, e1, e2, hI⟩ := op_tape (L := L) (d := d) h r1 r2 r3
  obtain ⟨z, rfl, hz⟩ := EE_rti e1 rfl
  have b1 := sx_k e1 (i + 1).toNat
  have b2 := sx_k e1 (i + 2).toNat
  have b3 := sx_k e1 (i + 3).toNat
  refine ⟨J2, K2, R2, ?_, hI⟩
  simp (disch := first | assumption | omega | exact bi_lo | exact bi_hi | exact bi_01 | exact jcmp_lo | exact jcmp_hi | exact (jor_r _ _).1 | exact (jor_r _ _).2 | exact (jand_r _ _).1 | exact (jand_r _ _).2) only [x237_893, x237_893n, x237_894, x237_894n, x237_895, x237_896, x237_897, x237_898, x237_899, x237_899n, x237_900, x237_901, x237_902, x237_903, x237_904, x237_904n, x237_905, x237_906, x237_907, x237_908, x237_909, x237_912, x237_912n, x237_913, x237_913n, x237_914, x237_915, x237_916, x237_917, x237_918, x237_918n, x237_919, x237_920, x237_921, x237_922, x237_923, x237_923n, x237_924, x237_925, x237_926, x237_927, x237_928, x237_931, kb_some, kb_none, clr_vi, clr_ref, clr_null, clr_none, va_rf_some, va_rf_none, ↓bi_ite_t, ↓bi_ite_f, ↓jc_lt_t, ↓jc_lt_f, ↓jc_gt_t, ↓jc_gt_f, ↓jc_le_t, ↓jc_le_f, ↓jc_ge_t, ↓jc_ge_f, ↓jc_eq_t, ↓jc_eq_f, ↓if_pos, ↓if_neg, a1, b1, a2, b2, a3, b3, e1, e2]
theorem lw_29 (h : INV J K R) (hi : 0 ≤ i ∧ i + 6 ≤ (L : Int)) (hL : L ≤ 3072) : ∃ J2 K2 R2, EE (d + 21) 237 936 [some (.ref 0), some (.ref 2), some (.ref 76), some (vi i)] [] (SH L) J K R = EE (d + 21) 237 1106 [some (.ref 0), some (.ref 2), some (.ref 76), some (vi i)] [] (SH L) J2 K2 R2 ∧ INV J2 K2 R2 := by
  have s0 : (SH L)[0]? = some (20, L) := rfl
  have s2 : (SH L)[2]? = some (10, 10) := rfl
  have s76 : (SH L)[76]? = some (11, 58) := rfl
  have r1 := sx_r J (i + 1).toNat
  have a1 := sx_v J (i + 1).toNat
  have r2 := sx_r J (i + 2).toNat
  have a2 := sx_v J (i + 2).toNat
  have r3 := sx_r J (i + 3).toNat
  have a3 := sx_v J (i + 3).toNat
  have r4 := sx_r J (i + 4).toNat
  have a4 := sx_v J (i + 4).toNat
  have rv : -9223372036854775808 ≤ (lL (jor64 (jshl64 (sx J (i + 3).toNat) 32) (jand64 (sx J (i + 4).toNat) 4294967295))).toInt ∧ (lL (jor64 (jshl64 (sx J (i + 3).toNat) 32) (jand64 (sx J (i + 4).toNat) 4294967295))).toInt ≤ 9223372036854775807 := ⟨Int64.le_toInt _, by have := Int64.toInt_lt (lL (jor64 (jshl64 (sx J (i + 3).toNat) 32) (jand64 (sx J (i + 4).toNat) 4294967295))); omega⟩
  have av : vl (jor64 (jshl64 (sx J (i + 3).toNat) 32) (jand64 (sx J (i + 4).toNat) 4294967295)) = vl (lL (jor64 (jshl64 (sx J (i + 3).toNat) 32) (jand64 (sx J (i + 4).toNat) 4294967295))).toInt := vl_of _
  obtain ⟨v, J1, K1, R1, J2, K2, R2, e1, e2, hI⟩ := op_item (L := L) (d := d) h r1 r2 rv
  obtain ⟨z, rfl, hz⟩ := EE_rti e1 rfl
  have b1 := sx_k e1 (i + 1).toNat
  have b2 := sx_k e1 (i + 2).toNat
  have b3 := sx_k e1 (i + 3).toNat
  have b4 := sx_k e1 (i + 4).toNat
  refine ⟨J2, K2, R2, ?_, hI⟩
  simp (disch := first | assumption | omega | exact bi_lo | exact bi_hi | exact bi_01 | exact jcmp_lo | exact jcmp_hi | exact (jor_r _ _).1 | exact (jor_r _ _).2 | exact (jand_r _ _).1 | exact (jand_r _ _).2) only [x237_936, x237_936n, x237_937, x237_937n, x237_938, x237_939, x237_940, x237_941, x237_942, x237_942n, x237_943, x237_944, x237_945, x237_946, x237_947, x237_947n, x237_948, x237_949, x237_950, x237_951, x237_952, x237_953, x237_955, x237_956, x237_956n, x237_957, x237_958, x237_959, x237_960, x237_961, x237_962, x237_965, x237_966, x237_967, x237_970, x237_970n, x237_971, x237_971n, x237_972, x237_973, x237_974, x237_975, x237_976, x237_976n, x237_977, x237_978, x237_979, x237_980, x237_981, x237_981n, x237_982, x237_983, x237_984, x237_985, x237_986, x237_987, x237_989, x237_990, x237_990n, x237_991, x237_992, x237_993, x237_994, x237_995, x237_996, x237_999, x237_1000, x237_1001, x237_1004, kb_some, kb_none, clr_vi, clr_ref, clr_null, clr_none, va_rf_some, va_rf_none, ↓bi_ite_t, ↓bi_ite_f, ↓jc_lt_t, ↓jc_lt_f, ↓jc_gt_t, ↓jc_gt_f, ↓jc_le_t, ↓jc_le_f, ↓jc_ge_t, ↓jc_ge_f, ↓jc_eq_t, ↓jc_eq_f, ↓if_pos, ↓if_neg, a1, b1, a2, b2, a3, b3, a4, b4, av, e1, e2]
theorem lw_30 (h : INV J K R) (hi : 0 ≤ i ∧ i + 6 ≤ (L : Int)) (hL : L ≤ 3072) : ∃ J2 K2 R2, EE (d + 21) 237 1009 [some (.ref 0), some (.ref 2), some (.ref 76), some (vi i)] [] (SH L) J K R = EE (d + 21) 237 1106 [some (.ref 0), some (.ref 2), some (.ref 76), some (vi i)] [] (SH L) J2 K2 R2 ∧ INV J2 K2 R2 := by
  have s0 : (SH L)[0]? = some (20, L) := rfl
  have s2 : (SH L)[2]? = some (10, 10) := rfl
  have s76 : (SH L)[76]? = some (11, 58) := rfl
  have r1 := sx_r J (i + 1).toNat
  have a1 := sx_v J (i + 1).toNat
  have r2 := sx_r J (i + 2).toNat
  have a2 := sx_v J (i + 2).toNat
  obtain ⟨v, J1, K1, R1, J2, K2, R2, e1, e2, hI⟩ := op_peek (L := L) (d := d) h r1 r2
  obtain ⟨z, rfl, hz⟩ := EE_rtl e1 rfl
  have b1 := sx_k e1 (i + 1).toNat
  have b2 := sx_k e1 (i + 2).toNat
  refine ⟨J2, K2, R2, ?_, hI⟩
  simp (disch := first | assumption | omega | exact bi_lo | exact bi_hi | exact bi_01 | exact jcmp_lo | exact jcmp_hi | exact (jor_r _ _).1 | exact (jor_r _ _).2 | exact (jand_r _ _).1 | exact (jand_r _ _).2) only [x237_1009, x237_1009n, x237_1010, x237_1010n, x237_1011, x237_1012, x237_1013, x237_1014, x237_1015, x237_1015n, x237_1016, x237_1017, x237_1018, x237_1019, x237_1020, x237_1023, x237_1023n, x237_1024, x237_1024n, x237_1025, x237_1026, x237_1027, x237_1028, x237_1029, x237_1029n, x237_1030, x237_1031, x237_1032, x237_1033, x237_1034, x237_1037, x237_1038, kb_some, kb_none, clr_vi, clr_ref, clr_null, clr_none, va_rf_some, va_rf_none, ↓bi_ite_t, ↓bi_ite_f, ↓jc_lt_t, ↓jc_lt_f, ↓jc_gt_t, ↓jc_gt_f, ↓jc_le_t, ↓jc_le_f, ↓jc_ge_t, ↓jc_ge_f, ↓jc_eq_t, ↓jc_eq_f, ↓if_pos, ↓if_neg, a1, b1, a2, b2, e1, e2]
theorem lw_31 (h : INV J K R) (hi : 0 ≤ i ∧ i + 6 ≤ (L : Int)) (hL : L ≤ 3072) : ∃ J2 K2 R2, EE (d + 21) 237 1043 [some (.ref 0), some (.ref 2), some (.ref 76), some (vi i)] [] (SH L) J K R = EE (d + 21) 237 1106 [some (.ref 0), some (.ref 2), some (.ref 76), some (vi i)] [] (SH L) J2 K2 R2 ∧ INV J2 K2 R2 := by
  have s0 : (SH L)[0]? = some (20, L) := rfl
  have s2 : (SH L)[2]? = some (10, 10) := rfl
  have s76 : (SH L)[76]? = some (11, 58) := rfl
  have r1 := sx_r J (i + 1).toNat
  have a1 := sx_v J (i + 1).toNat
  have r2 := sx_r J (i + 2).toNat
  have a2 := sx_v J (i + 2).toNat
  have r3 := sx_r J (i + 3).toNat
  have a3 := sx_v J (i + 3).toNat
  have r4 := sx_r J (i + 4).toNat
  have a4 := sx_v J (i + 4).toNat
  have r5 := sx_r J (i + 5).toNat
  have a5 := sx_v J (i + 5).toNat
  obtain ⟨v, J1, K1, R1, J2, K2, R2, e1, e2, hI⟩ := op_shift (L := L) (d := d) h r1 r2 r3 r4 r5
  obtain ⟨z, rfl, hz⟩ := EE_rti e1 rfl
  have b1 := sx_k e1 (i + 1).toNat
  have b2 := sx_k e1 (i + 2).toNat
  have b3 := sx_k e1 (i + 3).toNat
  have b4 := sx_k e1 (i + 4).toNat
  have b5 := sx_k e1 (i + 5).toNat
  refine ⟨J2, K2, R2, ?_, hI⟩
  simp (disch := first | assumption | omega | exact bi_lo | exact bi_hi | exact bi_01 | exact jcmp_lo | exact jcmp_hi | exact (jor_r _ _).1 | exact (jor_r _ _).2 | exact (jand_r _ _).1 | exact (jand_r _ _).2) only [x237_1043, x237_1043n, x237_1044, x237_1044n, x237_1045, x237_1046, x237_1047, x237_1048, x237_1049, x237_1049n, x237_1050, x237_1051, x237_1052, x237_1053, x237_1054, x237_1054n, x237_1055, x237_1056, x237_1057, x237_1058, x237_1059, x237_1059n, x237_1060, x237_1061, x237_1062, x237_1063, x237_1064, x237_1064n, x237_1065, x237_1066, x237_1067, x237_1068, x237_1069, x237_1072, x237_1072n, x237_1073, x237_1073n, x237_1074, x237_1075, x237_1076, x237_1077, x237_1078, x237_1078n, x237_1079, x237_1080, x237_1081, x237_1082, x237_1083, x237_1083n, x237_1084, x237_1085, x237_1086, x237_1087, x237_1088, x237_1088n, x237_1089, x237_1090, x237_1091, x237_1092, x237_1093, x237_1093n, x237_1094, x237_1095, x237_1096, x237_1097, x237_1098, x237_1101, kb_some, kb_none, clr_vi, clr_ref, clr_null, clr_none, va_rf_some, va_rf_none, ↓bi_ite_t, ↓bi_ite_f, ↓jc_lt_t, ↓jc_lt_f, ↓jc_gt_t, ↓jc_gt_f, ↓jc_le_t, ↓jc_le_f, ↓jc_ge_t, ↓jc_ge_f, ↓jc_eq_t, ↓jc_eq_f, ↓if_pos, ↓if_neg, a1, b1, a2, b2, a3, b3, a4, b4, a5, b5, e1, e2]
theorem lw_step (h : INV J K R) (hi : 0 ≤ i ∧ i + 6 ≤ (L : Int)) (hL : L ≤ 3072) : ∃ J2 K2 R2, EE (d + 21) 237 18 [some (.ref 0), some (.ref 2), some (.ref 76), some (vi i)] [] (SH L) J K R = EE (d + 21) 237 18 [some (.ref 0), some (.ref 2), some (.ref 76), some (vi (i + 6))] [] (SH L) J2 K2 R2 ∧ INV J2 K2 R2 := by
  have s0 : (SH L)[0]? = some (20, L) := rfl
  have hj := jand_31 (J 0 i.toNat)
  have he : ∀ J2 K2 R2, EE (d + 21) 237 1106 [some (.ref 0), some (.ref 2), some (.ref 76), some (vi i)] [] (SH L) J2 K2 R2 = EE (d + 21) 237 18 [some (.ref 0), some (.ref 2), some (.ref 76), some (vi (i + 6))] [] (SH L) J2 K2 R2 := fun J2 K2 R2 => by
    simp (disch := first | assumption | omega | exact bi_lo | exact bi_hi | exact bi_01 | exact jcmp_lo | exact jcmp_hi | exact (jor_r _ _).1 | exact (jor_r _ _).2 | exact (jand_r _ _).1 | exact (jand_r _ _).2) only [x237_1106, x237_1109, kb_some, kb_none, clr_vi, clr_ref, clr_null, clr_none, va_rf_some, va_rf_none, ↓bi_ite_t, ↓bi_ite_f, ↓jc_lt_t, ↓jc_lt_f, ↓jc_gt_t, ↓jc_gt_f, ↓jc_le_t, ↓jc_le_f, ↓jc_ge_t, ↓jc_ge_f, ↓jc_eq_t, ↓jc_eq_f, ↓if_pos, ↓if_neg]
  have hs : EE (d + 21) 237 18 [some (.ref 0), some (.ref 2), some (.ref 76), some (vi i)] [] (SH L) J K R = EE (d + 21) 237 33 [some (.ref 0), some (.ref 2), some (.ref 76), some (vi i)] [vi (jand (J 0 i.toNat) 31)] (SH L) J K R := by
    simp (disch := first | assumption | omega | exact bi_lo | exact bi_hi | exact bi_01 | exact jcmp_lo | exact jcmp_hi | exact (jor_r _ _).1 | exact (jor_r _ _).2 | exact (jand_r _ _).1 | exact (jand_r _ _).2) only [x237_18, x237_19, x237_19n, x237_20, x237_20l, x237_20a, x237_21, x237_23, x237_24, x237_27, x237_27n, x237_28, x237_29, x237_30, x237_32, kb_some, kb_none, clr_vi, clr_ref, clr_null, clr_none, va_rf_some, va_rf_none, ↓bi_ite_t, ↓bi_ite_f, ↓jc_lt_t, ↓jc_lt_f, ↓jc_gt_t, ↓jc_gt_f, ↓jc_le_t, ↓jc_le_f, ↓jc_ge_t, ↓jc_ge_f, ↓jc_eq_t, ↓jc_eq_f, ↓if_pos, ↓if_neg]
  rw [hs]
  generalize jand (J 0 i.toNat) 31 = q at hj
  have hq : q = 0 ∨ q = 1 ∨ q = 2 ∨ q = 3 ∨ q = 4 ∨ q = 5 ∨ q = 6 ∨ q = 7 ∨ q = 8 ∨ q = 9 ∨ q = 10 ∨ q = 11 ∨ q = 12 ∨ q = 13 ∨ q = 14 ∨ q = 15 ∨ q = 16 ∨ q = 17 ∨ q = 18 ∨ q = 19 ∨ q = 20 ∨ q = 21 ∨ q = 22 ∨ q = 23 ∨ q = 24 ∨ q = 25 ∨ q = 26 ∨ q = 27 ∨ q = 28 ∨ q = 29 ∨ q = 30 ∨ q = 31 := by omega
  rcases hq with rfl | rfl | rfl | rfl | rfl | rfl | rfl | rfl | rfl | rfl | rfl | rfl | rfl | rfl | rfl | rfl | rfl | rfl | rfl | rfl | rfl | rfl | rfl | rfl | rfl | rfl | rfl | rfl | rfl | rfl | rfl | rfl
  · obtain ⟨J2, K2, R2, e, hI⟩ := lw_0 (L := L) (d := d) h hi hL
    exact ⟨J2, K2, R2, by rw [x237_33_0, e, he], hI⟩
  · obtain ⟨J2, K2, R2, e, hI⟩ := lw_1 (L := L) (d := d) h hi hL
    exact ⟨J2, K2, R2, by rw [x237_33_1, e, he], hI⟩
  · obtain ⟨J2, K2, R2, e, hI⟩ := lw_2 (L := L) (d := d) h hi hL
    exact ⟨J2, K2, R2, by rw [x237_33_2, e, he], hI⟩
  · obtain ⟨J2, K2, R2, e, hI⟩ := lw_3 (L := L) (d := d) h hi hL
    exact ⟨J2, K2, R2, by rw [x237_33_3, e, he], hI⟩
  · obtain ⟨J2, K2, R2, e, hI⟩ := lw_4 (L := L) (d := d) h hi hL
    exact ⟨J2, K2, R2, by rw [x237_33_4, e, he], hI⟩
  · obtain ⟨J2, K2, R2, e, hI⟩ := lw_5 (L := L) (d := d) h hi hL
    exact ⟨J2, K2, R2, by rw [x237_33_5, e, he], hI⟩
  · obtain ⟨J2, K2, R2, e, hI⟩ := lw_6 (L := L) (d := d) h hi hL
    exact ⟨J2, K2, R2, by rw [x237_33_6, e, he], hI⟩
  · obtain ⟨J2, K2, R2, e, hI⟩ := lw_7 (L := L) (d := d) h hi hL
    exact ⟨J2, K2, R2, by rw [x237_33_7, e, he], hI⟩
  · obtain ⟨J2, K2, R2, e, hI⟩ := lw_8 (L := L) (d := d) h hi hL
    exact ⟨J2, K2, R2, by rw [x237_33_8, e, he], hI⟩
  · obtain ⟨J2, K2, R2, e, hI⟩ := lw_9 (L := L) (d := d) h hi hL
    exact ⟨J2, K2, R2, by rw [x237_33_9, e, he], hI⟩
  · obtain ⟨J2, K2, R2, e, hI⟩ := lw_10 (L := L) (d := d) h hi hL
    exact ⟨J2, K2, R2, by rw [x237_33_10, e, he], hI⟩
  · obtain ⟨J2, K2, R2, e, hI⟩ := lw_11 (L := L) (d := d) h hi hL
    exact ⟨J2, K2, R2, by rw [x237_33_11, e, he], hI⟩
  · obtain ⟨J2, K2, R2, e, hI⟩ := lw_12 (L := L) (d := d) h hi hL
    exact ⟨J2, K2, R2, by rw [x237_33_12, e, he], hI⟩
  · obtain ⟨J2, K2, R2, e, hI⟩ := lw_13 (L := L) (d := d) h hi hL
    exact ⟨J2, K2, R2, by rw [x237_33_13, e, he], hI⟩
  · obtain ⟨J2, K2, R2, e, hI⟩ := lw_14 (L := L) (d := d) h hi hL
    exact ⟨J2, K2, R2, by rw [x237_33_14, e, he], hI⟩
  · obtain ⟨J2, K2, R2, e, hI⟩ := lw_15 (L := L) (d := d) h hi hL
    exact ⟨J2, K2, R2, by rw [x237_33_15, e, he], hI⟩
  · obtain ⟨J2, K2, R2, e, hI⟩ := lw_16 (L := L) (d := d) h hi hL
    exact ⟨J2, K2, R2, by rw [x237_33_16, e, he], hI⟩
  · obtain ⟨J2, K2, R2, e, hI⟩ := lw_17 (L := L) (d := d) h hi hL
    exact ⟨J2, K2, R2, by rw [x237_33_17, e, he], hI⟩
  · obtain ⟨J2, K2, R2, e, hI⟩ := lw_18 (L := L) (d := d) h hi hL
    exact ⟨J2, K2, R2, by rw [x237_33_18, e, he], hI⟩
  · obtain ⟨J2, K2, R2, e, hI⟩ := lw_19 (L := L) (d := d) h hi hL
    exact ⟨J2, K2, R2, by rw [x237_33_19, e, he], hI⟩
  · obtain ⟨J2, K2, R2, e, hI⟩ := lw_20 (L := L) (d := d) h hi hL
    exact ⟨J2, K2, R2, by rw [x237_33_20, e, he], hI⟩
  · obtain ⟨J2, K2, R2, e, hI⟩ := lw_21 (L := L) (d := d) h hi hL
    exact ⟨J2, K2, R2, by rw [x237_33_21, e, he], hI⟩
  · obtain ⟨J2, K2, R2, e, hI⟩ := lw_22 (L := L) (d := d) h hi hL
    exact ⟨J2, K2, R2, by rw [x237_33_22, e, he], hI⟩
  · obtain ⟨J2, K2, R2, e, hI⟩ := lw_23 (L := L) (d := d) h hi hL
    exact ⟨J2, K2, R2, by rw [x237_33_23, e, he], hI⟩
  · obtain ⟨J2, K2, R2, e, hI⟩ := lw_24 (L := L) (d := d) h hi hL
    exact ⟨J2, K2, R2, by rw [x237_33_24, e, he], hI⟩
  · obtain ⟨J2, K2, R2, e, hI⟩ := lw_25 (L := L) (d := d) h hi hL
    exact ⟨J2, K2, R2, by rw [x237_33_25, e, he], hI⟩
  · obtain ⟨J2, K2, R2, e, hI⟩ := lw_26 (L := L) (d := d) h hi hL
    exact ⟨J2, K2, R2, by rw [x237_33_26, e, he], hI⟩
  · obtain ⟨J2, K2, R2, e, hI⟩ := lw_27 (L := L) (d := d) h hi hL
    exact ⟨J2, K2, R2, by rw [x237_33_27, e, he], hI⟩
  · obtain ⟨J2, K2, R2, e, hI⟩ := lw_28 (L := L) (d := d) h hi hL
    exact ⟨J2, K2, R2, by rw [x237_33_28, e, he], hI⟩
  · obtain ⟨J2, K2, R2, e, hI⟩ := lw_29 (L := L) (d := d) h hi hL
    exact ⟨J2, K2, R2, by rw [x237_33_29, e, he], hI⟩
  · obtain ⟨J2, K2, R2, e, hI⟩ := lw_30 (L := L) (d := d) h hi hL
    exact ⟨J2, K2, R2, by rw [x237_33_30, e, he], hI⟩
  · obtain ⟨J2, K2, R2, e, hI⟩ := lw_31 (L := L) (d := d) h hi hL
    exact ⟨J2, K2, R2, by rw [x237_33_31, e, he], hI⟩
theorem lw_loop (hL : L ≤ 3072) : ∀ (n : Nat) (i : Int) (J K : mJ) (R : mm_R), ((L : Int) - i).toNat ≤ n → 0 ≤ i → i ≤ 4000 → INV J K R → ∃ J2 K2 R2, EE (d + 21) 237 18 [some (.ref 0), some (.ref 2), some (.ref 76), some (vi i)] [] (SH L) J K R = ok (some (vi 1)) (SH L) J2 K2 R2 := by
  have s0 : (SH L)[0]? = some (20, L) := rfl
  intro n
  induction n with
  | zero =>
    intro i J K R hn h0 h4 h
    refine ⟨J, K, R, ?_⟩
    simp (disch := first | assumption | omega | exact bi_lo | exact bi_hi | exact bi_01 | exact jcmp_lo | exact jcmp_hi | exact (jor_r _ _).1 | exact (jor_r _ _).2 | exact (jand_r _ _).1 | exact (jand_r _ _).2) only [x237_18, x237_19, x237_19n, x237_20, x237_20l, x237_20a, x237_21, x237_23, x237_24, x237_1112, x237_1113, kb_some, kb_none, clr_vi, clr_ref, clr_null, clr_none, va_rf_some, va_rf_none, ↓bi_ite_t, ↓bi_ite_f, ↓jc_lt_t, ↓jc_lt_f, ↓jc_gt_t, ↓jc_gt_f, ↓jc_le_t, ↓jc_le_f, ↓jc_ge_t, ↓jc_ge_f, ↓jc_eq_t, ↓jc_eq_f, ↓if_pos, ↓if_neg]
  | succ n ih =>
    intro i J K R hn h0 h4 h
    by_cases c : i + 6 ≤ (L : Int)
    · obtain ⟨J1, K1, R1, e1, h1⟩ := lw_step (L := L) (d := d) h ⟨h0, c⟩ hL
      obtain ⟨J2, K2, R2, e2⟩ := ih (i + 6) J1 K1 R1 (by omega) (by omega) (by omega) h1
      exact ⟨J2, K2, R2, e1.trans e2⟩
    · refine ⟨J, K, R, ?_⟩
      simp (disch := first | assumption | omega | exact bi_lo | exact bi_hi | exact bi_01 | exact jcmp_lo | exact jcmp_hi | exact (jor_r _ _).1 | exact (jor_r _ _).2 | exact (jand_r _ _).1 | exact (jand_r _ _).2) only [x237_18, x237_19, x237_19n, x237_20, x237_20l, x237_20a, x237_21, x237_23, x237_24, x237_1112, x237_1113, kb_some, kb_none, clr_vi, clr_ref, clr_null, clr_none, va_rf_some, va_rf_none, ↓bi_ite_t, ↓bi_ite_f, ↓jc_lt_t, ↓jc_lt_f, ↓jc_gt_t, ↓jc_gt_f, ↓jc_le_t, ↓jc_le_f, ↓jc_ge_t, ↓jc_ge_f, ↓jc_eq_t, ↓jc_eq_f, ↓if_pos, ↓if_neg]
end
