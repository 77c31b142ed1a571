theorem cat1 (v : Value) : (([v] : List Value).map fun v => v.category).sum ≤ 8 := by cases v <;> exact Nat.le_of_ble_eq_true rfl
section CASES
variable {Z : LX} {I : AI} {J : AJ} {g : Bool} {i : Nat}
theorem inZ {j : Nat} (h6 : i + 6 ≤ Z.n) (hn : Z.n ≤ 3072) (hj : j < 6) : vp_in (nI (i + j)) Z.n := vp_in_nI (by omega) (by omega)
theorem cs_0 (C : CLx Z) (hI : INV I g) (h6 : i + 6 ≤ Z.n) (hn : Z.n ≤ 3072) (hk : ∀ (I : AI) (J : AJ) (g : Bool), INV I g → GL Z 1697 [.ref 1030, .ref 0, .ref 75, .int (nI i)] [] I J (rX g)) : GL Z 252 [.ref 1030, .ref 0, .ref 75, .int (nI i)] [] I J (rX g) := by
  refine H_aload (nx := 253) C ⟨dL_law_252, rfl⟩ rfl ?_
  refine H_aload (nx := 254) C ⟨dL_law_253, rfl⟩ rfl ?_
  refine H_iload (nx := 255) C ⟨dL_law_254, rfl⟩ rfl ?_
  refine H_iconst (nx := 256) C ⟨dL_law_255, rfl⟩ ci_1 ?_
  refine H_iadd (nx := 257) C ⟨dL_law_256, rfl⟩ ?_
  rw [show nI i + 1 = nI (i + 1) from nI_add i 1]
  refine H_sld (nx := 258) C ⟨dL_law_257, rfl⟩ (inZ h6 hn (by decide)) ?_
  rw [cl_nI (show i + 1 < 2 ^ 31 by omega)]
  refine H_aload (nx := 259) C ⟨dL_law_258, rfl⟩ rfl ?_
  refine H_iload (nx := 260) C ⟨dL_law_259, rfl⟩ rfl ?_
  refine H_iconst (nx := 261) C ⟨dL_law_260, rfl⟩ ci_2 ?_
  refine H_iadd (nx := 262) C ⟨dL_law_261, rfl⟩ ?_
  rw [show nI i + 2 = nI (i + 2) from nI_add i 2]
  refine H_sld (nx := 263) C ⟨dL_law_262, rfl⟩ (inZ h6 hn (by decide)) ?_
  rw [cl_nI (show i + 2 < 2 ^ 31 by omega)]
  refine H_call (nx := 266) (n := 0) (As := [.int (Z.xs (i + 1)), .int (Z.xs (i + 2))]) C ⟨dL_law_263, rfl⟩ kL_13 rfl q_0 rfl (Nat.le_of_ble_eq_true rfl) (Nat.le_of_ble_eq_true rfl) (G_mono (op_point (l := Z.l) (d := 0) (J := J) hI) (fun v I1 J1 R1 h => ?_))
  refine H_aload (nx := 267) C ⟨dL_law_266, rfl⟩ rfl ?_
  refine H_aload (nx := 268) C ⟨dL_law_267, rfl⟩ rfl ?_
  refine H_iload (nx := 269) C ⟨dL_law_268, rfl⟩ rfl ?_
  refine H_iconst (nx := 270) C ⟨dL_law_269, rfl⟩ ci_1 ?_
  refine H_iadd (nx := 271) C ⟨dL_law_270, rfl⟩ ?_
  rw [show nI i + 1 = nI (i + 1) from nI_add i 1]
  refine H_sld (nx := 272) C ⟨dL_law_271, rfl⟩ (inZ h6 hn (by decide)) ?_
  rw [cl_nI (show i + 1 < 2 ^ 31 by omega)]
  refine H_aload (nx := 273) C ⟨dL_law_272, rfl⟩ rfl ?_
  refine H_iload (nx := 274) C ⟨dL_law_273, rfl⟩ rfl ?_
  refine H_iconst (nx := 275) C ⟨dL_law_274, rfl⟩ ci_2 ?_
  refine H_iadd (nx := 276) C ⟨dL_law_275, rfl⟩ ?_
  rw [show nI i + 2 = nI (i + 2) from nI_add i 2]
  refine H_sld (nx := 277) C ⟨dL_law_276, rfl⟩ (inZ h6 hn (by decide)) ?_
  rw [cl_nI (show i + 2 < 2 ^ 31 by omega)]
  refine H_call (nx := 280) (n := 0) (As := [.int (Z.xs (i + 1)), .int (Z.xs (i + 2))]) C ⟨dL_law_277, rfl⟩ kL_17 rfl q_75 rfl (cat1 v) (Nat.le_of_ble_eq_true rfl) (G_mono h (fun v2 I2 J2 R2 hq => ?_))
  obtain ⟨⟨x, rfl, rfl⟩, g2, rfl, hI2⟩ := hq
  exact H_icmpeq (tgt := 1697) (nx := 283) C ⟨dL_law_280, rfl⟩ rfl (hk I2 J2 g2 hI2)
theorem cs_1 (C : CLx Z) (hI : INV I g) (h6 : i + 6 ≤ Z.n) (hn : Z.n ≤ 3072) (hk : ∀ (I : AI) (J : AJ) (g : Bool), INV I g → GL Z 1697 [.ref 1030, .ref 0, .ref 75, .int (nI i)] [] I J (rX g)) : GL Z 285 [.ref 1030, .ref 0, .ref 75, .int (nI i)] [] I J (rX g) := by
  refine H_aload (nx := 286) C ⟨dL_law_285, rfl⟩ rfl ?_
  refine H_aload (nx := 287) C ⟨dL_law_286, rfl⟩ rfl ?_
  refine H_iload (nx := 288) C ⟨dL_law_287, rfl⟩ rfl ?_
  refine H_iconst (nx := 289) C ⟨dL_law_288, rfl⟩ ci_1 ?_
  refine H_iadd (nx := 290) C ⟨dL_law_289, rfl⟩ ?_
  rw [show nI i + 1 = nI (i + 1) from nI_add i 1]
  refine H_sld (nx := 291) C ⟨dL_law_290, rfl⟩ (inZ h6 hn (by decide)) ?_
  rw [cl_nI (show i + 1 < 2 ^ 31 by omega)]
  refine H_aload (nx := 292) C ⟨dL_law_291, rfl⟩ rfl ?_
  refine H_iload (nx := 293) C ⟨dL_law_292, rfl⟩ rfl ?_
  refine H_iconst (nx := 294) C ⟨dL_law_293, rfl⟩ ci_2 ?_
  refine H_iadd (nx := 295) C ⟨dL_law_294, rfl⟩ ?_
  rw [show nI i + 2 = nI (i + 2) from nI_add i 2]
  refine H_sld (nx := 296) C ⟨dL_law_295, rfl⟩ (inZ h6 hn (by decide)) ?_
  rw [cl_nI (show i + 2 < 2 ^ 31 by omega)]
  refine H_aload (nx := 297) C ⟨dL_law_296, rfl⟩ rfl ?_
  refine H_iload (nx := 298) C ⟨dL_law_297, rfl⟩ rfl ?_
  refine H_iconst (nx := 299) C ⟨dL_law_298, rfl⟩ ci_3 ?_
  refine H_iadd (nx := 300) C ⟨dL_law_299, rfl⟩ ?_
  rw [show nI i + 3 = nI (i + 3) from nI_add i 3]
  refine H_sld (nx := 301) C ⟨dL_law_300, rfl⟩ (inZ h6 hn (by decide)) ?_
  rw [cl_nI (show i + 3 < 2 ^ 31 by omega)]
  refine H_call (nx := 304) (n := 1) (As := [.int (Z.xs (i + 1)), .int (Z.xs (i + 2)), .int (Z.xs (i + 3))]) C ⟨dL_law_301, rfl⟩ kL_18 rfl q_0 rfl (Nat.le_of_ble_eq_true rfl) (Nat.le_of_ble_eq_true rfl) (G_mono (op_line (l := Z.l) (d := 0) (J := J) hI) (fun v I1 J1 R1 h => ?_))
  refine H_aload (nx := 305) C ⟨dL_law_304, rfl⟩ rfl ?_
  refine H_aload (nx := 306) C ⟨dL_law_305, rfl⟩ rfl ?_
  refine H_iload (nx := 307) C ⟨dL_law_306, rfl⟩ rfl ?_
  refine H_iconst (nx := 308) C ⟨dL_law_307, rfl⟩ ci_1 ?_
  refine H_iadd (nx := 309) C ⟨dL_law_308, rfl⟩ ?_
  rw [show nI i + 1 = nI (i + 1) from nI_add i 1]
  refine H_sld (nx := 310) C ⟨dL_law_309, rfl⟩ (inZ h6 hn (by decide)) ?_
  rw [cl_nI (show i + 1 < 2 ^ 31 by omega)]
  refine H_aload (nx := 311) C ⟨dL_law_310, rfl⟩ rfl ?_
  refine H_iload (nx := 312) C ⟨dL_law_311, rfl⟩ rfl ?_
  refine H_iconst (nx := 313) C ⟨dL_law_312, rfl⟩ ci_2 ?_
  refine H_iadd (nx := 314) C ⟨dL_law_313, rfl⟩ ?_
  rw [show nI i + 2 = nI (i + 2) from nI_add i 2]
  refine H_sld (nx := 315) C ⟨dL_law_314, rfl⟩ (inZ h6 hn (by decide)) ?_
  rw [cl_nI (show i + 2 < 2 ^ 31 by omega)]
  refine H_aload (nx := 316) C ⟨dL_law_315, rfl⟩ rfl ?_
  refine H_iload (nx := 317) C ⟨dL_law_316, rfl⟩ rfl ?_
  refine H_iconst (nx := 318) C ⟨dL_law_317, rfl⟩ ci_3 ?_
  refine H_iadd (nx := 319) C ⟨dL_law_318, rfl⟩ ?_
  rw [show nI i + 3 = nI (i + 3) from nI_add i 3]
  refine H_sld (nx := 320) C ⟨dL_law_319, rfl⟩ (inZ h6 hn (by decide)) ?_
  rw [cl_nI (show i + 3 < 2 ^ 31 by omega)]
  refine H_call (nx := 323) (n := 1) (As := [.int (Z.xs (i + 1)), .int (Z.xs (i + 2)), .int (Z.xs (i + 3))]) C ⟨dL_law_320, rfl⟩ kL_22 rfl q_75 rfl (cat1 v) (Nat.le_of_ble_eq_true rfl) (G_mono h (fun v2 I2 J2 R2 hq => ?_))
  obtain ⟨⟨x, rfl, rfl⟩, g2, rfl, hI2⟩ := hq
  exact H_icmpeq (tgt := 1697) (nx := 326) C ⟨dL_law_323, rfl⟩ rfl (hk I2 J2 g2 hI2)
theorem cs_2 (C : CLx Z) (hI : INV I g) (h6 : i + 6 ≤ Z.n) (hn : Z.n ≤ 3072) (hk : ∀ (I : AI) (J : AJ) (g : Bool), INV I g → GL Z 1697 [.ref 1030, .ref 0, .ref 75, .int (nI i)] [] I J (rX g)) : GL Z 328 [.ref 1030, .ref 0, .ref 75, .int (nI i)] [] I J (rX g) := by
  refine H_aload (nx := 329) C ⟨dL_law_328, rfl⟩ rfl ?_
  refine H_aload (nx := 330) C ⟨dL_law_329, rfl⟩ rfl ?_
  refine H_iload (nx := 331) C ⟨dL_law_330, rfl⟩ rfl ?_
  refine H_iconst (nx := 332) C ⟨dL_law_331, rfl⟩ ci_1 ?_
  refine H_iadd (nx := 333) C ⟨dL_law_332, rfl⟩ ?_
  rw [show nI i + 1 = nI (i + 1) from nI_add i 1]
  refine H_sld (nx := 334) C ⟨dL_law_333, rfl⟩ (inZ h6 hn (by decide)) ?_
  rw [cl_nI (show i + 1 < 2 ^ 31 by omega)]
  refine H_aload (nx := 335) C ⟨dL_law_334, rfl⟩ rfl ?_
  refine H_iload (nx := 336) C ⟨dL_law_335, rfl⟩ rfl ?_
  refine H_iconst (nx := 337) C ⟨dL_law_336, rfl⟩ ci_2 ?_
  refine H_iadd (nx := 338) C ⟨dL_law_337, rfl⟩ ?_
  rw [show nI i + 2 = nI (i + 2) from nI_add i 2]
  refine H_sld (nx := 339) C ⟨dL_law_338, rfl⟩ (inZ h6 hn (by decide)) ?_
  rw [cl_nI (show i + 2 < 2 ^ 31 by omega)]
  refine H_call (nx := 342) (n := 0) (As := [.int (Z.xs (i + 1)), .int (Z.xs (i + 2))]) C ⟨dL_law_339, rfl⟩ kL_23 rfl q_0 rfl (Nat.le_of_ble_eq_true rfl) (Nat.le_of_ble_eq_true rfl) (G_mono (op_pointOf (l := Z.l) (d := 0) (J := J) hI) (fun v I1 J1 R1 h => ?_))
  refine H_aload (nx := 343) C ⟨dL_law_342, rfl⟩ rfl ?_
  refine H_aload (nx := 344) C ⟨dL_law_343, rfl⟩ rfl ?_
  refine H_iload (nx := 345) C ⟨dL_law_344, rfl⟩ rfl ?_
  refine H_iconst (nx := 346) C ⟨dL_law_345, rfl⟩ ci_1 ?_
  refine H_iadd (nx := 347) C ⟨dL_law_346, rfl⟩ ?_
  rw [show nI i + 1 = nI (i + 1) from nI_add i 1]
  refine H_sld (nx := 348) C ⟨dL_law_347, rfl⟩ (inZ h6 hn (by decide)) ?_
  rw [cl_nI (show i + 1 < 2 ^ 31 by omega)]
  refine H_aload (nx := 349) C ⟨dL_law_348, rfl⟩ rfl ?_
  refine H_iload (nx := 350) C ⟨dL_law_349, rfl⟩ rfl ?_
  refine H_iconst (nx := 351) C ⟨dL_law_350, rfl⟩ ci_2 ?_
  refine H_iadd (nx := 352) C ⟨dL_law_351, rfl⟩ ?_
  rw [show nI i + 2 = nI (i + 2) from nI_add i 2]
  refine H_sld (nx := 353) C ⟨dL_law_352, rfl⟩ (inZ h6 hn (by decide)) ?_
  rw [cl_nI (show i + 2 < 2 ^ 31 by omega)]
  refine H_call (nx := 356) (n := 0) (As := [.int (Z.xs (i + 1)), .int (Z.xs (i + 2))]) C ⟨dL_law_353, rfl⟩ kL_26 rfl q_75 rfl (cat1 v) (Nat.le_of_ble_eq_true rfl) (G_mono h (fun v2 I2 J2 R2 hq => ?_))
  obtain ⟨⟨x, rfl, rfl⟩, g2, rfl, hI2⟩ := hq
  exact H_icmpeq (tgt := 1697) (nx := 359) C ⟨dL_law_356, rfl⟩ rfl (hk I2 J2 g2 hI2)
theorem cs_3 (C : CLx Z) (hI : INV I g) (h6 : i + 6 ≤ Z.n) (hn : Z.n ≤ 3072) (hk : ∀ (I : AI) (J : AJ) (g : Bool), INV I g → GL Z 1697 [.ref 1030, .ref 0, .ref 75, .int (nI i)] [] I J (rX g)) : GL Z 361 [.ref 1030, .ref 0, .ref 75, .int (nI i)] [] I J (rX g) := by
  refine H_aload (nx := 362) C ⟨dL_law_361, rfl⟩ rfl ?_
  refine H_aload (nx := 363) C ⟨dL_law_362, rfl⟩ rfl ?_
  refine H_iload (nx := 364) C ⟨dL_law_363, rfl⟩ rfl ?_
  refine H_iconst (nx := 365) C ⟨dL_law_364, rfl⟩ ci_1 ?_
  refine H_iadd (nx := 366) C ⟨dL_law_365, rfl⟩ ?_
  rw [show nI i + 1 = nI (i + 1) from nI_add i 1]
  refine H_sld (nx := 367) C ⟨dL_law_366, rfl⟩ (inZ h6 hn (by decide)) ?_
  rw [cl_nI (show i + 1 < 2 ^ 31 by omega)]
  refine H_aload (nx := 368) C ⟨dL_law_367, rfl⟩ rfl ?_
  refine H_iload (nx := 369) C ⟨dL_law_368, rfl⟩ rfl ?_
  refine H_iconst (nx := 370) C ⟨dL_law_369, rfl⟩ ci_2 ?_
  refine H_iadd (nx := 371) C ⟨dL_law_370, rfl⟩ ?_
  rw [show nI i + 2 = nI (i + 2) from nI_add i 2]
  refine H_sld (nx := 372) C ⟨dL_law_371, rfl⟩ (inZ h6 hn (by decide)) ?_
  rw [cl_nI (show i + 2 < 2 ^ 31 by omega)]
  refine H_aload (nx := 373) C ⟨dL_law_372, rfl⟩ rfl ?_
  refine H_iload (nx := 374) C ⟨dL_law_373, rfl⟩ rfl ?_
  refine H_iconst (nx := 375) C ⟨dL_law_374, rfl⟩ ci_3 ?_
  refine H_iadd (nx := 376) C ⟨dL_law_375, rfl⟩ ?_
  rw [show nI i + 3 = nI (i + 3) from nI_add i 3]
  refine H_sld (nx := 377) C ⟨dL_law_376, rfl⟩ (inZ h6 hn (by decide)) ?_
  rw [cl_nI (show i + 3 < 2 ^ 31 by omega)]
  refine H_call (nx := 380) (n := 1) (As := [.int (Z.xs (i + 1)), .int (Z.xs (i + 2)), .int (Z.xs (i + 3))]) C ⟨dL_law_377, rfl⟩ kL_27 rfl q_0 rfl (Nat.le_of_ble_eq_true rfl) (Nat.le_of_ble_eq_true rfl) (G_mono (op_change (l := Z.l) (d := 0) (J := J) hI) (fun v I1 J1 R1 h => ?_))
  refine H_aload (nx := 381) C ⟨dL_law_380, rfl⟩ rfl ?_
  refine H_aload (nx := 382) C ⟨dL_law_381, rfl⟩ rfl ?_
  refine H_iload (nx := 383) C ⟨dL_law_382, rfl⟩ rfl ?_
  refine H_iconst (nx := 384) C ⟨dL_law_383, rfl⟩ ci_1 ?_
  refine H_iadd (nx := 385) C ⟨dL_law_384, rfl⟩ ?_
  rw [show nI i + 1 = nI (i + 1) from nI_add i 1]
  refine H_sld (nx := 386) C ⟨dL_law_385, rfl⟩ (inZ h6 hn (by decide)) ?_
  rw [cl_nI (show i + 1 < 2 ^ 31 by omega)]
  refine H_aload (nx := 387) C ⟨dL_law_386, rfl⟩ rfl ?_
  refine H_iload (nx := 388) C ⟨dL_law_387, rfl⟩ rfl ?_
  refine H_iconst (nx := 389) C ⟨dL_law_388, rfl⟩ ci_2 ?_
  refine H_iadd (nx := 390) C ⟨dL_law_389, rfl⟩ ?_
  rw [show nI i + 2 = nI (i + 2) from nI_add i 2]
  refine H_sld (nx := 391) C ⟨dL_law_390, rfl⟩ (inZ h6 hn (by decide)) ?_
  rw [cl_nI (show i + 2 < 2 ^ 31 by omega)]
  refine H_aload (nx := 392) C ⟨dL_law_391, rfl⟩ rfl ?_
  refine H_iload (nx := 393) C ⟨dL_law_392, rfl⟩ rfl ?_
  refine H_iconst (nx := 394) C ⟨dL_law_393, rfl⟩ ci_3 ?_
  refine H_iadd (nx := 395) C ⟨dL_law_394, rfl⟩ ?_
  rw [show nI i + 3 = nI (i + 3) from nI_add i 3]
  refine H_sld (nx := 396) C ⟨dL_law_395, rfl⟩ (inZ h6 hn (by decide)) ?_
  rw [cl_nI (show i + 3 < 2 ^ 31 by omega)]
  refine H_call (nx := 399) (n := 1) (As := [.int (Z.xs (i + 1)), .int (Z.xs (i + 2)), .int (Z.xs (i + 3))]) C ⟨dL_law_396, rfl⟩ kL_30 rfl q_75 rfl (cat1 v) (Nat.le_of_ble_eq_true rfl) (G_mono h (fun v2 I2 J2 R2 hq => ?_))
  obtain ⟨⟨x, rfl, rfl⟩, g2, rfl, hI2⟩ := hq
  exact H_icmpeq (tgt := 1697) (nx := 402) C ⟨dL_law_399, rfl⟩ rfl (hk I2 J2 g2 hI2)
theorem cs_4 (C : CLx Z) (hI : INV I g) (h6 : i + 6 ≤ Z.n) (hn : Z.n ≤ 3072) (hk : ∀ (I : AI) (J : AJ) (g : Bool), INV I g → GL Z 1697 [.ref 1030, .ref 0, .ref 75, .int (nI i)] [] I J (rX g)) : GL Z 404 [.ref 1030, .ref 0, .ref 75, .int (nI i)] [] I J (rX g) := by
  refine H_aload (nx := 405) C ⟨dL_law_404, rfl⟩ rfl ?_
  refine H_aload (nx := 406) C ⟨dL_law_405, rfl⟩ rfl ?_
  refine H_iload (nx := 407) C ⟨dL_law_406, rfl⟩ rfl ?_
  refine H_iconst (nx := 408) C ⟨dL_law_407, rfl⟩ ci_1 ?_
  refine H_iadd (nx := 409) C ⟨dL_law_408, rfl⟩ ?_
  rw [show nI i + 1 = nI (i + 1) from nI_add i 1]
  refine H_sld (nx := 410) C ⟨dL_law_409, rfl⟩ (inZ h6 hn (by decide)) ?_
  rw [cl_nI (show i + 1 < 2 ^ 31 by omega)]
  refine H_call (nx := 413) (n := 0) (As := [.int (Z.xs (i + 1))]) C ⟨dL_law_410, rfl⟩ kL_31 rfl q_0 rfl (Nat.le_of_ble_eq_true rfl) (Nat.le_of_ble_eq_true rfl) (G_mono (op_count (l := Z.l) (d := 0) (J := J) hI) (fun v I1 J1 R1 h => ?_))
  refine H_aload (nx := 414) C ⟨dL_law_413, rfl⟩ rfl ?_
  refine H_aload (nx := 415) C ⟨dL_law_414, rfl⟩ rfl ?_
  refine H_iload (nx := 416) C ⟨dL_law_415, rfl⟩ rfl ?_
  refine H_iconst (nx := 417) C ⟨dL_law_416, rfl⟩ ci_1 ?_
  refine H_iadd (nx := 418) C ⟨dL_law_417, rfl⟩ ?_
  rw [show nI i + 1 = nI (i + 1) from nI_add i 1]
  refine H_sld (nx := 419) C ⟨dL_law_418, rfl⟩ (inZ h6 hn (by decide)) ?_
  rw [cl_nI (show i + 1 < 2 ^ 31 by omega)]
  refine H_call (nx := 422) (n := 2) (As := [.int (Z.xs (i + 1))]) C ⟨dL_law_419, rfl⟩ kL_35 rfl q_75 rfl (cat1 v) (Nat.le_of_ble_eq_true rfl) (G_mono h (fun v2 I2 J2 R2 hq => ?_))
  obtain ⟨⟨x, rfl, rfl⟩, g2, rfl, hI2⟩ := hq
  exact H_icmpeq (tgt := 1697) (nx := 425) C ⟨dL_law_422, rfl⟩ rfl (hk I2 J2 g2 hI2)
theorem cs_5 (C : CLx Z) (hI : INV I g) (h6 : i + 6 ≤ Z.n) (hn : Z.n ≤ 3072) (hk : ∀ (I : AI) (J : AJ) (g : Bool), INV I g → GL Z 1697 [.ref 1030, .ref 0, .ref 75, .int (nI i)] [] I J (rX g)) : GL Z 427 [.ref 1030, .ref 0, .ref 75, .int (nI i)] [] I J (rX g) := by
  refine H_aload (nx := 428) C ⟨dL_law_427, rfl⟩ rfl ?_
  refine H_aload (nx := 429) C ⟨dL_law_428, rfl⟩ rfl ?_
  refine H_iload (nx := 430) C ⟨dL_law_429, rfl⟩ rfl ?_
  refine H_iconst (nx := 431) C ⟨dL_law_430, rfl⟩ ci_1 ?_
  refine H_iadd (nx := 432) C ⟨dL_law_431, rfl⟩ ?_
  rw [show nI i + 1 = nI (i + 1) from nI_add i 1]
  refine H_sld (nx := 433) C ⟨dL_law_432, rfl⟩ (inZ h6 hn (by decide)) ?_
  rw [cl_nI (show i + 1 < 2 ^ 31 by omega)]
  refine H_call (nx := 436) (n := 0) (As := [.int (Z.xs (i + 1))]) C ⟨dL_law_433, rfl⟩ kL_36 rfl q_0 rfl (Nat.le_of_ble_eq_true rfl) (Nat.le_of_ble_eq_true rfl) (G_mono (op_isCover (l := Z.l) (d := 0) (J := J) hI) (fun v I1 J1 R1 h => ?_))
  refine H_aload (nx := 437) C ⟨dL_law_436, rfl⟩ rfl ?_
  refine H_aload (nx := 438) C ⟨dL_law_437, rfl⟩ rfl ?_
  refine H_iload (nx := 439) C ⟨dL_law_438, rfl⟩ rfl ?_
  refine H_iconst (nx := 440) C ⟨dL_law_439, rfl⟩ ci_1 ?_
  refine H_iadd (nx := 441) C ⟨dL_law_440, rfl⟩ ?_
  rw [show nI i + 1 = nI (i + 1) from nI_add i 1]
  refine H_sld (nx := 442) C ⟨dL_law_441, rfl⟩ (inZ h6 hn (by decide)) ?_
  rw [cl_nI (show i + 1 < 2 ^ 31 by omega)]
  refine H_call (nx := 445) (n := 0) (As := [.int (Z.xs (i + 1))]) C ⟨dL_law_442, rfl⟩ kL_39 rfl q_75 rfl (cat1 v) (Nat.le_of_ble_eq_true rfl) (G_mono h (fun v2 I2 J2 R2 hq => ?_))
  obtain ⟨⟨x, rfl, rfl⟩, g2, rfl, hI2⟩ := hq
  exact H_icmpeq (tgt := 1697) (nx := 448) C ⟨dL_law_445, rfl⟩ rfl (hk I2 J2 g2 hI2)
theorem cs_6 (C : CLx Z) (hI : INV I g) (h6 : i + 6 ≤ Z.n) (hn : Z.n ≤ 3072) (hk : ∀ (I : AI) (J : AJ) (g : Bool), INV I g → GL Z 1697 [.ref 1030, .ref 0, .ref 75, .int (nI i)] [] I J (rX g)) : GL Z 450 [.ref 1030, .ref 0, .ref 75, .int (nI i)] [] I J (rX g) := by
  refine H_aload (nx := 451) C ⟨dL_law_450, rfl⟩ rfl ?_
  refine H_aload (nx := 452) C ⟨dL_law_451, rfl⟩ rfl ?_
  refine H_iload (nx := 453) C ⟨dL_law_452, rfl⟩ rfl ?_
  refine H_iconst (nx := 454) C ⟨dL_law_453, rfl⟩ ci_1 ?_
  refine H_iadd (nx := 455) C ⟨dL_law_454, rfl⟩ ?_
  rw [show nI i + 1 = nI (i + 1) from nI_add i 1]
  refine H_sld (nx := 456) C ⟨dL_law_455, rfl⟩ (inZ h6 hn (by decide)) ?_
  rw [cl_nI (show i + 1 < 2 ^ 31 by omega)]
  refine H_call (nx := 459) (n := 0) (As := [.int (Z.xs (i + 1))]) C ⟨dL_law_456, rfl⟩ kL_40 rfl q_0 rfl (Nat.le_of_ble_eq_true rfl) (Nat.le_of_ble_eq_true rfl) (G_mono (op_costOf (l := Z.l) (d := 0) (J := J) hI) (fun v I1 J1 R1 h => ?_))
  refine H_aload (nx := 460) C ⟨dL_law_459, rfl⟩ rfl ?_
  refine H_aload (nx := 461) C ⟨dL_law_460, rfl⟩ rfl ?_
  refine H_iload (nx := 462) C ⟨dL_law_461, rfl⟩ rfl ?_
  refine H_iconst (nx := 463) C ⟨dL_law_462, rfl⟩ ci_1 ?_
  refine H_iadd (nx := 464) C ⟨dL_law_463, rfl⟩ ?_
  rw [show nI i + 1 = nI (i + 1) from nI_add i 1]
  refine H_sld (nx := 465) C ⟨dL_law_464, rfl⟩ (inZ h6 hn (by decide)) ?_
  rw [cl_nI (show i + 1 < 2 ^ 31 by omega)]
  refine H_call (nx := 468) (n := 0) (As := [.int (Z.xs (i + 1))]) C ⟨dL_law_465, rfl⟩ kL_43 rfl q_75 rfl (cat1 v) (Nat.le_of_ble_eq_true rfl) (G_mono h (fun v2 I2 J2 R2 hq => ?_))
  obtain ⟨⟨x, rfl, rfl⟩, g2, rfl, hI2⟩ := hq
  exact H_icmpeq (tgt := 1697) (nx := 471) C ⟨dL_law_468, rfl⟩ rfl (hk I2 J2 g2 hI2)
theorem cs_7 (C : CLx Z) (hI : INV I g) (h6 : i + 6 ≤ Z.n) (hn : Z.n ≤ 3072) (hk : ∀ (I : AI) (J : AJ) (g : Bool), INV I g → GL Z 1697 [.ref 1030, .ref 0, .ref 75, .int (nI i)] [] I J (rX g)) : GL Z 473 [.ref 1030, .ref 0, .ref 75, .int (nI i)] [] I J (rX g) := by
  refine H_aload (nx := 474) C ⟨dL_law_473, rfl⟩ rfl ?_
  refine H_aload (nx := 475) C ⟨dL_law_474, rfl⟩ rfl ?_
  refine H_iload (nx := 476) C ⟨dL_law_475, rfl⟩ rfl ?_
  refine H_iconst (nx := 477) C ⟨dL_law_476, rfl⟩ ci_1 ?_
  refine H_iadd (nx := 478) C ⟨dL_law_477, rfl⟩ ?_
  rw [show nI i + 1 = nI (i + 1) from nI_add i 1]
  refine H_sld (nx := 479) C ⟨dL_law_478, rfl⟩ (inZ h6 hn (by decide)) ?_
  rw [cl_nI (show i + 1 < 2 ^ 31 by omega)]
  refine H_call (nx := 482) (n := 0) (As := [.int (Z.xs (i + 1))]) C ⟨dL_law_479, rfl⟩ kL_44 rfl q_0 rfl (Nat.le_of_ble_eq_true rfl) (Nat.le_of_ble_eq_true rfl) (G_mono (op_fewest (l := Z.l) (d := 0) (J := J) hI) (fun v I1 J1 R1 h => ?_))
  refine H_aload (nx := 483) C ⟨dL_law_482, rfl⟩ rfl ?_
  refine H_aload (nx := 484) C ⟨dL_law_483, rfl⟩ rfl ?_
  refine H_iload (nx := 485) C ⟨dL_law_484, rfl⟩ rfl ?_
  refine H_iconst (nx := 486) C ⟨dL_law_485, rfl⟩ ci_1 ?_
  refine H_iadd (nx := 487) C ⟨dL_law_486, rfl⟩ ?_
  rw [show nI i + 1 = nI (i + 1) from nI_add i 1]
  refine H_sld (nx := 488) C ⟨dL_law_487, rfl⟩ (inZ h6 hn (by decide)) ?_
  rw [cl_nI (show i + 1 < 2 ^ 31 by omega)]
  refine H_call (nx := 491) (n := 6) (As := [.int (Z.xs (i + 1))]) C ⟨dL_law_488, rfl⟩ kL_47 rfl q_75 rfl (cat1 v) (Nat.le_of_ble_eq_true rfl) (G_mono h (fun v2 I2 J2 R2 hq => ?_))
  obtain ⟨⟨x, rfl, rfl⟩, g2, rfl, hI2⟩ := hq
  exact H_icmpeq (tgt := 1697) (nx := 494) C ⟨dL_law_491, rfl⟩ rfl (hk I2 J2 g2 hI2)
theorem cs_8 (C : CLx Z) (hI : INV I g) (h6 : i + 6 ≤ Z.n) (hn : Z.n ≤ 3072) (hk : ∀ (I : AI) (J : AJ) (g : Bool), INV I g → GL Z 1697 [.ref 1030, .ref 0, .ref 75, .int (nI i)] [] I J (rX g)) : GL Z 496 [.ref 1030, .ref 0, .ref 75, .int (nI i)] [] I J (rX g) := by
  refine H_aload (nx := 497) C ⟨dL_law_496, rfl⟩ rfl ?_
  refine H_aload (nx := 498) C ⟨dL_law_497, rfl⟩ rfl ?_
  refine H_iload (nx := 499) C ⟨dL_law_498, rfl⟩ rfl ?_
  refine H_iconst (nx := 500) C ⟨dL_law_499, rfl⟩ ci_1 ?_
  refine H_iadd (nx := 501) C ⟨dL_law_500, rfl⟩ ?_
  rw [show nI i + 1 = nI (i + 1) from nI_add i 1]
  refine H_sld (nx := 502) C ⟨dL_law_501, rfl⟩ (inZ h6 hn (by decide)) ?_
  rw [cl_nI (show i + 1 < 2 ^ 31 by omega)]
  refine H_call (nx := 505) (n := 0) (As := [.int (Z.xs (i + 1))]) C ⟨dL_law_502, rfl⟩ kL_48 rfl q_0 rfl (Nat.le_of_ble_eq_true rfl) (Nat.le_of_ble_eq_true rfl) (G_mono (op_dear (l := Z.l) (d := 0) (J := J) hI) (fun v I1 J1 R1 h => ?_))
  refine H_aload (nx := 506) C ⟨dL_law_505, rfl⟩ rfl ?_
  refine H_aload (nx := 507) C ⟨dL_law_506, rfl⟩ rfl ?_
  refine H_iload (nx := 508) C ⟨dL_law_507, rfl⟩ rfl ?_
  refine H_iconst (nx := 509) C ⟨dL_law_508, rfl⟩ ci_1 ?_
  refine H_iadd (nx := 510) C ⟨dL_law_509, rfl⟩ ?_
  rw [show nI i + 1 = nI (i + 1) from nI_add i 1]
  refine H_sld (nx := 511) C ⟨dL_law_510, rfl⟩ (inZ h6 hn (by decide)) ?_
  rw [cl_nI (show i + 1 < 2 ^ 31 by omega)]
  refine H_call (nx := 514) (n := 4) (As := [.int (Z.xs (i + 1))]) C ⟨dL_law_511, rfl⟩ kL_51 rfl q_75 rfl (cat1 v) (Nat.le_of_ble_eq_true rfl) (G_mono h (fun v2 I2 J2 R2 hq => ?_))
  obtain ⟨⟨x, rfl, rfl⟩, g2, rfl, hI2⟩ := hq
  exact H_icmpeq (tgt := 1697) (nx := 517) C ⟨dL_law_514, rfl⟩ rfl (hk I2 J2 g2 hI2)
theorem cs_9 (C : CLx Z) (hI : INV I g) (h6 : i + 6 ≤ Z.n) (hn : Z.n ≤ 3072) (hk : ∀ (I : AI) (J : AJ) (g : Bool), INV I g → GL Z 1697 [.ref 1030, .ref 0, .ref 75, .int (nI i)] [] I J (rX g)) : GL Z 519 [.ref 1030, .ref 0, .ref 75, .int (nI i)] [] I J (rX g) := by
  refine H_aload (nx := 520) C ⟨dL_law_519, rfl⟩ rfl ?_
  refine H_aload (nx := 521) C ⟨dL_law_520, rfl⟩ rfl ?_
  refine H_iload (nx := 522) C ⟨dL_law_521, rfl⟩ rfl ?_
  refine H_iconst (nx := 523) C ⟨dL_law_522, rfl⟩ ci_1 ?_
  refine H_iadd (nx := 524) C ⟨dL_law_523, rfl⟩ ?_
  rw [show nI i + 1 = nI (i + 1) from nI_add i 1]
  refine H_sld (nx := 525) C ⟨dL_law_524, rfl⟩ (inZ h6 hn (by decide)) ?_
  rw [cl_nI (show i + 1 < 2 ^ 31 by omega)]
  refine H_call (nx := 528) (n := 0) (As := [.int (Z.xs (i + 1))]) C ⟨dL_law_525, rfl⟩ kL_52 rfl q_0 rfl (Nat.le_of_ble_eq_true rfl) (Nat.le_of_ble_eq_true rfl) (G_mono (op_sized (l := Z.l) (d := 0) (J := J) hI) (fun v I1 J1 R1 h => ?_))
  refine H_aload (nx := 529) C ⟨dL_law_528, rfl⟩ rfl ?_
  refine H_aload (nx := 530) C ⟨dL_law_529, rfl⟩ rfl ?_
  refine H_iload (nx := 531) C ⟨dL_law_530, rfl⟩ rfl ?_
  refine H_iconst (nx := 532) C ⟨dL_law_531, rfl⟩ ci_1 ?_
  refine H_iadd (nx := 533) C ⟨dL_law_532, rfl⟩ ?_
  rw [show nI i + 1 = nI (i + 1) from nI_add i 1]
  refine H_sld (nx := 534) C ⟨dL_law_533, rfl⟩ (inZ h6 hn (by decide)) ?_
  rw [cl_nI (show i + 1 < 2 ^ 31 by omega)]
  refine H_call (nx := 537) (n := 2) (As := [.int (Z.xs (i + 1))]) C ⟨dL_law_534, rfl⟩ kL_55 rfl q_75 rfl (cat1 v) (Nat.le_of_ble_eq_true rfl) (G_mono h (fun v2 I2 J2 R2 hq => ?_))
  obtain ⟨⟨x, rfl, rfl⟩, g2, rfl, hI2⟩ := hq
  exact H_icmpeq (tgt := 1697) (nx := 540) C ⟨dL_law_537, rfl⟩ rfl (hk I2 J2 g2 hI2)
theorem cs_10 (C : CLx Z) (hI : INV I g) (h6 : i + 6 ≤ Z.n) (hn : Z.n ≤ 3072) (hk : ∀ (I : AI) (J : AJ) (g : Bool), INV I g → GL Z 1697 [.ref 1030, .ref 0, .ref 75, .int (nI i)] [] I J (rX g)) : GL Z 542 [.ref 1030, .ref 0, .ref 75, .int (nI i)] [] I J (rX g) := by
  refine H_aload (nx := 543) C ⟨dL_law_542, rfl⟩ rfl ?_
  refine H_aload (nx := 544) C ⟨dL_law_543, rfl⟩ rfl ?_
  refine H_iload (nx := 545) C ⟨dL_law_544, rfl⟩ rfl ?_
  refine H_iconst (nx := 546) C ⟨dL_law_545, rfl⟩ ci_1 ?_
  refine H_iadd (nx := 547) C ⟨dL_law_546, rfl⟩ ?_
  rw [show nI i + 1 = nI (i + 1) from nI_add i 1]
  refine H_sld (nx := 548) C ⟨dL_law_547, rfl⟩ (inZ h6 hn (by decide)) ?_
  rw [cl_nI (show i + 1 < 2 ^ 31 by omega)]
  refine H_call (nx := 551) (n := 0) (As := [.int (Z.xs (i + 1))]) C ⟨dL_law_548, rfl⟩ kL_56 rfl q_0 rfl (Nat.le_of_ble_eq_true rfl) (Nat.le_of_ble_eq_true rfl) (G_mono (op_bare (l := Z.l) (d := 0) (J := J) hI) (fun v I1 J1 R1 h => ?_))
  refine H_aload (nx := 552) C ⟨dL_law_551, rfl⟩ rfl ?_
  refine H_aload (nx := 553) C ⟨dL_law_552, rfl⟩ rfl ?_
  refine H_iload (nx := 554) C ⟨dL_law_553, rfl⟩ rfl ?_
  refine H_iconst (nx := 555) C ⟨dL_law_554, rfl⟩ ci_1 ?_
  refine H_iadd (nx := 556) C ⟨dL_law_555, rfl⟩ ?_
  rw [show nI i + 1 = nI (i + 1) from nI_add i 1]
  refine H_sld (nx := 557) C ⟨dL_law_556, rfl⟩ (inZ h6 hn (by decide)) ?_
  rw [cl_nI (show i + 1 < 2 ^ 31 by omega)]
  refine H_call (nx := 560) (n := 4) (As := [.int (Z.xs (i + 1))]) C ⟨dL_law_557, rfl⟩ kL_59 rfl q_75 rfl (cat1 v) (Nat.le_of_ble_eq_true rfl) (G_mono h (fun v2 I2 J2 R2 hq => ?_))
  obtain ⟨⟨x, rfl, rfl⟩, g2, rfl, hI2⟩ := hq
  exact H_icmpeq (tgt := 1697) (nx := 563) C ⟨dL_law_560, rfl⟩ rfl (hk I2 J2 g2 hI2)
theorem cs_11 (C : CLx Z) (hI : INV I g) (h6 : i + 6 ≤ Z.n) (hn : Z.n ≤ 3072) (hk : ∀ (I : AI) (J : AJ) (g : Bool), INV I g → GL Z 1697 [.ref 1030, .ref 0, .ref 75, .int (nI i)] [] I J (rX g)) : GL Z 565 [.ref 1030, .ref 0, .ref 75, .int (nI i)] [] I J (rX g) := by
  refine H_aload (nx := 566) C ⟨dL_law_565, rfl⟩ rfl ?_
  refine H_aload (nx := 567) C ⟨dL_law_566, rfl⟩ rfl ?_
  refine H_iload (nx := 568) C ⟨dL_law_567, rfl⟩ rfl ?_
  refine H_iconst (nx := 569) C ⟨dL_law_568, rfl⟩ ci_1 ?_
  refine H_iadd (nx := 570) C ⟨dL_law_569, rfl⟩ ?_
  rw [show nI i + 1 = nI (i + 1) from nI_add i 1]
  refine H_sld (nx := 571) C ⟨dL_law_570, rfl⟩ (inZ h6 hn (by decide)) ?_
  rw [cl_nI (show i + 1 < 2 ^ 31 by omega)]
  refine H_call (nx := 574) (n := 5) (As := [.int (Z.xs (i + 1))]) C ⟨dL_law_571, rfl⟩ kL_60 rfl q_0 rfl (Nat.le_of_ble_eq_true rfl) (Nat.le_of_ble_eq_true rfl) (G_mono (op_share (l := Z.l) (d := 0) (J := J) hI) (fun v I1 J1 R1 h => ?_))
  refine H_aload (nx := 575) C ⟨dL_law_574, rfl⟩ rfl ?_
  refine H_aload (nx := 576) C ⟨dL_law_575, rfl⟩ rfl ?_
  refine H_iload (nx := 577) C ⟨dL_law_576, rfl⟩ rfl ?_
  refine H_iconst (nx := 578) C ⟨dL_law_577, rfl⟩ ci_1 ?_
  refine H_iadd (nx := 579) C ⟨dL_law_578, rfl⟩ ?_
  rw [show nI i + 1 = nI (i + 1) from nI_add i 1]
  refine H_sld (nx := 580) C ⟨dL_law_579, rfl⟩ (inZ h6 hn (by decide)) ?_
  rw [cl_nI (show i + 1 < 2 ^ 31 by omega)]
  refine H_call (nx := 583) (n := 5) (As := [.int (Z.xs (i + 1))]) C ⟨dL_law_580, rfl⟩ kL_64 rfl q_75 rfl (cat1 v) (Nat.le_of_ble_eq_true rfl) (G_mono h (fun v2 I2 J2 R2 hq => ?_))
  obtain ⟨⟨x, rfl, rfl⟩, g2, rfl, hI2⟩ := hq
  exact H_lcmpeq (tgt := 1697) (n1 := 584) (nx := 587) C ⟨dL_law_583, rfl⟩ ⟨dL_law_584, rfl⟩ rfl (hk I2 J2 g2 hI2)
theorem cs_12 (C : CLx Z) (hI : INV I g) (h6 : i + 6 ≤ Z.n) (hn : Z.n ≤ 3072) (hk : ∀ (I : AI) (J : AJ) (g : Bool), INV I g → GL Z 1697 [.ref 1030, .ref 0, .ref 75, .int (nI i)] [] I J (rX g)) : GL Z 589 [.ref 1030, .ref 0, .ref 75, .int (nI i)] [] I J (rX g) := by
  refine H_aload (nx := 590) C ⟨dL_law_589, rfl⟩ rfl ?_
  refine H_aload (nx := 591) C ⟨dL_law_590, rfl⟩ rfl ?_
  refine H_iload (nx := 592) C ⟨dL_law_591, rfl⟩ rfl ?_
  refine H_iconst (nx := 593) C ⟨dL_law_592, rfl⟩ ci_1 ?_
  refine H_iadd (nx := 594) C ⟨dL_law_593, rfl⟩ ?_
  rw [show nI i + 1 = nI (i + 1) from nI_add i 1]
  refine H_sld (nx := 595) C ⟨dL_law_594, rfl⟩ (inZ h6 hn (by decide)) ?_
  rw [cl_nI (show i + 1 < 2 ^ 31 by omega)]
  refine H_call (nx := 598) (n := 0) (As := [.int (Z.xs (i + 1))]) C ⟨dL_law_595, rfl⟩ kL_65 rfl q_0 rfl (Nat.le_of_ble_eq_true rfl) (Nat.le_of_ble_eq_true rfl) (G_mono (op_halves (l := Z.l) (d := 0) (J := J) hI) (fun v I1 J1 R1 h => ?_))
  refine H_aload (nx := 599) C ⟨dL_law_598, rfl⟩ rfl ?_
  refine H_aload (nx := 600) C ⟨dL_law_599, rfl⟩ rfl ?_
  refine H_iload (nx := 601) C ⟨dL_law_600, rfl⟩ rfl ?_
  refine H_iconst (nx := 602) C ⟨dL_law_601, rfl⟩ ci_1 ?_
  refine H_iadd (nx := 603) C ⟨dL_law_602, rfl⟩ ?_
  rw [show nI i + 1 = nI (i + 1) from nI_add i 1]
  refine H_sld (nx := 604) C ⟨dL_law_603, rfl⟩ (inZ h6 hn (by decide)) ?_
  rw [cl_nI (show i + 1 < 2 ^ 31 by omega)]
  refine H_call (nx := 607) (n := 1) (As := [.int (Z.xs (i + 1))]) C ⟨dL_law_604, rfl⟩ kL_68 rfl q_75 rfl (cat1 v) (Nat.le_of_ble_eq_true rfl) (G_mono h (fun v2 I2 J2 R2 hq => ?_))
  obtain ⟨⟨x, rfl, rfl⟩, g2, rfl, hI2⟩ := hq
  exact H_icmpeq (tgt := 1697) (nx := 610) C ⟨dL_law_607, rfl⟩ rfl (hk I2 J2 g2 hI2)
theorem cs_13 (C : CLx Z) (hI : INV I g) (h6 : i + 6 ≤ Z.n) (hn : Z.n ≤ 3072) (hk : ∀ (I : AI) (J : AJ) (g : Bool), INV I g → GL Z 1697 [.ref 1030, .ref 0, .ref 75, .int (nI i)] [] I J (rX g)) : GL Z 612 [.ref 1030, .ref 0, .ref 75, .int (nI i)] [] I J (rX g) := by
  refine H_aload (nx := 613) C ⟨dL_law_612, rfl⟩ rfl ?_
  refine H_aload (nx := 614) C ⟨dL_law_613, rfl⟩ rfl ?_
  refine H_iload (nx := 615) C ⟨dL_law_614, rfl⟩ rfl ?_
  refine H_iconst (nx := 616) C ⟨dL_law_615, rfl⟩ ci_1 ?_
  refine H_iadd (nx := 617) C ⟨dL_law_616, rfl⟩ ?_
  rw [show nI i + 1 = nI (i + 1) from nI_add i 1]
  refine H_sld (nx := 618) C ⟨dL_law_617, rfl⟩ (inZ h6 hn (by decide)) ?_
  rw [cl_nI (show i + 1 < 2 ^ 31 by omega)]
  refine H_call (nx := 621) (n := 0) (As := [.int (Z.xs (i + 1))]) C ⟨dL_law_618, rfl⟩ kL_69 rfl q_0 rfl (Nat.le_of_ble_eq_true rfl) (Nat.le_of_ble_eq_true rfl) (G_mono (op_half (l := Z.l) (d := 0) (J := J) hI) (fun v I1 J1 R1 h => ?_))
  refine H_aload (nx := 622) C ⟨dL_law_621, rfl⟩ rfl ?_
  refine H_aload (nx := 623) C ⟨dL_law_622, rfl⟩ rfl ?_
  refine H_iload (nx := 624) C ⟨dL_law_623, rfl⟩ rfl ?_
  refine H_iconst (nx := 625) C ⟨dL_law_624, rfl⟩ ci_1 ?_
  refine H_iadd (nx := 626) C ⟨dL_law_625, rfl⟩ ?_
  rw [show nI i + 1 = nI (i + 1) from nI_add i 1]
  refine H_sld (nx := 627) C ⟨dL_law_626, rfl⟩ (inZ h6 hn (by decide)) ?_
  rw [cl_nI (show i + 1 < 2 ^ 31 by omega)]
  refine H_call (nx := 630) (n := 1) (As := [.int (Z.xs (i + 1))]) C ⟨dL_law_627, rfl⟩ kL_72 rfl q_75 rfl (cat1 v) (Nat.le_of_ble_eq_true rfl) (G_mono h (fun v2 I2 J2 R2 hq => ?_))
  obtain ⟨⟨x, rfl, rfl⟩, g2, rfl, hI2⟩ := hq
  exact H_icmpeq (tgt := 1697) (nx := 633) C ⟨dL_law_630, rfl⟩ rfl (hk I2 J2 g2 hI2)
theorem cs_14 (C : CLx Z) (hI : INV I g) (h6 : i + 6 ≤ Z.n) (hn : Z.n ≤ 3072) (hk : ∀ (I : AI) (J : AJ) (g : Bool), INV I g → GL Z 1697 [.ref 1030, .ref 0, .ref 75, .int (nI i)] [] I J (rX g)) : GL Z 635 [.ref 1030, .ref 0, .ref 75, .int (nI i)] [] I J (rX g) := by
  refine H_aload (nx := 636) C ⟨dL_law_635, rfl⟩ rfl ?_
  refine H_aload (nx := 637) C ⟨dL_law_636, rfl⟩ rfl ?_
  refine H_iload (nx := 638) C ⟨dL_law_637, rfl⟩ rfl ?_
  refine H_iconst (nx := 639) C ⟨dL_law_638, rfl⟩ ci_1 ?_
  refine H_iadd (nx := 640) C ⟨dL_law_639, rfl⟩ ?_
  rw [show nI i + 1 = nI (i + 1) from nI_add i 1]
  refine H_sld (nx := 641) C ⟨dL_law_640, rfl⟩ (inZ h6 hn (by decide)) ?_
  rw [cl_nI (show i + 1 < 2 ^ 31 by omega)]
  refine H_call (nx := 644) (n := 0) (As := [.int (Z.xs (i + 1))]) C ⟨dL_law_641, rfl⟩ kL_73 rfl q_0 rfl (Nat.le_of_ble_eq_true rfl) (Nat.le_of_ble_eq_true rfl) (G_mono (op_mayHave (l := Z.l) (d := 0) (J := J) hI) (fun v I1 J1 R1 h => ?_))
  refine H_aload (nx := 645) C ⟨dL_law_644, rfl⟩ rfl ?_
  refine H_aload (nx := 646) C ⟨dL_law_645, rfl⟩ rfl ?_
  refine H_iload (nx := 647) C ⟨dL_law_646, rfl⟩ rfl ?_
  refine H_iconst (nx := 648) C ⟨dL_law_647, rfl⟩ ci_1 ?_
  refine H_iadd (nx := 649) C ⟨dL_law_648, rfl⟩ ?_
  rw [show nI i + 1 = nI (i + 1) from nI_add i 1]
  refine H_sld (nx := 650) C ⟨dL_law_649, rfl⟩ (inZ h6 hn (by decide)) ?_
  rw [cl_nI (show i + 1 < 2 ^ 31 by omega)]
  refine H_call (nx := 653) (n := 3) (As := [.int (Z.xs (i + 1))]) C ⟨dL_law_650, rfl⟩ kL_76 rfl q_75 rfl (cat1 v) (Nat.le_of_ble_eq_true rfl) (G_mono h (fun v2 I2 J2 R2 hq => ?_))
  obtain ⟨⟨x, rfl, rfl⟩, g2, rfl, hI2⟩ := hq
  exact H_icmpeq (tgt := 1697) (nx := 656) C ⟨dL_law_653, rfl⟩ rfl (hk I2 J2 g2 hI2)
theorem cs_15 (C : CLx Z) (hI : INV I g) (h6 : i + 6 ≤ Z.n) (hn : Z.n ≤ 3072) (hk : ∀ (I : AI) (J : AJ) (g : Bool), INV I g → GL Z 1697 [.ref 1030, .ref 0, .ref 75, .int (nI i)] [] I J (rX g)) : GL Z 658 [.ref 1030, .ref 0, .ref 75, .int (nI i)] [] I J (rX g) := by
  refine H_aload (nx := 659) C ⟨dL_law_658, rfl⟩ rfl ?_
  refine H_aload (nx := 660) C ⟨dL_law_659, rfl⟩ rfl ?_
  refine H_iload (nx := 661) C ⟨dL_law_660, rfl⟩ rfl ?_
  refine H_iconst (nx := 662) C ⟨dL_law_661, rfl⟩ ci_1 ?_
  refine H_iadd (nx := 663) C ⟨dL_law_662, rfl⟩ ?_
  rw [show nI i + 1 = nI (i + 1) from nI_add i 1]
  refine H_sld (nx := 664) C ⟨dL_law_663, rfl⟩ (inZ h6 hn (by decide)) ?_
  rw [cl_nI (show i + 1 < 2 ^ 31 by omega)]
  refine H_call (nx := 667) (n := 0) (As := [.int (Z.xs (i + 1))]) C ⟨dL_law_664, rfl⟩ kL_77 rfl q_0 rfl (Nat.le_of_ble_eq_true rfl) (Nat.le_of_ble_eq_true rfl) (G_mono (op_mate (l := Z.l) (d := 0) (J := J) hI) (fun v I1 J1 R1 h => ?_))
  refine H_aload (nx := 668) C ⟨dL_law_667, rfl⟩ rfl ?_
  refine H_aload (nx := 669) C ⟨dL_law_668, rfl⟩ rfl ?_
  refine H_iload (nx := 670) C ⟨dL_law_669, rfl⟩ rfl ?_
  refine H_iconst (nx := 671) C ⟨dL_law_670, rfl⟩ ci_1 ?_
  refine H_iadd (nx := 672) C ⟨dL_law_671, rfl⟩ ?_
  rw [show nI i + 1 = nI (i + 1) from nI_add i 1]
  refine H_sld (nx := 673) C ⟨dL_law_672, rfl⟩ (inZ h6 hn (by decide)) ?_
  rw [cl_nI (show i + 1 < 2 ^ 31 by omega)]
  refine H_call (nx := 676) (n := 2) (As := [.int (Z.xs (i + 1))]) C ⟨dL_law_673, rfl⟩ kL_80 rfl q_75 rfl (cat1 v) (Nat.le_of_ble_eq_true rfl) (G_mono h (fun v2 I2 J2 R2 hq => ?_))
  obtain ⟨⟨x, rfl, rfl⟩, g2, rfl, hI2⟩ := hq
  exact H_icmpeq (tgt := 1697) (nx := 679) C ⟨dL_law_676, rfl⟩ rfl (hk I2 J2 g2 hI2)
theorem cs_16 (C : CLx Z) (hI : INV I g) (h6 : i + 6 ≤ Z.n) (hn : Z.n ≤ 3072) (hk : ∀ (I : AI) (J : AJ) (g : Bool), INV I g → GL Z 1697 [.ref 1030, .ref 0, .ref 75, .int (nI i)] [] I J (rX g)) : GL Z 681 [.ref 1030, .ref 0, .ref 75, .int (nI i)] [] I J (rX g) := by
  refine H_aload (nx := 682) C ⟨dL_law_681, rfl⟩ rfl ?_
  refine H_call (nx := 685) (n := 1) (As := []) C ⟨dL_law_682, rfl⟩ kL_81 rfl q_0 rfl (Nat.le_of_ble_eq_true rfl) (Nat.le_of_ble_eq_true rfl) (G_mono (op_persists (l := Z.l) (d := 0) (J := J) hI) (fun v I1 J1 R1 h => ?_))
  refine H_aload (nx := 686) C ⟨dL_law_685, rfl⟩ rfl ?_
  refine H_call (nx := 689) (n := 6) (As := []) C ⟨dL_law_686, rfl⟩ kL_85 rfl q_75 rfl (cat1 v) (Nat.le_of_ble_eq_true rfl) (G_mono h (fun v2 I2 J2 R2 hq => ?_))
  obtain ⟨⟨x, rfl, rfl⟩, g2, rfl, hI2⟩ := hq
  exact H_icmpeq (tgt := 1697) (nx := 692) C ⟨dL_law_689, rfl⟩ rfl (hk I2 J2 g2 hI2)
theorem cs_17 (C : CLx Z) (hI : INV I g) (h6 : i + 6 ≤ Z.n) (hn : Z.n ≤ 3072) (hk : ∀ (I : AI) (J : AJ) (g : Bool), INV I g → GL Z 1697 [.ref 1030, .ref 0, .ref 75, .int (nI i)] [] I J (rX g)) : GL Z 694 [.ref 1030, .ref 0, .ref 75, .int (nI i)] [] I J (rX g) := by
  refine H_aload (nx := 695) C ⟨dL_law_694, rfl⟩ rfl ?_
  refine H_aload (nx := 696) C ⟨dL_law_695, rfl⟩ rfl ?_
  refine H_iload (nx := 697) C ⟨dL_law_696, rfl⟩ rfl ?_
  refine H_iconst (nx := 698) C ⟨dL_law_697, rfl⟩ ci_1 ?_
  refine H_iadd (nx := 699) C ⟨dL_law_698, rfl⟩ ?_
  rw [show nI i + 1 = nI (i + 1) from nI_add i 1]
  refine H_sld (nx := 700) C ⟨dL_law_699, rfl⟩ (inZ h6 hn (by decide)) ?_
  rw [cl_nI (show i + 1 < 2 ^ 31 by omega)]
  refine H_call (nx := 703) (n := 0) (As := [.int (Z.xs (i + 1))]) C ⟨dL_law_700, rfl⟩ kL_86 rfl q_0 rfl (Nat.le_of_ble_eq_true rfl) (Nat.le_of_ble_eq_true rfl) (G_mono (op_isCrown (l := Z.l) (d := 0) (J := J) hI) (fun v I1 J1 R1 h => ?_))
  refine H_aload (nx := 704) C ⟨dL_law_703, rfl⟩ rfl ?_
  refine H_aload (nx := 705) C ⟨dL_law_704, rfl⟩ rfl ?_
  refine H_iload (nx := 706) C ⟨dL_law_705, rfl⟩ rfl ?_
  refine H_iconst (nx := 707) C ⟨dL_law_706, rfl⟩ ci_1 ?_
  refine H_iadd (nx := 708) C ⟨dL_law_707, rfl⟩ ?_
  rw [show nI i + 1 = nI (i + 1) from nI_add i 1]
  refine H_sld (nx := 709) C ⟨dL_law_708, rfl⟩ (inZ h6 hn (by decide)) ?_
  rw [cl_nI (show i + 1 < 2 ^ 31 by omega)]
  refine H_call (nx := 712) (n := 0) (As := [.int (Z.xs (i + 1))]) C ⟨dL_law_709, rfl⟩ kL_89 rfl q_75 rfl (cat1 v) (Nat.le_of_ble_eq_true rfl) (G_mono h (fun v2 I2 J2 R2 hq => ?_))
  obtain ⟨⟨x, rfl, rfl⟩, g2, rfl, hI2⟩ := hq
  exact H_icmpeq (tgt := 1697) (nx := 715) C ⟨dL_law_712, rfl⟩ rfl (hk I2 J2 g2 hI2)
theorem cs_18 (C : CLx Z) (hI : INV I g) (h6 : i + 6 ≤ Z.n) (hn : Z.n ≤ 3072) (hk : ∀ (I : AI) (J : AJ) (g : Bool), INV I g → GL Z 1697 [.ref 1030, .ref 0, .ref 75, .int (nI i)] [] I J (rX g)) : GL Z 717 [.ref 1030, .ref 0, .ref 75, .int (nI i)] [] I J (rX g) := by
  refine H_aload (nx := 718) C ⟨dL_law_717, rfl⟩ rfl ?_
  refine H_aload (nx := 719) C ⟨dL_law_718, rfl⟩ rfl ?_
  refine H_iload (nx := 720) C ⟨dL_law_719, rfl⟩ rfl ?_
  refine H_iconst (nx := 721) C ⟨dL_law_720, rfl⟩ ci_1 ?_
  refine H_iadd (nx := 722) C ⟨dL_law_721, rfl⟩ ?_
  rw [show nI i + 1 = nI (i + 1) from nI_add i 1]
  refine H_sld (nx := 723) C ⟨dL_law_722, rfl⟩ (inZ h6 hn (by decide)) ?_
  rw [cl_nI (show i + 1 < 2 ^ 31 by omega)]
  refine H_call (nx := 726) (n := 0) (As := [.int (Z.xs (i + 1))]) C ⟨dL_law_723, rfl⟩ kL_90 rfl q_0 rfl (Nat.le_of_ble_eq_true rfl) (Nat.le_of_ble_eq_true rfl) (G_mono (op_crowns (l := Z.l) (d := 0) (J := J) hI) (fun v I1 J1 R1 h => ?_))
  refine H_aload (nx := 727) C ⟨dL_law_726, rfl⟩ rfl ?_
  refine H_aload (nx := 728) C ⟨dL_law_727, rfl⟩ rfl ?_
  refine H_iload (nx := 729) C ⟨dL_law_728, rfl⟩ rfl ?_
  refine H_iconst (nx := 730) C ⟨dL_law_729, rfl⟩ ci_1 ?_
  refine H_iadd (nx := 731) C ⟨dL_law_730, rfl⟩ ?_
  rw [show nI i + 1 = nI (i + 1) from nI_add i 1]
  refine H_sld (nx := 732) C ⟨dL_law_731, rfl⟩ (inZ h6 hn (by decide)) ?_
  rw [cl_nI (show i + 1 < 2 ^ 31 by omega)]
  refine H_call (nx := 735) (n := 3) (As := [.int (Z.xs (i + 1))]) C ⟨dL_law_732, rfl⟩ kL_93 rfl q_75 rfl (cat1 v) (Nat.le_of_ble_eq_true rfl) (G_mono h (fun v2 I2 J2 R2 hq => ?_))
  obtain ⟨⟨x, rfl, rfl⟩, g2, rfl, hI2⟩ := hq
  exact H_icmpeq (tgt := 1697) (nx := 738) C ⟨dL_law_735, rfl⟩ rfl (hk I2 J2 g2 hI2)
theorem cs_19 (C : CLx Z) (hI : INV I g) (h6 : i + 6 ≤ Z.n) (hn : Z.n ≤ 3072) (hk : ∀ (I : AI) (J : AJ) (g : Bool), INV I g → GL Z 1697 [.ref 1030, .ref 0, .ref 75, .int (nI i)] [] I J (rX g)) : GL Z 740 [.ref 1030, .ref 0, .ref 75, .int (nI i)] [] I J (rX g) := by
  refine H_aload (nx := 741) C ⟨dL_law_740, rfl⟩ rfl ?_
  refine H_aload (nx := 742) C ⟨dL_law_741, rfl⟩ rfl ?_
  refine H_iload (nx := 743) C ⟨dL_law_742, rfl⟩ rfl ?_
  refine H_iconst (nx := 744) C ⟨dL_law_743, rfl⟩ ci_1 ?_
  refine H_iadd (nx := 745) C ⟨dL_law_744, rfl⟩ ?_
  rw [show nI i + 1 = nI (i + 1) from nI_add i 1]
  refine H_sld (nx := 746) C ⟨dL_law_745, rfl⟩ (inZ h6 hn (by decide)) ?_
  rw [cl_nI (show i + 1 < 2 ^ 31 by omega)]
  refine H_aload (nx := 747) C ⟨dL_law_746, rfl⟩ rfl ?_
  refine H_iload (nx := 748) C ⟨dL_law_747, rfl⟩ rfl ?_
  refine H_iconst (nx := 749) C ⟨dL_law_748, rfl⟩ ci_2 ?_
  refine H_iadd (nx := 750) C ⟨dL_law_749, rfl⟩ ?_
  rw [show nI i + 2 = nI (i + 2) from nI_add i 2]
  refine H_sld (nx := 751) C ⟨dL_law_750, rfl⟩ (inZ h6 hn (by decide)) ?_
  rw [cl_nI (show i + 2 < 2 ^ 31 by omega)]
  refine H_call (nx := 754) (n := 0) (As := [.int (Z.xs (i + 1)), .int (Z.xs (i + 2))]) C ⟨dL_law_751, rfl⟩ kL_94 rfl q_0 rfl (Nat.le_of_ble_eq_true rfl) (Nat.le_of_ble_eq_true rfl) (G_mono (op_kernel (l := Z.l) (d := 0) (J := J) hI) (fun v I1 J1 R1 h => ?_))
  refine H_aload (nx := 755) C ⟨dL_law_754, rfl⟩ rfl ?_
  refine H_aload (nx := 756) C ⟨dL_law_755, rfl⟩ rfl ?_
  refine H_iload (nx := 757) C ⟨dL_law_756, rfl⟩ rfl ?_
  refine H_iconst (nx := 758) C ⟨dL_law_757, rfl⟩ ci_1 ?_
  refine H_iadd (nx := 759) C ⟨dL_law_758, rfl⟩ ?_
  rw [show nI i + 1 = nI (i + 1) from nI_add i 1]
  refine H_sld (nx := 760) C ⟨dL_law_759, rfl⟩ (inZ h6 hn (by decide)) ?_
  rw [cl_nI (show i + 1 < 2 ^ 31 by omega)]
  refine H_aload (nx := 761) C ⟨dL_law_760, rfl⟩ rfl ?_
  refine H_iload (nx := 762) C ⟨dL_law_761, rfl⟩ rfl ?_
  refine H_iconst (nx := 763) C ⟨dL_law_762, rfl⟩ ci_2 ?_
  refine H_iadd (nx := 764) C ⟨dL_law_763, rfl⟩ ?_
  rw [show nI i + 2 = nI (i + 2) from nI_add i 2]
  refine H_sld (nx := 765) C ⟨dL_law_764, rfl⟩ (inZ h6 hn (by decide)) ?_
  rw [cl_nI (show i + 2 < 2 ^ 31 by omega)]
  refine H_call (nx := 768) (n := 0) (As := [.int (Z.xs (i + 1)), .int (Z.xs (i + 2))]) C ⟨dL_law_765, rfl⟩ kL_97 rfl q_75 rfl (cat1 v) (Nat.le_of_ble_eq_true rfl) (G_mono h (fun v2 I2 J2 R2 hq => ?_))
  obtain ⟨⟨x, rfl, rfl⟩, g2, rfl, hI2⟩ := hq
  exact H_icmpeq (tgt := 1697) (nx := 771) C ⟨dL_law_768, rfl⟩ rfl (hk I2 J2 g2 hI2)
theorem cs_20 (C : CLx Z) (hI : INV I g) (h6 : i + 6 ≤ Z.n) (hn : Z.n ≤ 3072) (hk : ∀ (I : AI) (J : AJ) (g : Bool), INV I g → GL Z 1697 [.ref 1030, .ref 0, .ref 75, .int (nI i)] [] I J (rX g)) : GL Z 773 [.ref 1030, .ref 0, .ref 75, .int (nI i)] [] I J (rX g) := by
  refine H_aload (nx := 774) C ⟨dL_law_773, rfl⟩ rfl ?_
  refine H_aload (nx := 775) C ⟨dL_law_774, rfl⟩ rfl ?_
  refine H_iload (nx := 776) C ⟨dL_law_775, rfl⟩ rfl ?_
  refine H_iconst (nx := 777) C ⟨dL_law_776, rfl⟩ ci_1 ?_
  refine H_iadd (nx := 778) C ⟨dL_law_777, rfl⟩ ?_
  rw [show nI i + 1 = nI (i + 1) from nI_add i 1]
  refine H_sld (nx := 779) C ⟨dL_law_778, rfl⟩ (inZ h6 hn (by decide)) ?_
  rw [cl_nI (show i + 1 < 2 ^ 31 by omega)]
  refine H_aload (nx := 780) C ⟨dL_law_779, rfl⟩ rfl ?_
  refine H_iload (nx := 781) C ⟨dL_law_780, rfl⟩ rfl ?_
  refine H_iconst (nx := 782) C ⟨dL_law_781, rfl⟩ ci_2 ?_
  refine H_iadd (nx := 783) C ⟨dL_law_782, rfl⟩ ?_
  rw [show nI i + 2 = nI (i + 2) from nI_add i 2]
  refine H_sld (nx := 784) C ⟨dL_law_783, rfl⟩ (inZ h6 hn (by decide)) ?_
  rw [cl_nI (show i + 2 < 2 ^ 31 by omega)]
  refine H_aload (nx := 785) C ⟨dL_law_784, rfl⟩ rfl ?_
  refine H_iload (nx := 786) C ⟨dL_law_785, rfl⟩ rfl ?_
  refine H_iconst (nx := 787) C ⟨dL_law_786, rfl⟩ ci_3 ?_
  refine H_iadd (nx := 788) C ⟨dL_law_787, rfl⟩ ?_
  rw [show nI i + 3 = nI (i + 3) from nI_add i 3]
  refine H_sld (nx := 789) C ⟨dL_law_788, rfl⟩ (inZ h6 hn (by decide)) ?_
  rw [cl_nI (show i + 3 < 2 ^ 31 by omega)]
  refine H_call (nx := 792) (n := 0) (As := [.int (Z.xs (i + 1)), .int (Z.xs (i + 2)), .int (Z.xs (i + 3))]) C ⟨dL_law_789, rfl⟩ kL_98 rfl q_0 rfl (Nat.le_of_ble_eq_true rfl) (Nat.le_of_ble_eq_true rfl) (G_mono (op_round (l := Z.l) (d := 0) (J := J) hI) (fun v I1 J1 R1 h => ?_))
  refine H_aload (nx := 793) C ⟨dL_law_792, rfl⟩ rfl ?_
  refine H_aload (nx := 794) C ⟨dL_law_793, rfl⟩ rfl ?_
  refine H_iload (nx := 795) C ⟨dL_law_794, rfl⟩ rfl ?_
  refine H_iconst (nx := 796) C ⟨dL_law_795, rfl⟩ ci_1 ?_
  refine H_iadd (nx := 797) C ⟨dL_law_796, rfl⟩ ?_
  rw [show nI i + 1 = nI (i + 1) from nI_add i 1]
  refine H_sld (nx := 798) C ⟨dL_law_797, rfl⟩ (inZ h6 hn (by decide)) ?_
  rw [cl_nI (show i + 1 < 2 ^ 31 by omega)]
  refine H_aload (nx := 799) C ⟨dL_law_798, rfl⟩ rfl ?_
  refine H_iload (nx := 800) C ⟨dL_law_799, rfl⟩ rfl ?_
  refine H_iconst (nx := 801) C ⟨dL_law_800, rfl⟩ ci_2 ?_
  refine H_iadd (nx := 802) C ⟨dL_law_801, rfl⟩ ?_
  rw [show nI i + 2 = nI (i + 2) from nI_add i 2]
  refine H_sld (nx := 803) C ⟨dL_law_802, rfl⟩ (inZ h6 hn (by decide)) ?_
  rw [cl_nI (show i + 2 < 2 ^ 31 by omega)]
  refine H_aload (nx := 804) C ⟨dL_law_803, rfl⟩ rfl ?_
  refine H_iload (nx := 805) C ⟨dL_law_804, rfl⟩ rfl ?_
  refine H_iconst (nx := 806) C ⟨dL_law_805, rfl⟩ ci_3 ?_
  refine H_iadd (nx := 807) C ⟨dL_law_806, rfl⟩ ?_
  rw [show nI i + 3 = nI (i + 3) from nI_add i 3]
  refine H_sld (nx := 808) C ⟨dL_law_807, rfl⟩ (inZ h6 hn (by decide)) ?_
  rw [cl_nI (show i + 3 < 2 ^ 31 by omega)]
  refine H_call (nx := 811) (n := 0) (As := [.int (Z.xs (i + 1)), .int (Z.xs (i + 2)), .int (Z.xs (i + 3))]) C ⟨dL_law_808, rfl⟩ kL_101 rfl q_75 rfl (cat1 v) (Nat.le_of_ble_eq_true rfl) (G_mono h (fun v2 I2 J2 R2 hq => ?_))
  obtain ⟨⟨x, rfl, rfl⟩, g2, rfl, hI2⟩ := hq
  exact H_icmpeq (tgt := 1697) (nx := 814) C ⟨dL_law_811, rfl⟩ rfl (hk I2 J2 g2 hI2)
theorem cs_21 (C : CLx Z) (hI : INV I g) (h6 : i + 6 ≤ Z.n) (hn : Z.n ≤ 3072) (hk : ∀ (I : AI) (J : AJ) (g : Bool), INV I g → GL Z 1697 [.ref 1030, .ref 0, .ref 75, .int (nI i)] [] I J (rX g)) : GL Z 816 [.ref 1030, .ref 0, .ref 75, .int (nI i)] [] I J (rX g) := by
  refine H_aload (nx := 817) C ⟨dL_law_816, rfl⟩ rfl ?_
  refine H_aload (nx := 818) C ⟨dL_law_817, rfl⟩ rfl ?_
  refine H_iload (nx := 819) C ⟨dL_law_818, rfl⟩ rfl ?_
  refine H_iconst (nx := 820) C ⟨dL_law_819, rfl⟩ ci_1 ?_
  refine H_iadd (nx := 821) C ⟨dL_law_820, rfl⟩ ?_
  rw [show nI i + 1 = nI (i + 1) from nI_add i 1]
  refine H_sld (nx := 822) C ⟨dL_law_821, rfl⟩ (inZ h6 hn (by decide)) ?_
  rw [cl_nI (show i + 1 < 2 ^ 31 by omega)]
  refine H_call (nx := 825) (n := 0) (As := [.int (Z.xs (i + 1))]) C ⟨dL_law_822, rfl⟩ kL_102 rfl q_0 rfl (Nat.le_of_ble_eq_true rfl) (Nat.le_of_ble_eq_true rfl) (G_mono (op_pack (l := Z.l) (d := 0) (J := J) hI) (fun v I1 J1 R1 h => ?_))
  refine H_aload (nx := 826) C ⟨dL_law_825, rfl⟩ rfl ?_
  refine H_aload (nx := 827) C ⟨dL_law_826, rfl⟩ rfl ?_
  refine H_iload (nx := 828) C ⟨dL_law_827, rfl⟩ rfl ?_
  refine H_iconst (nx := 829) C ⟨dL_law_828, rfl⟩ ci_1 ?_
  refine H_iadd (nx := 830) C ⟨dL_law_829, rfl⟩ ?_
  rw [show nI i + 1 = nI (i + 1) from nI_add i 1]
  refine H_sld (nx := 831) C ⟨dL_law_830, rfl⟩ (inZ h6 hn (by decide)) ?_
  rw [cl_nI (show i + 1 < 2 ^ 31 by omega)]
  refine H_call (nx := 834) (n := 5) (As := [.int (Z.xs (i + 1))]) C ⟨dL_law_831, rfl⟩ kL_105 rfl q_75 rfl (cat1 v) (Nat.le_of_ble_eq_true rfl) (G_mono h (fun v2 I2 J2 R2 hq => ?_))
  obtain ⟨⟨x, rfl, rfl⟩, g2, rfl, hI2⟩ := hq
  exact H_icmpeq (tgt := 1697) (nx := 837) C ⟨dL_law_834, rfl⟩ rfl (hk I2 J2 g2 hI2)
theorem cs_22 (C : CLx Z) (hI : INV I g) (h6 : i + 6 ≤ Z.n) (hn : Z.n ≤ 3072) (hk : ∀ (I : AI) (J : AJ) (g : Bool), INV I g → GL Z 1697 [.ref 1030, .ref 0, .ref 75, .int (nI i)] [] I J (rX g)) : GL Z 839 [.ref 1030, .ref 0, .ref 75, .int (nI i)] [] I J (rX g) := by
  refine H_aload (nx := 840) C ⟨dL_law_839, rfl⟩ rfl ?_
  refine H_aload (nx := 841) C ⟨dL_law_840, rfl⟩ rfl ?_
  refine H_iload (nx := 842) C ⟨dL_law_841, rfl⟩ rfl ?_
  refine H_iconst (nx := 843) C ⟨dL_law_842, rfl⟩ ci_1 ?_
  refine H_iadd (nx := 844) C ⟨dL_law_843, rfl⟩ ?_
  rw [show nI i + 1 = nI (i + 1) from nI_add i 1]
  refine H_sld (nx := 845) C ⟨dL_law_844, rfl⟩ (inZ h6 hn (by decide)) ?_
  rw [cl_nI (show i + 1 < 2 ^ 31 by omega)]
  refine H_call (nx := 848) (n := 4) (As := [.int (Z.xs (i + 1))]) C ⟨dL_law_845, rfl⟩ kL_106 rfl q_0 rfl (Nat.le_of_ble_eq_true rfl) (Nat.le_of_ble_eq_true rfl) (G_mono (op_packs (l := Z.l) (d := 0) (J := J) hI) (fun v I1 J1 R1 h => ?_))
  refine H_aload (nx := 849) C ⟨dL_law_848, rfl⟩ rfl ?_
  refine H_aload (nx := 850) C ⟨dL_law_849, rfl⟩ rfl ?_
  refine H_iload (nx := 851) C ⟨dL_law_850, rfl⟩ rfl ?_
  refine H_iconst (nx := 852) C ⟨dL_law_851, rfl⟩ ci_1 ?_
  refine H_iadd (nx := 853) C ⟨dL_law_852, rfl⟩ ?_
  rw [show nI i + 1 = nI (i + 1) from nI_add i 1]
  refine H_sld (nx := 854) C ⟨dL_law_853, rfl⟩ (inZ h6 hn (by decide)) ?_
  rw [cl_nI (show i + 1 < 2 ^ 31 by omega)]
  refine H_call (nx := 857) (n := 4) (As := [.int (Z.xs (i + 1))]) C ⟨dL_law_854, rfl⟩ kL_109 rfl q_75 rfl (cat1 v) (Nat.le_of_ble_eq_true rfl) (G_mono h (fun v2 I2 J2 R2 hq => ?_))
  obtain ⟨⟨x, rfl, rfl⟩, g2, rfl, hI2⟩ := hq
  exact H_icmpeq (tgt := 1697) (nx := 860) C ⟨dL_law_857, rfl⟩ rfl (hk I2 J2 g2 hI2)
theorem cs_23 (C : CLx Z) (hI : INV I g) (h6 : i + 6 ≤ Z.n) (hn : Z.n ≤ 3072) (hk : ∀ (I : AI) (J : AJ) (g : Bool), INV I g → GL Z 1697 [.ref 1030, .ref 0, .ref 75, .int (nI i)] [] I J (rX g)) : GL Z 862 [.ref 1030, .ref 0, .ref 75, .int (nI i)] [] I J (rX g) := by
  refine H_aload (nx := 863) C ⟨dL_law_862, rfl⟩ rfl ?_
  refine H_aload (nx := 864) C ⟨dL_law_863, rfl⟩ rfl ?_
  refine H_iload (nx := 865) C ⟨dL_law_864, rfl⟩ rfl ?_
  refine H_iconst (nx := 866) C ⟨dL_law_865, rfl⟩ ci_1 ?_
  refine H_iadd (nx := 867) C ⟨dL_law_866, rfl⟩ ?_
  rw [show nI i + 1 = nI (i + 1) from nI_add i 1]
  refine H_sld (nx := 868) C ⟨dL_law_867, rfl⟩ (inZ h6 hn (by decide)) ?_
  rw [cl_nI (show i + 1 < 2 ^ 31 by omega)]
  refine H_aload (nx := 869) C ⟨dL_law_868, rfl⟩ rfl ?_
  refine H_iload (nx := 870) C ⟨dL_law_869, rfl⟩ rfl ?_
  refine H_iconst (nx := 871) C ⟨dL_law_870, rfl⟩ ci_2 ?_
  refine H_iadd (nx := 872) C ⟨dL_law_871, rfl⟩ ?_
  rw [show nI i + 2 = nI (i + 2) from nI_add i 2]
  refine H_sld (nx := 873) C ⟨dL_law_872, rfl⟩ (inZ h6 hn (by decide)) ?_
  rw [cl_nI (show i + 2 < 2 ^ 31 by omega)]
  refine H_call (nx := 876) (n := 0) (As := [.int (Z.xs (i + 1)), .int (Z.xs (i + 2))]) C ⟨dL_law_873, rfl⟩ kL_110 rfl q_0 rfl (Nat.le_of_ble_eq_true rfl) (Nat.le_of_ble_eq_true rfl) (G_mono (op_search (l := Z.l) (d := 0) (J := J) hI) (fun v I1 J1 R1 h => ?_))
  refine H_aload (nx := 877) C ⟨dL_law_876, rfl⟩ rfl ?_
  refine H_aload (nx := 878) C ⟨dL_law_877, rfl⟩ rfl ?_
  refine H_iload (nx := 879) C ⟨dL_law_878, rfl⟩ rfl ?_
  refine H_iconst (nx := 880) C ⟨dL_law_879, rfl⟩ ci_1 ?_
  refine H_iadd (nx := 881) C ⟨dL_law_880, rfl⟩ ?_
  rw [show nI i + 1 = nI (i + 1) from nI_add i 1]
  refine H_sld (nx := 882) C ⟨dL_law_881, rfl⟩ (inZ h6 hn (by decide)) ?_
  rw [cl_nI (show i + 1 < 2 ^ 31 by omega)]
  refine H_aload (nx := 883) C ⟨dL_law_882, rfl⟩ rfl ?_
  refine H_iload (nx := 884) C ⟨dL_law_883, rfl⟩ rfl ?_
  refine H_iconst (nx := 885) C ⟨dL_law_884, rfl⟩ ci_2 ?_
  refine H_iadd (nx := 886) C ⟨dL_law_885, rfl⟩ ?_
  rw [show nI i + 2 = nI (i + 2) from nI_add i 2]
  refine H_sld (nx := 887) C ⟨dL_law_886, rfl⟩ (inZ h6 hn (by decide)) ?_
  rw [cl_nI (show i + 2 < 2 ^ 31 by omega)]
  refine H_call (nx := 890) (n := 1) (As := [.int (Z.xs (i + 1)), .int (Z.xs (i + 2))]) C ⟨dL_law_887, rfl⟩ kL_113 rfl q_75 rfl (cat1 v) (Nat.le_of_ble_eq_true rfl) (G_mono h (fun v2 I2 J2 R2 hq => ?_))
  obtain ⟨⟨x, rfl, rfl⟩, g2, rfl, hI2⟩ := hq
  exact H_icmpeq (tgt := 1697) (nx := 893) C ⟨dL_law_890, rfl⟩ rfl (hk I2 J2 g2 hI2)
theorem cs_24 (C : CLx Z) (hI : INV I g) (h6 : i + 6 ≤ Z.n) (hn : Z.n ≤ 3072) (hk : ∀ (I : AI) (J : AJ) (g : Bool), INV I g → GL Z 1697 [.ref 1030, .ref 0, .ref 75, .int (nI i)] [] I J (rX g)) : GL Z 895 [.ref 1030, .ref 0, .ref 75, .int (nI i)] [] I J (rX g) := by
  refine H_aload (nx := 896) C ⟨dL_law_895, rfl⟩ rfl ?_
  refine H_aload (nx := 897) C ⟨dL_law_896, rfl⟩ rfl ?_
  refine H_iload (nx := 898) C ⟨dL_law_897, rfl⟩ rfl ?_
  refine H_iconst (nx := 899) C ⟨dL_law_898, rfl⟩ ci_1 ?_
  refine H_iadd (nx := 900) C ⟨dL_law_899, rfl⟩ ?_
  rw [show nI i + 1 = nI (i + 1) from nI_add i 1]
  refine H_sld (nx := 901) C ⟨dL_law_900, rfl⟩ (inZ h6 hn (by decide)) ?_
  rw [cl_nI (show i + 1 < 2 ^ 31 by omega)]
  refine H_aload (nx := 902) C ⟨dL_law_901, rfl⟩ rfl ?_
  refine H_iload (nx := 903) C ⟨dL_law_902, rfl⟩ rfl ?_
  refine H_iconst (nx := 904) C ⟨dL_law_903, rfl⟩ ci_2 ?_
  refine H_iadd (nx := 905) C ⟨dL_law_904, rfl⟩ ?_
  rw [show nI i + 2 = nI (i + 2) from nI_add i 2]
  refine H_sld (nx := 906) C ⟨dL_law_905, rfl⟩ (inZ h6 hn (by decide)) ?_
  rw [cl_nI (show i + 2 < 2 ^ 31 by omega)]
  refine H_aload (nx := 907) C ⟨dL_law_906, rfl⟩ rfl ?_
  refine H_iload (nx := 908) C ⟨dL_law_907, rfl⟩ rfl ?_
  refine H_iconst (nx := 909) C ⟨dL_law_908, rfl⟩ ci_3 ?_
  refine H_iadd (nx := 910) C ⟨dL_law_909, rfl⟩ ?_
  rw [show nI i + 3 = nI (i + 3) from nI_add i 3]
  refine H_sld (nx := 911) C ⟨dL_law_910, rfl⟩ (inZ h6 hn (by decide)) ?_
  rw [cl_nI (show i + 3 < 2 ^ 31 by omega)]
  refine H_call (nx := 914) (n := 0) (As := [.int (Z.xs (i + 1)), .int (Z.xs (i + 2)), .int (Z.xs (i + 3))]) C ⟨dL_law_911, rfl⟩ kL_114 rfl q_0 rfl (Nat.le_of_ble_eq_true rfl) (Nat.le_of_ble_eq_true rfl) (G_mono (op_node (l := Z.l) (d := 0) (J := J) hI) (fun v I1 J1 R1 h => ?_))
  refine H_aload (nx := 915) C ⟨dL_law_914, rfl⟩ rfl ?_
  refine H_aload (nx := 916) C ⟨dL_law_915, rfl⟩ rfl ?_
  refine H_iload (nx := 917) C ⟨dL_law_916, rfl⟩ rfl ?_
  refine H_iconst (nx := 918) C ⟨dL_law_917, rfl⟩ ci_1 ?_
  refine H_iadd (nx := 919) C ⟨dL_law_918, rfl⟩ ?_
  rw [show nI i + 1 = nI (i + 1) from nI_add i 1]
  refine H_sld (nx := 920) C ⟨dL_law_919, rfl⟩ (inZ h6 hn (by decide)) ?_
  rw [cl_nI (show i + 1 < 2 ^ 31 by omega)]
  refine H_aload (nx := 921) C ⟨dL_law_920, rfl⟩ rfl ?_
  refine H_iload (nx := 922) C ⟨dL_law_921, rfl⟩ rfl ?_
  refine H_iconst (nx := 923) C ⟨dL_law_922, rfl⟩ ci_2 ?_
  refine H_iadd (nx := 924) C ⟨dL_law_923, rfl⟩ ?_
  rw [show nI i + 2 = nI (i + 2) from nI_add i 2]
  refine H_sld (nx := 925) C ⟨dL_law_924, rfl⟩ (inZ h6 hn (by decide)) ?_
  rw [cl_nI (show i + 2 < 2 ^ 31 by omega)]
  refine H_aload (nx := 926) C ⟨dL_law_925, rfl⟩ rfl ?_
  refine H_iload (nx := 927) C ⟨dL_law_926, rfl⟩ rfl ?_
  refine H_iconst (nx := 928) C ⟨dL_law_927, rfl⟩ ci_3 ?_
  refine H_iadd (nx := 929) C ⟨dL_law_928, rfl⟩ ?_
  rw [show nI i + 3 = nI (i + 3) from nI_add i 3]
  refine H_sld (nx := 930) C ⟨dL_law_929, rfl⟩ (inZ h6 hn (by decide)) ?_
  rw [cl_nI (show i + 3 < 2 ^ 31 by omega)]
  refine H_call (nx := 933) (n := 1) (As := [.int (Z.xs (i + 1)), .int (Z.xs (i + 2)), .int (Z.xs (i + 3))]) C ⟨dL_law_930, rfl⟩ kL_117 rfl q_75 rfl (cat1 v) (Nat.le_of_ble_eq_true rfl) (G_mono h (fun v2 I2 J2 R2 hq => ?_))
  obtain ⟨⟨x, rfl, rfl⟩, g2, rfl, hI2⟩ := hq
  exact H_icmpeq (tgt := 1697) (nx := 936) C ⟨dL_law_933, rfl⟩ rfl (hk I2 J2 g2 hI2)
theorem cs_25 (C : CLx Z) (hI : INV I g) (h6 : i + 6 ≤ Z.n) (hn : Z.n ≤ 3072) (hk : ∀ (I : AI) (J : AJ) (g : Bool), INV I g → GL Z 1697 [.ref 1030, .ref 0, .ref 75, .int (nI i)] [] I J (rX g)) : GL Z 938 [.ref 1030, .ref 0, .ref 75, .int (nI i)] [] I J (rX g) := by
  refine H_aload (nx := 939) C ⟨dL_law_938, rfl⟩ rfl ?_
  refine H_aload (nx := 940) C ⟨dL_law_939, rfl⟩ rfl ?_
  refine H_iload (nx := 941) C ⟨dL_law_940, rfl⟩ rfl ?_
  refine H_iconst (nx := 942) C ⟨dL_law_941, rfl⟩ ci_1 ?_
  refine H_iadd (nx := 943) C ⟨dL_law_942, rfl⟩ ?_
  rw [show nI i + 1 = nI (i + 1) from nI_add i 1]
  refine H_sld (nx := 944) C ⟨dL_law_943, rfl⟩ (inZ h6 hn (by decide)) ?_
  rw [cl_nI (show i + 1 < 2 ^ 31 by omega)]
  refine H_aload (nx := 945) C ⟨dL_law_944, rfl⟩ rfl ?_
  refine H_iload (nx := 946) C ⟨dL_law_945, rfl⟩ rfl ?_
  refine H_iconst (nx := 947) C ⟨dL_law_946, rfl⟩ ci_2 ?_
  refine H_iadd (nx := 948) C ⟨dL_law_947, rfl⟩ ?_
  rw [show nI i + 2 = nI (i + 2) from nI_add i 2]
  refine H_sld (nx := 949) C ⟨dL_law_948, rfl⟩ (inZ h6 hn (by decide)) ?_
  rw [cl_nI (show i + 2 < 2 ^ 31 by omega)]
  refine H_call (nx := 952) (n := 1) (As := [.int (Z.xs (i + 1)), .int (Z.xs (i + 2))]) C ⟨dL_law_949, rfl⟩ kL_118 rfl q_0 rfl (Nat.le_of_ble_eq_true rfl) (Nat.le_of_ble_eq_true rfl) (G_mono (op_prove (l := Z.l) (d := 0) (J := J) hI) (fun v I1 J1 R1 h => ?_))
  refine H_aload (nx := 953) C ⟨dL_law_952, rfl⟩ rfl ?_
  refine H_aload (nx := 954) C ⟨dL_law_953, rfl⟩ rfl ?_
  refine H_iload (nx := 955) C ⟨dL_law_954, rfl⟩ rfl ?_
  refine H_iconst (nx := 956) C ⟨dL_law_955, rfl⟩ ci_1 ?_
  refine H_iadd (nx := 957) C ⟨dL_law_956, rfl⟩ ?_
  rw [show nI i + 1 = nI (i + 1) from nI_add i 1]
  refine H_sld (nx := 958) C ⟨dL_law_957, rfl⟩ (inZ h6 hn (by decide)) ?_
  rw [cl_nI (show i + 1 < 2 ^ 31 by omega)]
  refine H_aload (nx := 959) C ⟨dL_law_958, rfl⟩ rfl ?_
  refine H_iload (nx := 960) C ⟨dL_law_959, rfl⟩ rfl ?_
  refine H_iconst (nx := 961) C ⟨dL_law_960, rfl⟩ ci_2 ?_
  refine H_iadd (nx := 962) C ⟨dL_law_961, rfl⟩ ?_
  rw [show nI i + 2 = nI (i + 2) from nI_add i 2]
  refine H_sld (nx := 963) C ⟨dL_law_962, rfl⟩ (inZ h6 hn (by decide)) ?_
  rw [cl_nI (show i + 2 < 2 ^ 31 by omega)]
  refine H_call (nx := 966) (n := 1) (As := [.int (Z.xs (i + 1)), .int (Z.xs (i + 2))]) C ⟨dL_law_963, rfl⟩ kL_121 rfl q_75 rfl (cat1 v) (Nat.le_of_ble_eq_true rfl) (G_mono h (fun v2 I2 J2 R2 hq => ?_))
  obtain ⟨⟨x, rfl, rfl⟩, g2, rfl, hI2⟩ := hq
  exact H_icmpeq (tgt := 1697) (nx := 969) C ⟨dL_law_966, rfl⟩ rfl (hk I2 J2 g2 hI2)
theorem cs_26 (C : CLx Z) (hI : INV I g) (h6 : i + 6 ≤ Z.n) (hn : Z.n ≤ 3072) (hk : ∀ (I : AI) (J : AJ) (g : Bool), INV I g → GL Z 1697 [.ref 1030, .ref 0, .ref 75, .int (nI i)] [] I J (rX g)) : GL Z 971 [.ref 1030, .ref 0, .ref 75, .int (nI i)] [] I J (rX g) := by
  refine H_aload (nx := 972) C ⟨dL_law_971, rfl⟩ rfl ?_
  refine H_aload (nx := 973) C ⟨dL_law_972, rfl⟩ rfl ?_
  refine H_iload (nx := 974) C ⟨dL_law_973, rfl⟩ rfl ?_
  refine H_iconst (nx := 975) C ⟨dL_law_974, rfl⟩ ci_1 ?_
  refine H_iadd (nx := 976) C ⟨dL_law_975, rfl⟩ ?_
  rw [show nI i + 1 = nI (i + 1) from nI_add i 1]
  refine H_sld (nx := 977) C ⟨dL_law_976, rfl⟩ (inZ h6 hn (by decide)) ?_
  rw [cl_nI (show i + 1 < 2 ^ 31 by omega)]
  refine H_aload (nx := 978) C ⟨dL_law_977, rfl⟩ rfl ?_
  refine H_iload (nx := 979) C ⟨dL_law_978, rfl⟩ rfl ?_
  refine H_iconst (nx := 980) C ⟨dL_law_979, rfl⟩ ci_2 ?_
  refine H_iadd (nx := 981) C ⟨dL_law_980, rfl⟩ ?_
  rw [show nI i + 2 = nI (i + 2) from nI_add i 2]
  refine H_sld (nx := 982) C ⟨dL_law_981, rfl⟩ (inZ h6 hn (by decide)) ?_
  rw [cl_nI (show i + 2 < 2 ^ 31 by omega)]
  refine H_call (nx := 985) (n := 1) (As := [.int (Z.xs (i + 1)), .int (Z.xs (i + 2))]) C ⟨dL_law_982, rfl⟩ kL_122 rfl q_0 rfl (Nat.le_of_ble_eq_true rfl) (Nat.le_of_ble_eq_true rfl) (G_mono (op_proves (l := Z.l) (d := 0) (J := J) hI) (fun v I1 J1 R1 h => ?_))
  refine H_aload (nx := 986) C ⟨dL_law_985, rfl⟩ rfl ?_
  refine H_aload (nx := 987) C ⟨dL_law_986, rfl⟩ rfl ?_
  refine H_iload (nx := 988) C ⟨dL_law_987, rfl⟩ rfl ?_
  refine H_iconst (nx := 989) C ⟨dL_law_988, rfl⟩ ci_1 ?_
  refine H_iadd (nx := 990) C ⟨dL_law_989, rfl⟩ ?_
  rw [show nI i + 1 = nI (i + 1) from nI_add i 1]
  refine H_sld (nx := 991) C ⟨dL_law_990, rfl⟩ (inZ h6 hn (by decide)) ?_
  rw [cl_nI (show i + 1 < 2 ^ 31 by omega)]
  refine H_aload (nx := 992) C ⟨dL_law_991, rfl⟩ rfl ?_
  refine H_iload (nx := 993) C ⟨dL_law_992, rfl⟩ rfl ?_
  refine H_iconst (nx := 994) C ⟨dL_law_993, rfl⟩ ci_2 ?_
  refine H_iadd (nx := 995) C ⟨dL_law_994, rfl⟩ ?_
  rw [show nI i + 2 = nI (i + 2) from nI_add i 2]
  refine H_sld (nx := 996) C ⟨dL_law_995, rfl⟩ (inZ h6 hn (by decide)) ?_
  rw [cl_nI (show i + 2 < 2 ^ 31 by omega)]
  refine H_call (nx := 999) (n := 0) (As := [.int (Z.xs (i + 1)), .int (Z.xs (i + 2))]) C ⟨dL_law_996, rfl⟩ kL_125 rfl q_75 rfl (cat1 v) (Nat.le_of_ble_eq_true rfl) (G_mono h (fun v2 I2 J2 R2 hq => ?_))
  obtain ⟨⟨x, rfl, rfl⟩, g2, rfl, hI2⟩ := hq
  exact H_icmpeq (tgt := 1697) (nx := 1002) C ⟨dL_law_999, rfl⟩ rfl (hk I2 J2 g2 hI2)
theorem cs_27 (C : CLx Z) (hI : INV I g) (h6 : i + 6 ≤ Z.n) (hn : Z.n ≤ 3072) (hk : ∀ (I : AI) (J : AJ) (g : Bool), INV I g → GL Z 1697 [.ref 1030, .ref 0, .ref 75, .int (nI i)] [] I J (rX g)) : GL Z 1004 [.ref 1030, .ref 0, .ref 75, .int (nI i)] [] I J (rX g) := by
  refine H_aload (nx := 1005) C ⟨dL_law_1004, rfl⟩ rfl ?_
  refine H_aload (nx := 1006) C ⟨dL_law_1005, rfl⟩ rfl ?_
  refine H_iload (nx := 1007) C ⟨dL_law_1006, rfl⟩ rfl ?_
  refine H_iconst (nx := 1008) C ⟨dL_law_1007, rfl⟩ ci_1 ?_
  refine H_iadd (nx := 1009) C ⟨dL_law_1008, rfl⟩ ?_
  rw [show nI i + 1 = nI (i + 1) from nI_add i 1]
  refine H_sld (nx := 1010) C ⟨dL_law_1009, rfl⟩ (inZ h6 hn (by decide)) ?_
  rw [cl_nI (show i + 1 < 2 ^ 31 by omega)]
  refine H_call (nx := 1013) (n := 0) (As := [.int (Z.xs (i + 1))]) C ⟨dL_law_1010, rfl⟩ kL_126 rfl q_0 rfl (Nat.le_of_ble_eq_true rfl) (Nat.le_of_ble_eq_true rfl) (G_mono (op_without (l := Z.l) (d := 0) (J := J) hI) (fun v I1 J1 R1 h => ?_))
  refine H_aload (nx := 1014) C ⟨dL_law_1013, rfl⟩ rfl ?_
  refine H_aload (nx := 1015) C ⟨dL_law_1014, rfl⟩ rfl ?_
  refine H_iload (nx := 1016) C ⟨dL_law_1015, rfl⟩ rfl ?_
  refine H_iconst (nx := 1017) C ⟨dL_law_1016, rfl⟩ ci_1 ?_
  refine H_iadd (nx := 1018) C ⟨dL_law_1017, rfl⟩ ?_
  rw [show nI i + 1 = nI (i + 1) from nI_add i 1]
  refine H_sld (nx := 1019) C ⟨dL_law_1018, rfl⟩ (inZ h6 hn (by decide)) ?_
  rw [cl_nI (show i + 1 < 2 ^ 31 by omega)]
  refine H_call (nx := 1022) (n := 3) (As := [.int (Z.xs (i + 1))]) C ⟨dL_law_1019, rfl⟩ kL_129 rfl q_75 rfl (cat1 v) (Nat.le_of_ble_eq_true rfl) (G_mono h (fun v2 I2 J2 R2 hq => ?_))
  obtain ⟨⟨x, rfl, rfl⟩, g2, rfl, hI2⟩ := hq
  exact H_icmpeq (tgt := 1697) (nx := 1025) C ⟨dL_law_1022, rfl⟩ rfl (hk I2 J2 g2 hI2)
theorem cs_28 (C : CLx Z) (hI : INV I g) (h6 : i + 6 ≤ Z.n) (hn : Z.n ≤ 3072) (hk : ∀ (I : AI) (J : AJ) (g : Bool), INV I g → GL Z 1697 [.ref 1030, .ref 0, .ref 75, .int (nI i)] [] I J (rX g)) : GL Z 1027 [.ref 1030, .ref 0, .ref 75, .int (nI i)] [] I J (rX g) := by
  refine H_aload (nx := 1028) C ⟨dL_law_1027, rfl⟩ rfl ?_
  refine H_aload (nx := 1029) C ⟨dL_law_1028, rfl⟩ rfl ?_
  refine H_iload (nx := 1030) C ⟨dL_law_1029, rfl⟩ rfl ?_
  refine H_iconst (nx := 1031) C ⟨dL_law_1030, rfl⟩ ci_1 ?_
  refine H_iadd (nx := 1032) C ⟨dL_law_1031, rfl⟩ ?_
  rw [show nI i + 1 = nI (i + 1) from nI_add i 1]
  refine H_sld (nx := 1033) C ⟨dL_law_1032, rfl⟩ (inZ h6 hn (by decide)) ?_
  rw [cl_nI (show i + 1 < 2 ^ 31 by omega)]
  refine H_call (nx := 1036) (n := 5) (As := [.int (Z.xs (i + 1))]) C ⟨dL_law_1033, rfl⟩ kL_130 rfl q_0 rfl (Nat.le_of_ble_eq_true rfl) (Nat.le_of_ble_eq_true rfl) (G_mono (op_cut (l := Z.l) (d := 0) (J := J) hI) (fun v I1 J1 R1 h => ?_))
  refine H_aload (nx := 1037) C ⟨dL_law_1036, rfl⟩ rfl ?_
  refine H_aload (nx := 1038) C ⟨dL_law_1037, rfl⟩ rfl ?_
  refine H_iload (nx := 1039) C ⟨dL_law_1038, rfl⟩ rfl ?_
  refine H_iconst (nx := 1040) C ⟨dL_law_1039, rfl⟩ ci_1 ?_
  refine H_iadd (nx := 1041) C ⟨dL_law_1040, rfl⟩ ?_
  rw [show nI i + 1 = nI (i + 1) from nI_add i 1]
  refine H_sld (nx := 1042) C ⟨dL_law_1041, rfl⟩ (inZ h6 hn (by decide)) ?_
  rw [cl_nI (show i + 1 < 2 ^ 31 by omega)]
  refine H_call (nx := 1045) (n := 0) (As := [.int (Z.xs (i + 1))]) C ⟨dL_law_1042, rfl⟩ kL_133 rfl q_75 rfl (cat1 v) (Nat.le_of_ble_eq_true rfl) (G_mono h (fun v2 I2 J2 R2 hq => ?_))
  obtain ⟨⟨x, rfl, rfl⟩, g2, rfl, hI2⟩ := hq
  exact H_icmpeq (tgt := 1697) (nx := 1048) C ⟨dL_law_1045, rfl⟩ rfl (hk I2 J2 g2 hI2)
theorem cs_29 (C : CLx Z) (hI : INV I g) (h6 : i + 6 ≤ Z.n) (hn : Z.n ≤ 3072) (hk : ∀ (I : AI) (J : AJ) (g : Bool), INV I g → GL Z 1697 [.ref 1030, .ref 0, .ref 75, .int (nI i)] [] I J (rX g)) : GL Z 1050 [.ref 1030, .ref 0, .ref 75, .int (nI i)] [] I J (rX g) := by
  refine H_aload (nx := 1051) C ⟨dL_law_1050, rfl⟩ rfl ?_
  refine H_aload (nx := 1052) C ⟨dL_law_1051, rfl⟩ rfl ?_
  refine H_iload (nx := 1053) C ⟨dL_law_1052, rfl⟩ rfl ?_
  refine H_iconst (nx := 1054) C ⟨dL_law_1053, rfl⟩ ci_1 ?_
  refine H_iadd (nx := 1055) C ⟨dL_law_1054, rfl⟩ ?_
  rw [show nI i + 1 = nI (i + 1) from nI_add i 1]
  refine H_sld (nx := 1056) C ⟨dL_law_1055, rfl⟩ (inZ h6 hn (by decide)) ?_
  rw [cl_nI (show i + 1 < 2 ^ 31 by omega)]
  refine H_call (nx := 1059) (n := 4) (As := [.int (Z.xs (i + 1))]) C ⟨dL_law_1056, rfl⟩ kL_134 rfl q_0 rfl (Nat.le_of_ble_eq_true rfl) (Nat.le_of_ble_eq_true rfl) (G_mono (op_joins (l := Z.l) (d := 0) (J := J) hI) (fun v I1 J1 R1 h => ?_))
  refine H_aload (nx := 1060) C ⟨dL_law_1059, rfl⟩ rfl ?_
  refine H_aload (nx := 1061) C ⟨dL_law_1060, rfl⟩ rfl ?_
  refine H_iload (nx := 1062) C ⟨dL_law_1061, rfl⟩ rfl ?_
  refine H_iconst (nx := 1063) C ⟨dL_law_1062, rfl⟩ ci_1 ?_
  refine H_iadd (nx := 1064) C ⟨dL_law_1063, rfl⟩ ?_
  rw [show nI i + 1 = nI (i + 1) from nI_add i 1]
  refine H_sld (nx := 1065) C ⟨dL_law_1064, rfl⟩ (inZ h6 hn (by decide)) ?_
  rw [cl_nI (show i + 1 < 2 ^ 31 by omega)]
  refine H_call (nx := 1068) (n := 0) (As := [.int (Z.xs (i + 1))]) C ⟨dL_law_1065, rfl⟩ kL_137 rfl q_75 rfl (cat1 v) (Nat.le_of_ble_eq_true rfl) (G_mono h (fun v2 I2 J2 R2 hq => ?_))
  obtain ⟨⟨x, rfl, rfl⟩, g2, rfl, hI2⟩ := hq
  exact H_icmpeq (tgt := 1697) (nx := 1071) C ⟨dL_law_1068, rfl⟩ rfl (hk I2 J2 g2 hI2)
theorem cs_30 (C : CLx Z) (hI : INV I g) (h6 : i + 6 ≤ Z.n) (hn : Z.n ≤ 3072) (hk : ∀ (I : AI) (J : AJ) (g : Bool), INV I g → GL Z 1697 [.ref 1030, .ref 0, .ref 75, .int (nI i)] [] I J (rX g)) : GL Z 1073 [.ref 1030, .ref 0, .ref 75, .int (nI i)] [] I J (rX g) := by
  refine H_aload (nx := 1074) C ⟨dL_law_1073, rfl⟩ rfl ?_
  refine H_aload (nx := 1075) C ⟨dL_law_1074, rfl⟩ rfl ?_
  refine H_iload (nx := 1076) C ⟨dL_law_1075, rfl⟩ rfl ?_
  refine H_iconst (nx := 1077) C ⟨dL_law_1076, rfl⟩ ci_1 ?_
  refine H_iadd (nx := 1078) C ⟨dL_law_1077, rfl⟩ ?_
  rw [show nI i + 1 = nI (i + 1) from nI_add i 1]
  refine H_sld (nx := 1079) C ⟨dL_law_1078, rfl⟩ (inZ h6 hn (by decide)) ?_
  rw [cl_nI (show i + 1 < 2 ^ 31 by omega)]
  refine H_call (nx := 1082) (n := 2) (As := [.int (Z.xs (i + 1))]) C ⟨dL_law_1079, rfl⟩ kL_138 rfl q_0 rfl (Nat.le_of_ble_eq_true rfl) (Nat.le_of_ble_eq_true rfl) (G_mono (op_pays (l := Z.l) (d := 0) (J := J) hI) (fun v I1 J1 R1 h => ?_))
  refine H_aload (nx := 1083) C ⟨dL_law_1082, rfl⟩ rfl ?_
  refine H_aload (nx := 1084) C ⟨dL_law_1083, rfl⟩ rfl ?_
  refine H_iload (nx := 1085) C ⟨dL_law_1084, rfl⟩ rfl ?_
  refine H_iconst (nx := 1086) C ⟨dL_law_1085, rfl⟩ ci_1 ?_
  refine H_iadd (nx := 1087) C ⟨dL_law_1086, rfl⟩ ?_
  rw [show nI i + 1 = nI (i + 1) from nI_add i 1]
  refine H_sld (nx := 1088) C ⟨dL_law_1087, rfl⟩ (inZ h6 hn (by decide)) ?_
  rw [cl_nI (show i + 1 < 2 ^ 31 by omega)]
  refine H_call (nx := 1091) (n := 3) (As := [.int (Z.xs (i + 1))]) C ⟨dL_law_1088, rfl⟩ kL_141 rfl q_75 rfl (cat1 v) (Nat.le_of_ble_eq_true rfl) (G_mono h (fun v2 I2 J2 R2 hq => ?_))
  obtain ⟨⟨x, rfl, rfl⟩, g2, rfl, hI2⟩ := hq
  exact H_icmpeq (tgt := 1697) (nx := 1094) C ⟨dL_law_1091, rfl⟩ rfl (hk I2 J2 g2 hI2)
theorem cs_31 (C : CLx Z) (hI : INV I g) (h6 : i + 6 ≤ Z.n) (hn : Z.n ≤ 3072) (hk : ∀ (I : AI) (J : AJ) (g : Bool), INV I g → GL Z 1697 [.ref 1030, .ref 0, .ref 75, .int (nI i)] [] I J (rX g)) : GL Z 1096 [.ref 1030, .ref 0, .ref 75, .int (nI i)] [] I J (rX g) := by
  refine H_aload (nx := 1097) C ⟨dL_law_1096, rfl⟩ rfl ?_
  refine H_aload (nx := 1098) C ⟨dL_law_1097, rfl⟩ rfl ?_
  refine H_iload (nx := 1099) C ⟨dL_law_1098, rfl⟩ rfl ?_
  refine H_iconst (nx := 1100) C ⟨dL_law_1099, rfl⟩ ci_1 ?_
  refine H_iadd (nx := 1101) C ⟨dL_law_1100, rfl⟩ ?_
  rw [show nI i + 1 = nI (i + 1) from nI_add i 1]
  refine H_sld (nx := 1102) C ⟨dL_law_1101, rfl⟩ (inZ h6 hn (by decide)) ?_
  rw [cl_nI (show i + 1 < 2 ^ 31 by omega)]
  refine H_aload (nx := 1103) C ⟨dL_law_1102, rfl⟩ rfl ?_
  refine H_iload (nx := 1104) C ⟨dL_law_1103, rfl⟩ rfl ?_
  refine H_iconst (nx := 1105) C ⟨dL_law_1104, rfl⟩ ci_2 ?_
  refine H_iadd (nx := 1106) C ⟨dL_law_1105, rfl⟩ ?_
  rw [show nI i + 2 = nI (i + 2) from nI_add i 2]
  refine H_sld (nx := 1107) C ⟨dL_law_1106, rfl⟩ (inZ h6 hn (by decide)) ?_
  rw [cl_nI (show i + 2 < 2 ^ 31 by omega)]
  refine H_call (nx := 1110) (n := 0) (As := [.int (Z.xs (i + 1)), .int (Z.xs (i + 2))]) C ⟨dL_law_1107, rfl⟩ kL_142 rfl q_0 rfl (Nat.le_of_ble_eq_true rfl) (Nat.le_of_ble_eq_true rfl) (G_mono (op_paid (l := Z.l) (d := 0) (J := J) hI) (fun v I1 J1 R1 h => ?_))
  refine H_aload (nx := 1111) C ⟨dL_law_1110, rfl⟩ rfl ?_
  refine H_aload (nx := 1112) C ⟨dL_law_1111, rfl⟩ rfl ?_
  refine H_iload (nx := 1113) C ⟨dL_law_1112, rfl⟩ rfl ?_
  refine H_iconst (nx := 1114) C ⟨dL_law_1113, rfl⟩ ci_1 ?_
  refine H_iadd (nx := 1115) C ⟨dL_law_1114, rfl⟩ ?_
  rw [show nI i + 1 = nI (i + 1) from nI_add i 1]
  refine H_sld (nx := 1116) C ⟨dL_law_1115, rfl⟩ (inZ h6 hn (by decide)) ?_
  rw [cl_nI (show i + 1 < 2 ^ 31 by omega)]
  refine H_aload (nx := 1117) C ⟨dL_law_1116, rfl⟩ rfl ?_
  refine H_iload (nx := 1118) C ⟨dL_law_1117, rfl⟩ rfl ?_
  refine H_iconst (nx := 1119) C ⟨dL_law_1118, rfl⟩ ci_2 ?_
  refine H_iadd (nx := 1120) C ⟨dL_law_1119, rfl⟩ ?_
  rw [show nI i + 2 = nI (i + 2) from nI_add i 2]
  refine H_sld (nx := 1121) C ⟨dL_law_1120, rfl⟩ (inZ h6 hn (by decide)) ?_
  rw [cl_nI (show i + 2 < 2 ^ 31 by omega)]
  refine H_call (nx := 1124) (n := 0) (As := [.int (Z.xs (i + 1)), .int (Z.xs (i + 2))]) C ⟨dL_law_1121, rfl⟩ kL_145 rfl q_75 rfl (cat1 v) (Nat.le_of_ble_eq_true rfl) (G_mono h (fun v2 I2 J2 R2 hq => ?_))
  obtain ⟨⟨x, rfl, rfl⟩, g2, rfl, hI2⟩ := hq
  exact H_icmpeq (tgt := 1697) (nx := 1127) C ⟨dL_law_1124, rfl⟩ rfl (hk I2 J2 g2 hI2)
theorem cs_32 (C : CLx Z) (hI : INV I g) (h6 : i + 6 ≤ Z.n) (hn : Z.n ≤ 3072) (hk : ∀ (I : AI) (J : AJ) (g : Bool), INV I g → GL Z 1697 [.ref 1030, .ref 0, .ref 75, .int (nI i)] [] I J (rX g)) : GL Z 1129 [.ref 1030, .ref 0, .ref 75, .int (nI i)] [] I J (rX g) := by
  refine H_aload (nx := 1130) C ⟨dL_law_1129, rfl⟩ rfl ?_
  refine H_aload (nx := 1131) C ⟨dL_law_1130, rfl⟩ rfl ?_
  refine H_iload (nx := 1132) C ⟨dL_law_1131, rfl⟩ rfl ?_
  refine H_iconst (nx := 1133) C ⟨dL_law_1132, rfl⟩ ci_1 ?_
  refine H_iadd (nx := 1134) C ⟨dL_law_1133, rfl⟩ ?_
  rw [show nI i + 1 = nI (i + 1) from nI_add i 1]
  refine H_sld (nx := 1135) C ⟨dL_law_1134, rfl⟩ (inZ h6 hn (by decide)) ?_
  rw [cl_nI (show i + 1 < 2 ^ 31 by omega)]
  refine H_aload (nx := 1136) C ⟨dL_law_1135, rfl⟩ rfl ?_
  refine H_iload (nx := 1137) C ⟨dL_law_1136, rfl⟩ rfl ?_
  refine H_iconst (nx := 1138) C ⟨dL_law_1137, rfl⟩ ci_2 ?_
  refine H_iadd (nx := 1139) C ⟨dL_law_1138, rfl⟩ ?_
  rw [show nI i + 2 = nI (i + 2) from nI_add i 2]
  refine H_sld (nx := 1140) C ⟨dL_law_1139, rfl⟩ (inZ h6 hn (by decide)) ?_
  rw [cl_nI (show i + 2 < 2 ^ 31 by omega)]
  refine H_call (nx := 1143) (n := 1) (As := [.int (Z.xs (i + 1)), .int (Z.xs (i + 2))]) C ⟨dL_law_1140, rfl⟩ kL_146 rfl q_0 rfl (Nat.le_of_ble_eq_true rfl) (Nat.le_of_ble_eq_true rfl) (G_mono (op_feed (l := Z.l) (d := 0) (J := J) hI) (fun v I1 J1 R1 h => ?_))
  refine H_aload (nx := 1144) C ⟨dL_law_1143, rfl⟩ rfl ?_
  refine H_aload (nx := 1145) C ⟨dL_law_1144, rfl⟩ rfl ?_
  refine H_iload (nx := 1146) C ⟨dL_law_1145, rfl⟩ rfl ?_
  refine H_iconst (nx := 1147) C ⟨dL_law_1146, rfl⟩ ci_1 ?_
  refine H_iadd (nx := 1148) C ⟨dL_law_1147, rfl⟩ ?_
  rw [show nI i + 1 = nI (i + 1) from nI_add i 1]
  refine H_sld (nx := 1149) C ⟨dL_law_1148, rfl⟩ (inZ h6 hn (by decide)) ?_
  rw [cl_nI (show i + 1 < 2 ^ 31 by omega)]
  refine H_aload (nx := 1150) C ⟨dL_law_1149, rfl⟩ rfl ?_
  refine H_iload (nx := 1151) C ⟨dL_law_1150, rfl⟩ rfl ?_
  refine H_iconst (nx := 1152) C ⟨dL_law_1151, rfl⟩ ci_2 ?_
  refine H_iadd (nx := 1153) C ⟨dL_law_1152, rfl⟩ ?_
  rw [show nI i + 2 = nI (i + 2) from nI_add i 2]
  refine H_sld (nx := 1154) C ⟨dL_law_1153, rfl⟩ (inZ h6 hn (by decide)) ?_
  rw [cl_nI (show i + 2 < 2 ^ 31 by omega)]
  refine H_call (nx := 1157) (n := 1) (As := [.int (Z.xs (i + 1)), .int (Z.xs (i + 2))]) C ⟨dL_law_1154, rfl⟩ kL_149 rfl q_75 rfl (cat1 v) (Nat.le_of_ble_eq_true rfl) (G_mono h (fun v2 I2 J2 R2 hq => ?_))
  obtain ⟨⟨x, rfl, rfl⟩, g2, rfl, hI2⟩ := hq
  exact H_icmpeq (tgt := 1697) (nx := 1160) C ⟨dL_law_1157, rfl⟩ rfl (hk I2 J2 g2 hI2)
theorem cs_33 (C : CLx Z) (hI : INV I g) (h6 : i + 6 ≤ Z.n) (hn : Z.n ≤ 3072) (hk : ∀ (I : AI) (J : AJ) (g : Bool), INV I g → GL Z 1697 [.ref 1030, .ref 0, .ref 75, .int (nI i)] [] I J (rX g)) : GL Z 1162 [.ref 1030, .ref 0, .ref 75, .int (nI i)] [] I J (rX g) := by
  refine H_aload (nx := 1163) C ⟨dL_law_1162, rfl⟩ rfl ?_
  refine H_call (nx := 1166) (n := 1) (As := []) C ⟨dL_law_1163, rfl⟩ kL_150 rfl q_0 rfl (Nat.le_of_ble_eq_true rfl) (Nat.le_of_ble_eq_true rfl) (G_mono (op_wipe (l := Z.l) (d := 0) (J := J) hI) (fun v I1 J1 R1 h => ?_))
  refine H_aload (nx := 1167) C ⟨dL_law_1166, rfl⟩ rfl ?_
  refine H_call (nx := 1170) (n := 1) (As := []) C ⟨dL_law_1167, rfl⟩ kL_153 rfl q_75 rfl (cat1 v) (Nat.le_of_ble_eq_true rfl) (G_mono h (fun v2 I2 J2 R2 hq => ?_))
  obtain ⟨⟨x, rfl, rfl⟩, g2, rfl, hI2⟩ := hq
  exact H_icmpeq (tgt := 1697) (nx := 1173) C ⟨dL_law_1170, rfl⟩ rfl (hk I2 J2 g2 hI2)
theorem cs_34 (C : CLx Z) (hI : INV I g) (h6 : i + 6 ≤ Z.n) (hn : Z.n ≤ 3072) (hk : ∀ (I : AI) (J : AJ) (g : Bool), INV I g → GL Z 1697 [.ref 1030, .ref 0, .ref 75, .int (nI i)] [] I J (rX g)) : GL Z 1175 [.ref 1030, .ref 0, .ref 75, .int (nI i)] [] I J (rX g) := by
  refine H_aload (nx := 1176) C ⟨dL_law_1175, rfl⟩ rfl ?_
  refine H_call (nx := 1179) (n := 2) (As := []) C ⟨dL_law_1176, rfl⟩ kL_154 rfl q_0 rfl (Nat.le_of_ble_eq_true rfl) (Nat.le_of_ble_eq_true rfl) (G_mono (op_text (l := Z.l) (d := 0) (J := J) hI) (fun v I1 J1 R1 h => ?_))
  refine H_aload (nx := 1180) C ⟨dL_law_1179, rfl⟩ rfl ?_
  refine H_call (nx := 1183) (n := 2) (As := []) C ⟨dL_law_1180, rfl⟩ kL_157 rfl q_75 rfl (cat1 v) (Nat.le_of_ble_eq_true rfl) (G_mono h (fun v2 I2 J2 R2 hq => ?_))
  obtain ⟨⟨x, rfl, rfl⟩, g2, rfl, hI2⟩ := hq
  exact H_icmpeq (tgt := 1697) (nx := 1186) C ⟨dL_law_1183, rfl⟩ rfl (hk I2 J2 g2 hI2)
theorem cs_35 (C : CLx Z) (hI : INV I g) (h6 : i + 6 ≤ Z.n) (hn : Z.n ≤ 3072) (hk : ∀ (I : AI) (J : AJ) (g : Bool), INV I g → GL Z 1697 [.ref 1030, .ref 0, .ref 75, .int (nI i)] [] I J (rX g)) : GL Z 1188 [.ref 1030, .ref 0, .ref 75, .int (nI i)] [] I J (rX g) := by
  refine H_aload (nx := 1189) C ⟨dL_law_1188, rfl⟩ rfl ?_
  refine H_aload (nx := 1190) C ⟨dL_law_1189, rfl⟩ rfl ?_
  refine H_iload (nx := 1191) C ⟨dL_law_1190, rfl⟩ rfl ?_
  refine H_iconst (nx := 1192) C ⟨dL_law_1191, rfl⟩ ci_1 ?_
  refine H_iadd (nx := 1193) C ⟨dL_law_1192, rfl⟩ ?_
  rw [show nI i + 1 = nI (i + 1) from nI_add i 1]
  refine H_sld (nx := 1194) C ⟨dL_law_1193, rfl⟩ (inZ h6 hn (by decide)) ?_
  rw [cl_nI (show i + 1 < 2 ^ 31 by omega)]
  refine H_call (nx := 1197) (n := 0) (As := [.int (Z.xs (i + 1))]) C ⟨dL_law_1194, rfl⟩ kL_158 rfl q_0 rfl (Nat.le_of_ble_eq_true rfl) (Nat.le_of_ble_eq_true rfl) (G_mono (op_tree (l := Z.l) (d := 0) (J := J) hI) (fun v I1 J1 R1 h => ?_))
  refine H_aload (nx := 1198) C ⟨dL_law_1197, rfl⟩ rfl ?_
  refine H_aload (nx := 1199) C ⟨dL_law_1198, rfl⟩ rfl ?_
  refine H_iload (nx := 1200) C ⟨dL_law_1199, rfl⟩ rfl ?_
  refine H_iconst (nx := 1201) C ⟨dL_law_1200, rfl⟩ ci_1 ?_
  refine H_iadd (nx := 1202) C ⟨dL_law_1201, rfl⟩ ?_
  rw [show nI i + 1 = nI (i + 1) from nI_add i 1]
  refine H_sld (nx := 1203) C ⟨dL_law_1202, rfl⟩ (inZ h6 hn (by decide)) ?_
  rw [cl_nI (show i + 1 < 2 ^ 31 by omega)]
  refine H_call (nx := 1206) (n := 1) (As := [.int (Z.xs (i + 1))]) C ⟨dL_law_1203, rfl⟩ kL_161 rfl q_75 rfl (cat1 v) (Nat.le_of_ble_eq_true rfl) (G_mono h (fun v2 I2 J2 R2 hq => ?_))
  obtain ⟨⟨x, rfl, rfl⟩, g2, rfl, hI2⟩ := hq
  exact H_lcmpeq (tgt := 1697) (n1 := 1207) (nx := 1210) C ⟨dL_law_1206, rfl⟩ ⟨dL_law_1207, rfl⟩ rfl (hk I2 J2 g2 hI2)
theorem cs_36 (C : CLx Z) (hI : INV I g) (h6 : i + 6 ≤ Z.n) (hn : Z.n ≤ 3072) (hk : ∀ (I : AI) (J : AJ) (g : Bool), INV I g → GL Z 1697 [.ref 1030, .ref 0, .ref 75, .int (nI i)] [] I J (rX g)) : GL Z 1212 [.ref 1030, .ref 0, .ref 75, .int (nI i)] [] I J (rX g) := by
  refine H_aload (nx := 1213) C ⟨dL_law_1212, rfl⟩ rfl ?_
  refine H_aload (nx := 1214) C ⟨dL_law_1213, rfl⟩ rfl ?_
  refine H_iload (nx := 1215) C ⟨dL_law_1214, rfl⟩ rfl ?_
  refine H_iconst (nx := 1216) C ⟨dL_law_1215, rfl⟩ ci_1 ?_
  refine H_iadd (nx := 1217) C ⟨dL_law_1216, rfl⟩ ?_
  rw [show nI i + 1 = nI (i + 1) from nI_add i 1]
  refine H_sld (nx := 1218) C ⟨dL_law_1217, rfl⟩ (inZ h6 hn (by decide)) ?_
  rw [cl_nI (show i + 1 < 2 ^ 31 by omega)]
  refine H_aload (nx := 1219) C ⟨dL_law_1218, rfl⟩ rfl ?_
  refine H_iload (nx := 1220) C ⟨dL_law_1219, rfl⟩ rfl ?_
  refine H_iconst (nx := 1221) C ⟨dL_law_1220, rfl⟩ ci_2 ?_
  refine H_iadd (nx := 1222) C ⟨dL_law_1221, rfl⟩ ?_
  rw [show nI i + 2 = nI (i + 2) from nI_add i 2]
  refine H_sld (nx := 1223) C ⟨dL_law_1222, rfl⟩ (inZ h6 hn (by decide)) ?_
  rw [cl_nI (show i + 2 < 2 ^ 31 by omega)]
  refine H_call (nx := 1226) (n := 0) (As := [.int (Z.xs (i + 1)), .int (Z.xs (i + 2))]) C ⟨dL_law_1223, rfl⟩ kL_162 rfl q_0 rfl (Nat.le_of_ble_eq_true rfl) (Nat.le_of_ble_eq_true rfl) (G_mono (op_treeOf (l := Z.l) (d := 0) (J := J) hI) (fun v I1 J1 R1 h => ?_))
  refine H_aload (nx := 1227) C ⟨dL_law_1226, rfl⟩ rfl ?_
  refine H_aload (nx := 1228) C ⟨dL_law_1227, rfl⟩ rfl ?_
  refine H_iload (nx := 1229) C ⟨dL_law_1228, rfl⟩ rfl ?_
  refine H_iconst (nx := 1230) C ⟨dL_law_1229, rfl⟩ ci_1 ?_
  refine H_iadd (nx := 1231) C ⟨dL_law_1230, rfl⟩ ?_
  rw [show nI i + 1 = nI (i + 1) from nI_add i 1]
  refine H_sld (nx := 1232) C ⟨dL_law_1231, rfl⟩ (inZ h6 hn (by decide)) ?_
  rw [cl_nI (show i + 1 < 2 ^ 31 by omega)]
  refine H_aload (nx := 1233) C ⟨dL_law_1232, rfl⟩ rfl ?_
  refine H_iload (nx := 1234) C ⟨dL_law_1233, rfl⟩ rfl ?_
  refine H_iconst (nx := 1235) C ⟨dL_law_1234, rfl⟩ ci_2 ?_
  refine H_iadd (nx := 1236) C ⟨dL_law_1235, rfl⟩ ?_
  rw [show nI i + 2 = nI (i + 2) from nI_add i 2]
  refine H_sld (nx := 1237) C ⟨dL_law_1236, rfl⟩ (inZ h6 hn (by decide)) ?_
  rw [cl_nI (show i + 2 < 2 ^ 31 by omega)]
  refine H_call (nx := 1240) (n := 2) (As := [.int (Z.xs (i + 1)), .int (Z.xs (i + 2))]) C ⟨dL_law_1237, rfl⟩ kL_165 rfl q_75 rfl (cat1 v) (Nat.le_of_ble_eq_true rfl) (G_mono h (fun v2 I2 J2 R2 hq => ?_))
  obtain ⟨⟨x, rfl, rfl⟩, g2, rfl, hI2⟩ := hq
  exact H_icmpeq (tgt := 1697) (nx := 1243) C ⟨dL_law_1240, rfl⟩ rfl (hk I2 J2 g2 hI2)
theorem cs_37 (C : CLx Z) (hI : INV I g) (h6 : i + 6 ≤ Z.n) (hn : Z.n ≤ 3072) (hk : ∀ (I : AI) (J : AJ) (g : Bool), INV I g → GL Z 1697 [.ref 1030, .ref 0, .ref 75, .int (nI i)] [] I J (rX g)) : GL Z 1245 [.ref 1030, .ref 0, .ref 75, .int (nI i)] [] I J (rX g) := by
  refine H_aload (nx := 1246) C ⟨dL_law_1245, rfl⟩ rfl ?_
  refine H_call (nx := 1249) (n := 1) (As := []) C ⟨dL_law_1246, rfl⟩ kL_166 rfl q_0 rfl (Nat.le_of_ble_eq_true rfl) (Nat.le_of_ble_eq_true rfl) (G_mono (op_plant (l := Z.l) (d := 0) (J := J) hI) (fun v I1 J1 R1 h => ?_))
  refine H_aload (nx := 1250) C ⟨dL_law_1249, rfl⟩ rfl ?_
  refine H_call (nx := 1253) (n := 1) (As := []) C ⟨dL_law_1250, rfl⟩ kL_169 rfl q_75 rfl (cat1 v) (Nat.le_of_ble_eq_true rfl) (G_mono h (fun v2 I2 J2 R2 hq => ?_))
  obtain ⟨⟨x, rfl, rfl⟩, g2, rfl, hI2⟩ := hq
  exact H_icmpeq (tgt := 1697) (nx := 1256) C ⟨dL_law_1253, rfl⟩ rfl (hk I2 J2 g2 hI2)
theorem cs_38 (C : CLx Z) (hI : INV I g) (h6 : i + 6 ≤ Z.n) (hn : Z.n ≤ 3072) (hk : ∀ (I : AI) (J : AJ) (g : Bool), INV I g → GL Z 1697 [.ref 1030, .ref 0, .ref 75, .int (nI i)] [] I J (rX g)) : GL Z 1258 [.ref 1030, .ref 0, .ref 75, .int (nI i)] [] I J (rX g) := by
  refine H_aload (nx := 1259) C ⟨dL_law_1258, rfl⟩ rfl ?_
  refine H_aload (nx := 1260) C ⟨dL_law_1259, rfl⟩ rfl ?_
  refine H_iload (nx := 1261) C ⟨dL_law_1260, rfl⟩ rfl ?_
  refine H_iconst (nx := 1262) C ⟨dL_law_1261, rfl⟩ ci_1 ?_
  refine H_iadd (nx := 1263) C ⟨dL_law_1262, rfl⟩ ?_
  rw [show nI i + 1 = nI (i + 1) from nI_add i 1]
  refine H_sld (nx := 1264) C ⟨dL_law_1263, rfl⟩ (inZ h6 hn (by decide)) ?_
  rw [cl_nI (show i + 1 < 2 ^ 31 by omega)]
  refine H_call (nx := 1267) (n := 1) (As := [.int (Z.xs (i + 1))]) C ⟨dL_law_1264, rfl⟩ kL_170 rfl q_0 rfl (Nat.le_of_ble_eq_true rfl) (Nat.le_of_ble_eq_true rfl) (G_mono (op_seed (l := Z.l) (d := 0) (J := J) hI) (fun v I1 J1 R1 h => ?_))
  refine H_aload (nx := 1268) C ⟨dL_law_1267, rfl⟩ rfl ?_
  refine H_aload (nx := 1269) C ⟨dL_law_1268, rfl⟩ rfl ?_
  refine H_iload (nx := 1270) C ⟨dL_law_1269, rfl⟩ rfl ?_
  refine H_iconst (nx := 1271) C ⟨dL_law_1270, rfl⟩ ci_1 ?_
  refine H_iadd (nx := 1272) C ⟨dL_law_1271, rfl⟩ ?_
  rw [show nI i + 1 = nI (i + 1) from nI_add i 1]
  refine H_sld (nx := 1273) C ⟨dL_law_1272, rfl⟩ (inZ h6 hn (by decide)) ?_
  rw [cl_nI (show i + 1 < 2 ^ 31 by omega)]
  refine H_call (nx := 1276) (n := 1) (As := [.int (Z.xs (i + 1))]) C ⟨dL_law_1273, rfl⟩ kL_173 rfl q_75 rfl (cat1 v) (Nat.le_of_ble_eq_true rfl) (G_mono h (fun v2 I2 J2 R2 hq => ?_))
  obtain ⟨⟨x, rfl, rfl⟩, g2, rfl, hI2⟩ := hq
  exact H_icmpeq (tgt := 1697) (nx := 1279) C ⟨dL_law_1276, rfl⟩ rfl (hk I2 J2 g2 hI2)
theorem cs_39 (C : CLx Z) (hI : INV I g) (h6 : i + 6 ≤ Z.n) (hn : Z.n ≤ 3072) (hk : ∀ (I : AI) (J : AJ) (g : Bool), INV I g → GL Z 1697 [.ref 1030, .ref 0, .ref 75, .int (nI i)] [] I J (rX g)) : GL Z 1281 [.ref 1030, .ref 0, .ref 75, .int (nI i)] [] I J (rX g) := by
  refine H_aload (nx := 1282) C ⟨dL_law_1281, rfl⟩ rfl ?_
  refine H_aload (nx := 1283) C ⟨dL_law_1282, rfl⟩ rfl ?_
  refine H_iload (nx := 1284) C ⟨dL_law_1283, rfl⟩ rfl ?_
  refine H_iconst (nx := 1285) C ⟨dL_law_1284, rfl⟩ ci_1 ?_
  refine H_iadd (nx := 1286) C ⟨dL_law_1285, rfl⟩ ?_
  rw [show nI i + 1 = nI (i + 1) from nI_add i 1]
  refine H_sld (nx := 1287) C ⟨dL_law_1286, rfl⟩ (inZ h6 hn (by decide)) ?_
  rw [cl_nI (show i + 1 < 2 ^ 31 by omega)]
  refine H_aload (nx := 1288) C ⟨dL_law_1287, rfl⟩ rfl ?_
  refine H_iload (nx := 1289) C ⟨dL_law_1288, rfl⟩ rfl ?_
  refine H_iconst (nx := 1290) C ⟨dL_law_1289, rfl⟩ ci_2 ?_
  refine H_iadd (nx := 1291) C ⟨dL_law_1290, rfl⟩ ?_
  rw [show nI i + 2 = nI (i + 2) from nI_add i 2]
  refine H_sld (nx := 1292) C ⟨dL_law_1291, rfl⟩ (inZ h6 hn (by decide)) ?_
  rw [cl_nI (show i + 2 < 2 ^ 31 by omega)]
  refine H_call (nx := 1295) (n := 0) (As := [.int (Z.xs (i + 1)), .int (Z.xs (i + 2))]) C ⟨dL_law_1292, rfl⟩ kL_174 rfl q_0 rfl (Nat.le_of_ble_eq_true rfl) (Nat.le_of_ble_eq_true rfl) (G_mono (op_deal (l := Z.l) (d := 0) (J := J) hI) (fun v I1 J1 R1 h => ?_))
  refine H_aload (nx := 1296) C ⟨dL_law_1295, rfl⟩ rfl ?_
  refine H_aload (nx := 1297) C ⟨dL_law_1296, rfl⟩ rfl ?_
  refine H_iload (nx := 1298) C ⟨dL_law_1297, rfl⟩ rfl ?_
  refine H_iconst (nx := 1299) C ⟨dL_law_1298, rfl⟩ ci_1 ?_
  refine H_iadd (nx := 1300) C ⟨dL_law_1299, rfl⟩ ?_
  rw [show nI i + 1 = nI (i + 1) from nI_add i 1]
  refine H_sld (nx := 1301) C ⟨dL_law_1300, rfl⟩ (inZ h6 hn (by decide)) ?_
  rw [cl_nI (show i + 1 < 2 ^ 31 by omega)]
  refine H_aload (nx := 1302) C ⟨dL_law_1301, rfl⟩ rfl ?_
  refine H_iload (nx := 1303) C ⟨dL_law_1302, rfl⟩ rfl ?_
  refine H_iconst (nx := 1304) C ⟨dL_law_1303, rfl⟩ ci_2 ?_
  refine H_iadd (nx := 1305) C ⟨dL_law_1304, rfl⟩ ?_
  rw [show nI i + 2 = nI (i + 2) from nI_add i 2]
  refine H_sld (nx := 1306) C ⟨dL_law_1305, rfl⟩ (inZ h6 hn (by decide)) ?_
  rw [cl_nI (show i + 2 < 2 ^ 31 by omega)]
  refine H_call (nx := 1309) (n := 0) (As := [.int (Z.xs (i + 1)), .int (Z.xs (i + 2))]) C ⟨dL_law_1306, rfl⟩ kL_177 rfl q_75 rfl (cat1 v) (Nat.le_of_ble_eq_true rfl) (G_mono h (fun v2 I2 J2 R2 hq => ?_))
  obtain ⟨⟨x, rfl, rfl⟩, g2, rfl, hI2⟩ := hq
  exact H_icmpeq (tgt := 1697) (nx := 1312) C ⟨dL_law_1309, rfl⟩ rfl (hk I2 J2 g2 hI2)
theorem cs_40 (C : CLx Z) (hI : INV I g) (h6 : i + 6 ≤ Z.n) (hn : Z.n ≤ 3072) (hk : ∀ (I : AI) (J : AJ) (g : Bool), INV I g → GL Z 1697 [.ref 1030, .ref 0, .ref 75, .int (nI i)] [] I J (rX g)) : GL Z 1314 [.ref 1030, .ref 0, .ref 75, .int (nI i)] [] I J (rX g) := by
  refine H_aload (nx := 1315) C ⟨dL_law_1314, rfl⟩ rfl ?_
  refine H_aload (nx := 1316) C ⟨dL_law_1315, rfl⟩ rfl ?_
  refine H_iload (nx := 1317) C ⟨dL_law_1316, rfl⟩ rfl ?_
  refine H_iconst (nx := 1318) C ⟨dL_law_1317, rfl⟩ ci_1 ?_
  refine H_iadd (nx := 1319) C ⟨dL_law_1318, rfl⟩ ?_
  rw [show nI i + 1 = nI (i + 1) from nI_add i 1]
  refine H_sld (nx := 1320) C ⟨dL_law_1319, rfl⟩ (inZ h6 hn (by decide)) ?_
  rw [cl_nI (show i + 1 < 2 ^ 31 by omega)]
  refine H_aload (nx := 1321) C ⟨dL_law_1320, rfl⟩ rfl ?_
  refine H_iload (nx := 1322) C ⟨dL_law_1321, rfl⟩ rfl ?_
  refine H_iconst (nx := 1323) C ⟨dL_law_1322, rfl⟩ ci_2 ?_
  refine H_iadd (nx := 1324) C ⟨dL_law_1323, rfl⟩ ?_
  rw [show nI i + 2 = nI (i + 2) from nI_add i 2]
  refine H_sld (nx := 1325) C ⟨dL_law_1324, rfl⟩ (inZ h6 hn (by decide)) ?_
  rw [cl_nI (show i + 2 < 2 ^ 31 by omega)]
  refine H_aload (nx := 1326) C ⟨dL_law_1325, rfl⟩ rfl ?_
  refine H_iload (nx := 1327) C ⟨dL_law_1326, rfl⟩ rfl ?_
  refine H_iconst (nx := 1328) C ⟨dL_law_1327, rfl⟩ ci_3 ?_
  refine H_iadd (nx := 1329) C ⟨dL_law_1328, rfl⟩ ?_
  rw [show nI i + 3 = nI (i + 3) from nI_add i 3]
  refine H_sld (nx := 1330) C ⟨dL_law_1329, rfl⟩ (inZ h6 hn (by decide)) ?_
  rw [cl_nI (show i + 3 < 2 ^ 31 by omega)]
  refine H_aload (nx := 1331) C ⟨dL_law_1330, rfl⟩ rfl ?_
  refine H_iload (nx := 1332) C ⟨dL_law_1331, rfl⟩ rfl ?_
  refine H_iconst (nx := 1333) C ⟨dL_law_1332, rfl⟩ ci_4 ?_
  refine H_iadd (nx := 1334) C ⟨dL_law_1333, rfl⟩ ?_
  rw [show nI i + 4 = nI (i + 4) from nI_add i 4]
  refine H_sld (nx := 1335) C ⟨dL_law_1334, rfl⟩ (inZ h6 hn (by decide)) ?_
  rw [cl_nI (show i + 4 < 2 ^ 31 by omega)]
  refine H_call (nx := 1338) (n := 3) (As := [.int (Z.xs (i + 1)), .int (Z.xs (i + 2)), .int (Z.xs (i + 3)), .int (Z.xs (i + 4))]) C ⟨dL_law_1335, rfl⟩ kL_178 rfl q_0 rfl (Nat.le_of_ble_eq_true rfl) (Nat.le_of_ble_eq_true rfl) (G_mono (op_times (l := Z.l) (d := 0) (J := J) hI) (fun v I1 J1 R1 h => ?_))
  refine H_aload (nx := 1339) C ⟨dL_law_1338, rfl⟩ rfl ?_
  refine H_aload (nx := 1340) C ⟨dL_law_1339, rfl⟩ rfl ?_
  refine H_iload (nx := 1341) C ⟨dL_law_1340, rfl⟩ rfl ?_
  refine H_iconst (nx := 1342) C ⟨dL_law_1341, rfl⟩ ci_1 ?_
  refine H_iadd (nx := 1343) C ⟨dL_law_1342, rfl⟩ ?_
  rw [show nI i + 1 = nI (i + 1) from nI_add i 1]
  refine H_sld (nx := 1344) C ⟨dL_law_1343, rfl⟩ (inZ h6 hn (by decide)) ?_
  rw [cl_nI (show i + 1 < 2 ^ 31 by omega)]
  refine H_aload (nx := 1345) C ⟨dL_law_1344, rfl⟩ rfl ?_
  refine H_iload (nx := 1346) C ⟨dL_law_1345, rfl⟩ rfl ?_
  refine H_iconst (nx := 1347) C ⟨dL_law_1346, rfl⟩ ci_2 ?_
  refine H_iadd (nx := 1348) C ⟨dL_law_1347, rfl⟩ ?_
  rw [show nI i + 2 = nI (i + 2) from nI_add i 2]
  refine H_sld (nx := 1349) C ⟨dL_law_1348, rfl⟩ (inZ h6 hn (by decide)) ?_
  rw [cl_nI (show i + 2 < 2 ^ 31 by omega)]
  refine H_aload (nx := 1350) C ⟨dL_law_1349, rfl⟩ rfl ?_
  refine H_iload (nx := 1351) C ⟨dL_law_1350, rfl⟩ rfl ?_
  refine H_iconst (nx := 1352) C ⟨dL_law_1351, rfl⟩ ci_3 ?_
  refine H_iadd (nx := 1353) C ⟨dL_law_1352, rfl⟩ ?_
  rw [show nI i + 3 = nI (i + 3) from nI_add i 3]
  refine H_sld (nx := 1354) C ⟨dL_law_1353, rfl⟩ (inZ h6 hn (by decide)) ?_
  rw [cl_nI (show i + 3 < 2 ^ 31 by omega)]
  refine H_aload (nx := 1355) C ⟨dL_law_1354, rfl⟩ rfl ?_
  refine H_iload (nx := 1356) C ⟨dL_law_1355, rfl⟩ rfl ?_
  refine H_iconst (nx := 1357) C ⟨dL_law_1356, rfl⟩ ci_4 ?_
  refine H_iadd (nx := 1358) C ⟨dL_law_1357, rfl⟩ ?_
  rw [show nI i + 4 = nI (i + 4) from nI_add i 4]
  refine H_sld (nx := 1359) C ⟨dL_law_1358, rfl⟩ (inZ h6 hn (by decide)) ?_
  rw [cl_nI (show i + 4 < 2 ^ 31 by omega)]
  refine H_call (nx := 1362) (n := 2) (As := [.int (Z.xs (i + 1)), .int (Z.xs (i + 2)), .int (Z.xs (i + 3)), .int (Z.xs (i + 4))]) C ⟨dL_law_1359, rfl⟩ kL_182 rfl q_75 rfl (cat1 v) (Nat.le_of_ble_eq_true rfl) (G_mono h (fun v2 I2 J2 R2 hq => ?_))
  obtain ⟨⟨x, rfl, rfl⟩, g2, rfl, hI2⟩ := hq
  exact H_icmpeq (tgt := 1697) (nx := 1365) C ⟨dL_law_1362, rfl⟩ rfl (hk I2 J2 g2 hI2)
theorem cs_41 (C : CLx Z) (hI : INV I g) (h6 : i + 6 ≤ Z.n) (hn : Z.n ≤ 3072) (hk : ∀ (I : AI) (J : AJ) (g : Bool), INV I g → GL Z 1697 [.ref 1030, .ref 0, .ref 75, .int (nI i)] [] I J (rX g)) : GL Z 1367 [.ref 1030, .ref 0, .ref 75, .int (nI i)] [] I J (rX g) := by
  refine H_aload (nx := 1368) C ⟨dL_law_1367, rfl⟩ rfl ?_
  refine H_aload (nx := 1369) C ⟨dL_law_1368, rfl⟩ rfl ?_
  refine H_iload (nx := 1370) C ⟨dL_law_1369, rfl⟩ rfl ?_
  refine H_iconst (nx := 1371) C ⟨dL_law_1370, rfl⟩ ci_1 ?_
  refine H_iadd (nx := 1372) C ⟨dL_law_1371, rfl⟩ ?_
  rw [show nI i + 1 = nI (i + 1) from nI_add i 1]
  refine H_sld (nx := 1373) C ⟨dL_law_1372, rfl⟩ (inZ h6 hn (by decide)) ?_
  rw [cl_nI (show i + 1 < 2 ^ 31 by omega)]
  refine H_aload (nx := 1374) C ⟨dL_law_1373, rfl⟩ rfl ?_
  refine H_iload (nx := 1375) C ⟨dL_law_1374, rfl⟩ rfl ?_
  refine H_iconst (nx := 1376) C ⟨dL_law_1375, rfl⟩ ci_2 ?_
  refine H_iadd (nx := 1377) C ⟨dL_law_1376, rfl⟩ ?_
  rw [show nI i + 2 = nI (i + 2) from nI_add i 2]
  refine H_sld (nx := 1378) C ⟨dL_law_1377, rfl⟩ (inZ h6 hn (by decide)) ?_
  rw [cl_nI (show i + 2 < 2 ^ 31 by omega)]
  refine H_aload (nx := 1379) C ⟨dL_law_1378, rfl⟩ rfl ?_
  refine H_iload (nx := 1380) C ⟨dL_law_1379, rfl⟩ rfl ?_
  refine H_iconst (nx := 1381) C ⟨dL_law_1380, rfl⟩ ci_3 ?_
  refine H_iadd (nx := 1382) C ⟨dL_law_1381, rfl⟩ ?_
  rw [show nI i + 3 = nI (i + 3) from nI_add i 3]
  refine H_sld (nx := 1383) C ⟨dL_law_1382, rfl⟩ (inZ h6 hn (by decide)) ?_
  rw [cl_nI (show i + 3 < 2 ^ 31 by omega)]
  refine H_call (nx := 1386) (n := 0) (As := [.int (Z.xs (i + 1)), .int (Z.xs (i + 2)), .int (Z.xs (i + 3))]) C ⟨dL_law_1383, rfl⟩ kL_183 rfl q_0 rfl (Nat.le_of_ble_eq_true rfl) (Nat.le_of_ble_eq_true rfl) (G_mono (op_sheet (l := Z.l) (d := 0) (J := J) hI) (fun v I1 J1 R1 h => ?_))
  refine H_aload (nx := 1387) C ⟨dL_law_1386, rfl⟩ rfl ?_
  refine H_aload (nx := 1388) C ⟨dL_law_1387, rfl⟩ rfl ?_
  refine H_iload (nx := 1389) C ⟨dL_law_1388, rfl⟩ rfl ?_
  refine H_iconst (nx := 1390) C ⟨dL_law_1389, rfl⟩ ci_1 ?_
  refine H_iadd (nx := 1391) C ⟨dL_law_1390, rfl⟩ ?_
  rw [show nI i + 1 = nI (i + 1) from nI_add i 1]
  refine H_sld (nx := 1392) C ⟨dL_law_1391, rfl⟩ (inZ h6 hn (by decide)) ?_
  rw [cl_nI (show i + 1 < 2 ^ 31 by omega)]
  refine H_aload (nx := 1393) C ⟨dL_law_1392, rfl⟩ rfl ?_
  refine H_iload (nx := 1394) C ⟨dL_law_1393, rfl⟩ rfl ?_
  refine H_iconst (nx := 1395) C ⟨dL_law_1394, rfl⟩ ci_2 ?_
  refine H_iadd (nx := 1396) C ⟨dL_law_1395, rfl⟩ ?_
  rw [show nI i + 2 = nI (i + 2) from nI_add i 2]
  refine H_sld (nx := 1397) C ⟨dL_law_1396, rfl⟩ (inZ h6 hn (by decide)) ?_
  rw [cl_nI (show i + 2 < 2 ^ 31 by omega)]
  refine H_aload (nx := 1398) C ⟨dL_law_1397, rfl⟩ rfl ?_
  refine H_iload (nx := 1399) C ⟨dL_law_1398, rfl⟩ rfl ?_
  refine H_iconst (nx := 1400) C ⟨dL_law_1399, rfl⟩ ci_3 ?_
  refine H_iadd (nx := 1401) C ⟨dL_law_1400, rfl⟩ ?_
  rw [show nI i + 3 = nI (i + 3) from nI_add i 3]
  refine H_sld (nx := 1402) C ⟨dL_law_1401, rfl⟩ (inZ h6 hn (by decide)) ?_
  rw [cl_nI (show i + 3 < 2 ^ 31 by omega)]
  refine H_call (nx := 1405) (n := 1) (As := [.int (Z.xs (i + 1)), .int (Z.xs (i + 2)), .int (Z.xs (i + 3))]) C ⟨dL_law_1402, rfl⟩ kL_186 rfl q_75 rfl (cat1 v) (Nat.le_of_ble_eq_true rfl) (G_mono h (fun v2 I2 J2 R2 hq => ?_))
  obtain ⟨⟨x, rfl, rfl⟩, g2, rfl, hI2⟩ := hq
  exact H_icmpeq (tgt := 1697) (nx := 1408) C ⟨dL_law_1405, rfl⟩ rfl (hk I2 J2 g2 hI2)
theorem cs_42 (C : CLx Z) (hI : INV I g) (h6 : i + 6 ≤ Z.n) (hn : Z.n ≤ 3072) (hk : ∀ (I : AI) (J : AJ) (g : Bool), INV I g → GL Z 1697 [.ref 1030, .ref 0, .ref 75, .int (nI i)] [] I J (rX g)) : GL Z 1410 [.ref 1030, .ref 0, .ref 75, .int (nI i)] [] I J (rX g) := by
  refine H_aload (nx := 1411) C ⟨dL_law_1410, rfl⟩ rfl ?_
  refine H_aload (nx := 1412) C ⟨dL_law_1411, rfl⟩ rfl ?_
  refine H_iload (nx := 1413) C ⟨dL_law_1412, rfl⟩ rfl ?_
  refine H_iconst (nx := 1414) C ⟨dL_law_1413, rfl⟩ ci_1 ?_
  refine H_iadd (nx := 1415) C ⟨dL_law_1414, rfl⟩ ?_
  rw [show nI i + 1 = nI (i + 1) from nI_add i 1]
  refine H_sld (nx := 1416) C ⟨dL_law_1415, rfl⟩ (inZ h6 hn (by decide)) ?_
  rw [cl_nI (show i + 1 < 2 ^ 31 by omega)]
  refine H_aload (nx := 1417) C ⟨dL_law_1416, rfl⟩ rfl ?_
  refine H_iload (nx := 1418) C ⟨dL_law_1417, rfl⟩ rfl ?_
  refine H_iconst (nx := 1419) C ⟨dL_law_1418, rfl⟩ ci_2 ?_
  refine H_iadd (nx := 1420) C ⟨dL_law_1419, rfl⟩ ?_
  rw [show nI i + 2 = nI (i + 2) from nI_add i 2]
  refine H_sld (nx := 1421) C ⟨dL_law_1420, rfl⟩ (inZ h6 hn (by decide)) ?_
  rw [cl_nI (show i + 2 < 2 ^ 31 by omega)]
  refine H_aload (nx := 1422) C ⟨dL_law_1421, rfl⟩ rfl ?_
  refine H_iload (nx := 1423) C ⟨dL_law_1422, rfl⟩ rfl ?_
  refine H_iconst (nx := 1424) C ⟨dL_law_1423, rfl⟩ ci_3 ?_
  refine H_iadd (nx := 1425) C ⟨dL_law_1424, rfl⟩ ?_
  rw [show nI i + 3 = nI (i + 3) from nI_add i 3]
  refine H_sld (nx := 1426) C ⟨dL_law_1425, rfl⟩ (inZ h6 hn (by decide)) ?_
  rw [cl_nI (show i + 3 < 2 ^ 31 by omega)]
  refine H_call (nx := 1429) (n := 1) (As := [.int (Z.xs (i + 1)), .int (Z.xs (i + 2)), .int (Z.xs (i + 3))]) C ⟨dL_law_1426, rfl⟩ kL_187 rfl q_0 rfl (Nat.le_of_ble_eq_true rfl) (Nat.le_of_ble_eq_true rfl) (G_mono (op_write (l := Z.l) (d := 0) (J := J) hI) (fun v I1 J1 R1 h => ?_))
  refine H_aload (nx := 1430) C ⟨dL_law_1429, rfl⟩ rfl ?_
  refine H_aload (nx := 1431) C ⟨dL_law_1430, rfl⟩ rfl ?_
  refine H_iload (nx := 1432) C ⟨dL_law_1431, rfl⟩ rfl ?_
  refine H_iconst (nx := 1433) C ⟨dL_law_1432, rfl⟩ ci_1 ?_
  refine H_iadd (nx := 1434) C ⟨dL_law_1433, rfl⟩ ?_
  rw [show nI i + 1 = nI (i + 1) from nI_add i 1]
  refine H_sld (nx := 1435) C ⟨dL_law_1434, rfl⟩ (inZ h6 hn (by decide)) ?_
  rw [cl_nI (show i + 1 < 2 ^ 31 by omega)]
  refine H_aload (nx := 1436) C ⟨dL_law_1435, rfl⟩ rfl ?_
  refine H_iload (nx := 1437) C ⟨dL_law_1436, rfl⟩ rfl ?_
  refine H_iconst (nx := 1438) C ⟨dL_law_1437, rfl⟩ ci_2 ?_
  refine H_iadd (nx := 1439) C ⟨dL_law_1438, rfl⟩ ?_
  rw [show nI i + 2 = nI (i + 2) from nI_add i 2]
  refine H_sld (nx := 1440) C ⟨dL_law_1439, rfl⟩ (inZ h6 hn (by decide)) ?_
  rw [cl_nI (show i + 2 < 2 ^ 31 by omega)]
  refine H_aload (nx := 1441) C ⟨dL_law_1440, rfl⟩ rfl ?_
  refine H_iload (nx := 1442) C ⟨dL_law_1441, rfl⟩ rfl ?_
  refine H_iconst (nx := 1443) C ⟨dL_law_1442, rfl⟩ ci_3 ?_
  refine H_iadd (nx := 1444) C ⟨dL_law_1443, rfl⟩ ?_
  rw [show nI i + 3 = nI (i + 3) from nI_add i 3]
  refine H_sld (nx := 1445) C ⟨dL_law_1444, rfl⟩ (inZ h6 hn (by decide)) ?_
  rw [cl_nI (show i + 3 < 2 ^ 31 by omega)]
  refine H_call (nx := 1448) (n := 1) (As := [.int (Z.xs (i + 1)), .int (Z.xs (i + 2)), .int (Z.xs (i + 3))]) C ⟨dL_law_1445, rfl⟩ kL_190 rfl q_75 rfl (cat1 v) (Nat.le_of_ble_eq_true rfl) (G_mono h (fun v2 I2 J2 R2 hq => ?_))
  obtain ⟨⟨x, rfl, rfl⟩, g2, rfl, hI2⟩ := hq
  exact H_icmpeq (tgt := 1697) (nx := 1451) C ⟨dL_law_1448, rfl⟩ rfl (hk I2 J2 g2 hI2)
theorem cs_43 (C : CLx Z) (hI : INV I g) (h6 : i + 6 ≤ Z.n) (hn : Z.n ≤ 3072) (hk : ∀ (I : AI) (J : AJ) (g : Bool), INV I g → GL Z 1697 [.ref 1030, .ref 0, .ref 75, .int (nI i)] [] I J (rX g)) : GL Z 1453 [.ref 1030, .ref 0, .ref 75, .int (nI i)] [] I J (rX g) := by
  refine H_aload (nx := 1454) C ⟨dL_law_1453, rfl⟩ rfl ?_
  refine H_aload (nx := 1455) C ⟨dL_law_1454, rfl⟩ rfl ?_
  refine H_iload (nx := 1456) C ⟨dL_law_1455, rfl⟩ rfl ?_
  refine H_iconst (nx := 1457) C ⟨dL_law_1456, rfl⟩ ci_1 ?_
  refine H_iadd (nx := 1458) C ⟨dL_law_1457, rfl⟩ ?_
  rw [show nI i + 1 = nI (i + 1) from nI_add i 1]
  refine H_sld (nx := 1459) C ⟨dL_law_1458, rfl⟩ (inZ h6 hn (by decide)) ?_
  rw [cl_nI (show i + 1 < 2 ^ 31 by omega)]
  refine H_aload (nx := 1460) C ⟨dL_law_1459, rfl⟩ rfl ?_
  refine H_iload (nx := 1461) C ⟨dL_law_1460, rfl⟩ rfl ?_
  refine H_iconst (nx := 1462) C ⟨dL_law_1461, rfl⟩ ci_2 ?_
  refine H_iadd (nx := 1463) C ⟨dL_law_1462, rfl⟩ ?_
  rw [show nI i + 2 = nI (i + 2) from nI_add i 2]
  refine H_sld (nx := 1464) C ⟨dL_law_1463, rfl⟩ (inZ h6 hn (by decide)) ?_
  rw [cl_nI (show i + 2 < 2 ^ 31 by omega)]
  refine H_call (nx := 1467) (n := 1) (As := [.int (Z.xs (i + 1)), .int (Z.xs (i + 2))]) C ⟨dL_law_1464, rfl⟩ kL_191 rfl q_0 rfl (Nat.le_of_ble_eq_true rfl) (Nat.le_of_ble_eq_true rfl) (G_mono (op_item (l := Z.l) (d := 0) (J := J) hI) (fun v I1 J1 R1 h => ?_))
  refine H_aload (nx := 1468) C ⟨dL_law_1467, rfl⟩ rfl ?_
  refine H_aload (nx := 1469) C ⟨dL_law_1468, rfl⟩ rfl ?_
  refine H_iload (nx := 1470) C ⟨dL_law_1469, rfl⟩ rfl ?_
  refine H_iconst (nx := 1471) C ⟨dL_law_1470, rfl⟩ ci_1 ?_
  refine H_iadd (nx := 1472) C ⟨dL_law_1471, rfl⟩ ?_
  rw [show nI i + 1 = nI (i + 1) from nI_add i 1]
  refine H_sld (nx := 1473) C ⟨dL_law_1472, rfl⟩ (inZ h6 hn (by decide)) ?_
  rw [cl_nI (show i + 1 < 2 ^ 31 by omega)]
  refine H_aload (nx := 1474) C ⟨dL_law_1473, rfl⟩ rfl ?_
  refine H_iload (nx := 1475) C ⟨dL_law_1474, rfl⟩ rfl ?_
  refine H_iconst (nx := 1476) C ⟨dL_law_1475, rfl⟩ ci_2 ?_
  refine H_iadd (nx := 1477) C ⟨dL_law_1476, rfl⟩ ?_
  rw [show nI i + 2 = nI (i + 2) from nI_add i 2]
  refine H_sld (nx := 1478) C ⟨dL_law_1477, rfl⟩ (inZ h6 hn (by decide)) ?_
  rw [cl_nI (show i + 2 < 2 ^ 31 by omega)]
  refine H_call (nx := 1481) (n := 1) (As := [.int (Z.xs (i + 1)), .int (Z.xs (i + 2))]) C ⟨dL_law_1478, rfl⟩ kL_194 rfl q_75 rfl (cat1 v) (Nat.le_of_ble_eq_true rfl) (G_mono h (fun v2 I2 J2 R2 hq => ?_))
  obtain ⟨⟨x, rfl, rfl⟩, g2, rfl, hI2⟩ := hq
  exact H_icmpeq (tgt := 1697) (nx := 1484) C ⟨dL_law_1481, rfl⟩ rfl (hk I2 J2 g2 hI2)
theorem cs_44 (C : CLx Z) (hI : INV I g) (h6 : i + 6 ≤ Z.n) (hn : Z.n ≤ 3072) (hk : ∀ (I : AI) (J : AJ) (g : Bool), INV I g → GL Z 1697 [.ref 1030, .ref 0, .ref 75, .int (nI i)] [] I J (rX g)) : GL Z 1486 [.ref 1030, .ref 0, .ref 75, .int (nI i)] [] I J (rX g) := by
  refine H_aload (nx := 1487) C ⟨dL_law_1486, rfl⟩ rfl ?_
  refine H_aload (nx := 1488) C ⟨dL_law_1487, rfl⟩ rfl ?_
  refine H_iload (nx := 1489) C ⟨dL_law_1488, rfl⟩ rfl ?_
  refine H_iconst (nx := 1490) C ⟨dL_law_1489, rfl⟩ ci_1 ?_
  refine H_iadd (nx := 1491) C ⟨dL_law_1490, rfl⟩ ?_
  rw [show nI i + 1 = nI (i + 1) from nI_add i 1]
  refine H_sld (nx := 1492) C ⟨dL_law_1491, rfl⟩ (inZ h6 hn (by decide)) ?_
  rw [cl_nI (show i + 1 < 2 ^ 31 by omega)]
  refine H_aload (nx := 1493) C ⟨dL_law_1492, rfl⟩ rfl ?_
  refine H_iload (nx := 1494) C ⟨dL_law_1493, rfl⟩ rfl ?_
  refine H_iconst (nx := 1495) C ⟨dL_law_1494, rfl⟩ ci_2 ?_
  refine H_iadd (nx := 1496) C ⟨dL_law_1495, rfl⟩ ?_
  rw [show nI i + 2 = nI (i + 2) from nI_add i 2]
  refine H_sld (nx := 1497) C ⟨dL_law_1496, rfl⟩ (inZ h6 hn (by decide)) ?_
  rw [cl_nI (show i + 2 < 2 ^ 31 by omega)]
  refine H_aload (nx := 1498) C ⟨dL_law_1497, rfl⟩ rfl ?_
  refine H_iload (nx := 1499) C ⟨dL_law_1498, rfl⟩ rfl ?_
  refine H_iconst (nx := 1500) C ⟨dL_law_1499, rfl⟩ ci_3 ?_
  refine H_iadd (nx := 1501) C ⟨dL_law_1500, rfl⟩ ?_
  rw [show nI i + 3 = nI (i + 3) from nI_add i 3]
  refine H_sld (nx := 1502) C ⟨dL_law_1501, rfl⟩ (inZ h6 hn (by decide)) ?_
  rw [cl_nI (show i + 3 < 2 ^ 31 by omega)]
  refine H_aload (nx := 1503) C ⟨dL_law_1502, rfl⟩ rfl ?_
  refine H_iload (nx := 1504) C ⟨dL_law_1503, rfl⟩ rfl ?_
  refine H_iconst (nx := 1505) C ⟨dL_law_1504, rfl⟩ ci_4 ?_
  refine H_iadd (nx := 1506) C ⟨dL_law_1505, rfl⟩ ?_
  rw [show nI i + 4 = nI (i + 4) from nI_add i 4]
  refine H_sld (nx := 1507) C ⟨dL_law_1506, rfl⟩ (inZ h6 hn (by decide)) ?_
  rw [cl_nI (show i + 4 < 2 ^ 31 by omega)]
  refine H_aload (nx := 1508) C ⟨dL_law_1507, rfl⟩ rfl ?_
  refine H_iload (nx := 1509) C ⟨dL_law_1508, rfl⟩ rfl ?_
  refine H_iconst (nx := 1510) C ⟨dL_law_1509, rfl⟩ ci_5 ?_
  refine H_iadd (nx := 1511) C ⟨dL_law_1510, rfl⟩ ?_
  rw [show nI i + 5 = nI (i + 5) from nI_add i 5]
  refine H_sld (nx := 1512) C ⟨dL_law_1511, rfl⟩ (inZ h6 hn (by decide)) ?_
  rw [cl_nI (show i + 5 < 2 ^ 31 by omega)]
  refine H_call (nx := 1515) (n := 0) (As := [.int (Z.xs (i + 1)), .int (Z.xs (i + 2)), .int (Z.xs (i + 3)), .int (Z.xs (i + 4)), .int (Z.xs (i + 5))]) C ⟨dL_law_1512, rfl⟩ kL_195 rfl q_0 rfl (Nat.le_of_ble_eq_true rfl) (Nat.le_of_ble_eq_true rfl) (G_mono (op_copy (l := Z.l) (d := 0) (J := J) hI) (fun v I1 J1 R1 h => ?_))
  refine H_aload (nx := 1516) C ⟨dL_law_1515, rfl⟩ rfl ?_
  refine H_aload (nx := 1517) C ⟨dL_law_1516, rfl⟩ rfl ?_
  refine H_iload (nx := 1518) C ⟨dL_law_1517, rfl⟩ rfl ?_
  refine H_iconst (nx := 1519) C ⟨dL_law_1518, rfl⟩ ci_1 ?_
  refine H_iadd (nx := 1520) C ⟨dL_law_1519, rfl⟩ ?_
  rw [show nI i + 1 = nI (i + 1) from nI_add i 1]
  refine H_sld (nx := 1521) C ⟨dL_law_1520, rfl⟩ (inZ h6 hn (by decide)) ?_
  rw [cl_nI (show i + 1 < 2 ^ 31 by omega)]
  refine H_aload (nx := 1522) C ⟨dL_law_1521, rfl⟩ rfl ?_
  refine H_iload (nx := 1523) C ⟨dL_law_1522, rfl⟩ rfl ?_
  refine H_iconst (nx := 1524) C ⟨dL_law_1523, rfl⟩ ci_2 ?_
  refine H_iadd (nx := 1525) C ⟨dL_law_1524, rfl⟩ ?_
  rw [show nI i + 2 = nI (i + 2) from nI_add i 2]
  refine H_sld (nx := 1526) C ⟨dL_law_1525, rfl⟩ (inZ h6 hn (by decide)) ?_
  rw [cl_nI (show i + 2 < 2 ^ 31 by omega)]
  refine H_aload (nx := 1527) C ⟨dL_law_1526, rfl⟩ rfl ?_
  refine H_iload (nx := 1528) C ⟨dL_law_1527, rfl⟩ rfl ?_
  refine H_iconst (nx := 1529) C ⟨dL_law_1528, rfl⟩ ci_3 ?_
  refine H_iadd (nx := 1530) C ⟨dL_law_1529, rfl⟩ ?_
  rw [show nI i + 3 = nI (i + 3) from nI_add i 3]
  refine H_sld (nx := 1531) C ⟨dL_law_1530, rfl⟩ (inZ h6 hn (by decide)) ?_
  rw [cl_nI (show i + 3 < 2 ^ 31 by omega)]
  refine H_aload (nx := 1532) C ⟨dL_law_1531, rfl⟩ rfl ?_
  refine H_iload (nx := 1533) C ⟨dL_law_1532, rfl⟩ rfl ?_
  refine H_iconst (nx := 1534) C ⟨dL_law_1533, rfl⟩ ci_4 ?_
  refine H_iadd (nx := 1535) C ⟨dL_law_1534, rfl⟩ ?_
  rw [show nI i + 4 = nI (i + 4) from nI_add i 4]
  refine H_sld (nx := 1536) C ⟨dL_law_1535, rfl⟩ (inZ h6 hn (by decide)) ?_
  rw [cl_nI (show i + 4 < 2 ^ 31 by omega)]
  refine H_aload (nx := 1537) C ⟨dL_law_1536, rfl⟩ rfl ?_
  refine H_iload (nx := 1538) C ⟨dL_law_1537, rfl⟩ rfl ?_
  refine H_iconst (nx := 1539) C ⟨dL_law_1538, rfl⟩ ci_5 ?_
  refine H_iadd (nx := 1540) C ⟨dL_law_1539, rfl⟩ ?_
  rw [show nI i + 5 = nI (i + 5) from nI_add i 5]
  refine H_sld (nx := 1541) C ⟨dL_law_1540, rfl⟩ (inZ h6 hn (by decide)) ?_
  rw [cl_nI (show i + 5 < 2 ^ 31 by omega)]
  refine H_call (nx := 1544) (n := 3) (As := [.int (Z.xs (i + 1)), .int (Z.xs (i + 2)), .int (Z.xs (i + 3)), .int (Z.xs (i + 4)), .int (Z.xs (i + 5))]) C ⟨dL_law_1541, rfl⟩ kL_199 rfl q_75 rfl (cat1 v) (Nat.le_of_ble_eq_true rfl) (G_mono h (fun v2 I2 J2 R2 hq => ?_))
  obtain ⟨⟨x, rfl, rfl⟩, g2, rfl, hI2⟩ := hq
  exact H_icmpeq (tgt := 1697) (nx := 1547) C ⟨dL_law_1544, rfl⟩ rfl (hk I2 J2 g2 hI2)
theorem cs_45 (C : CLx Z) (hI : INV I g) (h6 : i + 6 ≤ Z.n) (hn : Z.n ≤ 3072) (hk : ∀ (I : AI) (J : AJ) (g : Bool), INV I g → GL Z 1697 [.ref 1030, .ref 0, .ref 75, .int (nI i)] [] I J (rX g)) : GL Z 1549 [.ref 1030, .ref 0, .ref 75, .int (nI i)] [] I J (rX g) := by
  refine H_aload (nx := 1550) C ⟨dL_law_1549, rfl⟩ rfl ?_
  refine H_aload (nx := 1551) C ⟨dL_law_1550, rfl⟩ rfl ?_
  refine H_iload (nx := 1552) C ⟨dL_law_1551, rfl⟩ rfl ?_
  refine H_iconst (nx := 1553) C ⟨dL_law_1552, rfl⟩ ci_1 ?_
  refine H_iadd (nx := 1554) C ⟨dL_law_1553, rfl⟩ ?_
  rw [show nI i + 1 = nI (i + 1) from nI_add i 1]
  refine H_sld (nx := 1555) C ⟨dL_law_1554, rfl⟩ (inZ h6 hn (by decide)) ?_
  rw [cl_nI (show i + 1 < 2 ^ 31 by omega)]
  refine H_call (nx := 1558) (n := 3) (As := [.int (Z.xs (i + 1))]) C ⟨dL_law_1555, rfl⟩ kL_200 rfl q_0 rfl (Nat.le_of_ble_eq_true rfl) (Nat.le_of_ble_eq_true rfl) (G_mono (op_load (l := Z.l) (d := 0) (J := J) hI) (fun v I1 J1 R1 h => ?_))
  refine H_aload (nx := 1559) C ⟨dL_law_1558, rfl⟩ rfl ?_
  refine H_aload (nx := 1560) C ⟨dL_law_1559, rfl⟩ rfl ?_
  refine H_iload (nx := 1561) C ⟨dL_law_1560, rfl⟩ rfl ?_
  refine H_iconst (nx := 1562) C ⟨dL_law_1561, rfl⟩ ci_1 ?_
  refine H_iadd (nx := 1563) C ⟨dL_law_1562, rfl⟩ ?_
  rw [show nI i + 1 = nI (i + 1) from nI_add i 1]
  refine H_sld (nx := 1564) C ⟨dL_law_1563, rfl⟩ (inZ h6 hn (by decide)) ?_
  rw [cl_nI (show i + 1 < 2 ^ 31 by omega)]
  refine H_call (nx := 1567) (n := 1) (As := [.int (Z.xs (i + 1))]) C ⟨dL_law_1564, rfl⟩ kL_203 rfl q_75 rfl (cat1 v) (Nat.le_of_ble_eq_true rfl) (G_mono h (fun v2 I2 J2 R2 hq => ?_))
  obtain ⟨⟨x, rfl, rfl⟩, g2, rfl, hI2⟩ := hq
  exact H_icmpeq (tgt := 1697) (nx := 1570) C ⟨dL_law_1567, rfl⟩ rfl (hk I2 J2 g2 hI2)
theorem cs_46 (C : CLx Z) (hI : INV I g) (h6 : i + 6 ≤ Z.n) (hn : Z.n ≤ 3072) (hk : ∀ (I : AI) (J : AJ) (g : Bool), INV I g → GL Z 1697 [.ref 1030, .ref 0, .ref 75, .int (nI i)] [] I J (rX g)) : GL Z 1572 [.ref 1030, .ref 0, .ref 75, .int (nI i)] [] I J (rX g) := by
  refine H_aload (nx := 1573) C ⟨dL_law_1572, rfl⟩ rfl ?_
  refine H_aload (nx := 1574) C ⟨dL_law_1573, rfl⟩ rfl ?_
  refine H_iload (nx := 1575) C ⟨dL_law_1574, rfl⟩ rfl ?_
  refine H_iconst (nx := 1576) C ⟨dL_law_1575, rfl⟩ ci_1 ?_
  refine H_iadd (nx := 1577) C ⟨dL_law_1576, rfl⟩ ?_
  rw [show nI i + 1 = nI (i + 1) from nI_add i 1]
  refine H_sld (nx := 1578) C ⟨dL_law_1577, rfl⟩ (inZ h6 hn (by decide)) ?_
  rw [cl_nI (show i + 1 < 2 ^ 31 by omega)]
  refine H_call (nx := 1581) (n := 2) (As := [.int (Z.xs (i + 1))]) C ⟨dL_law_1578, rfl⟩ kL_204 rfl q_0 rfl (Nat.le_of_ble_eq_true rfl) (Nat.le_of_ble_eq_true rfl) (G_mono (op_judge (l := Z.l) (d := 0) (J := J) hI) (fun v I1 J1 R1 h => ?_))
  refine H_aload (nx := 1582) C ⟨dL_law_1581, rfl⟩ rfl ?_
  refine H_aload (nx := 1583) C ⟨dL_law_1582, rfl⟩ rfl ?_
  refine H_iload (nx := 1584) C ⟨dL_law_1583, rfl⟩ rfl ?_
  refine H_iconst (nx := 1585) C ⟨dL_law_1584, rfl⟩ ci_1 ?_
  refine H_iadd (nx := 1586) C ⟨dL_law_1585, rfl⟩ ?_
  rw [show nI i + 1 = nI (i + 1) from nI_add i 1]
  refine H_sld (nx := 1587) C ⟨dL_law_1586, rfl⟩ (inZ h6 hn (by decide)) ?_
  rw [cl_nI (show i + 1 < 2 ^ 31 by omega)]
  refine H_call (nx := 1590) (n := 4) (As := [.int (Z.xs (i + 1))]) C ⟨dL_law_1587, rfl⟩ kL_207 rfl q_75 rfl (cat1 v) (Nat.le_of_ble_eq_true rfl) (G_mono h (fun v2 I2 J2 R2 hq => ?_))
  obtain ⟨⟨x, rfl, rfl⟩, g2, rfl, hI2⟩ := hq
  exact H_icmpeq (tgt := 1697) (nx := 1593) C ⟨dL_law_1590, rfl⟩ rfl (hk I2 J2 g2 hI2)
theorem cs_47 (C : CLx Z) (hI : INV I g) (h6 : i + 6 ≤ Z.n) (hn : Z.n ≤ 3072) (hk : ∀ (I : AI) (J : AJ) (g : Bool), INV I g → GL Z 1697 [.ref 1030, .ref 0, .ref 75, .int (nI i)] [] I J (rX g)) : GL Z 1595 [.ref 1030, .ref 0, .ref 75, .int (nI i)] [] I J (rX g) := by
  refine H_aload (nx := 1596) C ⟨dL_law_1595, rfl⟩ rfl ?_
  refine H_aload (nx := 1597) C ⟨dL_law_1596, rfl⟩ rfl ?_
  refine H_iload (nx := 1598) C ⟨dL_law_1597, rfl⟩ rfl ?_
  refine H_iconst (nx := 1599) C ⟨dL_law_1598, rfl⟩ ci_1 ?_
  refine H_iadd (nx := 1600) C ⟨dL_law_1599, rfl⟩ ?_
  rw [show nI i + 1 = nI (i + 1) from nI_add i 1]
  refine H_sld (nx := 1601) C ⟨dL_law_1600, rfl⟩ (inZ h6 hn (by decide)) ?_
  rw [cl_nI (show i + 1 < 2 ^ 31 by omega)]
  refine H_aload (nx := 1602) C ⟨dL_law_1601, rfl⟩ rfl ?_
  refine H_iload (nx := 1603) C ⟨dL_law_1602, rfl⟩ rfl ?_
  refine H_iconst (nx := 1604) C ⟨dL_law_1603, rfl⟩ ci_2 ?_
  refine H_iadd (nx := 1605) C ⟨dL_law_1604, rfl⟩ ?_
  rw [show nI i + 2 = nI (i + 2) from nI_add i 2]
  refine H_sld (nx := 1606) C ⟨dL_law_1605, rfl⟩ (inZ h6 hn (by decide)) ?_
  rw [cl_nI (show i + 2 < 2 ^ 31 by omega)]
  refine H_aload (nx := 1607) C ⟨dL_law_1606, rfl⟩ rfl ?_
  refine H_iload (nx := 1608) C ⟨dL_law_1607, rfl⟩ rfl ?_
  refine H_iconst (nx := 1609) C ⟨dL_law_1608, rfl⟩ ci_3 ?_
  refine H_iadd (nx := 1610) C ⟨dL_law_1609, rfl⟩ ?_
  rw [show nI i + 3 = nI (i + 3) from nI_add i 3]
  refine H_sld (nx := 1611) C ⟨dL_law_1610, rfl⟩ (inZ h6 hn (by decide)) ?_
  rw [cl_nI (show i + 3 < 2 ^ 31 by omega)]
  refine H_call (nx := 1614) (n := 0) (As := [.int (Z.xs (i + 1)), .int (Z.xs (i + 2)), .int (Z.xs (i + 3))]) C ⟨dL_law_1611, rfl⟩ kL_208 rfl q_0 rfl (Nat.le_of_ble_eq_true rfl) (Nat.le_of_ble_eq_true rfl) (G_mono (op_shelf (l := Z.l) (d := 0) (J := J) hI) (fun v I1 J1 R1 h => ?_))
  refine H_aload (nx := 1615) C ⟨dL_law_1614, rfl⟩ rfl ?_
  refine H_aload (nx := 1616) C ⟨dL_law_1615, rfl⟩ rfl ?_
  refine H_iload (nx := 1617) C ⟨dL_law_1616, rfl⟩ rfl ?_
  refine H_iconst (nx := 1618) C ⟨dL_law_1617, rfl⟩ ci_1 ?_
  refine H_iadd (nx := 1619) C ⟨dL_law_1618, rfl⟩ ?_
  rw [show nI i + 1 = nI (i + 1) from nI_add i 1]
  refine H_sld (nx := 1620) C ⟨dL_law_1619, rfl⟩ (inZ h6 hn (by decide)) ?_
  rw [cl_nI (show i + 1 < 2 ^ 31 by omega)]
  refine H_aload (nx := 1621) C ⟨dL_law_1620, rfl⟩ rfl ?_
  refine H_iload (nx := 1622) C ⟨dL_law_1621, rfl⟩ rfl ?_
  refine H_iconst (nx := 1623) C ⟨dL_law_1622, rfl⟩ ci_2 ?_
  refine H_iadd (nx := 1624) C ⟨dL_law_1623, rfl⟩ ?_
  rw [show nI i + 2 = nI (i + 2) from nI_add i 2]
  refine H_sld (nx := 1625) C ⟨dL_law_1624, rfl⟩ (inZ h6 hn (by decide)) ?_
  rw [cl_nI (show i + 2 < 2 ^ 31 by omega)]
  refine H_aload (nx := 1626) C ⟨dL_law_1625, rfl⟩ rfl ?_
  refine H_iload (nx := 1627) C ⟨dL_law_1626, rfl⟩ rfl ?_
  refine H_iconst (nx := 1628) C ⟨dL_law_1627, rfl⟩ ci_3 ?_
  refine H_iadd (nx := 1629) C ⟨dL_law_1628, rfl⟩ ?_
  rw [show nI i + 3 = nI (i + 3) from nI_add i 3]
  refine H_sld (nx := 1630) C ⟨dL_law_1629, rfl⟩ (inZ h6 hn (by decide)) ?_
  rw [cl_nI (show i + 3 < 2 ^ 31 by omega)]
  refine H_call (nx := 1633) (n := 0) (As := [.int (Z.xs (i + 1)), .int (Z.xs (i + 2)), .int (Z.xs (i + 3))]) C ⟨dL_law_1630, rfl⟩ kL_211 rfl q_75 rfl (cat1 v) (Nat.le_of_ble_eq_true rfl) (G_mono h (fun v2 I2 J2 R2 hq => ?_))
  obtain ⟨⟨x, rfl, rfl⟩, g2, rfl, hI2⟩ := hq
  exact H_icmpeq (tgt := 1697) (nx := 1636) C ⟨dL_law_1633, rfl⟩ rfl (hk I2 J2 g2 hI2)
theorem cs_48 (C : CLx Z) (hI : INV I g) (h6 : i + 6 ≤ Z.n) (hn : Z.n ≤ 3072) (hk : ∀ (I : AI) (J : AJ) (g : Bool), INV I g → GL Z 1697 [.ref 1030, .ref 0, .ref 75, .int (nI i)] [] I J (rX g)) : GL Z 1638 [.ref 1030, .ref 0, .ref 75, .int (nI i)] [] I J (rX g) := by
  refine H_aload (nx := 1639) C ⟨dL_law_1638, rfl⟩ rfl ?_
  refine H_aload (nx := 1640) C ⟨dL_law_1639, rfl⟩ rfl ?_
  refine H_iload (nx := 1641) C ⟨dL_law_1640, rfl⟩ rfl ?_
  refine H_iconst (nx := 1642) C ⟨dL_law_1641, rfl⟩ ci_1 ?_
  refine H_iadd (nx := 1643) C ⟨dL_law_1642, rfl⟩ ?_
  rw [show nI i + 1 = nI (i + 1) from nI_add i 1]
  refine H_sld (nx := 1644) C ⟨dL_law_1643, rfl⟩ (inZ h6 hn (by decide)) ?_
  rw [cl_nI (show i + 1 < 2 ^ 31 by omega)]
  refine H_aload (nx := 1645) C ⟨dL_law_1644, rfl⟩ rfl ?_
  refine H_iload (nx := 1646) C ⟨dL_law_1645, rfl⟩ rfl ?_
  refine H_iconst (nx := 1647) C ⟨dL_law_1646, rfl⟩ ci_2 ?_
  refine H_iadd (nx := 1648) C ⟨dL_law_1647, rfl⟩ ?_
  rw [show nI i + 2 = nI (i + 2) from nI_add i 2]
  refine H_sld (nx := 1649) C ⟨dL_law_1648, rfl⟩ (inZ h6 hn (by decide)) ?_
  rw [cl_nI (show i + 2 < 2 ^ 31 by omega)]
  refine H_call (nx := 1652) (n := 2) (As := [.int (Z.xs (i + 1)), .int (Z.xs (i + 2))]) C ⟨dL_law_1649, rfl⟩ kL_212 rfl q_0 rfl (Nat.le_of_ble_eq_true rfl) (Nat.le_of_ble_eq_true rfl) (G_mono (op_taken (l := Z.l) (d := 0) (J := J) hI) (fun v I1 J1 R1 h => ?_))
  refine H_aload (nx := 1653) C ⟨dL_law_1652, rfl⟩ rfl ?_
  refine H_aload (nx := 1654) C ⟨dL_law_1653, rfl⟩ rfl ?_
  refine H_iload (nx := 1655) C ⟨dL_law_1654, rfl⟩ rfl ?_
  refine H_iconst (nx := 1656) C ⟨dL_law_1655, rfl⟩ ci_1 ?_
  refine H_iadd (nx := 1657) C ⟨dL_law_1656, rfl⟩ ?_
  rw [show nI i + 1 = nI (i + 1) from nI_add i 1]
  refine H_sld (nx := 1658) C ⟨dL_law_1657, rfl⟩ (inZ h6 hn (by decide)) ?_
  rw [cl_nI (show i + 1 < 2 ^ 31 by omega)]
  refine H_aload (nx := 1659) C ⟨dL_law_1658, rfl⟩ rfl ?_
  refine H_iload (nx := 1660) C ⟨dL_law_1659, rfl⟩ rfl ?_
  refine H_iconst (nx := 1661) C ⟨dL_law_1660, rfl⟩ ci_2 ?_
  refine H_iadd (nx := 1662) C ⟨dL_law_1661, rfl⟩ ?_
  rw [show nI i + 2 = nI (i + 2) from nI_add i 2]
  refine H_sld (nx := 1663) C ⟨dL_law_1662, rfl⟩ (inZ h6 hn (by decide)) ?_
  rw [cl_nI (show i + 2 < 2 ^ 31 by omega)]
  refine H_call (nx := 1666) (n := 1) (As := [.int (Z.xs (i + 1)), .int (Z.xs (i + 2))]) C ⟨dL_law_1663, rfl⟩ kL_215 rfl q_75 rfl (cat1 v) (Nat.le_of_ble_eq_true rfl) (G_mono h (fun v2 I2 J2 R2 hq => ?_))
  obtain ⟨⟨x, rfl, rfl⟩, g2, rfl, hI2⟩ := hq
  exact H_icmpeq (tgt := 1697) (nx := 1669) C ⟨dL_law_1666, rfl⟩ rfl (hk I2 J2 g2 hI2)
theorem cs_49 (C : CLx Z) (hI : INV I g) (h6 : i + 6 ≤ Z.n) (hn : Z.n ≤ 3072) (hk : ∀ (I : AI) (J : AJ) (g : Bool), INV I g → GL Z 1697 [.ref 1030, .ref 0, .ref 75, .int (nI i)] [] I J (rX g)) : GL Z 1671 [.ref 1030, .ref 0, .ref 75, .int (nI i)] [] I J (rX g) := by
  refine H_aload (nx := 1672) C ⟨dL_law_1671, rfl⟩ rfl ?_
  refine H_call (nx := 1675) (n := 0) (As := []) C ⟨dL_law_1672, rfl⟩ kL_216 rfl q_0 rfl (Nat.le_of_ble_eq_true rfl) (Nat.le_of_ble_eq_true rfl) (G_mono (op_image (l := Z.l) (d := 0) (J := J) hI) (fun v I1 J1 R1 h => ?_))
  refine H_aload (nx := 1676) C ⟨dL_law_1675, rfl⟩ rfl ?_
  refine H_call (nx := 1679) (n := 0) (As := []) C ⟨dL_law_1676, rfl⟩ kL_219 rfl q_75 rfl (cat1 v) (Nat.le_of_ble_eq_true rfl) (G_mono h (fun v2 I2 J2 R2 hq => ?_))
  obtain ⟨⟨x, rfl, rfl⟩, g2, rfl, hI2⟩ := hq
  exact H_icmpeq (tgt := 1697) (nx := 1682) C ⟨dL_law_1679, rfl⟩ rfl (hk I2 J2 g2 hI2)
theorem cs_50 (C : CLx Z) (hI : INV I g) (h6 : i + 6 ≤ Z.n) (hn : Z.n ≤ 3072) (hk : ∀ (I : AI) (J : AJ) (g : Bool), INV I g → GL Z 1697 [.ref 1030, .ref 0, .ref 75, .int (nI i)] [] I J (rX g)) : GL Z 1684 [.ref 1030, .ref 0, .ref 75, .int (nI i)] [] I J (rX g) := by
  refine H_aload (nx := 1685) C ⟨dL_law_1684, rfl⟩ rfl ?_
  refine H_call (nx := 1688) (n := 0) (As := []) C ⟨dL_law_1685, rfl⟩ kL_220 rfl q_0 rfl (Nat.le_of_ble_eq_true rfl) (Nat.le_of_ble_eq_true rfl) (G_mono (op_back (l := Z.l) (d := 0) (J := J) hI) (fun v I1 J1 R1 h => ?_))
  refine H_aload (nx := 1689) C ⟨dL_law_1688, rfl⟩ rfl ?_
  refine H_call (nx := 1692) (n := 0) (As := []) C ⟨dL_law_1689, rfl⟩ kL_223 rfl q_75 rfl (cat1 v) (Nat.le_of_ble_eq_true rfl) (G_mono h (fun v2 I2 J2 R2 hq => ?_))
  obtain ⟨⟨x, rfl, rfl⟩, g2, rfl, hI2⟩ := hq
  exact H_icmpeq (tgt := 1697) (nx := 1695) C ⟨dL_law_1692, rfl⟩ rfl (hk I2 J2 g2 hI2)
theorem disp (C : CLx Z) (hI : INV I g) (h6 : i + 6 ≤ Z.n) (hn : Z.n ≤ 3072) (hk : ∀ (I : AI) (J : AJ) (g : Bool), INV I g → GL Z 1697 [.ref 1030, .ref 0, .ref 75, .int (nI i)] [] I J (rX g)) : ∀ v : Nat, v < 64 → GL Z 33 [.ref 1030, .ref 0, .ref 75, .int (nI i)] [.int (nI v)] I J (rX g)
  | 0, _ => H_tabAt (v := 0) (tgt := 252) (nx := 252) C ⟨dL_law_33, rfl⟩ rfl (by decide) (by decide) (off := 219) rfl rfl (cs_0 C hI h6 hn hk)
  | 1, _ => H_tabAt (v := 1) (tgt := 285) (nx := 252) C ⟨dL_law_33, rfl⟩ rfl (by decide) (by decide) (off := 252) rfl rfl (cs_1 C hI h6 hn hk)
  | 2, _ => H_tabAt (v := 2) (tgt := 328) (nx := 252) C ⟨dL_law_33, rfl⟩ rfl (by decide) (by decide) (off := 295) rfl rfl (cs_2 C hI h6 hn hk)
  | 3, _ => H_tabAt (v := 3) (tgt := 361) (nx := 252) C ⟨dL_law_33, rfl⟩ rfl (by decide) (by decide) (off := 328) rfl rfl (cs_3 C hI h6 hn hk)
  | 4, _ => H_tabAt (v := 4) (tgt := 404) (nx := 252) C ⟨dL_law_33, rfl⟩ rfl (by decide) (by decide) (off := 371) rfl rfl (cs_4 C hI h6 hn hk)
  | 5, _ => H_tabAt (v := 5) (tgt := 427) (nx := 252) C ⟨dL_law_33, rfl⟩ rfl (by decide) (by decide) (off := 394) rfl rfl (cs_5 C hI h6 hn hk)
  | 6, _ => H_tabAt (v := 6) (tgt := 450) (nx := 252) C ⟨dL_law_33, rfl⟩ rfl (by decide) (by decide) (off := 417) rfl rfl (cs_6 C hI h6 hn hk)
  | 7, _ => H_tabAt (v := 7) (tgt := 473) (nx := 252) C ⟨dL_law_33, rfl⟩ rfl (by decide) (by decide) (off := 440) rfl rfl (cs_7 C hI h6 hn hk)
  | 8, _ => H_tabAt (v := 8) (tgt := 496) (nx := 252) C ⟨dL_law_33, rfl⟩ rfl (by decide) (by decide) (off := 463) rfl rfl (cs_8 C hI h6 hn hk)
  | 9, _ => H_tabAt (v := 9) (tgt := 519) (nx := 252) C ⟨dL_law_33, rfl⟩ rfl (by decide) (by decide) (off := 486) rfl rfl (cs_9 C hI h6 hn hk)
  | 10, _ => H_tabAt (v := 10) (tgt := 542) (nx := 252) C ⟨dL_law_33, rfl⟩ rfl (by decide) (by decide) (off := 509) rfl rfl (cs_10 C hI h6 hn hk)
  | 11, _ => H_tabAt (v := 11) (tgt := 565) (nx := 252) C ⟨dL_law_33, rfl⟩ rfl (by decide) (by decide) (off := 532) rfl rfl (cs_11 C hI h6 hn hk)
  | 12, _ => H_tabAt (v := 12) (tgt := 589) (nx := 252) C ⟨dL_law_33, rfl⟩ rfl (by decide) (by decide) (off := 556) rfl rfl (cs_12 C hI h6 hn hk)
  | 13, _ => H_tabAt (v := 13) (tgt := 612) (nx := 252) C ⟨dL_law_33, rfl⟩ rfl (by decide) (by decide) (off := 579) rfl rfl (cs_13 C hI h6 hn hk)
  | 14, _ => H_tabAt (v := 14) (tgt := 635) (nx := 252) C ⟨dL_law_33, rfl⟩ rfl (by decide) (by decide) (off := 602) rfl rfl (cs_14 C hI h6 hn hk)
  | 15, _ => H_tabAt (v := 15) (tgt := 658) (nx := 252) C ⟨dL_law_33, rfl⟩ rfl (by decide) (by decide) (off := 625) rfl rfl (cs_15 C hI h6 hn hk)
  | 16, _ => H_tabAt (v := 16) (tgt := 681) (nx := 252) C ⟨dL_law_33, rfl⟩ rfl (by decide) (by decide) (off := 648) rfl rfl (cs_16 C hI h6 hn hk)
  | 17, _ => H_tabAt (v := 17) (tgt := 694) (nx := 252) C ⟨dL_law_33, rfl⟩ rfl (by decide) (by decide) (off := 661) rfl rfl (cs_17 C hI h6 hn hk)
  | 18, _ => H_tabAt (v := 18) (tgt := 717) (nx := 252) C ⟨dL_law_33, rfl⟩ rfl (by decide) (by decide) (off := 684) rfl rfl (cs_18 C hI h6 hn hk)
  | 19, _ => H_tabAt (v := 19) (tgt := 740) (nx := 252) C ⟨dL_law_33, rfl⟩ rfl (by decide) (by decide) (off := 707) rfl rfl (cs_19 C hI h6 hn hk)
  | 20, _ => H_tabAt (v := 20) (tgt := 773) (nx := 252) C ⟨dL_law_33, rfl⟩ rfl (by decide) (by decide) (off := 740) rfl rfl (cs_20 C hI h6 hn hk)
  | 21, _ => H_tabAt (v := 21) (tgt := 816) (nx := 252) C ⟨dL_law_33, rfl⟩ rfl (by decide) (by decide) (off := 783) rfl rfl (cs_21 C hI h6 hn hk)
  | 22, _ => H_tabAt (v := 22) (tgt := 839) (nx := 252) C ⟨dL_law_33, rfl⟩ rfl (by decide) (by decide) (off := 806) rfl rfl (cs_22 C hI h6 hn hk)
  | 23, _ => H_tabAt (v := 23) (tgt := 862) (nx := 252) C ⟨dL_law_33, rfl⟩ rfl (by decide) (by decide) (off := 829) rfl rfl (cs_23 C hI h6 hn hk)
  | 24, _ => H_tabAt (v := 24) (tgt := 895) (nx := 252) C ⟨dL_law_33, rfl⟩ rfl (by decide) (by decide) (off := 862) rfl rfl (cs_24 C hI h6 hn hk)
  | 25, _ => H_tabAt (v := 25) (tgt := 938) (nx := 252) C ⟨dL_law_33, rfl⟩ rfl (by decide) (by decide) (off := 905) rfl rfl (cs_25 C hI h6 hn hk)
  | 26, _ => H_tabAt (v := 26) (tgt := 971) (nx := 252) C ⟨dL_law_33, rfl⟩ rfl (by decide) (by decide) (off := 938) rfl rfl (cs_26 C hI h6 hn hk)
  | 27, _ => H_tabAt (v := 27) (tgt := 1004) (nx := 252) C ⟨dL_law_33, rfl⟩ rfl (by decide) (by decide) (off := 971) rfl rfl (cs_27 C hI h6 hn hk)
  | 28, _ => H_tabAt (v := 28) (tgt := 1027) (nx := 252) C ⟨dL_law_33, rfl⟩ rfl (by decide) (by decide) (off := 994) rfl rfl (cs_28 C hI h6 hn hk)
  | 29, _ => H_tabAt (v := 29) (tgt := 1050) (nx := 252) C ⟨dL_law_33, rfl⟩ rfl (by decide) (by decide) (off := 1017) rfl rfl (cs_29 C hI h6 hn hk)
  | 30, _ => H_tabAt (v := 30) (tgt := 1073) (nx := 252) C ⟨dL_law_33, rfl⟩ rfl (by decide) (by decide) (off := 1040) rfl rfl (cs_30 C hI h6 hn hk)
  | 31, _ => H_tabAt (v := 31) (tgt := 1096) (nx := 252) C ⟨dL_law_33, rfl⟩ rfl (by decide) (by decide) (off := 1063) rfl rfl (cs_31 C hI h6 hn hk)
  | 32, _ => H_tabAt (v := 32) (tgt := 1129) (nx := 252) C ⟨dL_law_33, rfl⟩ rfl (by decide) (by decide) (off := 1096) rfl rfl (cs_32 C hI h6 hn hk)
  | 33, _ => H_tabAt (v := 33) (tgt := 1162) (nx := 252) C ⟨dL_law_33, rfl⟩ rfl (by decide) (by decide) (off := 1129) rfl rfl (cs_33 C hI h6 hn hk)
  | 34, _ => H_tabAt (v := 34) (tgt := 1175) (nx := 252) C ⟨dL_law_33, rfl⟩ rfl (by decide) (by decide) (off := 1142) rfl rfl (cs_34 C hI h6 hn hk)
  | 35, _ => H_tabAt (v := 35) (tgt := 1188) (nx := 252) C ⟨dL_law_33, rfl⟩ rfl (by decide) (by decide) (off := 1155) rfl rfl (cs_35 C hI h6 hn hk)
  | 36, _ => H_tabAt (v := 36) (tgt := 1212) (nx := 252) C ⟨dL_law_33, rfl⟩ rfl (by decide) (by decide) (off := 1179) rfl rfl (cs_36 C hI h6 hn hk)
  | 37, _ => H_tabAt (v := 37) (tgt := 1245) (nx := 252) C ⟨dL_law_33, rfl⟩ rfl (by decide) (by decide) (off := 1212) rfl rfl (cs_37 C hI h6 hn hk)
  | 38, _ => H_tabAt (v := 38) (tgt := 1258) (nx := 252) C ⟨dL_law_33, rfl⟩ rfl (by decide) (by decide) (off := 1225) rfl rfl (cs_38 C hI h6 hn hk)
  | 39, _ => H_tabAt (v := 39) (tgt := 1281) (nx := 252) C ⟨dL_law_33, rfl⟩ rfl (by decide) (by decide) (off := 1248) rfl rfl (cs_39 C hI h6 hn hk)
  | 40, _ => H_tabAt (v := 40) (tgt := 1314) (nx := 252) C ⟨dL_law_33, rfl⟩ rfl (by decide) (by decide) (off := 1281) rfl rfl (cs_40 C hI h6 hn hk)
  | 41, _ => H_tabAt (v := 41) (tgt := 1367) (nx := 252) C ⟨dL_law_33, rfl⟩ rfl (by decide) (by decide) (off := 1334) rfl rfl (cs_41 C hI h6 hn hk)
  | 42, _ => H_tabAt (v := 42) (tgt := 1410) (nx := 252) C ⟨dL_law_33, rfl⟩ rfl (by decide) (by decide) (off := 1377) rfl rfl (cs_42 C hI h6 hn hk)
  | 43, _ => H_tabAt (v := 43) (tgt := 1453) (nx := 252) C ⟨dL_law_33, rfl⟩ rfl (by decide) (by decide) (off := 1420) rfl rfl (cs_43 C hI h6 hn hk)
  | 44, _ => H_tabAt (v := 44) (tgt := 1486) (nx := 252) C ⟨dL_law_33, rfl⟩ rfl (by decide) (by decide) (off := 1453) rfl rfl (cs_44 C hI h6 hn hk)
  | 45, _ => H_tabAt (v := 45) (tgt := 1549) (nx := 252) C ⟨dL_law_33, rfl⟩ rfl (by decide) (by decide) (off := 1516) rfl rfl (cs_45 C hI h6 hn hk)
  | 46, _ => H_tabAt (v := 46) (tgt := 1572) (nx := 252) C ⟨dL_law_33, rfl⟩ rfl (by decide) (by decide) (off := 1539) rfl rfl (cs_46 C hI h6 hn hk)
  | 47, _ => H_tabAt (v := 47) (tgt := 1595) (nx := 252) C ⟨dL_law_33, rfl⟩ rfl (by decide) (by decide) (off := 1562) rfl rfl (cs_47 C hI h6 hn hk)
  | 48, _ => H_tabAt (v := 48) (tgt := 1638) (nx := 252) C ⟨dL_law_33, rfl⟩ rfl (by decide) (by decide) (off := 1605) rfl rfl (cs_48 C hI h6 hn hk)
  | 49, _ => H_tabAt (v := 49) (tgt := 1671) (nx := 252) C ⟨dL_law_33, rfl⟩ rfl (by decide) (by decide) (off := 1638) rfl rfl (cs_49 C hI h6 hn hk)
  | 50, _ => H_tabAt (v := 50) (tgt := 1684) (nx := 252) C ⟨dL_law_33, rfl⟩ rfl (by decide) (by decide) (off := 1651) rfl rfl (cs_50 C hI h6 hn hk)
  | v + 51, h => H_tabOut (tgt := 1697) (nx := 252) C ⟨dL_law_33, rfl⟩ (Or.inr (by rw [nI_toInt (by omega)]; omega)) rfl (hk I J g hI)
theorem and63 (x : Int32) : ∃ v, v < 64 ∧ x &&& 63 = nI v := by
  refine ⟨(x &&& 63).toBitVec.toNat, ?_, ?_⟩
  · show (x.toBitVec &&& 63#32).toNat < 64
    rw [BitVec.toNat_and]
    exact Nat.lt_succ_of_le Nat.and_le_right
  · apply Int32.toBitVec_inj.mp
    unfold nI
    rw [Int32.toBitVec_ofNat']
    exact (BitVec.ofNat_toNat 32 (x &&& 63).toBitVec).symm ▸ rfl
theorem low6 : ∀ n : Nat, n < 6 → ∀ i : Nat, i < 6 → nI n - 6 < nI i := by decide
theorem law_loop (C : CLx Z) (hn : Z.n ≤ 3072) : ∀ (k i : Nat) (I : AI) (J : AJ) (g : Bool), Z.n - i = k → i ≤ Z.n → INV I g → GL Z 18 [.ref 1030, .ref 0, .ref 75, .int (nI i)] [] I J (rX g) := by
  intro k
  induction k using Nat.strongRecOn with
  | _ k ih =>
  intro i I J g hik hi hI
  refine H_iload (nx := 19) C ⟨dL_law_18, rfl⟩ rfl ?_
  refine H_aload (nx := 20) C ⟨dL_law_19, rfl⟩ rfl ?_
  refine H_slen (nx := 21) C ⟨dL_law_20, rfl⟩ ?_
  refine H_bipush (nx := 23) C ⟨dL_law_21, rfl⟩ cb_6 ?_
  refine H_isub (nx := 24) C ⟨dL_law_23, rfl⟩ ?_
  have hcmp : nI Z.n - 6 < nI i ↔ Z.n < i + 6 := by
    by_cases h : 6 ≤ Z.n
    · rw [show nI Z.n - 6 = nI (Z.n - 6) from nI_sub h, nI_lt_iff (by omega) (by omega)]
      omega
    · exact ⟨fun _ => by omega, fun _ => low6 Z.n (by omega) i (by omega)⟩
  refine H_icmpgt (tgt := 1703) (nx := 27) C ⟨dL_law_24, rfl⟩ rfl (fun h => ?_) (fun h => ?_)
  · refine H_iconst (nx := 1704) C ⟨dL_law_1703, rfl⟩ ci_1 ?_
    exact H_end (nx := 1705) C ⟨dL_law_1704, rfl⟩
  · rw [hcmp] at h
    refine H_aload (nx := 28) C ⟨dL_law_27, rfl⟩ rfl ?_
    refine H_iload (nx := 29) C ⟨dL_law_28, rfl⟩ rfl ?_
    refine H_sld (nx := 30) C ⟨dL_law_29, rfl⟩ (vp_in_nI (by omega) (by omega)) ?_
    refine H_bipush (nx := 32) C ⟨dL_law_30, rfl⟩ cb_63 ?_
    refine H_iand (nx := 33) C ⟨dL_law_32, rfl⟩ ?_
    obtain ⟨v, hv, ev⟩ := and63 (Z.xs (nI i).toNatClampNeg)
    rw [ev]
    refine disp C hI (by omega) hn (fun I1 J1 g1 hI1 => ?_) v hv
    refine H_iinc (nx := 1700) C ⟨dL_law_1697, rfl⟩ ci_6 rfl ?_
    refine H_goto (tgt := 18) (nx := 1703) C ⟨dL_law_1700, rfl⟩ rfl ?_
    rw [show nI i + 6 = nI (i + 6) from nI_add i 6]
    exact ih (Z.n - (i + 6)) (by omega) (i + 6) I1 J1 g1 rfl (by omega) hI1
end CASES
