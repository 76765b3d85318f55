/-! one turn of the law's loop -/
def fg_TN (t i : Int) (σ : fw_M) (a6 a7 a8 : fw_V) : Prop := ∃ (σ' : fw_M) (b6 b7 b8 : fw_V), fw_E 0 37 [(6, 0), (2, 1), (2, 32), (2, 54), (2, 55), (0, i), a6, a7, a8] [] σ = fw_E 0 28 [(6, 0), (2, 1), (2, 32), (2, 54), (2, 55), (0, i + 3), b6, b7, b8] [] σ' ∧ fg_INV (t + 1) σ' ∧ fg_SC σ σ'
theorem op_seal1 {t p : Int} {σ : fw_M} (h : fg_INV t σ) : fg_OK t (fun σ => fw_E 204 0 [(2, 1), (0, p), (2, 54), (8, 0)] [] σ) (fun σ => fw_E 171 0 [(2, 32), (0, p)] [] σ) σ := (op_seal h).1
theorem op_seal2 {t p : Int} {σ : fw_M} (h : fg_INV t σ) : fg_OK t (fun σ => fw_E 205 0 [(2, 1), (0, p), (2, 54), (8, 0)] [] σ) (fun σ => fw_E 172 0 [(2, 32), (0, p)] [] σ) σ := (op_seal h).2
theorem fg_cmp0 (b : Int) : (if (if b < b then (1 : Int) else if b = b then 0 else -1) = 0 then (0 : Int) else 1) = 0 := by rw [if_neg (Int.lt_irrefl b), if_pos rfl]; rfl

theorem fl_0 {t i : Int} {σ : fw_M} {a6 a7 a8 : fw_V} (h : fg_INV t σ) (ht : t ≤ 1600) (h0 : 0 ≤ i) (h1 : i + 3 ≤ fw_r σ (-3) 0) (hL : fw_r σ (-3) 0 < 2147483648) (op : fw_r σ (-2) i % 64 = 0) : fg_TN t i σ a6 a7 a8 := by
  have w1 : fw_w (i + 1) = i + 1 := fw_w_id (by omega) (by omega)
  have w2 : fw_w (i + 2) = i + 2 := fw_w_id (by omega) (by omega)
  have w3 : fw_w (i + 3) = i + 3 := fw_w_id (by omega) (by omega)
  obtain ⟨k, b, σ1, σ2, e1, e2, hk, hb, hI, hs, hs1⟩ := op_setLoop (N := fw_r σ (-2) (i + 1)) h
  dsimp only at e1 e2
  have l1 : fw_r σ1 (-3) 0 = fw_r σ (-3) 0 := hs1 _ _ (by decide)
  have s1 : ∀ j, fw_r σ1 (-2) j = fw_r σ (-2) j := fun j => hs1 _ _ (by decide)
  have c2 : fw_E 122 0 [(2, 32)] [] σ2 = some ((0, k), σ2) := by rw [fw_b_122_0, hk]
  refine ⟨σ2, (0, k), (0, b), a8, ?_, hI, hs⟩
  rw [fw_b_0_37 _ _ _ _ _ h0 (by omega), op, fw_sw_0, fw_b_0_204 _ _ _ _ _ (by (try rw [w1]); (try rw [w2]); omega) (by (try rw [w1]); (try rw [w2]); omega), w1, e1, fw_bs, fw_cn_0, fw_b_0_215 _ _ _ _ _ _ (by (try rw [w1]); (try rw [w2]); (try rw [l1]); omega) (by (try rw [w1]); (try rw [w2]); (try rw [l1]); omega), w1, s1, e2, fw_bs, fw_cn_0, fw_b_0_227 _ _ _ _ _ _, c2, fw_bs, fw_cn_0, fw_b_0_233 _ _ _ _ _ _, if_pos rfl, fw_b_0_240 _ _ _ _ _]
  by_cases hz : k = 0
  · have z := hb hz
    rw [if_pos hz, fw_b_0_245 _ _ _ _ _, z, if_neg (Int.lt_irrefl b), if_pos rfl, if_pos rfl, fw_b_0_257 _ _ _ _ _, w3]
  · rw [if_neg hz, fw_b_0_257 _ _ _ _ _, w3]

theorem fl_1 {t i : Int} {σ : fw_M} {a6 a7 a8 : fw_V} (h : fg_INV t σ) (ht : t ≤ 1600) (h0 : 0 ≤ i) (h1 : i + 3 ≤ fw_r σ (-3) 0) (hL : fw_r σ (-3) 0 < 2147483648) (op : fw_r σ (-2) i % 64 = 1) : fg_TN t i σ a6 a7 a8 := by
  have w1 : fw_w (i + 1) = i + 1 := fw_w_id (by omega) (by omega)
  have w2 : fw_w (i + 2) = i + 2 := fw_w_id (by omega) (by omega)
  have w3 : fw_w (i + 3) = i + 3 := fw_w_id (by omega) (by omega)
  obtain ⟨k, b, σ1, σ2, e1, e2, hk, hb, hI, hs, hs1⟩ := op_addChute (x := fw_r σ (-2) (i + 1)) (y := fw_r σ (-2) (i + 2)) h
  dsimp only at e1 e2
  have l1 : fw_r σ1 (-3) 0 = fw_r σ (-3) 0 := hs1 _ _ (by decide)
  have s1 : ∀ j, fw_r σ1 (-2) j = fw_r σ (-2) j := fun j => hs1 _ _ (by decide)
  have c2 : fw_E 122 0 [(2, 32)] [] σ2 = some ((0, k), σ2) := by rw [fw_b_122_0, hk]
  refine ⟨σ2, (0, k), (0, b), a8, ?_, hI, hs⟩
  rw [fw_b_0_37 _ _ _ _ _ h0 (by omega), op, fw_sw_1, fw_b_0_260 _ _ _ _ _ (by (try rw [w1]); (try rw [w2]); omega) (by (try rw [w1]); (try rw [w2]); omega) (by (try rw [w1]); (try rw [w2]); omega) (by (try rw [w1]); (try rw [w2]); omega), w1, w2, e1, fw_bs, fw_cn_0, fw_b_0_277 _ _ _ _ _ _ (by (try rw [w1]); (try rw [w2]); (try rw [l1]); omega) (by (try rw [w1]); (try rw [w2]); (try rw [l1]); omega) (by (try rw [w1]); (try rw [w2]); (try rw [l1]); omega) (by (try rw [w1]); (try rw [w2]); (try rw [l1]); omega), w1, w2, s1, s1, e2, fw_bs, fw_cn_0, fw_b_0_295 _ _ _ _ _ _, c2, fw_bs, fw_cn_0, fw_b_0_301 _ _ _ _ _ _, if_pos rfl, fw_b_0_308 _ _ _ _ _]
  by_cases hz : k = 0
  · have z := hb hz
    rw [if_pos hz, fw_b_0_313 _ _ _ _ _, z, if_neg (Int.lt_irrefl b), if_pos rfl, if_pos rfl, fw_b_0_325 _ _ _ _ _, w3]
  · rw [if_neg hz, fw_b_0_325 _ _ _ _ _, w3]

theorem fl_2 {t i : Int} {σ : fw_M} {a6 a7 a8 : fw_V} (h : fg_INV t σ) (ht : t ≤ 1600) (h0 : 0 ≤ i) (h1 : i + 3 ≤ fw_r σ (-3) 0) (hL : fw_r σ (-3) 0 < 2147483648) (op : fw_r σ (-2) i % 64 = 2) : fg_TN t i σ a6 a7 a8 := by
  have w1 : fw_w (i + 1) = i + 1 := fw_w_id (by omega) (by omega)
  have w2 : fw_w (i + 2) = i + 2 := fw_w_id (by omega) (by omega)
  have w3 : fw_w (i + 3) = i + 3 := fw_w_id (by omega) (by omega)
  obtain ⟨k, b, σ1, σ2, e1, e2, hk, hb, hI, hs, hs1⟩ := op_setCapacity (p := fw_r σ (-2) (i + 1)) (q := fw_r σ (-2) (i + 2)) h
  dsimp only at e1 e2
  have l1 : fw_r σ1 (-3) 0 = fw_r σ (-3) 0 := hs1 _ _ (by decide)
  have s1 : ∀ j, fw_r σ1 (-2) j = fw_r σ (-2) j := fun j => hs1 _ _ (by decide)
  have c2 : fw_E 122 0 [(2, 32)] [] σ2 = some ((0, k), σ2) := by rw [fw_b_122_0, hk]
  refine ⟨σ2, (0, k), (0, b), a8, ?_, hI, hs⟩
  rw [fw_b_0_37 _ _ _ _ _ h0 (by omega), op, fw_sw_2, fw_b_0_328 _ _ _ _ _ (by (try rw [w1]); (try rw [w2]); omega) (by (try rw [w1]); (try rw [w2]); omega) (by (try rw [w1]); (try rw [w2]); omega) (by (try rw [w1]); (try rw [w2]); omega), w1, w2, e1, fw_bs, fw_cn_0, fw_b_0_345 _ _ _ _ _ _ (by (try rw [w1]); (try rw [w2]); (try rw [l1]); omega) (by (try rw [w1]); (try rw [w2]); (try rw [l1]); omega) (by (try rw [w1]); (try rw [w2]); (try rw [l1]); omega) (by (try rw [w1]); (try rw [w2]); (try rw [l1]); omega), w1, w2, s1, s1, e2, fw_bs, fw_cn_0, fw_b_0_363 _ _ _ _ _ _, c2, fw_bs, fw_cn_0, fw_b_0_369 _ _ _ _ _ _, if_pos rfl, fw_b_0_376 _ _ _ _ _]
  by_cases hz : k = 0
  · have z := hb hz
    rw [if_pos hz, fw_b_0_381 _ _ _ _ _, z, if_neg (Int.lt_irrefl b), if_pos rfl, if_pos rfl, fw_b_0_393 _ _ _ _ _, w3]
  · rw [if_neg hz, fw_b_0_393 _ _ _ _ _, w3]

theorem fl_3 {t i : Int} {σ : fw_M} {a6 a7 a8 : fw_V} (h : fg_INV t σ) (ht : t ≤ 1600) (h0 : 0 ≤ i) (h1 : i + 3 ≤ fw_r σ (-3) 0) (hL : fw_r σ (-3) 0 < 2147483648) (op : fw_r σ (-2) i % 64 = 3) : fg_TN t i σ a6 a7 a8 := by
  have w1 : fw_w (i + 1) = i + 1 := fw_w_id (by omega) (by omega)
  have w2 : fw_w (i + 2) = i + 2 := fw_w_id (by omega) (by omega)
  have w3 : fw_w (i + 3) = i + 3 := fw_w_id (by omega) (by omega)
  obtain ⟨k, b, σ1, σ2, e1, e2, hk, hb, hI, hs, hs1⟩ := op_setLimit (p := fw_r σ (-2) (i + 1)) h
  dsimp only at e1 e2
  have l1 : fw_r σ1 (-3) 0 = fw_r σ (-3) 0 := hs1 _ _ (by decide)
  have s1 : ∀ j, fw_r σ1 (-2) j = fw_r σ (-2) j := fun j => hs1 _ _ (by decide)
  have c2 : fw_E 122 0 [(2, 32)] [] σ2 = some ((0, k), σ2) := by rw [fw_b_122_0, hk]
  refine ⟨σ2, (0, k), (0, b), a8, ?_, hI, hs⟩
  rw [fw_b_0_37 _ _ _ _ _ h0 (by omega), op, fw_sw_3, fw_b_0_396 _ _ _ _ _ (by (try rw [w1]); (try rw [w2]); omega) (by (try rw [w1]); (try rw [w2]); omega), w1, e1, fw_bs, fw_cn_0, fw_b_0_407 _ _ _ _ _ _ (by (try rw [w1]); (try rw [w2]); (try rw [l1]); omega) (by (try rw [w1]); (try rw [w2]); (try rw [l1]); omega), w1, s1, e2, fw_bs, fw_cn_0, fw_b_0_419 _ _ _ _ _ _, c2, fw_bs, fw_cn_0, fw_b_0_425 _ _ _ _ _ _, if_pos rfl, fw_b_0_432 _ _ _ _ _]
  by_cases hz : k = 0
  · have z := hb hz
    rw [if_pos hz, fw_b_0_437 _ _ _ _ _, z, if_neg (Int.lt_irrefl b), if_pos rfl, if_pos rfl, fw_b_0_449 _ _ _ _ _, w3]
  · rw [if_neg hz, fw_b_0_449 _ _ _ _ _, w3]

theorem fl_4 {t i : Int} {σ : fw_M} {a6 a7 a8 : fw_V} (h : fg_INV t σ) (ht : t ≤ 1600) (h0 : 0 ≤ i) (h1 : i + 3 ≤ fw_r σ (-3) 0) (hL : fw_r σ (-3) 0 < 2147483648) (op : fw_r σ (-2) i % 64 = 4) : fg_TN t i σ a6 a7 a8 := by
  have w1 : fw_w (i + 1) = i + 1 := fw_w_id (by omega) (by omega)
  have w2 : fw_w (i + 2) = i + 2 := fw_w_id (by omega) (by omega)
  have w3 : fw_w (i + 3) = i + 3 := fw_w_id (by omega) (by omega)
  obtain ⟨k, b, σ1, σ2, e1, e2, hk, hb, hI, hs, hs1⟩ := op_jam (p := fw_r σ (-2) (i + 1)) h
  dsimp only at e1 e2
  have l1 : fw_r σ1 (-3) 0 = fw_r σ (-3) 0 := hs1 _ _ (by decide)
  have s1 : ∀ j, fw_r σ1 (-2) j = fw_r σ (-2) j := fun j => hs1 _ _ (by decide)
  have c2 : fw_E 122 0 [(2, 32)] [] σ2 = some ((0, k), σ2) := by rw [fw_b_122_0, hk]
  refine ⟨σ2, (0, k), (0, b), a8, ?_, hI, hs⟩
  rw [fw_b_0_37 _ _ _ _ _ h0 (by omega), op, fw_sw_4, fw_b_0_452 _ _ _ _ _ (by (try rw [w1]); (try rw [w2]); omega) (by (try rw [w1]); (try rw [w2]); omega), w1, e1, fw_bs, fw_cn_0, fw_b_0_463 _ _ _ _ _ _ (by (try rw [w1]); (try rw [w2]); (try rw [l1]); omega) (by (try rw [w1]); (try rw [w2]); (try rw [l1]); omega), w1, s1, e2, fw_bs, fw_cn_0, fw_b_0_475 _ _ _ _ _ _, c2, fw_bs, fw_cn_0, fw_b_0_481 _ _ _ _ _ _, if_pos rfl, fw_b_0_488 _ _ _ _ _]
  by_cases hz : k = 0
  · have z := hb hz
    rw [if_pos hz, fw_b_0_493 _ _ _ _ _, z, if_neg (Int.lt_irrefl b), if_pos rfl, if_pos rfl, fw_b_0_505 _ _ _ _ _, w3]
  · rw [if_neg hz, fw_b_0_505 _ _ _ _ _, w3]

theorem fl_5 {t i : Int} {σ : fw_M} {a6 a7 a8 : fw_V} (h : fg_INV t σ) (ht : t ≤ 1600) (h0 : 0 ≤ i) (h1 : i + 3 ≤ fw_r σ (-3) 0) (hL : fw_r σ (-3) 0 < 2147483648) (op : fw_r σ (-2) i % 64 = 5) : fg_TN t i σ a6 a7 a8 := by
  have w1 : fw_w (i + 1) = i + 1 := fw_w_id (by omega) (by omega)
  have w2 : fw_w (i + 2) = i + 2 := fw_w_id (by omega) (by omega)
  have w3 : fw_w (i + 3) = i + 3 := fw_w_id (by omega) (by omega)
  obtain ⟨k, b, σ1, σ2, e1, e2, hk, hb, hI, hs, hs1⟩ := op_free (p := fw_r σ (-2) (i + 1)) h
  dsimp only at e1 e2
  have l1 : fw_r σ1 (-3) 0 = fw_r σ (-3) 0 := hs1 _ _ (by decide)
  have s1 : ∀ j, fw_r σ1 (-2) j = fw_r σ (-2) j := fun j => hs1 _ _ (by decide)
  have c2 : fw_E 122 0 [(2, 32)] [] σ2 = some ((0, k), σ2) := by rw [fw_b_122_0, hk]
  refine ⟨σ2, (0, k), (0, b), a8, ?_, hI, hs⟩
  rw [fw_b_0_37 _ _ _ _ _ h0 (by omega), op, fw_sw_5, fw_b_0_508 _ _ _ _ _ (by (try rw [w1]); (try rw [w2]); omega) (by (try rw [w1]); (try rw [w2]); omega), w1, e1, fw_bs, fw_cn_0, fw_b_0_519 _ _ _ _ _ _ (by (try rw [w1]); (try rw [w2]); (try rw [l1]); omega) (by (try rw [w1]); (try rw [w2]); (try rw [l1]); omega), w1, s1, e2, fw_bs, fw_cn_0, fw_b_0_531 _ _ _ _ _ _, c2, fw_bs, fw_cn_0, fw_b_0_537 _ _ _ _ _ _, if_pos rfl, fw_b_0_544 _ _ _ _ _]
  by_cases hz : k = 0
  · have z := hb hz
    rw [if_pos hz, fw_b_0_549 _ _ _ _ _, z, if_neg (Int.lt_irrefl b), if_pos rfl, if_pos rfl, fw_b_0_561 _ _ _ _ _, w3]
  · rw [if_neg hz, fw_b_0_561 _ _ _ _ _, w3]

theorem fl_6 {t i : Int} {σ : fw_M} {a6 a7 a8 : fw_V} (h : fg_INV t σ) (ht : t ≤ 1600) (h0 : 0 ≤ i) (h1 : i + 3 ≤ fw_r σ (-3) 0) (hL : fw_r σ (-3) 0 < 2147483648) (op : fw_r σ (-2) i % 64 = 6) : fg_TN t i σ a6 a7 a8 := by
  have w1 : fw_w (i + 1) = i + 1 := fw_w_id (by omega) (by omega)
  have w2 : fw_w (i + 2) = i + 2 := fw_w_id (by omega) (by omega)
  have w3 : fw_w (i + 3) = i + 3 := fw_w_id (by omega) (by omega)
  obtain ⟨k, b, σ1, σ2, e1, e2, hk, hb, hI, hs, hs1⟩ := op_stationAt (p := fw_r σ (-2) (i + 1)) h
  dsimp only at e1 e2
  have l1 : fw_r σ1 (-3) 0 = fw_r σ (-3) 0 := hs1 _ _ (by decide)
  have s1 : ∀ j, fw_r σ1 (-2) j = fw_r σ (-2) j := fun j => hs1 _ _ (by decide)
  have c2 : fw_E 122 0 [(2, 32)] [] σ2 = some ((0, k), σ2) := by rw [fw_b_122_0, hk]
  refine ⟨σ2, (0, k), (0, b), a8, ?_, hI, hs⟩
  rw [fw_b_0_37 _ _ _ _ _ h0 (by omega), op, fw_sw_6, fw_b_0_564 _ _ _ _ _ (by (try rw [w1]); (try rw [w2]); omega) (by (try rw [w1]); (try rw [w2]); omega), w1, e1, fw_bs, fw_cn_0, fw_b_0_575 _ _ _ _ _ _ (by (try rw [w1]); (try rw [w2]); (try rw [l1]); omega) (by (try rw [w1]); (try rw [w2]); (try rw [l1]); omega), w1, s1, e2, fw_bs, fw_cn_0, fw_b_0_587 _ _ _ _ _ _, c2, fw_bs, fw_cn_0, fw_b_0_593 _ _ _ _ _ _, if_pos rfl, fw_b_0_600 _ _ _ _ _]
  by_cases hz : k = 0
  · have z := hb hz
    rw [if_pos hz, fw_b_0_605 _ _ _ _ _, z, if_neg (Int.lt_irrefl b), if_pos rfl, if_pos rfl, fw_b_0_617 _ _ _ _ _, w3]
  · rw [if_neg hz, fw_b_0_617 _ _ _ _ _, w3]

theorem fl_7 {t i : Int} {σ : fw_M} {a6 a7 a8 : fw_V} (h : fg_INV t σ) (ht : t ≤ 1600) (h0 : 0 ≤ i) (h1 : i + 3 ≤ fw_r σ (-3) 0) (hL : fw_r σ (-3) 0 < 2147483648) (op : fw_r σ (-2) i % 64 = 7) : fg_TN t i σ a6 a7 a8 := by
  have w1 : fw_w (i + 1) = i + 1 := fw_w_id (by omega) (by omega)
  have w2 : fw_w (i + 2) = i + 2 := fw_w_id (by omega) (by omega)
  have w3 : fw_w (i + 3) = i + 3 := fw_w_id (by omega) (by omega)
  obtain ⟨k, b, σ1, σ2, e1, e2, hk, hb, hI, hs, hs1⟩ := op_arrive (r := fw_r σ (-2) (i + 1)) (w := fw_r σ (-2) (i + 2)) h
  dsimp only at e1 e2
  have l1 : fw_r σ1 (-3) 0 = fw_r σ (-3) 0 := hs1 _ _ (by decide)
  have s1 : ∀ j, fw_r σ1 (-2) j = fw_r σ (-2) j := fun j => hs1 _ _ (by decide)
  have c2 : fw_E 122 0 [(2, 32)] [] σ2 = some ((0, k), σ2) := by rw [fw_b_122_0, hk]
  refine ⟨σ2, (0, k), (0, b), a8, ?_, hI, hs⟩
  rw [fw_b_0_37 _ _ _ _ _ h0 (by omega), op, fw_sw_7, fw_b_0_620 _ _ _ _ _ (by (try rw [w1]); (try rw [w2]); omega) (by (try rw [w1]); (try rw [w2]); omega) (by (try rw [w1]); (try rw [w2]); omega) (by (try rw [w1]); (try rw [w2]); omega), w1, w2, e1, fw_bs, fw_cn_0, fw_b_0_637 _ _ _ _ _ _ (by (try rw [w1]); (try rw [w2]); (try rw [l1]); omega) (by (try rw [w1]); (try rw [w2]); (try rw [l1]); omega) (by (try rw [w1]); (try rw [w2]); (try rw [l1]); omega) (by (try rw [w1]); (try rw [w2]); (try rw [l1]); omega), w1, w2, s1, s1, e2, fw_bs, fw_cn_0, fw_b_0_655 _ _ _ _ _ _, c2, fw_bs, fw_cn_0, fw_b_0_661 _ _ _ _ _ _, if_pos rfl, fw_b_0_668 _ _ _ _ _]
  by_cases hz : k = 0
  · have z := hb hz
    rw [if_pos hz, fw_b_0_673 _ _ _ _ _, z, if_neg (Int.lt_irrefl b), if_pos rfl, if_pos rfl, fw_b_0_685 _ _ _ _ _, w3]
  · rw [if_neg hz, fw_b_0_685 _ _ _ _ _, w3]

theorem fl_8 {t i : Int} {σ : fw_M} {a6 a7 a8 : fw_V} (h : fg_INV t σ) (ht : t ≤ 1600) (h0 : 0 ≤ i) (h1 : i + 3 ≤ fw_r σ (-3) 0) (hL : fw_r σ (-3) 0 < 2147483648) (op : fw_r σ (-2) i % 64 = 8) : fg_TN t i σ a6 a7 a8 := by
  have w1 : fw_w (i + 1) = i + 1 := fw_w_id (by omega) (by omega)
  have w2 : fw_w (i + 2) = i + 2 := fw_w_id (by omega) (by omega)
  have w3 : fw_w (i + 3) = i + 3 := fw_w_id (by omega) (by omega)
  obtain ⟨k, b, σ1, σ2, e1, e2, hk, hb, hI, hs, hs1⟩ := op_pass (x := fw_r σ (-2) (i + 1)) ht h
  dsimp only at e1 e2
  have l1 : fw_r σ1 (-3) 0 = fw_r σ (-3) 0 := hs1 _ _ (by decide)
  have s1 : ∀ j, fw_r σ1 (-2) j = fw_r σ (-2) j := fun j => hs1 _ _ (by decide)
  have c2 : fw_E 122 0 [(2, 32)] [] σ2 = some ((0, k), σ2) := by rw [fw_b_122_0, hk]
  refine ⟨σ2, (0, k), (0, b), a8, ?_, hI, hs⟩
  rw [fw_b_0_37 _ _ _ _ _ h0 (by omega), op, fw_sw_8, fw_b_0_688 _ _ _ _ _ (by (try rw [w1]); (try rw [w2]); omega) (by (try rw [w1]); (try rw [w2]); omega), w1, e1, fw_bs, fw_cn_0, fw_b_0_699 _ _ _ _ _ _ (by (try rw [w1]); (try rw [w2]); (try rw [l1]); omega) (by (try rw [w1]); (try rw [w2]); (try rw [l1]); omega), w1, s1, e2, fw_bs, fw_cn_0, fw_b_0_711 _ _ _ _ _ _, c2, fw_bs, fw_cn_0, fw_b_0_717 _ _ _ _ _ _, if_pos rfl, fw_b_0_724 _ _ _ _ _]
  by_cases hz : k = 0
  · have z := hb hz
    rw [if_pos hz, fw_b_0_729 _ _ _ _ _, z, if_neg (Int.lt_irrefl b), if_pos rfl, if_pos rfl, fw_b_0_741 _ _ _ _ _, w3]
  · rw [if_neg hz, fw_b_0_741 _ _ _ _ _, w3]

theorem fl_9 {t i : Int} {σ : fw_M} {a6 a7 a8 : fw_V} (h : fg_INV t σ) (ht : t ≤ 1600) (h0 : 0 ≤ i) (h1 : i + 3 ≤ fw_r σ (-3) 0) (hL : fw_r σ (-3) 0 < 2147483648) (op : fw_r σ (-2) i % 64 = 9) : fg_TN t i σ a6 a7 a8 := by
  have w1 : fw_w (i + 1) = i + 1 := fw_w_id (by omega) (by omega)
  have w2 : fw_w (i + 2) = i + 2 := fw_w_id (by omega) (by omega)
  have w3 : fw_w (i + 3) = i + 3 := fw_w_id (by omega) (by omega)
  obtain ⟨v, σ1, σ2, e1, e2, hI, hs⟩ := op_tick h
  dsimp only at e1 e2
  refine ⟨σ2, a6, a7, a8, ?_, hI, hs⟩
  rw [fw_b_0_37 _ _ _ _ _ h0 (by omega), op, fw_sw_9, fw_b_0_744 _ _ _ _ _, e1, fw_bs, fw_cn_1, fw_b_0_748 _ _ _ _ _ _, e2, fw_bs, fw_cn_1, fw_b_0_752 _ _ _ _ _ _ _, if_neg (Int.lt_irrefl v), if_pos rfl, if_pos rfl, fw_b_0_1988 _ _ _ _ _, w3]

theorem fl_10 {t i : Int} {σ : fw_M} {a6 a7 a8 : fw_V} (h : fg_INV t σ) (ht : t ≤ 1600) (h0 : 0 ≤ i) (h1 : i + 3 ≤ fw_r σ (-3) 0) (hL : fw_r σ (-3) 0 < 2147483648) (op : fw_r σ (-2) i % 64 = 10) : fg_TN t i σ a6 a7 a8 := by
  have w1 : fw_w (i + 1) = i + 1 := fw_w_id (by omega) (by omega)
  have w2 : fw_w (i + 2) = i + 2 := fw_w_id (by omega) (by omega)
  have w3 : fw_w (i + 3) = i + 3 := fw_w_id (by omega) (by omega)
  obtain ⟨k, b, σ1, σ2, e1, e2, hk, hb, hI, hs, hs1⟩ := op_stateOf (p := fw_r σ (-2) (i + 1)) h
  dsimp only at e1 e2
  have l1 : fw_r σ1 (-3) 0 = fw_r σ (-3) 0 := hs1 _ _ (by decide)
  have s1 : ∀ j, fw_r σ1 (-2) j = fw_r σ (-2) j := fun j => hs1 _ _ (by decide)
  have c2 : fw_E 122 0 [(2, 32)] [] σ2 = some ((0, k), σ2) := by rw [fw_b_122_0, hk]
  refine ⟨σ2, (0, k), (0, b), a8, ?_, hI, hs⟩
  rw [fw_b_0_37 _ _ _ _ _ h0 (by omega), op, fw_sw_10, fw_b_0_758 _ _ _ _ _ (by (try rw [w1]); (try rw [w2]); omega) (by (try rw [w1]); (try rw [w2]); omega), w1, e1, fw_bs, fw_cn_0, fw_b_0_769 _ _ _ _ _ _ (by (try rw [w1]); (try rw [w2]); (try rw [l1]); omega) (by (try rw [w1]); (try rw [w2]); (try rw [l1]); omega), w1, s1, e2, fw_bs, fw_cn_0, fw_b_0_781 _ _ _ _ _ _, c2, fw_bs, fw_cn_0, fw_b_0_787 _ _ _ _ _ _, if_pos rfl, fw_b_0_794 _ _ _ _ _]
  by_cases hz : k = 0
  · have z := hb hz
    rw [if_pos hz, fw_b_0_799 _ _ _ _ _, z, if_neg (Int.lt_irrefl b), if_pos rfl, if_pos rfl, fw_b_0_811 _ _ _ _ _, w3]
  · rw [if_neg hz, fw_b_0_811 _ _ _ _ _, w3]

theorem fl_11 {t i : Int} {σ : fw_M} {a6 a7 a8 : fw_V} (h : fg_INV t σ) (ht : t ≤ 1600) (h0 : 0 ≤ i) (h1 : i + 3 ≤ fw_r σ (-3) 0) (hL : fw_r σ (-3) 0 < 2147483648) (op : fw_r σ (-2) i % 64 = 11) : fg_TN t i σ a6 a7 a8 := by
  have w1 : fw_w (i + 1) = i + 1 := fw_w_id (by omega) (by omega)
  have w2 : fw_w (i + 2) = i + 2 := fw_w_id (by omega) (by omega)
  have w3 : fw_w (i + 3) = i + 3 := fw_w_id (by omega) (by omega)
  obtain ⟨k, b, σ1, σ2, e1, e2, hk, hb, hI, hs, hs1⟩ := op_positionOf (p := fw_r σ (-2) (i + 1)) h
  dsimp only at e1 e2
  have l1 : fw_r σ1 (-3) 0 = fw_r σ (-3) 0 := hs1 _ _ (by decide)
  have s1 : ∀ j, fw_r σ1 (-2) j = fw_r σ (-2) j := fun j => hs1 _ _ (by decide)
  have c2 : fw_E 122 0 [(2, 32)] [] σ2 = some ((0, k), σ2) := by rw [fw_b_122_0, hk]
  refine ⟨σ2, (0, k), (0, b), a8, ?_, hI, hs⟩
  rw [fw_b_0_37 _ _ _ _ _ h0 (by omega), op, fw_sw_11, fw_b_0_814 _ _ _ _ _ (by (try rw [w1]); (try rw [w2]); omega) (by (try rw [w1]); (try rw [w2]); omega), w1, e1, fw_bs, fw_cn_0, fw_b_0_825 _ _ _ _ _ _ (by (try rw [w1]); (try rw [w2]); (try rw [l1]); omega) (by (try rw [w1]); (try rw [w2]); (try rw [l1]); omega), w1, s1, e2, fw_bs, fw_cn_0, fw_b_0_837 _ _ _ _ _ _, c2, fw_bs, fw_cn_0, fw_b_0_843 _ _ _ _ _ _, if_pos rfl, fw_b_0_850 _ _ _ _ _]
  by_cases hz : k = 0
  · have z := hb hz
    rw [if_pos hz, fw_b_0_855 _ _ _ _ _, z, if_neg (Int.lt_irrefl b), if_pos rfl, if_pos rfl, fw_b_0_867 _ _ _ _ _, w3]
  · rw [if_neg hz, fw_b_0_867 _ _ _ _ _, w3]

theorem fl_12 {t i : Int} {σ : fw_M} {a6 a7 a8 : fw_V} (h : fg_INV t σ) (ht : t ≤ 1600) (h0 : 0 ≤ i) (h1 : i + 3 ≤ fw_r σ (-3) 0) (hL : fw_r σ (-3) 0 < 2147483648) (op : fw_r σ (-2) i % 64 = 12) : fg_TN t i σ a6 a7 a8 := by
  have w1 : fw_w (i + 1) = i + 1 := fw_w_id (by omega) (by omega)
  have w2 : fw_w (i + 2) = i + 2 := fw_w_id (by omega) (by omega)
  have w3 : fw_w (i + 3) = i + 3 := fw_w_id (by omega) (by omega)
  obtain ⟨k, b, σ1, σ2, e1, e2, hk, hb, hI, hs, hs1⟩ := op_roundsOf (p := fw_r σ (-2) (i + 1)) h
  dsimp only at e1 e2
  have l1 : fw_r σ1 (-3) 0 = fw_r σ (-3) 0 := hs1 _ _ (by decide)
  have s1 : ∀ j, fw_r σ1 (-2) j = fw_r σ (-2) j := fun j => hs1 _ _ (by decide)
  have c2 : fw_E 122 0 [(2, 32)] [] σ2 = some ((0, k), σ2) := by rw [fw_b_122_0, hk]
  refine ⟨σ2, (0, k), (0, b), a8, ?_, hI, hs⟩
  rw [fw_b_0_37 _ _ _ _ _ h0 (by omega), op, fw_sw_12, fw_b_0_870 _ _ _ _ _ (by (try rw [w1]); (try rw [w2]); omega) (by (try rw [w1]); (try rw [w2]); omega), w1, e1, fw_bs, fw_cn_0, fw_b_0_881 _ _ _ _ _ _ (by (try rw [w1]); (try rw [w2]); (try rw [l1]); omega) (by (try rw [w1]); (try rw [w2]); (try rw [l1]); omega), w1, s1, e2, fw_bs, fw_cn_0, fw_b_0_893 _ _ _ _ _ _, c2, fw_bs, fw_cn_0, fw_b_0_899 _ _ _ _ _ _, if_pos rfl, fw_b_0_906 _ _ _ _ _]
  by_cases hz : k = 0
  · have z := hb hz
    rw [if_pos hz, fw_b_0_911 _ _ _ _ _, z, if_neg (Int.lt_irrefl b), if_pos rfl, if_pos rfl, fw_b_0_923 _ _ _ _ _, w3]
  · rw [if_neg hz, fw_b_0_923 _ _ _ _ _, w3]

theorem fl_13 {t i : Int} {σ : fw_M} {a6 a7 a8 : fw_V} (h : fg_INV t σ) (ht : t ≤ 1600) (h0 : 0 ≤ i) (h1 : i + 3 ≤ fw_r σ (-3) 0) (hL : fw_r σ (-3) 0 < 2147483648) (op : fw_r σ (-2) i % 64 = 13) : fg_TN t i σ a6 a7 a8 := by
  have w1 : fw_w (i + 1) = i + 1 := fw_w_id (by omega) (by omega)
  have w2 : fw_w (i + 2) = i + 2 := fw_w_id (by omega) (by omega)
  have w3 : fw_w (i + 3) = i + 3 := fw_w_id (by omega) (by omega)
  obtain ⟨k, b, σ1, σ2, e1, e2, hk, hb, hI, hs, hs1⟩ := op_trayAt (p := fw_r σ (-2) (i + 1)) h
  dsimp only at e1 e2
  have l1 : fw_r σ1 (-3) 0 = fw_r σ (-3) 0 := hs1 _ _ (by decide)
  have s1 : ∀ j, fw_r σ1 (-2) j = fw_r σ (-2) j := fun j => hs1 _ _ (by decide)
  have c2 : fw_E 122 0 [(2, 32)] [] σ2 = some ((0, k), σ2) := by rw [fw_b_122_0, hk]
  refine ⟨σ2, (0, k), (0, b), a8, ?_, hI, hs⟩
  rw [fw_b_0_37 _ _ _ _ _ h0 (by omega), op, fw_sw_13, fw_b_0_926 _ _ _ _ _ (by (try rw [w1]); (try rw [w2]); omega) (by (try rw [w1]); (try rw [w2]); omega), w1, e1, fw_bs, fw_cn_0, fw_b_0_937 _ _ _ _ _ _ (by (try rw [w1]); (try rw [w2]); (try rw [l1]); omega) (by (try rw [w1]); (try rw [w2]); (try rw [l1]); omega), w1, s1, e2, fw_bs, fw_cn_0, fw_b_0_949 _ _ _ _ _ _, c2, fw_bs, fw_cn_0, fw_b_0_955 _ _ _ _ _ _, if_pos rfl, fw_b_0_962 _ _ _ _ _]
  by_cases hz : k = 0
  · have z := hb hz
    rw [if_pos hz, fw_b_0_967 _ _ _ _ _, z, if_neg (Int.lt_irrefl b), if_pos rfl, if_pos rfl, fw_b_0_979 _ _ _ _ _, w3]
  · rw [if_neg hz, fw_b_0_979 _ _ _ _ _, w3]

theorem fl_14 {t i : Int} {σ : fw_M} {a6 a7 a8 : fw_V} (h : fg_INV t σ) (ht : t ≤ 1600) (h0 : 0 ≤ i) (h1 : i + 3 ≤ fw_r σ (-3) 0) (hL : fw_r σ (-3) 0 < 2147483648) (op : fw_r σ (-2) i % 64 = 14) : fg_TN t i σ a6 a7 a8 := by
  have w1 : fw_w (i + 1) = i + 1 := fw_w_id (by omega) (by omega)
  have w2 : fw_w (i + 2) = i + 2 := fw_w_id (by omega) (by omega)
  have w3 : fw_w (i + 3) = i + 3 := fw_w_id (by omega) (by omega)
  obtain ⟨v, σ1, σ2, e1, e2, hI, hs⟩ := op_waiting h
  dsimp only at e1 e2
  refine ⟨σ2, a6, a7, a8, ?_, hI, hs⟩
  rw [fw_b_0_37 _ _ _ _ _ h0 (by omega), op, fw_sw_14, fw_b_0_982 _ _ _ _ _, e1, fw_bs, fw_cn_0, fw_b_0_986 _ _ _ _ _ _, e2, fw_bs, fw_cn_0, fw_b_0_990 _ _ _ _ _ _ _, if_pos rfl, fw_b_0_1988 _ _ _ _ _, w3]

theorem fl_15 {t i : Int} {σ : fw_M} {a6 a7 a8 : fw_V} (h : fg_INV t σ) (ht : t ≤ 1600) (h0 : 0 ≤ i) (h1 : i + 3 ≤ fw_r σ (-3) 0) (hL : fw_r σ (-3) 0 < 2147483648) (op : fw_r σ (-2) i % 64 = 15) : fg_TN t i σ a6 a7 a8 := by
  have w1 : fw_w (i + 1) = i + 1 := fw_w_id (by omega) (by omega)
  have w2 : fw_w (i + 2) = i + 2 := fw_w_id (by omega) (by omega)
  have w3 : fw_w (i + 3) = i + 3 := fw_w_id (by omega) (by omega)
  obtain ⟨v, σ1, σ2, e1, e2, hI, hs⟩ := op_onLoop h
  dsimp only at e1 e2
  refine ⟨σ2, a6, a7, a8, ?_, hI, hs⟩
  rw [fw_b_0_37 _ _ _ _ _ h0 (by omega), op, fw_sw_15, fw_b_0_995 _ _ _ _ _, e1, fw_bs, fw_cn_0, fw_b_0_999 _ _ _ _ _ _, e2, fw_bs, fw_cn_0, fw_b_0_1003 _ _ _ _ _ _ _, if_pos rfl, fw_b_0_1988 _ _ _ _ _, w3]

theorem fl_16 {t i : Int} {σ : fw_M} {a6 a7 a8 : fw_V} (h : fg_INV t σ) (ht : t ≤ 1600) (h0 : 0 ≤ i) (h1 : i + 3 ≤ fw_r σ (-3) 0) (hL : fw_r σ (-3) 0 < 2147483648) (op : fw_r σ (-2) i % 64 = 16) : fg_TN t i σ a6 a7 a8 := by
  have w1 : fw_w (i + 1) = i + 1 := fw_w_id (by omega) (by omega)
  have w2 : fw_w (i + 2) = i + 2 := fw_w_id (by omega) (by omega)
  have w3 : fw_w (i + 3) = i + 3 := fw_w_id (by omega) (by omega)
  obtain ⟨v, σ1, σ2, e1, e2, hI, hs⟩ := op_overflowed h
  dsimp only at e1 e2
  refine ⟨σ2, a6, a7, a8, ?_, hI, hs⟩
  rw [fw_b_0_37 _ _ _ _ _ h0 (by omega), op, fw_sw_16, fw_b_0_1008 _ _ _ _ _, e1, fw_bs, fw_cn_0, fw_b_0_1012 _ _ _ _ _ _, e2, fw_bs, fw_cn_0, fw_b_0_1016 _ _ _ _ _ _ _, if_pos rfl, fw_b_0_1988 _ _ _ _ _, w3]

theorem fl_17 {t i : Int} {σ : fw_M} {a6 a7 a8 : fw_V} (h : fg_INV t σ) (ht : t ≤ 1600) (h0 : 0 ≤ i) (h1 : i + 3 ≤ fw_r σ (-3) 0) (hL : fw_r σ (-3) 0 < 2147483648) (op : fw_r σ (-2) i % 64 = 17) : fg_TN t i σ a6 a7 a8 := by
  have w1 : fw_w (i + 1) = i + 1 := fw_w_id (by omega) (by omega)
  have w2 : fw_w (i + 2) = i + 2 := fw_w_id (by omega) (by omega)
  have w3 : fw_w (i + 3) = i + 3 := fw_w_id (by omega) (by omega)
  obtain ⟨k, b, σ1, σ2, e1, e2, hk, hb, hI, hs, hs1⟩ := op_leavingAhead (x := fw_r σ (-2) (i + 1)) ht h
  dsimp only at e1 e2
  have l1 : fw_r σ1 (-3) 0 = fw_r σ (-3) 0 := hs1 _ _ (by decide)
  have s1 : ∀ j, fw_r σ1 (-2) j = fw_r σ (-2) j := fun j => hs1 _ _ (by decide)
  have c2 : fw_E 122 0 [(2, 32)] [] σ2 = some ((0, k), σ2) := by rw [fw_b_122_0, hk]
  refine ⟨σ2, (0, k), (0, b), a8, ?_, hI, hs⟩
  rw [fw_b_0_37 _ _ _ _ _ h0 (by omega), op, fw_sw_17, fw_b_0_1021 _ _ _ _ _ (by (try rw [w1]); (try rw [w2]); omega) (by (try rw [w1]); (try rw [w2]); omega), w1, e1, fw_bs, fw_cn_0, fw_b_0_1032 _ _ _ _ _ _ (by (try rw [w1]); (try rw [w2]); (try rw [l1]); omega) (by (try rw [w1]); (try rw [w2]); (try rw [l1]); omega), w1, s1, e2, fw_bs, fw_cn_0, fw_b_0_1044 _ _ _ _ _ _, c2, fw_bs, fw_cn_0, fw_b_0_1050 _ _ _ _ _ _, if_pos rfl, fw_b_0_1057 _ _ _ _ _]
  by_cases hz : k = 0
  · have z := hb hz
    rw [if_pos hz, fw_b_0_1062 _ _ _ _ _, z, if_neg (Int.lt_irrefl b), if_pos rfl, if_pos rfl, fw_b_0_1074 _ _ _ _ _, w3]
  · rw [if_neg hz, fw_b_0_1074 _ _ _ _ _, w3]

theorem fl_18 {t i : Int} {σ : fw_M} {a6 a7 a8 : fw_V} (h : fg_INV t σ) (ht : t ≤ 1600) (h0 : 0 ≤ i) (h1 : i + 3 ≤ fw_r σ (-3) 0) (hL : fw_r σ (-3) 0 < 2147483648) (op : fw_r σ (-2) i % 64 = 18) : fg_TN t i σ a6 a7 a8 := by
  have w1 : fw_w (i + 1) = i + 1 := fw_w_id (by omega) (by omega)
  have w2 : fw_w (i + 2) = i + 2 := fw_w_id (by omega) (by omega)
  have w3 : fw_w (i + 3) = i + 3 := fw_w_id (by omega) (by omega)
  obtain ⟨k, b, σ1, σ2, e1, e2, hk, hb, hI, hs, hs1⟩ := op_leavingByTrays (x := fw_r σ (-2) (i + 1)) ht h
  dsimp only at e1 e2
  have l1 : fw_r σ1 (-3) 0 = fw_r σ (-3) 0 := hs1 _ _ (by decide)
  have s1 : ∀ j, fw_r σ1 (-2) j = fw_r σ (-2) j := fun j => hs1 _ _ (by decide)
  have c2 : fw_E 122 0 [(2, 32)] [] σ2 = some ((0, k), σ2) := by rw [fw_b_122_0, hk]
  refine ⟨σ2, (0, k), (0, b), a8, ?_, hI, hs⟩
  rw [fw_b_0_37 _ _ _ _ _ h0 (by omega), op, fw_sw_18, fw_b_0_1077 _ _ _ _ _ (by (try rw [w1]); (try rw [w2]); omega) (by (try rw [w1]); (try rw [w2]); omega), w1, e1, fw_bs, fw_cn_0, fw_b_0_1088 _ _ _ _ _ _ (by (try rw [w1]); (try rw [w2]); (try rw [l1]); omega) (by (try rw [w1]); (try rw [w2]); (try rw [l1]); omega), w1, s1, e2, fw_bs, fw_cn_0, fw_b_0_1100 _ _ _ _ _ _, c2, fw_bs, fw_cn_0, fw_b_0_1106 _ _ _ _ _ _, if_pos rfl, fw_b_0_1113 _ _ _ _ _]
  by_cases hz : k = 0
  · have z := hb hz
    rw [if_pos hz, fw_b_0_1118 _ _ _ _ _, z, if_neg (Int.lt_irrefl b), if_pos rfl, if_pos rfl, fw_b_0_1130 _ _ _ _ _, w3]
  · rw [if_neg hz, fw_b_0_1130 _ _ _ _ _, w3]

theorem fl_19 {t i : Int} {σ : fw_M} {a6 a7 a8 : fw_V} (h : fg_INV t σ) (ht : t ≤ 1600) (h0 : 0 ≤ i) (h1 : i + 3 ≤ fw_r σ (-3) 0) (hL : fw_r σ (-3) 0 < 2147483648) (op : fw_r σ (-2) i % 64 = 19) : fg_TN t i σ a6 a7 a8 := by
  have w1 : fw_w (i + 1) = i + 1 := fw_w_id (by omega) (by omega)
  have w2 : fw_w (i + 2) = i + 2 := fw_w_id (by omega) (by omega)
  have w3 : fw_w (i + 3) = i + 3 := fw_w_id (by omega) (by omega)
  obtain ⟨k, b, σ1, σ2, e1, e2, hk, hb, hI, hs, hs1⟩ := op_startWave h
  dsimp only at e1 e2
  have l1 : fw_r σ1 (-3) 0 = fw_r σ (-3) 0 := hs1 _ _ (by decide)
  have s1 : ∀ j, fw_r σ1 (-2) j = fw_r σ (-2) j := fun j => hs1 _ _ (by decide)
  have c2 : fw_E 122 0 [(2, 32)] [] σ2 = some ((0, k), σ2) := by rw [fw_b_122_0, hk]
  refine ⟨σ2, (0, k), (0, b), a8, ?_, hI, hs⟩
  rw [fw_b_0_37 _ _ _ _ _ h0 (by omega), op, fw_sw_19, fw_b_0_1133 _ _ _ _ _, e1, fw_bs, fw_cn_0, fw_b_0_1138 _ _ _ _ _ _, e2, fw_bs, fw_cn_0, fw_b_0_1144 _ _ _ _ _ _, c2, fw_bs, fw_cn_0, fw_b_0_1150 _ _ _ _ _ _, if_pos rfl, fw_b_0_1157 _ _ _ _ _]
  by_cases hz : k = 0
  · have z := hb hz
    rw [if_pos hz, fw_b_0_1162 _ _ _ _ _, z, if_neg (Int.lt_irrefl b), if_pos rfl, if_pos rfl, fw_b_0_1174 _ _ _ _ _, w3]
  · rw [if_neg hz, fw_b_0_1174 _ _ _ _ _, w3]

theorem fl_20 {t i : Int} {σ : fw_M} {a6 a7 a8 : fw_V} (h : fg_INV t σ) (ht : t ≤ 1600) (h0 : 0 ≤ i) (h1 : i + 3 ≤ fw_r σ (-3) 0) (hL : fw_r σ (-3) 0 < 2147483648) (op : fw_r σ (-2) i % 64 = 20) : fg_TN t i σ a6 a7 a8 := by
  have w1 : fw_w (i + 1) = i + 1 := fw_w_id (by omega) (by omega)
  have w2 : fw_w (i + 2) = i + 2 := fw_w_id (by omega) (by omega)
  have w3 : fw_w (i + 3) = i + 3 := fw_w_id (by omega) (by omega)
  obtain ⟨k, b, σ1, σ2, e1, e2, hk, hb, hI, hs, hs1⟩ := op_assign (p := fw_r σ (-2) (i + 1)) (q := fw_r σ (-2) (i + 2)) h
  dsimp only at e1 e2
  have l1 : fw_r σ1 (-3) 0 = fw_r σ (-3) 0 := hs1 _ _ (by decide)
  have s1 : ∀ j, fw_r σ1 (-2) j = fw_r σ (-2) j := fun j => hs1 _ _ (by decide)
  have c2 : fw_E 122 0 [(2, 32)] [] σ2 = some ((0, k), σ2) := by rw [fw_b_122_0, hk]
  refine ⟨σ2, (0, k), (0, b), a8, ?_, hI, hs⟩
  rw [fw_b_0_37 _ _ _ _ _ h0 (by omega), op, fw_sw_20, fw_b_0_1177 _ _ _ _ _ (by (try rw [w1]); (try rw [w2]); omega) (by (try rw [w1]); (try rw [w2]); omega) (by (try rw [w1]); (try rw [w2]); omega) (by (try rw [w1]); (try rw [w2]); omega), w1, w2, e1, fw_bs, fw_cn_0, fw_b_0_1194 _ _ _ _ _ _ (by (try rw [w1]); (try rw [w2]); (try rw [l1]); omega) (by (try rw [w1]); (try rw [w2]); (try rw [l1]); omega) (by (try rw [w1]); (try rw [w2]); (try rw [l1]); omega) (by (try rw [w1]); (try rw [w2]); (try rw [l1]); omega), w1, w2, s1, s1, e2, fw_bs, fw_cn_0, fw_b_0_1212 _ _ _ _ _ _, c2, fw_bs, fw_cn_0, fw_b_0_1218 _ _ _ _ _ _, if_pos rfl, fw_b_0_1225 _ _ _ _ _]
  by_cases hz : k = 0
  · have z := hb hz
    rw [if_pos hz, fw_b_0_1230 _ _ _ _ _, z, if_neg (Int.lt_irrefl b), if_pos rfl, if_pos rfl, fw_b_0_1242 _ _ _ _ _, w3]
  · rw [if_neg hz, fw_b_0_1242 _ _ _ _ _, w3]

theorem fl_21 {t i : Int} {σ : fw_M} {a6 a7 a8 : fw_V} (h : fg_INV t σ) (ht : t ≤ 1600) (h0 : 0 ≤ i) (h1 : i + 3 ≤ fw_r σ (-3) 0) (hL : fw_r σ (-3) 0 < 2147483648) (op : fw_r σ (-2) i % 64 = 21) : fg_TN t i σ a6 a7 a8 := by
  have w1 : fw_w (i + 1) = i + 1 := fw_w_id (by omega) (by omega)
  have w2 : fw_w (i + 2) = i + 2 := fw_w_id (by omega) (by omega)
  have w3 : fw_w (i + 3) = i + 3 := fw_w_id (by omega) (by omega)
  obtain ⟨k, b, σ1, σ2, e1, e2, hk, hb, hI, hs, hs1⟩ := op_unassign (p := fw_r σ (-2) (i + 1)) h
  dsimp only at e1 e2
  have l1 : fw_r σ1 (-3) 0 = fw_r σ (-3) 0 := hs1 _ _ (by decide)
  have s1 : ∀ j, fw_r σ1 (-2) j = fw_r σ (-2) j := fun j => hs1 _ _ (by decide)
  have c2 : fw_E 122 0 [(2, 32)] [] σ2 = some ((0, k), σ2) := by rw [fw_b_122_0, hk]
  refine ⟨σ2, (0, k), (0, b), a8, ?_, hI, hs⟩
  rw [fw_b_0_37 _ _ _ _ _ h0 (by omega), op, fw_sw_21, fw_b_0_1245 _ _ _ _ _ (by (try rw [w1]); (try rw [w2]); omega) (by (try rw [w1]); (try rw [w2]); omega), w1, e1, fw_bs, fw_cn_0, fw_b_0_1256 _ _ _ _ _ _ (by (try rw [w1]); (try rw [w2]); (try rw [l1]); omega) (by (try rw [w1]); (try rw [w2]); (try rw [l1]); omega), w1, s1, e2, fw_bs, fw_cn_0, fw_b_0_1268 _ _ _ _ _ _, c2, fw_bs, fw_cn_0, fw_b_0_1274 _ _ _ _ _ _, if_pos rfl, fw_b_0_1281 _ _ _ _ _]
  by_cases hz : k = 0
  · have z := hb hz
    rw [if_pos hz, fw_b_0_1286 _ _ _ _ _, z, if_neg (Int.lt_irrefl b), if_pos rfl, if_pos rfl, fw_b_0_1298 _ _ _ _ _, w3]
  · rw [if_neg hz, fw_b_0_1298 _ _ _ _ _, w3]

theorem fl_22 {t i : Int} {σ : fw_M} {a6 a7 a8 : fw_V} (h : fg_INV t σ) (ht : t ≤ 1600) (h0 : 0 ≤ i) (h1 : i + 3 ≤ fw_r σ (-3) 0) (hL : fw_r σ (-3) 0 < 2147483648) (op : fw_r σ (-2) i % 64 = 22) : fg_TN t i σ a6 a7 a8 := by
  have w1 : fw_w (i + 1) = i + 1 := fw_w_id (by omega) (by omega)
  have w2 : fw_w (i + 2) = i + 2 := fw_w_id (by omega) (by omega)
  have w3 : fw_w (i + 3) = i + 3 := fw_w_id (by omega) (by omega)
  obtain ⟨k, b, σ1, σ2, e1, e2, hk, hb, hI, hs, hs1⟩ := op_chuteFor (p := fw_r σ (-2) (i + 1)) h
  dsimp only at e1 e2
  have l1 : fw_r σ1 (-3) 0 = fw_r σ (-3) 0 := hs1 _ _ (by decide)
  have s1 : ∀ j, fw_r σ1 (-2) j = fw_r σ (-2) j := fun j => hs1 _ _ (by decide)
  have c2 : fw_E 122 0 [(2, 32)] [] σ2 = some ((0, k), σ2) := by rw [fw_b_122_0, hk]
  refine ⟨σ2, (0, k), (0, b), a8, ?_, hI, hs⟩
  rw [fw_b_0_37 _ _ _ _ _ h0 (by omega), op, fw_sw_22, fw_b_0_1301 _ _ _ _ _ (by (try rw [w1]); (try rw [w2]); omega) (by (try rw [w1]); (try rw [w2]); omega), w1, e1, fw_bs, fw_cn_0, fw_b_0_1312 _ _ _ _ _ _ (by (try rw [w1]); (try rw [w2]); (try rw [l1]); omega) (by (try rw [w1]); (try rw [w2]); (try rw [l1]); omega), w1, s1, e2, fw_bs, fw_cn_0, fw_b_0_1324 _ _ _ _ _ _, c2, fw_bs, fw_cn_0, fw_b_0_1330 _ _ _ _ _ _, if_pos rfl, fw_b_0_1337 _ _ _ _ _]
  by_cases hz : k = 0
  · have z := hb hz
    rw [if_pos hz, fw_b_0_1342 _ _ _ _ _, z, if_neg (Int.lt_irrefl b), if_pos rfl, if_pos rfl, fw_b_0_1354 _ _ _ _ _, w3]
  · rw [if_neg hz, fw_b_0_1354 _ _ _ _ _, w3]

theorem fl_23 {t i : Int} {σ : fw_M} {a6 a7 a8 : fw_V} (h : fg_INV t σ) (ht : t ≤ 1600) (h0 : 0 ≤ i) (h1 : i + 3 ≤ fw_r σ (-3) 0) (hL : fw_r σ (-3) 0 < 2147483648) (op : fw_r σ (-2) i % 64 = 23) : fg_TN t i σ a6 a7 a8 := by
  have w1 : fw_w (i + 1) = i + 1 := fw_w_id (by omega) (by omega)
  have w2 : fw_w (i + 2) = i + 2 := fw_w_id (by omega) (by omega)
  have w3 : fw_w (i + 3) = i + 3 := fw_w_id (by omega) (by omega)
  obtain ⟨k, b, σ1, σ2, e1, e2, hk, hb, hI, hs, hs1⟩ := op_load (x := fw_r σ (-2) (i + 1)) h
  dsimp only at e1 e2
  have l1 : fw_r σ1 (-3) 0 = fw_r σ (-3) 0 := hs1 _ _ (by decide)
  have s1 : ∀ j, fw_r σ1 (-2) j = fw_r σ (-2) j := fun j => hs1 _ _ (by decide)
  have c2 : fw_E 122 0 [(2, 32)] [] σ2 = some ((0, k), σ2) := by rw [fw_b_122_0, hk]
  refine ⟨σ2, (0, k), (0, b), a8, ?_, hI, hs⟩
  rw [fw_b_0_37 _ _ _ _ _ h0 (by omega), op, fw_sw_23, fw_b_0_1357 _ _ _ _ _ (by (try rw [w1]); (try rw [w2]); omega) (by (try rw [w1]); (try rw [w2]); omega), w1, e1, fw_bs, fw_cn_0, fw_b_0_1368 _ _ _ _ _ _ (by (try rw [w1]); (try rw [w2]); (try rw [l1]); omega) (by (try rw [w1]); (try rw [w2]); (try rw [l1]); omega), w1, s1, e2, fw_bs, fw_cn_0, fw_b_0_1380 _ _ _ _ _ _, c2, fw_bs, fw_cn_0, fw_b_0_1386 _ _ _ _ _ _, if_pos rfl, fw_b_0_1393 _ _ _ _ _]
  by_cases hz : k = 0
  · have z := hb hz
    rw [if_pos hz, fw_b_0_1398 _ _ _ _ _, z, if_neg (Int.lt_irrefl b), if_pos rfl, if_pos rfl, fw_b_0_1410 _ _ _ _ _, w3]
  · rw [if_neg hz, fw_b_0_1410 _ _ _ _ _, w3]

theorem fl_24 {t i : Int} {σ : fw_M} {a6 a7 a8 : fw_V} (h : fg_INV t σ) (ht : t ≤ 1600) (h0 : 0 ≤ i) (h1 : i + 3 ≤ fw_r σ (-3) 0) (hL : fw_r σ (-3) 0 < 2147483648) (op : fw_r σ (-2) i % 64 = 24) : fg_TN t i σ a6 a7 a8 := by
  have w1 : fw_w (i + 1) = i + 1 := fw_w_id (by omega) (by omega)
  have w2 : fw_w (i + 2) = i + 2 := fw_w_id (by omega) (by omega)
  have w3 : fw_w (i + 3) = i + 3 := fw_w_id (by omega) (by omega)
  obtain ⟨k, b, σ1, σ2, e1, e2, hk, hb, hI, hs, hs1⟩ := op_inChute (p := fw_r σ (-2) (i + 1)) h
  dsimp only at e1 e2
  have l1 : fw_r σ1 (-3) 0 = fw_r σ (-3) 0 := hs1 _ _ (by decide)
  have s1 : ∀ j, fw_r σ1 (-2) j = fw_r σ (-2) j := fun j => hs1 _ _ (by decide)
  have c2 : fw_E 122 0 [(2, 32)] [] σ2 = some ((0, k), σ2) := by rw [fw_b_122_0, hk]
  refine ⟨σ2, (0, k), (0, b), a8, ?_, hI, hs⟩
  rw [fw_b_0_37 _ _ _ _ _ h0 (by omega), op, fw_sw_24, fw_b_0_1413 _ _ _ _ _ (by (try rw [w1]); (try rw [w2]); omega) (by (try rw [w1]); (try rw [w2]); omega), w1, e1, fw_bs, fw_cn_0, fw_b_0_1424 _ _ _ _ _ _ (by (try rw [w1]); (try rw [w2]); (try rw [l1]); omega) (by (try rw [w1]); (try rw [w2]); (try rw [l1]); omega), w1, s1, e2, fw_bs, fw_cn_0, fw_b_0_1436 _ _ _ _ _ _, c2, fw_bs, fw_cn_0, fw_b_0_1442 _ _ _ _ _ _, if_pos rfl, fw_b_0_1449 _ _ _ _ _]
  by_cases hz : k = 0
  · have z := hb hz
    rw [if_pos hz, fw_b_0_1454 _ _ _ _ _, z, if_neg (Int.lt_irrefl b), if_pos rfl, if_pos rfl, fw_b_0_1466 _ _ _ _ _, w3]
  · rw [if_neg hz, fw_b_0_1466 _ _ _ _ _, w3]

theorem fl_25 {t i : Int} {σ : fw_M} {a6 a7 a8 : fw_V} (h : fg_INV t σ) (ht : t ≤ 1600) (h0 : 0 ≤ i) (h1 : i + 3 ≤ fw_r σ (-3) 0) (hL : fw_r σ (-3) 0 < 2147483648) (op : fw_r σ (-2) i % 64 = 25) : fg_TN t i σ a6 a7 a8 := by
  have w1 : fw_w (i + 1) = i + 1 := fw_w_id (by omega) (by omega)
  have w2 : fw_w (i + 2) = i + 2 := fw_w_id (by omega) (by omega)
  have w3 : fw_w (i + 3) = i + 3 := fw_w_id (by omega) (by omega)
  obtain ⟨k, b, σ1, σ2, e1, e2, hk, hb, hI, hs, hs1⟩ := op_seal1 (p := fw_r σ (-2) (i + 1)) h
  dsimp only at e1 e2
  have l1 : fw_r σ1 (-3) 0 = fw_r σ (-3) 0 := hs1 _ _ (by decide)
  have s1 : ∀ j, fw_r σ1 (-2) j = fw_r σ (-2) j := fun j => hs1 _ _ (by decide)
  have c2 : fw_E 122 0 [(2, 32)] [] σ2 = some ((0, k), σ2) := by rw [fw_b_122_0, hk]
  refine ⟨σ2, (0, k), (0, b), a8, ?_, hI, hs⟩
  rw [fw_b_0_37 _ _ _ _ _ h0 (by omega), op, fw_sw_25, fw_b_0_1469 _ _ _ _ _ (by (try rw [w1]); (try rw [w2]); omega) (by (try rw [w1]); (try rw [w2]); omega), w1, e1, fw_bs, fw_cn_0, fw_b_0_1480 _ _ _ _ _ _ (by (try rw [w1]); (try rw [w2]); (try rw [l1]); omega) (by (try rw [w1]); (try rw [w2]); (try rw [l1]); omega), w1, s1, e2, fw_bs, fw_cn_0, fw_b_0_1492 _ _ _ _ _ _, c2, fw_bs, fw_cn_0, fw_b_0_1498 _ _ _ _ _ _, if_pos rfl, fw_b_0_1505 _ _ _ _ _]
  by_cases hz : k = 0
  · have z := hb hz
    rw [if_pos hz, fw_b_0_1510 _ _ _ _ _, z, if_neg (Int.lt_irrefl b), if_pos rfl, if_pos rfl, fw_b_0_1522 _ _ _ _ _, w3]
  · rw [if_neg hz, fw_b_0_1522 _ _ _ _ _, w3]

theorem fl_26 {t i : Int} {σ : fw_M} {a6 a7 a8 : fw_V} (h : fg_INV t σ) (ht : t ≤ 1600) (h0 : 0 ≤ i) (h1 : i + 3 ≤ fw_r σ (-3) 0) (hL : fw_r σ (-3) 0 < 2147483648) (op : fw_r σ (-2) i % 64 = 26) : fg_TN t i σ a6 a7 a8 := by
  have w1 : fw_w (i + 1) = i + 1 := fw_w_id (by omega) (by omega)
  have w2 : fw_w (i + 2) = i + 2 := fw_w_id (by omega) (by omega)
  have w3 : fw_w (i + 3) = i + 3 := fw_w_id (by omega) (by omega)
  obtain ⟨k, b, σ1, σ2, e1, e2, hk, hb, hI, hs, hs1⟩ := op_seal2 (p := fw_r σ (-2) (i + 1)) h
  dsimp only at e1 e2
  have l1 : fw_r σ1 (-3) 0 = fw_r σ (-3) 0 := hs1 _ _ (by decide)
  have s1 : ∀ j, fw_r σ1 (-2) j = fw_r σ (-2) j := fun j => hs1 _ _ (by decide)
  have c2 : fw_E 122 0 [(2, 32)] [] σ2 = some ((0, k), σ2) := by rw [fw_b_122_0, hk]
  refine ⟨σ2, (0, k), (0, b), a8, ?_, hI, hs⟩
  rw [fw_b_0_37 _ _ _ _ _ h0 (by omega), op, fw_sw_26, fw_b_0_1525 _ _ _ _ _ (by (try rw [w1]); (try rw [w2]); omega) (by (try rw [w1]); (try rw [w2]); omega), w1, e1, fw_bs, fw_cn_0, fw_b_0_1536 _ _ _ _ _ _ (by (try rw [w1]); (try rw [w2]); (try rw [l1]); omega) (by (try rw [w1]); (try rw [w2]); (try rw [l1]); omega), w1, s1, e2, fw_bs, fw_cn_0, fw_b_0_1548 _ _ _ _ _ _, c2, fw_bs, fw_cn_0, fw_b_0_1554 _ _ _ _ _ _, if_pos rfl, fw_b_0_1561 _ _ _ _ _]
  by_cases hz : k = 0
  · have z := hb hz
    rw [if_pos hz, fw_b_0_1566 _ _ _ _ _, z, if_neg (Int.lt_irrefl b), if_pos rfl, if_pos rfl, fw_b_0_1578 _ _ _ _ _, w3]
  · rw [if_neg hz, fw_b_0_1578 _ _ _ _ _, w3]

theorem fl_27 {t i : Int} {σ : fw_M} {a6 a7 a8 : fw_V} (h : fg_INV t σ) (ht : t ≤ 1600) (h0 : 0 ≤ i) (h1 : i + 3 ≤ fw_r σ (-3) 0) (hL : fw_r σ (-3) 0 < 2147483648) (op : fw_r σ (-2) i % 64 = 27) : fg_TN t i σ a6 a7 a8 := by
  have w1 : fw_w (i + 1) = i + 1 := fw_w_id (by omega) (by omega)
  have w2 : fw_w (i + 2) = i + 2 := fw_w_id (by omega) (by omega)
  have w3 : fw_w (i + 3) = i + 3 := fw_w_id (by omega) (by omega)
  obtain ⟨k, b, σ1, σ2, e1, e2, hk, hb, hI, hs, hs1⟩ := op_dispatch (x := fw_r σ (-2) (i + 1)) h
  dsimp only at e1 e2
  have l1 : fw_r σ1 (-3) 0 = fw_r σ (-3) 0 := hs1 _ _ (by decide)
  have s1 : ∀ j, fw_r σ1 (-2) j = fw_r σ (-2) j := fun j => hs1 _ _ (by decide)
  have c2 : fw_E 122 0 [(2, 32)] [] σ2 = some ((0, k), σ2) := by rw [fw_b_122_0, hk]
  refine ⟨σ2, (0, k), (0, b), a8, ?_, hI, hs⟩
  rw [fw_b_0_37 _ _ _ _ _ h0 (by omega), op, fw_sw_27, fw_b_0_1581 _ _ _ _ _ (by (try rw [w1]); (try rw [w2]); omega) (by (try rw [w1]); (try rw [w2]); omega), w1, e1, fw_bs, fw_cn_0, fw_b_0_1592 _ _ _ _ _ _ (by (try rw [w1]); (try rw [w2]); (try rw [l1]); omega) (by (try rw [w1]); (try rw [w2]); (try rw [l1]); omega), w1, s1, e2, fw_bs, fw_cn_0, fw_b_0_1604 _ _ _ _ _ _, c2, fw_bs, fw_cn_0, fw_b_0_1610 _ _ _ _ _ _, if_pos rfl, fw_b_0_1617 _ _ _ _ _]
  by_cases hz : k = 0
  · have z := hb hz
    rw [if_pos hz, fw_b_0_1622 _ _ _ _ _, z, if_neg (Int.lt_irrefl b), if_pos rfl, if_pos rfl, fw_b_0_1634 _ _ _ _ _, w3]
  · rw [if_neg hz, fw_b_0_1634 _ _ _ _ _, w3]

theorem fl_28 {t i : Int} {σ : fw_M} {a6 a7 a8 : fw_V} (h : fg_INV t σ) (ht : t ≤ 1600) (h0 : 0 ≤ i) (h1 : i + 3 ≤ fw_r σ (-3) 0) (hL : fw_r σ (-3) 0 < 2147483648) (op : fw_r σ (-2) i % 64 = 28) : fg_TN t i σ a6 a7 a8 := by
  have w1 : fw_w (i + 1) = i + 1 := fw_w_id (by omega) (by omega)
  have w2 : fw_w (i + 2) = i + 2 := fw_w_id (by omega) (by omega)
  have w3 : fw_w (i + 3) = i + 3 := fw_w_id (by omega) (by omega)
  obtain ⟨v, σ1, σ2, e1, e2, hI, hs⟩ := op_trucks h
  dsimp only at e1 e2
  refine ⟨σ2, a6, a7, a8, ?_, hI, hs⟩
  rw [fw_b_0_37 _ _ _ _ _ h0 (by omega), op, fw_sw_28, fw_b_0_1637 _ _ _ _ _, e1, fw_bs, fw_cn_0, fw_b_0_1641 _ _ _ _ _ _, e2, fw_bs, fw_cn_0, fw_b_0_1645 _ _ _ _ _ _ _, if_pos rfl, fw_b_0_1988 _ _ _ _ _, w3]

theorem fl_29 {t i : Int} {σ : fw_M} {a6 a7 a8 : fw_V} (h : fg_INV t σ) (ht : t ≤ 1600) (h0 : 0 ≤ i) (h1 : i + 3 ≤ fw_r σ (-3) 0) (hL : fw_r σ (-3) 0 < 2147483648) (op : fw_r σ (-2) i % 64 = 29) : fg_TN t i σ a6 a7 a8 := by
  have w1 : fw_w (i + 1) = i + 1 := fw_w_id (by omega) (by omega)
  have w2 : fw_w (i + 2) = i + 2 := fw_w_id (by omega) (by omega)
  have w3 : fw_w (i + 3) = i + 3 := fw_w_id (by omega) (by omega)
  obtain ⟨k, b, σ1, σ2, e1, e2, hk, hb, hI, hs, hs1⟩ := op_sealOfTruck (x := fw_r σ (-2) (i + 1)) h
  dsimp only at e1 e2
  have l1 : fw_r σ1 (-3) 0 = fw_r σ (-3) 0 := hs1 _ _ (by decide)
  have s1 : ∀ j, fw_r σ1 (-2) j = fw_r σ (-2) j := fun j => hs1 _ _ (by decide)
  have c2 : fw_E 122 0 [(2, 32)] [] σ2 = some ((0, k), σ2) := by rw [fw_b_122_0, hk]
  refine ⟨σ2, (0, k), (0, b), a8, ?_, hI, hs⟩
  rw [fw_b_0_37 _ _ _ _ _ h0 (by omega), op, fw_sw_29, fw_b_0_1650 _ _ _ _ _ (by (try rw [w1]); (try rw [w2]); omega) (by (try rw [w1]); (try rw [w2]); omega), w1, e1, fw_bs, fw_cn_0, fw_b_0_1661 _ _ _ _ _ _ (by (try rw [w1]); (try rw [w2]); (try rw [l1]); omega) (by (try rw [w1]); (try rw [w2]); (try rw [l1]); omega), w1, s1, e2, fw_bs, fw_cn_0, fw_b_0_1673 _ _ _ _ _ _, c2, fw_bs, fw_cn_0, fw_b_0_1679 _ _ _ _ _ _, if_pos rfl, fw_b_0_1686 _ _ _ _ _]
  by_cases hz : k = 0
  · have z := hb hz
    rw [if_pos hz, fw_b_0_1691 _ _ _ _ _, z, if_neg (Int.lt_irrefl b), if_pos rfl, if_pos rfl, fw_b_0_1703 _ _ _ _ _, w3]
  · rw [if_neg hz, fw_b_0_1703 _ _ _ _ _, w3]

theorem fl_30 {t i : Int} {σ : fw_M} {a6 a7 a8 : fw_V} (h : fg_INV t σ) (ht : t ≤ 1600) (h0 : 0 ≤ i) (h1 : i + 3 ≤ fw_r σ (-3) 0) (hL : fw_r σ (-3) 0 < 2147483648) (op : fw_r σ (-2) i % 64 = 30) : fg_TN t i σ a6 a7 a8 := by
  have w1 : fw_w (i + 1) = i + 1 := fw_w_id (by omega) (by omega)
  have w2 : fw_w (i + 2) = i + 2 := fw_w_id (by omega) (by omega)
  have w3 : fw_w (i + 3) = i + 3 := fw_w_id (by omega) (by omega)
  obtain ⟨k, b, σ1, σ2, e1, e2, hk, hb, hI, hs, hs1⟩ := op_parcelIn (x := fw_r σ (-2) (i + 1)) (y := fw_r σ (-2) (i + 2)) h
  dsimp only at e1 e2
  have l1 : fw_r σ1 (-3) 0 = fw_r σ (-3) 0 := hs1 _ _ (by decide)
  have s1 : ∀ j, fw_r σ1 (-2) j = fw_r σ (-2) j := fun j => hs1 _ _ (by decide)
  have c2 : fw_E 122 0 [(2, 32)] [] σ2 = some ((0, k), σ2) := by rw [fw_b_122_0, hk]
  refine ⟨σ2, (0, k), (0, b), a8, ?_, hI, hs⟩
  rw [fw_b_0_37 _ _ _ _ _ h0 (by omega), op, fw_sw_30, fw_b_0_1706 _ _ _ _ _ (by (try rw [w1]); (try rw [w2]); omega) (by (try rw [w1]); (try rw [w2]); omega) (by (try rw [w1]); (try rw [w2]); omega) (by (try rw [w1]); (try rw [w2]); omega), w1, w2, e1, fw_bs, fw_cn_0, fw_b_0_1723 _ _ _ _ _ _ (by (try rw [w1]); (try rw [w2]); (try rw [l1]); omega) (by (try rw [w1]); (try rw [w2]); (try rw [l1]); omega) (by (try rw [w1]); (try rw [w2]); (try rw [l1]); omega) (by (try rw [w1]); (try rw [w2]); (try rw [l1]); omega), w1, w2, s1, s1, e2, fw_bs, fw_cn_0, fw_b_0_1741 _ _ _ _ _ _, c2, fw_bs, fw_cn_0, fw_b_0_1747 _ _ _ _ _ _, if_pos rfl, fw_b_0_1754 _ _ _ _ _]
  by_cases hz : k = 0
  · have z := hb hz
    rw [if_pos hz, fw_b_0_1759 _ _ _ _ _, z, if_neg (Int.lt_irrefl b), if_pos rfl, if_pos rfl, fw_b_0_1771 _ _ _ _ _, w3]
  · rw [if_neg hz, fw_b_0_1771 _ _ _ _ _, w3]

theorem fl_31 {t i : Int} {σ : fw_M} {a6 a7 a8 : fw_V} (h : fg_INV t σ) (ht : t ≤ 1600) (h0 : 0 ≤ i) (h1 : i + 3 ≤ fw_r σ (-3) 0) (hL : fw_r σ (-3) 0 < 2147483648) (op : fw_r σ (-2) i % 64 = 31) : fg_TN t i σ a6 a7 a8 := by
  have w1 : fw_w (i + 1) = i + 1 := fw_w_id (by omega) (by omega)
  have w2 : fw_w (i + 2) = i + 2 := fw_w_id (by omega) (by omega)
  have w3 : fw_w (i + 3) = i + 3 := fw_w_id (by omega) (by omega)
  obtain ⟨k, b, σ1, σ2, e1, e2, hk, hb, hI, hs, hs1⟩ := op_truckOf (p := fw_r σ (-2) (i + 1)) h
  dsimp only at e1 e2
  have l1 : fw_r σ1 (-3) 0 = fw_r σ (-3) 0 := hs1 _ _ (by decide)
  have s1 : ∀ j, fw_r σ1 (-2) j = fw_r σ (-2) j := fun j => hs1 _ _ (by decide)
  have c2 : fw_E 122 0 [(2, 32)] [] σ2 = some ((0, k), σ2) := by rw [fw_b_122_0, hk]
  refine ⟨σ2, (0, k), (0, b), a8, ?_, hI, hs⟩
  rw [fw_b_0_37 _ _ _ _ _ h0 (by omega), op, fw_sw_31, fw_b_0_1774 _ _ _ _ _ (by (try rw [w1]); (try rw [w2]); omega) (by (try rw [w1]); (try rw [w2]); omega), w1, e1, fw_bs, fw_cn_0, fw_b_0_1785 _ _ _ _ _ _ (by (try rw [w1]); (try rw [w2]); (try rw [l1]); omega) (by (try rw [w1]); (try rw [w2]); (try rw [l1]); omega), w1, s1, e2, fw_bs, fw_cn_0, fw_b_0_1797 _ _ _ _ _ _, c2, fw_bs, fw_cn_0, fw_b_0_1803 _ _ _ _ _ _, if_pos rfl, fw_b_0_1810 _ _ _ _ _]
  by_cases hz : k = 0
  · have z := hb hz
    rw [if_pos hz, fw_b_0_1815 _ _ _ _ _, z, if_neg (Int.lt_irrefl b), if_pos rfl, if_pos rfl, fw_b_0_1827 _ _ _ _ _, w3]
  · rw [if_neg hz, fw_b_0_1827 _ _ _ _ _, w3]

theorem fl_32 {t i : Int} {σ : fw_M} {a6 a7 a8 : fw_V} (h : fg_INV t σ) (ht : t ≤ 1600) (h0 : 0 ≤ i) (h1 : i + 3 ≤ fw_r σ (-3) 0) (hL : fw_r σ (-3) 0 < 2147483648) (op : fw_r σ (-2) i % 64 = 32) : fg_TN t i σ a6 a7 a8 := by
  have w1 : fw_w (i + 1) = i + 1 := fw_w_id (by omega) (by omega)
  have w2 : fw_w (i + 2) = i + 2 := fw_w_id (by omega) (by omega)
  have w3 : fw_w (i + 3) = i + 3 := fw_w_id (by omega) (by omega)
  obtain ⟨v, σ1, σ2, e1, e2, hI, hs⟩ := op_shipped h
  dsimp only at e1 e2
  refine ⟨σ2, a6, a7, a8, ?_, hI, hs⟩
  rw [fw_b_0_37 _ _ _ _ _ h0 (by omega), op, fw_sw_32, fw_b_0_1830 _ _ _ _ _, e1, fw_bs, fw_cn_1, fw_b_0_1834 _ _ _ _ _ _, e2, fw_bs, fw_cn_1, fw_b_0_1838 _ _ _ _ _ _ _, if_neg (Int.lt_irrefl v), if_pos rfl, if_pos rfl, fw_b_0_1988 _ _ _ _ _, w3]

theorem fl_33 {t i : Int} {σ : fw_M} {a6 a7 a8 : fw_V} (h : fg_INV t σ) (ht : t ≤ 1600) (h0 : 0 ≤ i) (h1 : i + 3 ≤ fw_r σ (-3) 0) (hL : fw_r σ (-3) 0 < 2147483648) (op : fw_r σ (-2) i % 64 = 33) : fg_TN t i σ a6 a7 a8 := by
  have w1 : fw_w (i + 1) = i + 1 := fw_w_id (by omega) (by omega)
  have w2 : fw_w (i + 2) = i + 2 := fw_w_id (by omega) (by omega)
  have w3 : fw_w (i + 3) = i + 3 := fw_w_id (by omega) (by omega)
  obtain ⟨k, b, σ1, σ2, e1, e2, hk, hb, hI, hs⟩ := op_mean h
  have c2 : fw_E 122 0 [(2, 32)] [] σ2 = some ((0, k), σ2) := by rw [fw_b_122_0, hk]
  refine ⟨σ2, (0, k), (3, b), (8, 0), ?_, hI, hs⟩
  rw [fw_b_0_37 _ _ _ _ _ h0 (by omega), op, fw_sw_33, fw_b_0_1844 _ _ _ _ _, e1, fw_bs, fw_cn_0, fw_b_0_1850 _ _ _ _ _ _, e2, fw_bs, fw_cn_3, fw_b_0_1856 _ _ _ _ _ _, c2, fw_bs, fw_cn_0, fw_b_0_1862 _ _ _ _ _ _, if_pos rfl, fw_b_0_1869 _ _ _ _ _]
  by_cases hz : k = 0
  · obtain ⟨z1, z2⟩ := hb hz
    rw [if_pos hz, fw_b_0_1874 _ _ _ _ _, z1, z2, if_pos rfl, fw_b_0_1906 _ _ _ _ _, w3]
  · rw [if_neg hz, fw_b_0_1906 _ _ _ _ _, w3]

theorem fl_34 {t i : Int} {σ : fw_M} {a6 a7 a8 : fw_V} (h : fg_INV t σ) (ht : t ≤ 1600) (h0 : 0 ≤ i) (h1 : i + 3 ≤ fw_r σ (-3) 0) (hL : fw_r σ (-3) 0 < 2147483648) (op : fw_r σ (-2) i % 64 = 34) : fg_TN t i σ a6 a7 a8 := by
  have w1 : fw_w (i + 1) = i + 1 := fw_w_id (by omega) (by omega)
  have w2 : fw_w (i + 2) = i + 2 := fw_w_id (by omega) (by omega)
  have w3 : fw_w (i + 3) = i + 3 := fw_w_id (by omega) (by omega)
  obtain ⟨k, b, σ1, σ2, e1, e2, hk, hb, hI, hs⟩ := op_share h
  have c2 : fw_E 122 0 [(2, 32)] [] σ2 = some ((0, k), σ2) := by rw [fw_b_122_0, hk]
  refine ⟨σ2, (0, k), (4, b), a8, ?_, hI, hs⟩
  rw [fw_b_0_37 _ _ _ _ _ h0 (by omega), op, fw_sw_34, fw_b_0_1909 _ _ _ _ _, e1, fw_bs, fw_cn_0, fw_b_0_1915 _ _ _ _ _ _, e2, fw_bs, fw_cn_4, fw_b_0_1921 _ _ _ _ _ _, c2, fw_bs, fw_cn_0, fw_b_0_1927 _ _ _ _ _ _, if_pos rfl, fw_b_0_1934 _ _ _ _ _]
  by_cases hz : k = 0
  · obtain ⟨z1, z2, z3⟩ := hb hz
    rw [if_pos hz, fw_b_0_1939 _ _ _ _ _ z1, z2, ff_dd, z3, if_pos rfl, fw_b_0_1972 _ _ _ _ _, w3]
  · rw [if_neg hz, fw_b_0_1972 _ _ _ _ _, w3]

theorem fl_35 {t i : Int} {σ : fw_M} {a6 a7 a8 : fw_V} (h : fg_INV t σ) (ht : t ≤ 1600) (h0 : 0 ≤ i) (h1 : i + 3 ≤ fw_r σ (-3) 0) (hL : fw_r σ (-3) 0 < 2147483648) (op : fw_r σ (-2) i % 64 = 35) : fg_TN t i σ a6 a7 a8 := by
  have w1 : fw_w (i + 1) = i + 1 := fw_w_id (by omega) (by omega)
  have w2 : fw_w (i + 2) = i + 2 := fw_w_id (by omega) (by omega)
  have w3 : fw_w (i + 3) = i + 3 := fw_w_id (by omega) (by omega)
  obtain ⟨v, σ1, σ2, e1, e2, hI, hs⟩ := op_isOnce ht h
  dsimp only at e1 e2
  refine ⟨σ2, a6, a7, a8, ?_, hI, hs⟩
  rw [fw_b_0_37 _ _ _ _ _ h0 (by omega), op, fw_sw_35, fw_b_0_1975 _ _ _ _ _, e1, fw_bs, fw_cn_0, fw_b_0_1979 _ _ _ _ _ _, e2, fw_bs, fw_cn_0, fw_b_0_1983 _ _ _ _ _ _ _, if_pos rfl, fw_b_0_1988 _ _ _ _ _, w3]

theorem fl_d {t i : Int} {σ : fw_M} {a6 a7 a8 : fw_V} (h : fg_INV t σ) (h0 : 0 ≤ i) (h1 : i + 3 ≤ fw_r σ (-3) 0) (hL : fw_r σ (-3) 0 < 2147483648) (op : 35 < fw_r σ (-2) i % 64) : fg_TN t i σ a6 a7 a8 := by
  have w3 : fw_w (i + 3) = i + 3 := fw_w_id (by omega) (by omega)
  refine ⟨σ, a6, a7, a8, ?_, fg_INV_to h (fg_AC_refl σ) (fg_AG_refl σ) h.1.1.2 rfl (by omega) (by omega), fg_SC_refl σ⟩
  rw [fw_b_0_37 _ _ _ _ _ h0 (by omega), fw_sw_d _ _ _ _ _ _ _ _ _ _ _ op, fw_b_0_1988 _ _ _ _ _, w3]
theorem fl_all {t i : Int} {σ : fw_M} {a6 a7 a8 : fw_V} (h : fg_INV t σ) (ht : t ≤ 1600) (h0 : 0 ≤ i) (h1 : i + 3 ≤ fw_r σ (-3) 0) (hL : fw_r σ (-3) 0 < 2147483648) : fg_TN t i σ a6 a7 a8 := by
  have hm : 0 ≤ fw_r σ (-2) i % 64 := by omega

  by_cases c0 : fw_r σ (-2) i % 64 = 0
  · exact fl_0 h ht h0 h1 hL c0
  by_cases c1 : fw_r σ (-2) i % 64 = 1
  · exact fl_1 h ht h0 h1 hL c1
  by_cases c2 : fw_r σ (-2) i % 64 = 2
  · exact fl_2 h ht h0 h1 hL c2
  by_cases c3 : fw_r σ (-2) i % 64 = 3
  · exact fl_3 h ht h0 h1 hL c3
  by_cases c4 : fw_r σ (-2) i % 64 = 4
  · exact fl_4 h ht h0 h1 hL c4
  by_cases c5 : fw_r σ (-2) i % 64 = 5
  · exact fl_5 h ht h0 h1 hL c5
  by_cases c6 : fw_r σ (-2) i % 64 = 6
  · exact fl_6 h ht h0 h1 hL c6
  by_cases c7 : fw_r σ (-2) i % 64 = 7
  · exact fl_7 h ht h0 h1 hL c7
  by_cases c8 : fw_r σ (-2) i % 64 = 8
  · exact fl_8 h ht h0 h1 hL c8
  by_cases c9 : fw_r σ (-2) i % 64 = 9
  · exact fl_9 h ht h0 h1 hL c9
  by_cases c10 : fw_r σ (-2) i % 64 = 10
  · exact fl_10 h ht h0 h1 hL c10
  by_cases c11 : fw_r σ (-2) i % 64 = 11
  · exact fl_11 h ht h0 h1 hL c11
  by_cases c12 : fw_r σ (-2) i % 64 = 12
  · exact fl_12 h ht h0 h1 hL c12
  by_cases c13 : fw_r σ (-2) i % 64 = 13
  · exact fl_13 h ht h0 h1 hL c13
  by_cases c14 : fw_r σ (-2) i % 64 = 14
  · exact fl_14 h ht h0 h1 hL c14
  by_cases c15 : fw_r σ (-2) i % 64 = 15
  · exact fl_15 h ht h0 h1 hL c15
  by_cases c16 : fw_r σ (-2) i % 64 = 16
  · exact fl_16 h ht h0 h1 hL c16
  by_cases c17 : fw_r σ (-2) i % 64 = 17
  · exact fl_17 h ht h0 h1 hL c17
  by_cases c18 : fw_r σ (-2) i % 64 = 18
  · exact fl_18 h ht h0 h1 hL c18
  by_cases c19 : fw_r σ (-2) i % 64 = 19
  · exact fl_19 h ht h0 h1 hL c19
  by_cases c20 : fw_r σ (-2) i % 64 = 20
  · exact fl_20 h ht h0 h1 hL c20
  by_cases c21 : fw_r σ (-2) i % 64 = 21
  · exact fl_21 h ht h0 h1 hL c21
  by_cases c22 : fw_r σ (-2) i % 64 = 22
  · exact fl_22 h ht h0 h1 hL c22
  by_cases c23 : fw_r σ (-2) i % 64 = 23
  · exact fl_23 h ht h0 h1 hL c23
  by_cases c24 : fw_r σ (-2) i % 64 = 24
  · exact fl_24 h ht h0 h1 hL c24
  by_cases c25 : fw_r σ (-2) i % 64 = 25
  · exact fl_25 h ht h0 h1 hL c25
  by_cases c26 : fw_r σ (-2) i % 64 = 26
  · exact fl_26 h ht h0 h1 hL c26
  by_cases c27 : fw_r σ (-2) i % 64 = 27
  · exact fl_27 h ht h0 h1 hL c27
  by_cases c28 : fw_r σ (-2) i % 64 = 28
  · exact fl_28 h ht h0 h1 hL c28
  by_cases c29 : fw_r σ (-2) i % 64 = 29
  · exact fl_29 h ht h0 h1 hL c29
  by_cases c30 : fw_r σ (-2) i % 64 = 30
  · exact fl_30 h ht h0 h1 hL c30
  by_cases c31 : fw_r σ (-2) i % 64 = 31
  · exact fl_31 h ht h0 h1 hL c31
  by_cases c32 : fw_r σ (-2) i % 64 = 32
  · exact fl_32 h ht h0 h1 hL c32
  by_cases c33 : fw_r σ (-2) i % 64 = 33
  · exact fl_33 h ht h0 h1 hL c33
  by_cases c34 : fw_r σ (-2) i % 64 = 34
  · exact fl_34 h ht h0 h1 hL c34
  by_cases c35 : fw_r σ (-2) i % 64 = 35
  · exact fl_35 h ht h0 h1 hL c35
  exact fl_d h h0 h1 hL (by omega)

theorem fl_loop : ∀ (k : Nat) (t i : Int) (σ : fw_M) (a6 a7 a8 : fw_V), fg_INV t σ → t + k ≤ 1600 → 0 ≤ i → fw_r σ (-3) 0 ≤ i + 3 * k → 0 ≤ fw_r σ (-3) 0 → fw_r σ (-3) 0 < 100000 → ∃ σ' t', fw_E 0 28 [(6, 0), (2, 1), (2, 32), (2, 54), (2, 55), (0, i), a6, a7, a8] [] σ = some ((0, 1), σ') ∧ fg_INV t' σ' ∧ t' ≤ t + k := by
  intro k
  induction k with
  | zero =>
    intro t i σ a6 a7 a8 h ht h0 h1 h2 h3
    have w : fw_w (fw_r σ (-3) 0 - 3) = fw_r σ (-3) 0 - 3 := fw_w_id (by omega) (by omega)
    refine ⟨σ, t, ?_, h, by omega⟩
    rw [fw_b_0_28 _ _ _ _ _ (by omega), w, if_pos (by omega), fw_b_0_1994 _ _ _ _ _]
  | succ k ih =>
    intro t i σ a6 a7 a8 h ht h0 h1 h2 h3
    have w : fw_w (fw_r σ (-3) 0 - 3) = fw_r σ (-3) 0 - 3 := fw_w_id (by omega) (by omega)
    by_cases c : fw_r σ (-3) 0 - 3 < i
    · refine ⟨σ, t, ?_, h, by omega⟩
      rw [fw_b_0_28 _ _ _ _ _ (by omega), w, if_pos c, fw_b_0_1994 _ _ _ _ _]
    · obtain ⟨σ1, b6, b7, b8, e1, hI, hs⟩ := fl_all (a6 := a6) (a7 := a7) (a8 := a8) h (by omega) h0 (by omega) (by omega)
      have l1 : fw_r σ1 (-3) 0 = fw_r σ (-3) 0 := hs _ _ (by decide)
      obtain ⟨σ2, t2, e2, hI2, ht2⟩ := ih (t + 1) (i + 3) σ1 b6 b7 b8 hI (by omega) (by omega) (by omega) (by omega) (by omega)
      refine ⟨σ2, t2, ?_, hI2, by omega⟩
      rw [fw_b_0_28 _ _ _ _ _ (by omega), w, if_neg c, e1, e2]
