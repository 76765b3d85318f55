/-! a tick of the class -/
theorem fg_ML_of {M : Int} {c m : fw_M} (h : fg_IN M c m) : fg_ML M m := by
  obtain ⟨gA, gB, gC, gD, gE, -⟩ := h
  refine ⟨fg_MC_of gA.1 gA.2, gB.2.1, fun i a b => ?_, fun p a b => (gC.2.2.2.1 p a b).2.2.2.2.2.2⟩
  have := (gE.1 i a b).1
  have := gA.1.2.2.2.1 i a b
  omega
def fg_CFr (c c' : fw_M) : Prop := ∀ a j, (a < 0 ∨ (32 ≤ a ∧ a ≤ 50)) → fw_r c' a j = fw_r c a j
theorem fg_CFr_refl (c : fw_M) : fg_CFr c c := fun a j h => rfl
theorem fg_CFr_trans {a b c : fw_M} (h : fg_CFr a b) (h2 : fg_CFr b c) : fg_CFr a c := fun x j hx => (h2 x j hx).trans (h x j hx)
theorem fs_dropInto {M : Int} {c m : fw_M} {i : Int} {a2 a3 : fw_V} (hM : M ≤ 400000) (h : fg_IN M c m) (h0 : 0 ≤ i) (hi : i < fw_r m 32 3) : ∃ c', fw_E 116 0 [(2, 1), (0, i), a2, a3] [] c = some ((0, fg_dv m i), c') ∧ fg_IN M c' (fg_pc m i) ∧ fg_CFr c c' := by
  have hh := h
  obtain ⟨gA, gB, gC, gD, gE, gF, gG, gH, gI⟩ := h
  have hcf := gA.1
  obtain ⟨⟨a1, a2', a3'⟩, ⟨b0, b1, b2, b3, b4, b5⟩, e1, e2, e3, e4, e5⟩ := gA.1
  have hFP := gB.2.1.2.1
  have hch := fs_chute a1 a2' h0 (by omega)
  have hcw := (a2'.2.2 i h0 (by omega)).2.1
  have hrw := (a2'.2.2 i h0 (by omega)).2.2
  obtain ⟨⟨p1, p2, p3⟩, ⟨cp1, cp2, cp3⟩, -⟩ := e2 i h0 hi
  have tp := gB.1.2.2.1 (fw_r m 34 i) (by omega) (by omega)
  have htr := gB.2.1.2.2.1 (fw_r m 34 i) (by omega) (by omega)
  have hN2 := gB.1.2.1
  have ep : fw_E 7 0 [(2, 8), (0, fw_r c (51 + 3 * i) 0), (8, 0)] [] c = some ((0, fw_r m 33 (fw_r m 34 i)), c) := by
    rw [p1, fs_parcelAt (Or.inl rfl) a1 gB.1.1 (by omega) (by omega), tp.1]
  have gEi := gE.1 i h0 hi
  obtain ⟨r, q1, q2⟩ := fs_takes (v := fw_r c (51 + 3 * i + 1) 1) (a4 := (8, 0)) hcf h0 hi (p := fw_r m 33 (fw_r m 34 i)) (by omega) (by have := gC.1; omega)
  have hdt := fg_dv_tk m i
  rw [← gEi.1.1] at hdt
  rw [← hdt] at q2
  rcases fg_dv_01 m i with hd | hd
  · rw [hd] at q2
    refine ⟨c, ?_, ?_, fg_CFr_refl c⟩
    · rw [hd]
      simp (disch := first | assumption | first | omega | assumption | (simp (disch := omega) only [fw_w_id, fw_wl_id, fw_r_k, fw_r_j, fw_r_s]; omega) | (simp only [fw_ptr_32_0, fl_ptr_32_0, fw_ptr_32_1, fl_ptr_32_1, fw_ptr_32_2, fw_ptr_32_3, fw_ptr_32_4, fw_ptr_32_5, fl_ptr_32_5, fw_ptr_32_6, fw_ptr_32_7, fw_ptr_32_8, fw_ptr_32_9, fw_ptr_32_10, fl_ptr_32_10, fw_ptr_32_11, fl_ptr_32_11, fw_ptr_32_12, fw_ptr_32_13, fw_ptr_32_14, fw_ptr_32_15, fw_ptr_32_16, fw_ptr_32_17, fl_ptr_32_17, fw_ptr_32_18, fl_ptr_32_18, fw_ptr_32_19, fl_ptr_32_19, fw_ptr_32_20, fl_ptr_32_20, fw_ptr_32_21, fl_ptr_32_21, fw_ptr_32_22, fl_ptr_32_22, fw_ptr_32_23, fw_ptr_32_24, fw_ptr_32_25, fw_ptr_32_26, fw_ptr_32_27, fw_ptr_32_28, fw_ptr_32_29, fw_ptr_32_30, fw_ptr_32_31, fw_ptr_32_32, fw_ptr_32_33, fw_ptr_32_34, fw_ptr_32_35, fw_ptr_1_8, fw_ptr_2_5, fw_ptr_2_6, fw_ptr_2_7, fw_ptr_2_8, fw_ptr_2_9, fw_ptr_8_2, fw_ptr_8_3, fw_ptr_11_2, fw_ptr_11_3, fw_ptr_11_4, fw_ptr_11_5, fw_ptr_11_6, fw_ptr_17_8, fw_ptr_18_2, fw_ptr_18_3, fw_ptr_25_1, fw_ptr_27_2, fw_ptr_28_1, fl_ptr_33, fl_ptr_34, fl_ptr_35, fl_ptr_36, fl_ptr_38, fl_ptr_39, fl_ptr_40, fl_ptr_41, fl_ptr_42, fl_ptr_43, fl_ptr_44, fl_ptr_45, fl_ptr_46, fl_ptr_47, fl_ptr_48, fl_ptr_49, fl_ptr_50, fw_ptr_3, fw_ptr_4, fw_ptr_5, fw_ptr_6, fw_ptr_7, fw_ptr_9, fw_ptr_10, fw_ptr_13, fw_ptr_15, fw_ptr_16, fw_ptr_19, fw_ptr_20, fw_ptr_21, fw_ptr_22, fw_ptr_23, fw_ptr_24, fw_ptr_26, fw_ptr_29, fw_ptr_30, fw_ptr_31, fw_ptr_33, fw_ptr_34, fw_ptr_35, fw_ptr_36, fw_ptr_37, fw_ptr_38, fw_ptr_39, fw_ptr_40, fw_ptr_41, fw_ptr_42, fw_ptr_43, fw_ptr_44, fw_ptr_45, fw_ptr_46, fw_ptr_47, fw_ptr_48, fw_ptr_49, fw_ptr_50, fw_ptr_51, fw_ptr_52, fw_ptr_53, fw_ptr_54, fw_ptr_55, fw_ptr_12, fw_ptr_x, fw_ptr_hi, fw_ptr_b3, fw_ptr_b1, fw_ptr_b2, fw_ptr_b2_, fl_ptr_x, fl_ptr_hi, fl_ptr_lo, fl_ptr_in]; assumption)) only [fw_b_116_0, fw_b_116_8, fw_b_116_15, fw_b_116_26, fw_b_116_40, fw_b_116_50, fw_b_116_53, hch, ep, q1, q2, ↓if_pos, ↓if_neg, fw_bs, fw_cn_0, fw_cn_2, fw_cn_5, Nat.reduceAdd]
    · unfold fg_pc; rw [if_neg (by omega)]; exact hh
  · have hIN := fg_IN_drop hM hh h0 hi hd
    obtain ⟨d1, d2, d3, d4⟩ := fg_dv_1 hd
    have hst := gF (fw_r m 34 i) (by omega) (by omega) d1
    have hrd := (gC.2.2.2.1 (fw_r m 33 (fw_r m 34 i)) (by omega) (by omega)).2.2.2.2.2.2
    have hlt := fg_over_lt gD ⟨(by omega : 0 ≤ fw_r m 33 (fw_r m 34 i)), htr.2⟩ hst
    have hbd := (fg_gD_bd gD hFP.1).1
    have hD2 := gD.2.1
    have hD1 := gD.1.1
    rw [hd] at q2
    have er : fw_E 8 0 [(2, 8), (0, fw_r c (51 + 3 * i) 0), (8, 0)] [] c = some ((0, fw_r m 40 (fw_r m 33 (fw_r m 34 i))), c) := by
      rw [p1, fs_roundsAt (Or.inl rfl) a1 gB.1.1 (by omega) (by omega), tp.2 d1]
    have hpk : fg_pok c := by unfold fg_pok; have := gC.1; omega
    have el : fw_E 36 0 [(2, 2), (0, fw_r m 33 (fw_r m 34 i)), (0, 99), (0, fw_r m 40 (fw_r m 33 (fw_r m 34 i)))] [] c = some ((5, 0), fg_c0 c (fw_r m 33 (fw_r m 34 i)) 99 (fw_r m 40 (fw_r m 33 (fw_r m 34 i)))) :=
      fs_leave a1 hpk (by omega) (by omega) (by decide) (by decide) (by omega) (by omega) (by omega)
    have hp1 := fg_c0_ptr (fw_r m 33 (fw_r m 34 i)) 99 (fw_r m 40 (fw_r m 33 (fw_r m 34 i))) a1
    have hc0 : ∀ a b, a ≠ 5 → a ≠ 6 → a ≠ 2 → fw_r (fg_c0 c (fw_r m 33 (fw_r m 34 i)) 99 (fw_r m 40 (fw_r m 33 (fw_r m 34 i)))) a b = fw_r c a b := fun a b x y z => fg_c0_o _ _ _ _ (Or.inl x) (Or.inl y) (Or.inl z)
    have hrb0 : fg_RB 8 M (fg_c0 c (fw_r m 33 (fw_r m 34 i)) 99 (fw_r m 40 (fw_r m 33 (fw_r m 34 i)))) m := fg_RB_c gB.1 (fun j => hc0 _ _ (by decide) (by decide) (by decide)) (fun j => hc0 _ _ (by decide) (by decide) (by decide)) (fun j => hc0 _ _ (by decide) (by decide) (by decide))
    have et : fw_E 11 0 [(2, 8), (0, fw_r (fg_c0 c (fw_r m 33 (fw_r m 34 i)) 99 (fw_r m 40 (fw_r m 33 (fw_r m 34 i)))) (51 + 3 * i) 0)] [] (fg_c0 c (fw_r m 33 (fw_r m 34 i)) 99 (fw_r m 40 (fw_r m 33 (fw_r m 34 i)))) = some ((5, 0), fg_put (fg_c0 c (fw_r m 33 (fw_r m 34 i)) 99 (fw_r m 40 (fw_r m 33 (fw_r m 34 i)))) 8 (fw_r m 34 i) (-1)) := by
      rw [hc0 _ _ (by omega) (by omega) (by omega), p1, fs_takeFrom (Or.inl rfl) hp1 hrb0.1 (by omega) (by have := hrb0.2.1; omega)]
    have hcw1 : fw_chw (fg_c0 c (fw_r m 33 (fw_r m 34 i)) 99 (fw_r m 40 (fw_r m 33 (fw_r m 34 i)))) (51 + 3 * i) := ⟨hcw.1, (hc0 _ _ (by omega) (by omega) (by omega)).trans hcw.2⟩
    have hh2 : ∀ a b, 51 ≤ a → fw_r (fg_put (fg_c0 c (fw_r m 33 (fw_r m 34 i)) 99 (fw_r m 40 (fw_r m 33 (fw_r m 34 i)))) 8 (fw_r m 34 i) (-1)) a b = fw_r c a b := fun a b x => fg_cd_hi (i := i) c x
    have hcw2 : fw_chw (fg_put (fg_c0 c (fw_r m 33 (fw_r m 34 i)) 99 (fw_r m 40 (fw_r m 33 (fw_r m 34 i)))) 8 (fw_r m 34 i) (-1)) (51 + 3 * i) := ⟨hcw.1, (hh2 _ _ (by omega)).trans hcw.2⟩
    have hrw2 : fw_rw (fg_put (fg_c0 c (fw_r m 33 (fw_r m 34 i)) 99 (fw_r m 40 (fw_r m 33 (fw_r m 34 i)))) 8 (fw_r m 34 i) (-1)) (51 + 3 * i + 1) := ⟨hrw.1, hrw.2.1, (hh2 _ _ (by omega)).trans hrw.2.2⟩
    have hln := fw_ln_ch h0
    have hse := fg_se_in (fun k => fw_r m 43 (30 * i + k)) (fw_r m 42 i).toNat 0 (0, 0) (by omega)
    rw [← gEi.2.1.2.2] at hse
    (try dsimp only at hse)
    have ed : fw_E 13 0 [(2, 51 + 3 * i), (0, fw_r m 33 (fw_r m 34 i))] [] (fg_put (fg_c0 c (fw_r m 33 (fw_r m 34 i)) 99 (fw_r m 40 (fw_r m 33 (fw_r m 34 i)))) 8 (fw_r m 34 i) (-1)) = some ((5, 0), fg_cd c i (fw_r m 34 i) (fw_r m 33 (fw_r m 34 i)) (fw_r m 40 (fw_r m 33 (fw_r m 34 i)))) :=
      fs_drop hcw2 hrw2 (by rw [hh2 _ _ (by omega)]; omega) (by rw [hh2 _ _ (by omega), hln]; omega) (by omega) (by omega) (by rw [hh2 _ _ (by omega)]; omega) (by rw [hh2 _ _ (by omega)]; omega)
    refine ⟨fg_cd c i (fw_r m 34 i) (fw_r m 33 (fw_r m 34 i)) (fw_r m 40 (fw_r m 33 (fw_r m 34 i))), ?_, ?_, ?_⟩
    · rw [hd]
      simp (disch := first | assumption | first | omega | assumption | (simp (disch := omega) only [fw_w_id, fw_wl_id, fw_r_k, fw_r_j, fw_r_s]; omega) | (simp only [fw_ptr_32_0, fl_ptr_32_0, fw_ptr_32_1, fl_ptr_32_1, fw_ptr_32_2, fw_ptr_32_3, fw_ptr_32_4, fw_ptr_32_5, fl_ptr_32_5, fw_ptr_32_6, fw_ptr_32_7, fw_ptr_32_8, fw_ptr_32_9, fw_ptr_32_10, fl_ptr_32_10, fw_ptr_32_11, fl_ptr_32_11, fw_ptr_32_12, fw_ptr_32_13, fw_ptr_32_14, fw_ptr_32_15, fw_ptr_32_16, fw_ptr_32_17, fl_ptr_32_17, fw_ptr_32_18, fl_ptr_32_18, fw_ptr_32_19, fl_ptr_32_19, fw_ptr_32_20, fl_ptr_32_20, fw_ptr_32_21, fl_ptr_32_21, fw_ptr_32_22, fl_ptr_32_22, fw_ptr_32_23, fw_ptr_32_24, fw_ptr_32_25, fw_ptr_32_26, fw_ptr_32_27, fw_ptr_32_28, fw_ptr_32_29, fw_ptr_32_30, fw_ptr_32_31, fw_ptr_32_32, fw_ptr_32_33, fw_ptr_32_34, fw_ptr_32_35, fw_ptr_1_8, fw_ptr_2_5, fw_ptr_2_6, fw_ptr_2_7, fw_ptr_2_8, fw_ptr_2_9, fw_ptr_8_2, fw_ptr_8_3, fw_ptr_11_2, fw_ptr_11_3, fw_ptr_11_4, fw_ptr_11_5, fw_ptr_11_6, fw_ptr_17_8, fw_ptr_18_2, fw_ptr_18_3, fw_ptr_25_1, fw_ptr_27_2, fw_ptr_28_1, fl_ptr_33, fl_ptr_34, fl_ptr_35, fl_ptr_36, fl_ptr_38, fl_ptr_39, fl_ptr_40, fl_ptr_41, fl_ptr_42, fl_ptr_43, fl_ptr_44, fl_ptr_45, fl_ptr_46, fl_ptr_47, fl_ptr_48, fl_ptr_49, fl_ptr_50, fw_ptr_3, fw_ptr_4, fw_ptr_5, fw_ptr_6, fw_ptr_7, fw_ptr_9, fw_ptr_10, fw_ptr_13, fw_ptr_15, fw_ptr_16, fw_ptr_19, fw_ptr_20, fw_ptr_21, fw_ptr_22, fw_ptr_23, fw_ptr_24, fw_ptr_26, fw_ptr_29, fw_ptr_30, fw_ptr_31, fw_ptr_33, fw_ptr_34, fw_ptr_35, fw_ptr_36, fw_ptr_37, fw_ptr_38, fw_ptr_39, fw_ptr_40, fw_ptr_41, fw_ptr_42, fw_ptr_43, fw_ptr_44, fw_ptr_45, fw_ptr_46, fw_ptr_47, fw_ptr_48, fw_ptr_49, fw_ptr_50, fw_ptr_51, fw_ptr_52, fw_ptr_53, fw_ptr_54, fw_ptr_55, fw_ptr_12, fw_ptr_x, fw_ptr_hi, fw_ptr_b3, fw_ptr_b1, fw_ptr_b2, fw_ptr_b2_, fl_ptr_x, fl_ptr_hi, fl_ptr_lo, fl_ptr_in]; assumption)) only [fw_b_116_0, fw_b_116_8, fw_b_116_15, fw_b_116_26, fw_b_116_40, fw_b_116_50, fw_b_116_55, fw_b_116_73, fw_b_116_76, fw_b_116_87, fw_b_116_92, hch, ep, q1, q2, er, el, et, ed, ↓if_pos, ↓if_neg, fw_bs, fw_cn_0, fw_cn_2, fw_cn_5, Nat.reduceAdd]
    · unfold fg_pc; rw [if_pos hd]; exact hIN
    · intro a j ha
      exact fg_cd_lo c h0 (by omega) (by omega) (by omega) (by omega) (by omega) (Or.inl (by omega))
theorem fs_dropOver {M : Int} {c m : fw_M} {a1 a2 : fw_V} (hM : M ≤ 400000) (h : fg_IN M c m) : ∃ c', fw_E 117 0 [(2, 1), a1, a2] [] c = some ((0, fg_ov m), c') ∧ fg_IN M c' (fg_po m) ∧ fg_CFr c c' := by
  have hh := h
  obtain ⟨gA, gB, gC, gD, gE, gF, gG, gH, gI⟩ := h
  have hcf := gA.1
  obtain ⟨⟨a1', a2', a3'⟩, ⟨b0, b1, b2, b3, b4, b5⟩, e1, e2, e3, e4, e5⟩ := gA.1
  have hFP := gB.2.1.2.1
  have tp := gB.1.2.2.1 (fw_r m 32 1 - 1) (by omega) (by omega)
  have htr := gB.2.1.2.2.1 (fw_r m 32 1 - 1) (by omega) (by omega)
  have hN2 := gB.1.2.1
  have ep : fw_E 7 0 [(2, 8), (0, fw_r c 11 3), (8, 0)] [] c = some ((0, fw_r m 33 (fw_r m 32 1 - 1)), c) := by
    rw [b1, fs_parcelAt (Or.inl rfl) a1' gB.1.1 (by omega) (by omega), tp.1]
  have er : fw_E 8 0 [(2, 8), (0, fw_r c 11 3), (8, 0)] [] c = some ((0, fg_rd c 8 (fw_r m 32 1 - 1)), c) := by
    rw [b1, fs_roundsAt (Or.inl rfl) a1' gB.1.1 (by omega) (by omega)]
  have hiff : fg_ot c (fw_r m 33 (fw_r m 32 1 - 1)) (fg_rd c 8 (fw_r m 32 1 - 1)) ↔ (fw_r m 33 (fw_r m 32 1 - 1) ≠ -1 ∧ fw_r m 32 8 = 0 ∧ fw_r m 32 9 ≤ fw_r m 40 (fw_r m 33 (fw_r m 32 1 - 1))) := by
    unfold fg_ot; rw [b4, b2]
    constructor
    · rintro ⟨x, y, z⟩; rw [tp.2 y] at z; exact ⟨y, x, z⟩
    · rintro ⟨x, y, z⟩; rw [tp.2 x]; exact ⟨y, x, z⟩
  rcases fg_ov_01 m with hd | hd
  · have hn : ¬fg_ot c (fw_r m 33 (fw_r m 32 1 - 1)) (fg_rd c 8 (fw_r m 32 1 - 1)) := fun hx => fg_ov_0 hd (hiff.mp hx)
    refine ⟨c, ?_, ?_, fg_CFr_refl c⟩
    · rw [hd]
      simp (disch := first | assumption | first | omega | assumption | (simp (disch := omega) only [fw_w_id, fw_wl_id, fw_r_k, fw_r_j, fw_r_s]; omega) | (simp only [fw_ptr_32_0, fl_ptr_32_0, fw_ptr_32_1, fl_ptr_32_1, fw_ptr_32_2, fw_ptr_32_3, fw_ptr_32_4, fw_ptr_32_5, fl_ptr_32_5, fw_ptr_32_6, fw_ptr_32_7, fw_ptr_32_8, fw_ptr_32_9, fw_ptr_32_10, fl_ptr_32_10, fw_ptr_32_11, fl_ptr_32_11, fw_ptr_32_12, fw_ptr_32_13, fw_ptr_32_14, fw_ptr_32_15, fw_ptr_32_16, fw_ptr_32_17, fl_ptr_32_17, fw_ptr_32_18, fl_ptr_32_18, fw_ptr_32_19, fl_ptr_32_19, fw_ptr_32_20, fl_ptr_32_20, fw_ptr_32_21, fl_ptr_32_21, fw_ptr_32_22, fl_ptr_32_22, fw_ptr_32_23, fw_ptr_32_24, fw_ptr_32_25, fw_ptr_32_26, fw_ptr_32_27, fw_ptr_32_28, fw_ptr_32_29, fw_ptr_32_30, fw_ptr_32_31, fw_ptr_32_32, fw_ptr_32_33, fw_ptr_32_34, fw_ptr_32_35, fw_ptr_1_8, fw_ptr_2_5, fw_ptr_2_6, fw_ptr_2_7, fw_ptr_2_8, fw_ptr_2_9, fw_ptr_8_2, fw_ptr_8_3, fw_ptr_11_2, fw_ptr_11_3, fw_ptr_11_4, fw_ptr_11_5, fw_ptr_11_6, fw_ptr_17_8, fw_ptr_18_2, fw_ptr_18_3, fw_ptr_25_1, fw_ptr_27_2, fw_ptr_28_1, fl_ptr_33, fl_ptr_34, fl_ptr_35, fl_ptr_36, fl_ptr_38, fl_ptr_39, fl_ptr_40, fl_ptr_41, fl_ptr_42, fl_ptr_43, fl_ptr_44, fl_ptr_45, fl_ptr_46, fl_ptr_47, fl_ptr_48, fl_ptr_49, fl_ptr_50, fw_ptr_3, fw_ptr_4, fw_ptr_5, fw_ptr_6, fw_ptr_7, fw_ptr_9, fw_ptr_10, fw_ptr_13, fw_ptr_15, fw_ptr_16, fw_ptr_19, fw_ptr_20, fw_ptr_21, fw_ptr_22, fw_ptr_23, fw_ptr_24, fw_ptr_26, fw_ptr_29, fw_ptr_30, fw_ptr_31, fw_ptr_33, fw_ptr_34, fw_ptr_35, fw_ptr_36, fw_ptr_37, fw_ptr_38, fw_ptr_39, fw_ptr_40, fw_ptr_41, fw_ptr_42, fw_ptr_43, fw_ptr_44, fw_ptr_45, fw_ptr_46, fw_ptr_47, fw_ptr_48, fw_ptr_49, fw_ptr_50, fw_ptr_51, fw_ptr_52, fw_ptr_53, fw_ptr_54, fw_ptr_55, fw_ptr_12, fw_ptr_x, fw_ptr_hi, fw_ptr_b3, fw_ptr_b1, fw_ptr_b2, fw_ptr_b2_, fl_ptr_x, fl_ptr_hi, fl_ptr_lo, fl_ptr_in]; assumption)) only [fw_b_117_0, fw_b_117_14, fw_b_117_29, fw_b_117_39, fw_b_117_42, ep, er, fs_overflowTakes_f, ↓if_pos, ↓if_neg, fw_bs, fw_cn_0, fw_cn_2, fw_cn_5, Nat.reduceAdd]
    · unfold fg_po; rw [if_neg (by omega)]; exact hh
  · have hy := hiff.mpr (fg_ov_1 hd)
    have hIN := fg_IN_over hM hh hd
    obtain ⟨d1, d2, d3⟩ := fg_ov_1 hd
    have hst := gF (fw_r m 32 1 - 1) (by omega) (by omega) d1
    have hrd := (gC.2.2.2.1 (fw_r m 33 (fw_r m 32 1 - 1)) (by omega) (by omega)).2.2.2.2.2.2
    have hlt := fg_over_lt gD ⟨(by omega : 0 ≤ fw_r m 33 (fw_r m 32 1 - 1)), htr.2⟩ hst
    have hbd := (fg_gD_bd gD hFP.1)
    have hD2 := gD.2.1
    have hD1 := gD.1.1
    have hD3 := gD.2.2.1.1
    have hrde := tp.2 d1
    have hpk : fg_pok c := by unfold fg_pok; have := gC.1; omega
    have el : fw_E 36 0 [(2, 2), (0, fw_r m 33 (fw_r m 32 1 - 1)), (0, 111), (0, fg_rd c 8 (fw_r m 32 1 - 1))] [] c = some ((5, 0), fg_c0 c (fw_r m 33 (fw_r m 32 1 - 1)) 111 (fw_r m 40 (fw_r m 33 (fw_r m 32 1 - 1)))) := by
      rw [hrde]
      exact fs_leave a1' hpk (by omega) (by omega) (by decide) (by decide) (by omega) (by omega) (by omega)
    have hp1 := fg_c0_ptr (fw_r m 33 (fw_r m 32 1 - 1)) 111 (fw_r m 40 (fw_r m 33 (fw_r m 32 1 - 1))) a1'
    have hc0 : ∀ a b, a ≠ 5 → a ≠ 6 → a ≠ 2 → fw_r (fg_c0 c (fw_r m 33 (fw_r m 32 1 - 1)) 111 (fw_r m 40 (fw_r m 33 (fw_r m 32 1 - 1)))) a b = fw_r c a b := fun a b x y z => fg_c0_o _ _ _ _ (Or.inl x) (Or.inl y) (Or.inl z)
    have hrb0 : fg_RB 8 M (fg_c0 c (fw_r m 33 (fw_r m 32 1 - 1)) 111 (fw_r m 40 (fw_r m 33 (fw_r m 32 1 - 1)))) m := fg_RB_c gB.1 (fun j => hc0 _ _ (by decide) (by decide) (by decide)) (fun j => hc0 _ _ (by decide) (by decide) (by decide)) (fun j => hc0 _ _ (by decide) (by decide) (by decide))
    have et : fw_E 11 0 [(2, 8), (0, fw_r (fg_c0 c (fw_r m 33 (fw_r m 32 1 - 1)) 111 (fw_r m 40 (fw_r m 33 (fw_r m 32 1 - 1)))) 11 3)] [] (fg_c0 c (fw_r m 33 (fw_r m 32 1 - 1)) 111 (fw_r m 40 (fw_r m 33 (fw_r m 32 1 - 1)))) = some ((5, 0), fg_put (fg_c0 c (fw_r m 33 (fw_r m 32 1 - 1)) 111 (fw_r m 40 (fw_r m 33 (fw_r m 32 1 - 1)))) 8 (fw_r m 32 1 - 1) (-1)) := by
      rw [hc0 _ _ (by decide) (by decide) (by decide), b1, fs_takeFrom (Or.inl rfl) hp1 hrb0.1 (by omega) (by have := hrb0.2.1; omega)]
    have hp2 : fw_ptr (fg_put (fg_c0 c (fw_r m 33 (fw_r m 32 1 - 1)) 111 (fw_r m 40 (fw_r m 33 (fw_r m 32 1 - 1)))) 8 (fw_r m 32 1 - 1) (-1)) := fg_put_ptr (Or.inl rfl) hp1
    have hrw : fw_rw (fg_put (fg_c0 c (fw_r m 33 (fw_r m 32 1 - 1)) 111 (fw_r m 40 (fw_r m 33 (fw_r m 32 1 - 1)))) 8 (fw_r m 32 1 - 1) (-1)) 25 := ⟨rfl, rfl, fw_p_25_0 hp2⟩
    have h251 : fw_r (fg_put (fg_c0 c (fw_r m 33 (fw_r m 32 1 - 1)) 111 (fw_r m 40 (fw_r m 33 (fw_r m 32 1 - 1)))) 8 (fw_r m 32 1 - 1) (-1)) 25 1 = fw_r m 32 19 := by rw [fg_put_o _ _ _ _ (by decide) (by decide), hc0 _ _ (by decide) (by decide) (by decide), hD3]
    have hln : fw_ln (25 + 1) = 300 := rfl
    have ea : fw_E 45 0 [(2, 25), (0, fw_r m 33 (fw_r m 32 1 - 1))] [] (fg_put (fg_c0 c (fw_r m 33 (fw_r m 32 1 - 1)) 111 (fw_r m 40 (fw_r m 33 (fw_r m 32 1 - 1)))) 8 (fw_r m 32 1 - 1) (-1)) = some ((5, 0), fg_co c (fw_r m 32 1 - 1) (fw_r m 33 (fw_r m 32 1 - 1)) (fw_r m 40 (fw_r m 33 (fw_r m 32 1 - 1)))) :=
      fs_rAdd hrw (by rw [h251]; omega) (by rw [h251, hln]; omega) (by rw [hln]; decide)
    refine ⟨fg_co c (fw_r m 32 1 - 1) (fw_r m 33 (fw_r m 32 1 - 1)) (fw_r m 40 (fw_r m 33 (fw_r m 32 1 - 1))), ?_, ?_, ?_⟩
    · rw [hd]
      simp (disch := first | assumption | first | omega | assumption | (simp (disch := omega) only [fw_w_id, fw_wl_id, fw_r_k, fw_r_j, fw_r_s]; omega) | (simp only [fw_ptr_32_0, fl_ptr_32_0, fw_ptr_32_1, fl_ptr_32_1, fw_ptr_32_2, fw_ptr_32_3, fw_ptr_32_4, fw_ptr_32_5, fl_ptr_32_5, fw_ptr_32_6, fw_ptr_32_7, fw_ptr_32_8, fw_ptr_32_9, fw_ptr_32_10, fl_ptr_32_10, fw_ptr_32_11, fl_ptr_32_11, fw_ptr_32_12, fw_ptr_32_13, fw_ptr_32_14, fw_ptr_32_15, fw_ptr_32_16, fw_ptr_32_17, fl_ptr_32_17, fw_ptr_32_18, fl_ptr_32_18, fw_ptr_32_19, fl_ptr_32_19, fw_ptr_32_20, fl_ptr_32_20, fw_ptr_32_21, fl_ptr_32_21, fw_ptr_32_22, fl_ptr_32_22, fw_ptr_32_23, fw_ptr_32_24, fw_ptr_32_25, fw_ptr_32_26, fw_ptr_32_27, fw_ptr_32_28, fw_ptr_32_29, fw_ptr_32_30, fw_ptr_32_31, fw_ptr_32_32, fw_ptr_32_33, fw_ptr_32_34, fw_ptr_32_35, fw_ptr_1_8, fw_ptr_2_5, fw_ptr_2_6, fw_ptr_2_7, fw_ptr_2_8, fw_ptr_2_9, fw_ptr_8_2, fw_ptr_8_3, fw_ptr_11_2, fw_ptr_11_3, fw_ptr_11_4, fw_ptr_11_5, fw_ptr_11_6, fw_ptr_17_8, fw_ptr_18_2, fw_ptr_18_3, fw_ptr_25_1, fw_ptr_27_2, fw_ptr_28_1, fl_ptr_33, fl_ptr_34, fl_ptr_35, fl_ptr_36, fl_ptr_38, fl_ptr_39, fl_ptr_40, fl_ptr_41, fl_ptr_42, fl_ptr_43, fl_ptr_44, fl_ptr_45, fl_ptr_46, fl_ptr_47, fl_ptr_48, fl_ptr_49, fl_ptr_50, fw_ptr_3, fw_ptr_4, fw_ptr_5, fw_ptr_6, fw_ptr_7, fw_ptr_9, fw_ptr_10, fw_ptr_13, fw_ptr_15, fw_ptr_16, fw_ptr_19, fw_ptr_20, fw_ptr_21, fw_ptr_22, fw_ptr_23, fw_ptr_24, fw_ptr_26, fw_ptr_29, fw_ptr_30, fw_ptr_31, fw_ptr_33, fw_ptr_34, fw_ptr_35, fw_ptr_36, fw_ptr_37, fw_ptr_38, fw_ptr_39, fw_ptr_40, fw_ptr_41, fw_ptr_42, fw_ptr_43, fw_ptr_44, fw_ptr_45, fw_ptr_46, fw_ptr_47, fw_ptr_48, fw_ptr_49, fw_ptr_50, fw_ptr_51, fw_ptr_52, fw_ptr_53, fw_ptr_54, fw_ptr_55, fw_ptr_12, fw_ptr_x, fw_ptr_hi, fw_ptr_b3, fw_ptr_b1, fw_ptr_b2, fw_ptr_b2_, fl_ptr_x, fl_ptr_hi, fl_ptr_lo, fl_ptr_in]; assumption)) only [fw_b_117_0, fw_b_117_14, fw_b_117_29, fw_b_117_39, fw_b_117_44, fw_b_117_55, fw_b_117_69, fw_b_117_77, ep, er, el, et, ea, fs_overflowTakes_t, ↓if_pos, ↓if_neg, fw_bs, fw_cn_0, fw_cn_2, fw_cn_5, Nat.reduceAdd]
    · unfold fg_po; rw [if_pos hd]; exact hIN
    · intro a j ha
      exact fg_co_o c (Or.inl (by omega)) (by omega) (by omega) (by omega) (by omega) (by omega) (Or.inl (by omega))
theorem fs_tick_load {M : Int} {c m : fw_M} {a1 a2 : fw_V} (h : fg_IN M c m) : ∃ c', fw_E 115 17 [(2, 1), a1, a2] [] c = fw_E 115 64 [(2, 1), a1, a2] [] c' ∧ fg_IN M c' (fg_pl m) ∧ fg_CFr c c' := by
  have hh := h
  obtain ⟨gA, gB, gC, gD, gE, gF, gG, gH, gI⟩ := h
  obtain ⟨⟨a1', a2', a3'⟩, ⟨b0, b1, b2, b3, b4, b5⟩, e1, e2, e3, e4, e5⟩ := gA.1
  have hFP := gB.2.1.2.1
  have hN2 := gB.1.2.1
  have tp := gB.1.2.2.1 0 (by omega) (by omega)
  have e7 : fw_E 7 0 [(2, 8), (0, 0), (8, 0)] [] c = some ((0, fw_r m 33 0), c) := by
    rw [fs_parcelAt (Or.inl rfl) a1' gB.1.1 (by omega) (by omega), tp.1]
  have hiff : fg_lp c (fw_r m 33 0) (fw_r c 2 6) (fw_r c 2 5) ↔ (fw_r m 32 7 = 0 ∧ fw_r m 33 0 = -1 ∧ fw_r m 32 15 < fw_r m 32 10) := by
    unfold fg_lp; rw [b3, gC.1, b5]
  rcases fg_lv_01 m with hl | hl
  · have hn : ¬fg_lp c (fw_r m 33 0) (fw_r c 2 6) (fw_r c 2 5) := fun hx => fg_lv_0 hl (hiff.mp hx)
    refine ⟨c, ?_, ?_, fg_CFr_refl c⟩
    · simp (disch := first | assumption | first | omega | assumption | (simp (disch := omega) only [fw_w_id, fw_wl_id, fw_r_k, fw_r_j, fw_r_s]; omega) | (simp only [fw_ptr_32_0, fl_ptr_32_0, fw_ptr_32_1, fl_ptr_32_1, fw_ptr_32_2, fw_ptr_32_3, fw_ptr_32_4, fw_ptr_32_5, fl_ptr_32_5, fw_ptr_32_6, fw_ptr_32_7, fw_ptr_32_8, fw_ptr_32_9, fw_ptr_32_10, fl_ptr_32_10, fw_ptr_32_11, fl_ptr_32_11, fw_ptr_32_12, fw_ptr_32_13, fw_ptr_32_14, fw_ptr_32_15, fw_ptr_32_16, fw_ptr_32_17, fl_ptr_32_17, fw_ptr_32_18, fl_ptr_32_18, fw_ptr_32_19, fl_ptr_32_19, fw_ptr_32_20, fl_ptr_32_20, fw_ptr_32_21, fl_ptr_32_21, fw_ptr_32_22, fl_ptr_32_22, fw_ptr_32_23, fw_ptr_32_24, fw_ptr_32_25, fw_ptr_32_26, fw_ptr_32_27, fw_ptr_32_28, fw_ptr_32_29, fw_ptr_32_30, fw_ptr_32_31, fw_ptr_32_32, fw_ptr_32_33, fw_ptr_32_34, fw_ptr_32_35, fw_ptr_1_8, fw_ptr_2_5, fw_ptr_2_6, fw_ptr_2_7, fw_ptr_2_8, fw_ptr_2_9, fw_ptr_8_2, fw_ptr_8_3, fw_ptr_11_2, fw_ptr_11_3, fw_ptr_11_4, fw_ptr_11_5, fw_ptr_11_6, fw_ptr_17_8, fw_ptr_18_2, fw_ptr_18_3, fw_ptr_25_1, fw_ptr_27_2, fw_ptr_28_1, fl_ptr_33, fl_ptr_34, fl_ptr_35, fl_ptr_36, fl_ptr_38, fl_ptr_39, fl_ptr_40, fl_ptr_41, fl_ptr_42, fl_ptr_43, fl_ptr_44, fl_ptr_45, fl_ptr_46, fl_ptr_47, fl_ptr_48, fl_ptr_49, fl_ptr_50, fw_ptr_3, fw_ptr_4, fw_ptr_5, fw_ptr_6, fw_ptr_7, fw_ptr_9, fw_ptr_10, fw_ptr_13, fw_ptr_15, fw_ptr_16, fw_ptr_19, fw_ptr_20, fw_ptr_21, fw_ptr_22, fw_ptr_23, fw_ptr_24, fw_ptr_26, fw_ptr_29, fw_ptr_30, fw_ptr_31, fw_ptr_33, fw_ptr_34, fw_ptr_35, fw_ptr_36, fw_ptr_37, fw_ptr_38, fw_ptr_39, fw_ptr_40, fw_ptr_41, fw_ptr_42, fw_ptr_43, fw_ptr_44, fw_ptr_45, fw_ptr_46, fw_ptr_47, fw_ptr_48, fw_ptr_49, fw_ptr_50, fw_ptr_51, fw_ptr_52, fw_ptr_53, fw_ptr_54, fw_ptr_55, fw_ptr_12, fw_ptr_x, fw_ptr_hi, fw_ptr_b3, fw_ptr_b1, fw_ptr_b2, fw_ptr_b2_, fl_ptr_x, fl_ptr_hi, fl_ptr_lo, fl_ptr_in]; assumption)) only [fw_b_115_17, fw_b_115_29, fw_b_115_46, e7, fs_loaderPuts_f, ↓if_pos, ↓if_neg, fw_bs, fw_cn_0, fw_cn_2, fw_cn_5, Nat.reduceAdd]
    · unfold fg_pl; rw [if_neg (by omega)]; exact hh
  · have hy := hiff.mpr (fg_lv_1 hl)
    have hq := (fg_lv_1 hl).2.2
    have hpk : fg_pok c := by unfold fg_pok; have := gC.1; omega
    have el : fw_E 35 0 [(2, 2), (8, 0)] [] c = some ((0, fw_r m 32 15), fw_u (fw_u c 5 (fw_r m 32 15) 108) 2 6 (fw_r m 32 15 + 1)) := by
      rw [fs_loadFirst a1' hpk (by have := gC.1; omega), gC.1]
    have hp1 : fw_ptr (fw_u (fw_u c 5 (fw_r m 32 15) 108) 2 6 (fw_r m 32 15 + 1)) := by rw [fw_ptr_2_6, fw_ptr_5]; exact a1'
    have hrb0 : fg_RB 8 M (fw_u (fw_u c 5 (fw_r m 32 15) 108) 2 6 (fw_r m 32 15 + 1)) m := fg_RB_c gB.1 (fun j => by rw [fw_r_k _ (by decide), fw_r_k _ (by decide)]) (fun j => by rw [fw_r_k _ (by decide), fw_r_k _ (by decide)]) (fun j => by rw [fw_r_k _ (by decide), fw_r_k _ (by decide)])
    have ep : fw_E 10 0 [(2, 8), (0, 0), (0, fw_r m 32 15), (8, 0)] [] (fw_u (fw_u c 5 (fw_r m 32 15) 108) 2 6 (fw_r m 32 15 + 1)) = some ((5, 0), fg_cl2 c (fw_r m 32 15)) := fs_put (Or.inl rfl) hp1 hrb0.1 (by omega) (by have := hrb0.2.1; omega)
    refine ⟨fg_cl2 c (fw_r m 32 15), ?_, ?_, ?_⟩
    · simp (disch := first | assumption | first | omega | assumption | (simp (disch := omega) only [fw_w_id, fw_wl_id, fw_r_k, fw_r_j, fw_r_s]; omega) | (simp only [fw_ptr_32_0, fl_ptr_32_0, fw_ptr_32_1, fl_ptr_32_1, fw_ptr_32_2, fw_ptr_32_3, fw_ptr_32_4, fw_ptr_32_5, fl_ptr_32_5, fw_ptr_32_6, fw_ptr_32_7, fw_ptr_32_8, fw_ptr_32_9, fw_ptr_32_10, fl_ptr_32_10, fw_ptr_32_11, fl_ptr_32_11, fw_ptr_32_12, fw_ptr_32_13, fw_ptr_32_14, fw_ptr_32_15, fw_ptr_32_16, fw_ptr_32_17, fl_ptr_32_17, fw_ptr_32_18, fl_ptr_32_18, fw_ptr_32_19, fl_ptr_32_19, fw_ptr_32_20, fl_ptr_32_20, fw_ptr_32_21, fl_ptr_32_21, fw_ptr_32_22, fl_ptr_32_22, fw_ptr_32_23, fw_ptr_32_24, fw_ptr_32_25, fw_ptr_32_26, fw_ptr_32_27, fw_ptr_32_28, fw_ptr_32_29, fw_ptr_32_30, fw_ptr_32_31, fw_ptr_32_32, fw_ptr_32_33, fw_ptr_32_34, fw_ptr_32_35, fw_ptr_1_8, fw_ptr_2_5, fw_ptr_2_6, fw_ptr_2_7, fw_ptr_2_8, fw_ptr_2_9, fw_ptr_8_2, fw_ptr_8_3, fw_ptr_11_2, fw_ptr_11_3, fw_ptr_11_4, fw_ptr_11_5, fw_ptr_11_6, fw_ptr_17_8, fw_ptr_18_2, fw_ptr_18_3, fw_ptr_25_1, fw_ptr_27_2, fw_ptr_28_1, fl_ptr_33, fl_ptr_34, fl_ptr_35, fl_ptr_36, fl_ptr_38, fl_ptr_39, fl_ptr_40, fl_ptr_41, fl_ptr_42, fl_ptr_43, fl_ptr_44, fl_ptr_45, fl_ptr_46, fl_ptr_47, fl_ptr_48, fl_ptr_49, fl_ptr_50, fw_ptr_3, fw_ptr_4, fw_ptr_5, fw_ptr_6, fw_ptr_7, fw_ptr_9, fw_ptr_10, fw_ptr_13, fw_ptr_15, fw_ptr_16, fw_ptr_19, fw_ptr_20, fw_ptr_21, fw_ptr_22, fw_ptr_23, fw_ptr_24, fw_ptr_26, fw_ptr_29, fw_ptr_30, fw_ptr_31, fw_ptr_33, fw_ptr_34, fw_ptr_35, fw_ptr_36, fw_ptr_37, fw_ptr_38, fw_ptr_39, fw_ptr_40, fw_ptr_41, fw_ptr_42, fw_ptr_43, fw_ptr_44, fw_ptr_45, fw_ptr_46, fw_ptr_47, fw_ptr_48, fw_ptr_49, fw_ptr_50, fw_ptr_51, fw_ptr_52, fw_ptr_53, fw_ptr_54, fw_ptr_55, fw_ptr_12, fw_ptr_x, fw_ptr_hi, fw_ptr_b3, fw_ptr_b1, fw_ptr_b2, fw_ptr_b2_, fl_ptr_x, fl_ptr_hi, fl_ptr_lo, fl_ptr_in]; assumption)) only [fw_b_115_17, fw_b_115_29, fw_b_115_46, fw_b_115_49, fw_b_115_61, e7, el, ep, fs_loaderPuts_t, ↓if_pos, ↓if_neg, fw_bs, fw_cn_0, fw_cn_2, fw_cn_5, Nat.reduceAdd]
    · unfold fg_pl; rw [if_pos hl]; exact fg_IN_load hh hl
    · intro a j ha
      exact fg_cl2_o c (Or.inl (by omega)) (Or.inl (by omega)) (by omega) (by omega)
theorem fg_pc_n (m : fw_M) (i : Int) {b : Int} (h : b ≠ 17) (h2 : b ≠ 18) : fw_r (fg_pc m i) 32 b = fw_r m 32 b := by
  unfold fg_pc; split
  · exact fg_pcl_32 m i h h2
  · rfl
theorem fg_pc_17 (m : fw_M) (i : Int) : fw_r (fg_pc m i) 32 17 = fw_r m 32 17 + fg_dv m i := by
  unfold fg_pc
  rcases fg_dv_01 m i with hd | hd
  · rw [if_neg (by omega), hd]; omega
  · rw [if_pos hd, hd]; exact fg_pcl_17 m i
theorem fg_po_17 (m : fw_M) : fw_r (fg_po m) 32 17 = fw_r m 32 17 + fg_ov m := by
  unfold fg_po
  rcases fg_ov_01 m with hd | hd
  · rw [if_neg (by omega), hd]; omega
  · rw [if_pos hd, hd]; exact fg_pol_17 m
theorem fg_pl_o (m : fw_M) {b : Int} (h : b ≠ 15) : fw_r (fg_pl m) 32 b = fw_r m 32 b := by
  unfold fg_pl; split
  · exact fg_pll_o m (Or.inl (by decide)) (Or.inl (by decide)) (Or.inr h)
  · rfl
theorem fs_tick_lp : ∀ (k : Nat) (i acc M : Int) (c m : fw_M), M ≤ 400000 → fg_IN M c m → 0 ≤ i → i + k = fw_r m 32 3 → 0 ≤ acc → acc ≤ i → ∃ c', fw_E 115 68 [(2, 1), (0, acc), (0, i)] [] c = fw_E 115 93 [(2, 1), (0, acc + (fw_r (fg_pcn m i k) 32 17 - fw_r m 32 17)), (0, i + k)] [] c' ∧ fg_IN M c' (fg_pcn m i k) ∧ fg_CFr c c' ∧ (0 ≤ acc + (fw_r (fg_pcn m i k) 32 17 - fw_r m 32 17) ∧ acc + (fw_r (fg_pcn m i k) 32 17 - fw_r m 32 17) ≤ i + k) := by
  intro k
  induction k with
  | zero =>
    intro i acc M c m hM h h0 h1 h2 h3
    have hp := h.1.1.1.1
    have hn := h.1.1.1.2.2
    refine ⟨c, ?_, h, fg_CFr_refl c, ?_⟩
    · rw [fw_b_115_68 _ _ _ hp, if_neg (by omega)]
      simp only [fg_pcn, Int.sub_self, Int.add_zero, Int.natCast_zero]
    · simp only [fg_pcn]; omega
  | succ k ih =>
    intro i acc M c m hM h h0 h1 h2 h3
    have hp := h.1.1.1.1
    have hn := h.1.1.1.2.2
    have hn6 := h.1.1.1.2.1.2.1
    obtain ⟨c1, q1, q2, q3⟩ := fs_dropInto (a2 := (8, 0)) (a3 := (8, 0)) hM h h0 (by omega)
    have hd := fg_dv_01 m i
    have e3 : fw_r (fg_pc m i) 32 3 = fw_r m 32 3 := fg_pc_n m i (by decide) (by decide)
    have e17 := fg_pc_17 m i
    obtain ⟨c2, r1, r2, r3, r4⟩ := ih (i + 1) (acc + fg_dv m i) M c1 (fg_pc m i) hM q2 (by omega) (by rw [e3]; omega) (by omega) (by omega)
    have ek : i + 1 + (k : Int) = i + ((k + 1 : Nat) : Int) := by omega
    have ea : acc + fg_dv m i + (fw_r (fg_pcn (fg_pc m i) (i + 1) k) 32 17 - fw_r (fg_pc m i) 32 17) = acc + (fw_r (fg_pcn m i (k + 1)) 32 17 - fw_r m 32 17) := by
      rw [e17, fg_pcn]; omega
    rw [ek, ea] at r1 r4
    refine ⟨c2, ?_, r2, fg_CFr_trans q3 r3, r4⟩
    rw [← r1, fw_b_115_68 _ _ _ hp, if_pos (by omega), fw_b_115_79, q1, fw_bs, fw_cn_0, fw_b_115_85, fw_w_id (by omega) (by omega), fw_w_id (by omega) (by omega)]
def fg_P1 (m : fw_M) : fw_M := fg_po (fg_pcn (fg_pl (fg_mvs (fg_tk0 m))) 0 (fg_n m))
theorem fs_passOneTick {M : Int} {c m : fw_M} {a1 a2 : fw_V} (hM : M + 1 ≤ 400000) (h : fg_IN M c m) : ∃ c', fw_E 115 0 [(2, 1), a1, a2] [] c = some ((0, fw_r (fg_P1 m) 32 17 - fw_r m 32 17), c') ∧ fg_IN (M + 1) c' (fg_P1 m) ∧ fg_CFr c c' ∧ 0 ≤ fw_r (fg_P1 m) 32 17 - fw_r m 32 17 ∧ fw_r (fg_P1 m) 32 17 - fw_r m 32 17 ≤ 7 := by
  have hIN := fg_IN_move h
  obtain ⟨gA, gB, gC, -⟩ := h
  have hp := gA.1.1.1
  have hn := gA.1.1.2.2
  have hn0 := gA.1.1.2.1.1
  have hn6 := gA.1.1.2.1.2.1
  have hp1 : fw_ptr (fw_u c 1 8 (fw_r c 1 8 + 1)) := by rw [fw_ptr_1_8]; exact hp
  have htk := gC.2.1
  have htk2 := gC.2.2.1
  have hb1 : fg_bok (fw_u c 1 8 (fw_r c 1 8 + 1)) 8 := by
    have := gB.1.1
    unfold fg_bok at this ⊢
    rw [fw_r_k _ (by decide), fw_r_k _ (by decide)]; exact this
  have emv : fw_E 6 0 [(2, 8), (8, 0)] [] (fw_u c 1 8 (fw_r c 1 8 + 1)) = some ((5, 0), fg_mv (fw_u c 1 8 (fw_r c 1 8 + 1)) 8) := fs_move (Or.inl rfl) hp1 hb1 (fun j a d => by
    rw [fw_r_k _ (by decide)] at d
    show 0 ≤ fw_r (fw_u c 1 8 (fw_r c 1 8 + 1)) 10 j ∧ fw_r (fw_u c 1 8 (fw_r c 1 8 + 1)) 10 j ≤ 2000000000
    rw [fw_r_k _ (by decide)]
    have x : 0 ≤ fw_r c 10 j ∧ fw_r c 10 j ≤ M := gB.1.2.2.2 j a (by rw [← gB.1.2.1]; exact d)
    omega)
  obtain ⟨c2, q1, q2, q3⟩ := fs_tick_load (a1 := a1) (a2 := a2) hIN
  have en : fw_r (fg_pl (fg_mvs (fg_tk0 m))) 32 3 = fw_r m 32 3 := by
    rw [fg_pl_o _ (by decide), fg_mvs_o _ (by decide) (by decide)]
    unfold fg_tk0; rw [fw_r_j _ (by decide)]
  have e17 : fw_r (fg_pl (fg_mvs (fg_tk0 m))) 32 17 = fw_r m 32 17 := by
    rw [fg_pl_o _ (by decide), fg_mvs_o _ (by decide) (by decide)]
    unfold fg_tk0; rw [fw_r_j _ (by decide)]
  have hk : ((fg_n m : Nat) : Int) = fw_r m 32 3 := by unfold fg_n; omega
  obtain ⟨c3, r1, r2, r3, r4⟩ := fs_tick_lp (fg_n m) 0 0 (M + 1) c2 (fg_pl (fg_mvs (fg_tk0 m))) hM q2 (by omega) (by omega) (by omega) (by omega)
  obtain ⟨c4, s1, s2, s3⟩ := fs_dropOver (a1 := (8, 0)) (a2 := (8, 0)) hM r2
  have ho := fg_ov_01 (fg_pcn (fg_pl (fg_mvs (fg_tk0 m))) 0 (fg_n m))
  have hf := fg_po_17 (fg_pcn (fg_pl (fg_mvs (fg_tk0 m))) 0 (fg_n m))
  have ev : fw_r (fg_P1 m) 32 17 - fw_r m 32 17 = 0 + (fw_r (fg_pcn (fg_pl (fg_mvs (fg_tk0 m))) 0 (fg_n m)) 32 17 - fw_r (fg_pl (fg_mvs (fg_tk0 m))) 32 17) + fg_ov (fg_pcn (fg_pl (fg_mvs (fg_tk0 m))) 0 (fg_n m)) := by
    unfold fg_P1; rw [hf, e17]; omega
  refine ⟨c4, ?_, s2, ?_, ?_⟩
  · rw [fw_b_115_0, fw_wl_id (by omega) (by omega), fw_b_115_10 _ _ _ hp1, emv, fw_bs, fw_cn_5, q1, fw_b_115_64, r1, fw_b_115_93, s1, fw_bs, fw_cn_0, fw_b_115_98, ev, fw_w_id (by omega) (by omega)]
  · have fr0 : fg_CFr c (fg_mv (fw_u c 1 8 (fw_r c 1 8 + 1)) 8) := fun a j ha => by rw [fg_mv_o _ _ (by omega) (by omega), fw_r_k _ (by omega)]
    exact fg_CFr_trans fr0 (fg_CFr_trans q3 (fg_CFr_trans r3 s3))
  · rw [ev]; omega
