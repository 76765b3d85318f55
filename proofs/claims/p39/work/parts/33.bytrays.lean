theorem fg_fa_end (f : Int → Int) (p : Int) : ∀ (k : Nat) (i : Int), 0 ≤ i → fg_fa f p i (k + 1) = if fg_fa f p i k = -1 then (if f (i + k) = p then i + k else -1) else fg_fa f p i k := by
  intro k
  induction k with
  | zero =>
    intro i h0
    simp [fg_fa]
  | succ k ih =>
    intro i h0
    rw [fg_fa]
    by_cases hc : f i = p
    · rw [if_pos hc]
      have e : fg_fa f p i (k + 1) = i := by rw [fg_fa, if_pos hc]
      rw [e, if_neg (by omega)]
    · rw [if_neg hc, ih (i + 1) (by omega)]
      have e : fg_fa f p i (k + 1) = fg_fa f p (i + 1) k := by rw [fg_fa, if_neg hc]
      have ek : i + 1 + (k : Int) = i + ((k + 1 : Nat) : Int) := by omega
      rw [e, ek]
/-- what the first k chutes take, by places and by chutes -/
theorem fg_sum_ch (D pos : Int → Int) (N : Nat) : ∀ (k : Nat), (∀ i : Int, 0 ≤ i → i < k → 0 ≤ pos i ∧ pos i < N) → (∀ i j : Int, 0 ≤ i → i < k → 0 ≤ j → j < k → pos i = pos j → i = j) → fg_sf (fun p => if fg_fa pos p 0 k = -1 then 0 else D (fg_fa pos p 0 k)) 0 N = fg_sf D 0 k := by
  intro k
  induction k with
  | zero =>
    intro h1 h2
    exact fg_sf_0 N 0 (fun j a b => if_pos rfl)
  | succ k ih =>
    intro h1 h2
    have hk := h1 k (by omega) (by omega)
    have e0 : (0 : Int) + (k : Int) = k := by omega
    have hno : fg_fa pos (pos k) 0 k = -1 := by
      rcases fg_fa_in pos (pos k) k 0 with h | h
      · exact h.1
      · have := h2 _ k (by omega : 0 ≤ fg_fa pos (pos k) 0 k) (by omega) (by omega) (by omega) h.2.2
        omega
    have hy : fg_fa pos (pos k) 0 (k + 1) = k := by rw [fg_fa_end _ _ _ _ (by decide), if_pos hno, e0, if_pos rfl]
    rw [fg_sf_end, e0, ← ih (fun i a b => h1 i a (by omega)) (fun i j a b d e f => h2 i j a (by omega) d (by omega) f)]
    rw [fg_sf_upd (g := fun p => if fg_fa pos p 0 k = -1 then 0 else D (fg_fa pos p 0 k)) (x := pos k) N 0 (fun j a b hj => ?_) hk.1 (by omega)]
    · skip
      rw [hy, hno, if_neg (by omega), if_pos rfl]; omega
    · skip
      have : fg_fa pos j 0 (k + 1) = fg_fa pos j 0 k := by
        rw [fg_fa_end _ _ _ _ (by decide), e0]
        split
        · rename_i hx
          rw [if_neg (fun e => hj e.symm), hx]
        · rfl
      rw [this]
theorem fg_L_sum {m : fw_M} {M : Int} (h : fg_ML M m) : fg_sf (fg_L m) 0 (fw_r m 32 1).toNat = fg_C2 m := by
  obtain ⟨cf1, cf2, cf3, cf4, cf5, cf6, cf7⟩ := fg_T2_cf h
  have hN := h.1.2.2.1
  have hn := h.1.2.1
  have hc := h.1.2.2.2.2.1
  have hi := h.1.2.2.2.2.2.1
  have hk : ((fg_n m : Nat) : Int) = fw_r m 32 3 := by unfold fg_n; omega
  have hs := fg_sum_ch (fg_dv (fg_mvs m)) (fun j => fw_r m 34 j) (fw_r m 32 1).toNat (fg_n m) (fun i a b => by have := hc i a (by omega); omega) (fun i j a b d e f => hi i j a (by omega) d (by omega) f)
  rw [cf7, ← hs]
  rw [fg_sf_upd (g := fun p => if fg_fa (fun j => fw_r m 34 j) p 0 (fg_n m) = -1 then 0 else fg_dv (fg_mvs m) (fg_fa (fun j => fw_r m 34 j) p 0 (fg_n m))) (x := fw_r m 32 1 - 1) _ 0 (fun j a b hj => ?_) (by omega) (by omega)]
  · have e : fg_L m (fw_r m 32 1 - 1) = fg_ov (fg_mvs m) := by unfold fg_L; rw [if_neg (by omega), if_pos rfl]
    have e2 : fg_fa (fun j => fw_r m 34 j) (fw_r m 32 1 - 1) 0 (fg_n m) = -1 := by
      rcases fg_fa_in (fun j => fw_r m 34 j) (fw_r m 32 1 - 1) (fg_n m) 0 with hx | hx
      · exact hx.1
      · have := hc _ hx.1 (by omega)
        have := hx.2.2
        try dsimp only at this
        omega
    try dsimp only
    rw [e, e2, if_pos rfl]; omega
  · skip
    unfold fg_L
    by_cases h0 : j = 0
    · subst h0
      rw [if_pos rfl]
      rcases fg_fa_in (fun j => fw_r m 34 j) 0 (fg_n m) 0 with hx | hx
      · rw [if_pos hx.1]
      · have := hc _ hx.1 (by omega)
        have := hx.2.2
        try dsimp only at this
        omega
    · rw [if_neg h0, if_neg hj]
theorem fg_rot (f : Int → Int) (N r : Int) (h : 0 ≤ r ∧ r < N) : fg_sf (fun s => f (fg_nq N (fg_q N r s))) 0 N.toNat = fg_sf f 0 N.toNat := by
  have e1 : N.toNat = (N - (r + 1)).toNat + (r + 1).toNat := by omega
  rw [e1, fg_sf_add]
  have e2 : (N - (r + 1)).toNat + (r + 1).toNat = (r + 1).toNat + (N - (r + 1)).toNat := by omega
  rw [e2, fg_sf_add f (r + 1).toNat]
  have a1 : fg_sf (fun s => f (fg_nq N (fg_q N r s))) 0 (N - (r + 1)).toNat = fg_sf f (0 + (((r + 1).toNat : Nat) : Int)) (N - (r + 1)).toNat := by
    rw [← fg_sf_shift f (((r + 1).toNat : Nat) : Int) _ 0]
    refine fg_sf_ext _ _ (fun j a b => ?_)
    congr 1
    unfold fg_nq fg_q
    split <;> split <;> omega
  have a2 : fg_sf (fun s => f (fg_nq N (fg_q N r s))) (0 + (((N - (r + 1)).toNat : Nat) : Int)) (r + 1).toNat = fg_sf f 0 (r + 1).toNat := by
    have e3 : (0 : Int) = (0 + (((N - (r + 1)).toNat : Nat) : Int)) + (-(N - (r + 1))) := by omega
    have e4 := fg_sf_shift f (-(N - (r + 1))) (r + 1).toNat (0 + (((N - (r + 1)).toNat : Nat) : Int))
    rw [← e3] at e4
    rw [← e4]
    refine fg_sf_ext _ _ (fun j a b => ?_)
    congr 1
    unfold fg_nq fg_q
    split <;> split <;> omega
  rw [a1, a2]; omega
theorem fg_L_01 (m : fw_M) (p : Int) : 0 ≤ fg_L m p ∧ fg_L m p ≤ 1 := by
  unfold fg_L
  have := fg_ov_01 (fg_mvs m)
  have := fg_dv_01 (fg_mvs m) (fg_fa (fun j => fw_r m 34 j) p 0 (fg_n m))
  split
  · omega
  · split
    · omega
    · split <;> omega
theorem fs_inner {x i r M : Int} {m : fw_M} (hm : fg_ML M m) (hM : M ≤ 1000000) (hr : 0 ≤ r ∧ r < fw_r m 32 1) : ∀ (k : Nat) (t acc : Int) (c : fw_M), t + k = fw_r m 32 1 → 0 ≤ t → fg_BI r M t c m → 0 ≤ acc → acc ≤ 100000 + t → ∃ c', fw_E 26 65 [(2, 17), (0, x), (0, acc), (0, i), (0, t)] [] c = fw_E 26 99 [(2, 17), (0, x), (0, acc + fg_sf (fun s => fg_L m (fg_nq (fw_r m 32 1) (fg_q (fw_r m 32 1) r s))) t k), (0, i), (0, t + k)] [] c' ∧ fg_BI r M (t + k) c' m ∧ fg_FR c c' := by
  intro k
  have hN := hm.1.2.2.1
  induction k with
  | zero =>
    intro t acc c h0 h1 h h2 h3
    have hp := h.1.1.1
    have hL := h.1.2.1.2.1
    refine ⟨c, ?_, ?_, fg_FR_refl c⟩
    · rw [fw_b_26_65 _ _ _ _ _ hp, if_pos (by omega), fg_sf, Int.add_zero]; simp only [Int.natCast_zero, Int.add_zero]
    · have : t + ((0 : Nat) : Int) = t := by omega
      rw [this]; exact h
  | succ k ih =>
    intro t acc c h0 h1 h h2 h3
    have hp := h.1.1.1
    have hL := h.1.2.1.2.1
    obtain ⟨c1, q1, q2, q3⟩ := fg_BI_step (a2 := (8, 0)) (a3 := (8, 0)) hm hM hr h1 (by omega) h
    have hl := fg_L_01 m (fg_nq (fw_r m 32 1) (fg_q (fw_r m 32 1) r t))
    obtain ⟨c2, r1, r2, r3⟩ := ih (t + 1) (acc + fg_L m (fg_nq (fw_r m 32 1) (fg_q (fw_r m 32 1) r t))) c1 (by omega) (by omega) q2 (by omega) (by omega)
    have ek : t + 1 + (k : Int) = t + ((k + 1 : Nat) : Int) := by omega
    rw [ek] at r1 r2
    refine ⟨c2, ?_, r2, fg_FR_trans q3 r3⟩
    rw [fg_sf, ← Int.add_assoc, ← r1, fw_b_26_65 _ _ _ _ _ hp, if_neg (by omega)]
    simp (disch := first | omega | assumption | (simp (disch := omega) only [fw_w_id, fw_wl_id, fw_r_k, fw_r_j, fw_r_s]; omega) | (simp only [fw_ptr_32_0, fl_ptr_32_0, fw_ptr_32_1, fl_ptr_32_1, fw_ptr_32_2, fw_ptr_32_3, fw_ptr_32_4, fw_ptr_32_5, fl_ptr_32_5, fw_ptr_32_6, fw_ptr_32_7, fw_ptr_32_8, fw_ptr_32_9, fw_ptr_32_10, fl_ptr_32_10, fw_ptr_32_11, fl_ptr_32_11, fw_ptr_32_12, fw_ptr_32_13, fw_ptr_32_14, fw_ptr_32_15, fw_ptr_32_16, fw_ptr_32_17, fl_ptr_32_17, fw_ptr_32_18, fl_ptr_32_18, fw_ptr_32_19, fl_ptr_32_19, fw_ptr_32_20, fl_ptr_32_20, fw_ptr_32_21, fl_ptr_32_21, fw_ptr_32_22, fl_ptr_32_22, fw_ptr_32_23, fw_ptr_32_24, fw_ptr_32_25, fw_ptr_32_26, fw_ptr_32_27, fw_ptr_32_28, fw_ptr_32_29, fw_ptr_32_30, fw_ptr_32_31, fw_ptr_32_32, fw_ptr_32_33, fw_ptr_32_34, fw_ptr_32_35, fw_ptr_1_8, fw_ptr_2_5, fw_ptr_2_6, fw_ptr_2_7, fw_ptr_2_8, fw_ptr_2_9, fw_ptr_8_2, fw_ptr_8_3, fw_ptr_11_2, fw_ptr_11_3, fw_ptr_11_4, fw_ptr_11_5, fw_ptr_11_6, fw_ptr_17_8, fw_ptr_18_2, fw_ptr_18_3, fw_ptr_25_1, fw_ptr_27_2, fw_ptr_28_1, fl_ptr_33, fl_ptr_34, fl_ptr_35, fl_ptr_36, fl_ptr_38, fl_ptr_39, fl_ptr_40, fl_ptr_41, fl_ptr_42, fl_ptr_43, fl_ptr_44, fl_ptr_45, fl_ptr_46, fl_ptr_47, fl_ptr_48, fl_ptr_49, fl_ptr_50, fw_ptr_3, fw_ptr_4, fw_ptr_5, fw_ptr_6, fw_ptr_7, fw_ptr_9, fw_ptr_10, fw_ptr_13, fw_ptr_15, fw_ptr_16, fw_ptr_19, fw_ptr_20, fw_ptr_21, fw_ptr_22, fw_ptr_23, fw_ptr_24, fw_ptr_26, fw_ptr_29, fw_ptr_30, fw_ptr_31, fw_ptr_33, fw_ptr_34, fw_ptr_35, fw_ptr_36, fw_ptr_37, fw_ptr_38, fw_ptr_39, fw_ptr_40, fw_ptr_41, fw_ptr_42, fw_ptr_43, fw_ptr_44, fw_ptr_45, fw_ptr_46, fw_ptr_47, fw_ptr_48, fw_ptr_49, fw_ptr_50, fw_ptr_51, fw_ptr_52, fw_ptr_53, fw_ptr_54, fw_ptr_55, fw_ptr_12, fw_ptr_x, fw_ptr_hi, fw_ptr_b3, fw_ptr_b1, fw_ptr_b2, fw_ptr_b2_, fl_ptr_x, fl_ptr_hi, fl_ptr_lo, fl_ptr_in]; assumption)) only [fw_b_26_77, fw_b_26_84, q1, fw_b_26_91, ↓if_pos, ↓if_neg, if_neg, if_pos, fw_bs, fw_cn_0, fw_cn_1, fw_cn_2, fw_cn_3, fw_cn_4, fw_cn_5, Nat.reduceAdd, fw_w_id, fw_wl_id, fw_r_k, fw_r_j, fw_r_s, fw_r_x, if_true, if_false]
theorem fg_BI_next {r M : Int} {c m : fw_M} (hm : fg_ML M m) (hr : 0 ≤ r ∧ r < fw_r m 32 1) (h : fg_BI r M (fw_r m 32 1) c m) : fg_BI (if r + 1 < fw_r m 32 1 then r + 1 else 0) (M + 1) 0 c (fg_T2 m) := by
  obtain ⟨g1, g2, g3, g4, g5, g6, g7⟩ := h
  have hN := hm.1.2.2.1
  have ot := fg_OT_T2 hm
  have eN : fw_r (fg_T2 m) 32 1 = fw_r m 32 1 := ot.1 32 1 (by decide) (by decide) (by decide) (by decide)
  have e3 : fw_r (fg_T2 m) 32 3 = fw_r m 32 3 := ot.1 32 3 (by decide) (by decide) (by decide) (by decide)
  have hq : ∀ s, 0 ≤ s → s < fw_r m 32 1 → fg_nq (fw_r m 32 1) (fg_q (fw_r m 32 1) r s) = fg_q (fw_r m 32 1) (if r + 1 < fw_r m 32 1 then r + 1 else 0) s := fun s a b => by
    unfold fg_nq fg_q
    split <;> split <;> split <;> split <;> omega
  have hall : ∀ p, 0 ≤ p → p < fw_r m 32 1 → ∃ s, 0 ≤ s ∧ s < fw_r m 32 1 ∧ s < fw_r m 32 1 ∧ fg_nq (fw_r m 32 1) (fg_q (fw_r m 32 1) r s) = p := fun p a b => by
    by_cases hx : p - r - 1 < 0
    · refine ⟨p - r - 1 + fw_r m 32 1, by omega, by omega, by omega, ?_⟩
      unfold fg_nq fg_q; split <;> split <;> omega
    · refine ⟨p - r - 1, by omega, by omega, by omega, ?_⟩
      unfold fg_nq fg_q; split <;> split <;> omega
  have hcf : fg_CF c (fg_T2 m) := fg_CF_m g1 (fun j h1 _ _ _ _ _ => ot.1 32 j (by decide) (by decide) (by decide) (Or.inr h1)) (fun a j ha => ot.1 a j (by omega) (by omega) (by omega) (by omega))
  refine ⟨hcf, g2, fun s a b => by omega, fun s a b => ?_, fun i a b => ⟨fun _ => ?_, fun hx => ?_⟩, fun _ => ?_, fun hx => ?_⟩
  · rw [eN] at b ⊢
    obtain ⟨x1, x2, x3, x4⟩ := g3 s a b b
    exact ⟨x1.trans (hq s a b), x2, x3, x4⟩
  · rw [e3] at b
    have hc := hm.1.2.2.2.2.1 i a b
    exact (g5 i a b).2 (hall _ (by omega) (by omega))
  · obtain ⟨s, x1, x2, -⟩ := hx
    omega
  · exact g7 (hall 0 (by omega) (by omega))
  · obtain ⟨s, x1, x2, -⟩ := hx
    omega
theorem fs_init_lp {x : Int} : ∀ (k : Nat) (i : Int) (c : fw_M) (a3 a4 : fw_V), i + k = 20 → 0 ≤ i → fw_ptr c → fg_bok c 8 → ∃ c', fw_E 26 6 [(2, 17), (0, x), (0, i), a3, a4] [] c = fw_E 26 57 [(2, 17), (0, x), (0, 0), (0, 0), a4] [] c' ∧ fw_ptr c' ∧ (∀ a j, a ≠ 21 → a ≠ 22 → a ≠ 23 → fw_r c' a j = fw_r c a j) ∧ (∀ j, j < i → fw_r c' 21 j = fw_r c 21 j ∧ fw_r c' 22 j = fw_r c 22 j ∧ fw_r c' 23 j = fw_r c 23 j) ∧ (∀ j, i ≤ j → j < fw_r c 8 2 → fw_r c' 21 j = j ∧ fw_r c' 22 j = fg_tr c 8 j ∧ fw_r c' 23 j = fg_rd c 8 j) := by
  intro k
  induction k with
  | zero =>
    intro i c a3 a4 h0 h1 hp hb
    refine ⟨c, ?_, hp, fun _ _ _ _ _ => rfl, fun _ _ => ⟨rfl, rfl, rfl⟩, fun j a b => by have := hb.2.1; omega⟩
    simp (disch := first | omega | assumption | (simp (disch := omega) only [fw_w_id, fw_wl_id, fw_r_k, fw_r_j, fw_r_s]; omega) | (simp only [fw_ptr_32_0, fl_ptr_32_0, fw_ptr_32_1, fl_ptr_32_1, fw_ptr_32_2, fw_ptr_32_3, fw_ptr_32_4, fw_ptr_32_5, fl_ptr_32_5, fw_ptr_32_6, fw_ptr_32_7, fw_ptr_32_8, fw_ptr_32_9, fw_ptr_32_10, fl_ptr_32_10, fw_ptr_32_11, fl_ptr_32_11, fw_ptr_32_12, fw_ptr_32_13, fw_ptr_32_14, fw_ptr_32_15, fw_ptr_32_16, fw_ptr_32_17, fl_ptr_32_17, fw_ptr_32_18, fl_ptr_32_18, fw_ptr_32_19, fl_ptr_32_19, fw_ptr_32_20, fl_ptr_32_20, fw_ptr_32_21, fl_ptr_32_21, fw_ptr_32_22, fl_ptr_32_22, fw_ptr_32_23, fw_ptr_32_24, fw_ptr_32_25, fw_ptr_32_26, fw_ptr_32_27, fw_ptr_32_28, fw_ptr_32_29, fw_ptr_32_30, fw_ptr_32_31, fw_ptr_32_32, fw_ptr_32_33, fw_ptr_32_34, fw_ptr_32_35, fw_ptr_1_8, fw_ptr_2_5, fw_ptr_2_6, fw_ptr_2_7, fw_ptr_2_8, fw_ptr_2_9, fw_ptr_8_2, fw_ptr_8_3, fw_ptr_11_2, fw_ptr_11_3, fw_ptr_11_4, fw_ptr_11_5, fw_ptr_11_6, fw_ptr_17_8, fw_ptr_18_2, fw_ptr_18_3, fw_ptr_25_1, fw_ptr_27_2, fw_ptr_28_1, fl_ptr_33, fl_ptr_34, fl_ptr_35, fl_ptr_36, fl_ptr_38, fl_ptr_39, fl_ptr_40, fl_ptr_41, fl_ptr_42, fl_ptr_43, fl_ptr_44, fl_ptr_45, fl_ptr_46, fl_ptr_47, fl_ptr_48, fl_ptr_49, fl_ptr_50, fw_ptr_3, fw_ptr_4, fw_ptr_5, fw_ptr_6, fw_ptr_7, fw_ptr_9, fw_ptr_10, fw_ptr_13, fw_ptr_15, fw_ptr_16, fw_ptr_19, fw_ptr_20, fw_ptr_21, fw_ptr_22, fw_ptr_23, fw_ptr_24, fw_ptr_26, fw_ptr_29, fw_ptr_30, fw_ptr_31, fw_ptr_33, fw_ptr_34, fw_ptr_35, fw_ptr_36, fw_ptr_37, fw_ptr_38, fw_ptr_39, fw_ptr_40, fw_ptr_41, fw_ptr_42, fw_ptr_43, fw_ptr_44, fw_ptr_45, fw_ptr_46, fw_ptr_47, fw_ptr_48, fw_ptr_49, fw_ptr_50, fw_ptr_51, fw_ptr_52, fw_ptr_53, fw_ptr_54, fw_ptr_55, fw_ptr_12, fw_ptr_x, fw_ptr_hi, fw_ptr_b3, fw_ptr_b1, fw_ptr_b2, fw_ptr_b2_, fl_ptr_x, fl_ptr_hi, fl_ptr_lo, fl_ptr_in]; assumption)) only [fw_b_26_6, fw_b_26_53, ↓if_pos, ↓if_neg, if_neg, if_pos, fw_bs, fw_cn_0, fw_cn_1, fw_cn_2, fw_cn_3, fw_cn_4, fw_cn_5, Nat.reduceAdd, fw_w_id, fw_wl_id, fw_r_k, fw_r_j, fw_r_s, fw_r_x, if_true, if_false]
  | succ k ih =>
    intro i c a3 a4 h0 h1 hp hb
    have hb2 := hb.2.1
    have key : ∀ v w, (i < fw_r c 8 2 → v = fg_tr c 8 i ∧ w = fg_rd c 8 i) → (fw_E 26 6 [(2, 17), (0, x), (0, i), a3, a4] [] c = fw_E 26 6 [(2, 17), (0, x), (0, i + 1), a3, a4] [] (fw_u (fw_u (fw_u c 21 i i) 22 i v) 23 i w)) → ∃ c', fw_E 26 6 [(2, 17), (0, x), (0, i), a3, a4] [] c = fw_E 26 57 [(2, 17), (0, x), (0, 0), (0, 0), a4] [] c' ∧ fw_ptr c' ∧ (∀ a j, a ≠ 21 → a ≠ 22 → a ≠ 23 → fw_r c' a j = fw_r c a j) ∧ (∀ j, j < i → fw_r c' 21 j = fw_r c 21 j ∧ fw_r c' 22 j = fw_r c 22 j ∧ fw_r c' 23 j = fw_r c 23 j) ∧ (∀ j, i ≤ j → j < fw_r c 8 2 → fw_r c' 21 j = j ∧ fw_r c' 22 j = fg_tr c 8 j ∧ fw_r c' 23 j = fg_rd c 8 j) := by
      intro v w hv hX
      have hp2 : fw_ptr (fw_u (fw_u (fw_u c 21 i i) 22 i v) 23 i w) := by rw [fw_ptr_23, fw_ptr_22, fw_ptr_21]; exact hp
      have o : ∀ a j, a ≠ 21 → a ≠ 22 → a ≠ 23 → fw_r (fw_u (fw_u (fw_u c 21 i i) 22 i v) 23 i w) a j = fw_r c a j := fun a j x y z => by rw [fw_r_k _ z, fw_r_k _ y, fw_r_k _ x]
      have hbo : fg_bok (fw_u (fw_u (fw_u c 21 i i) 22 i v) 23 i w) 8 := by
        unfold fg_bok at hb ⊢
        rw [o 8 2 (by decide) (by decide) (by decide), o 8 3 (by decide) (by decide) (by decide)]; exact hb
      obtain ⟨c', e1, e2, e3, e4, e5⟩ := ih (i + 1) _ a3 a4 (by omega) (by omega) hp2 hbo
      have otr : ∀ p, fg_tr (fw_u (fw_u (fw_u c 21 i i) 22 i v) 23 i w) 8 p = fg_tr c 8 p := fun p => by
        unfold fg_tr fg_slot
        rw [o 8 2 (by decide) (by decide) (by decide), o 8 3 (by decide) (by decide) (by decide)]
        exact o 9 _ (by decide) (by decide) (by decide)
      have ord : ∀ p, fg_rd (fw_u (fw_u (fw_u c 21 i i) 22 i v) 23 i w) 8 p = fg_rd c 8 p := fun p => by
        unfold fg_rd fg_slot
        rw [o 8 2 (by decide) (by decide) (by decide), o 8 3 (by decide) (by decide) (by decide)]
        exact o 10 _ (by decide) (by decide) (by decide)
      refine ⟨c', hX.trans e1, e2, fun a j x y z => (e3 a j x y z).trans (o a j x y z), fun j hj => ?_, fun j a b => ?_⟩
      · obtain ⟨x1, x2, x3⟩ := e4 j (by omega)
        rw [x1, x2, x3]
        refine ⟨?_, ?_, ?_⟩ <;> simp (disch := omega) only [fw_r_k, fw_r_j]
      · by_cases hj : j = i
        · subst hj
          obtain ⟨x1, x2, x3⟩ := e4 j (by omega)
          rw [x1, x2, x3]
          obtain ⟨y1, y2⟩ := hv b
          refine ⟨?_, ?_, ?_⟩
          · simp (disch := omega) only [fw_r_k, fw_r_s]
          · simp (disch := omega) only [fw_r_k, fw_r_s]; exact y1
          · simp (disch := omega) only [fw_r_k, fw_r_s]; exact y2
        · have := e5 j (by omega) (by rw [o 8 2 (by decide) (by decide) (by decide)]; exact b)
          rw [otr, ord] at this
          exact this
    have hp1 : fw_ptr (fw_u c 21 i i) := by rw [fw_ptr_21]; exact hp
    have hbo1 : fg_bok (fw_u c 21 i i) 8 := by
      unfold fg_bok at hb ⊢
      rw [fw_r_k _ (by decide), fw_r_k _ (by decide)]; exact hb
    have hp2 : ∀ v, fw_ptr (fw_u (fw_u c 21 i i) 22 i v) := fun v => by rw [fw_ptr_22]; exact hp1
    have hbo2 : ∀ v, fg_bok (fw_u (fw_u c 21 i i) 22 i v) 8 := fun v => by
      unfold fg_bok at hbo1 ⊢
      rw [fw_r_k _ (by decide), fw_r_k _ (by decide)]; exact hbo1
    by_cases hc : i < fw_r c 8 2
    · refine key (fg_tr c 8 i) (fg_rd c 8 i) (fun _ => ⟨rfl, rfl⟩) ?_
      have t1 : fg_tr (fw_u c 21 i i) 8 i = fg_tr c 8 i := by simp (disch := omega) only [fg_tr, fg_slot, fw_r_k]
      have t2 : fg_rd (fw_u (fw_u c 21 i i) 22 i (fg_tr c 8 i)) 8 i = fg_rd c 8 i := by
        simp (disch := omega) only [fg_rd, fg_slot, fw_r_k]
      have e7 : fw_E 7 0 [(2, 8), (0, i), (8, 0)] [] (fw_u c 21 i i) = some ((0, fg_tr c 8 i), fw_u c 21 i i) := by
        rw [fs_parcelAt (Or.inl rfl) hp1 hbo1 h1 (by rw [fw_r_k _ (by decide)]; exact hc), t1]
      have e8 : fw_E 8 0 [(2, 8), (0, i), (8, 0)] [] (fw_u (fw_u c 21 i i) 22 i (fg_tr c 8 i)) = some ((0, fg_rd c 8 i), fw_u (fw_u c 21 i i) 22 i (fg_tr c 8 i)) := by
        rw [fs_roundsAt (Or.inl rfl) (hp2 _) (hbo2 _) h1 (by rw [fw_r_k _ (by decide), fw_r_k _ (by decide)]; exact hc), t2]
      have hpv := hp2 (fg_tr c 8 i)
      rw [fw_b_26_6, if_pos (by omega), fw_b_26_12 _ _ _ _ _ hp h1 (by omega), fw_b_26_19 _ _ _ _ _ hp1, e7, fw_bs, fw_cn_0, fw_b_26_32 _ _ _ _ _ _ _ h1 (by omega), fw_b_26_33 _ _ _ _ _ hpv, e8, fw_bs, fw_cn_0, fw_b_26_46 _ _ _ _ _ _ _ h1 (by omega), fw_b_26_47, fw_w_id (by omega) (by omega)]
    · refine key (-1) 0 (fun h => absurd h hc) ?_
      have e7 : fw_E 7 0 [(2, 8), (0, i), (8, 0)] [] (fw_u c 21 i i) = some ((0, -1), fw_u c 21 i i) := fs_parcelAt_f (Or.inl rfl) (by rw [fw_r_k _ (by decide)]; omega)
      have e8 : fw_E 8 0 [(2, 8), (0, i), (8, 0)] [] (fw_u (fw_u c 21 i i) 22 i (-1)) = some ((0, 0), fw_u (fw_u c 21 i i) 22 i (-1)) := fs_roundsAt_f (Or.inl rfl) (by rw [fw_r_k _ (by decide), fw_r_k _ (by decide)]; omega)
      have hpv := hp2 (-1)
      rw [fw_b_26_6, if_pos (by omega), fw_b_26_12 _ _ _ _ _ hp h1 (by omega), fw_b_26_19 _ _ _ _ _ hp1, e7, fw_bs, fw_cn_0, fw_b_26_32 _ _ _ _ _ _ _ h1 (by omega), fw_b_26_33 _ _ _ _ _ hpv, e8, fw_bs, fw_cn_0, fw_b_26_46 _ _ _ _ _ _ _ h1 (by omega), fw_b_26_47, fw_w_id (by omega) (by omega)]
theorem fs_outer {x : Int} : ∀ (k : Nat) (i acc r M : Int) (c m : fw_M) (a4 : fw_V), fg_ML M m → 0 ≤ M → M + k ≤ 1000000 → (0 ≤ r ∧ r < fw_r m 32 1) → fg_BI r M 0 c m → 0 ≤ i → i + k = x → x ≤ 200 → 0 ≤ acc → acc ≤ 20 * i → ∃ c', fw_E 26 57 [(2, 17), (0, x), (0, acc), (0, i), a4] [] c = some ((0, acc + fg_Cn k m), c') ∧ fg_FR c c' ∧ fw_ptr c' := by
  intro k
  induction k with
  | zero =>
    intro i acc r M c m a4 hm h0 hM hr h h1 h2 h3 h4 h5
    refine ⟨c, ?_, fg_FR_refl c, h.1.1.1⟩
    rw [fg_Cn, Int.add_zero]
    simp (disch := first | omega | assumption | (simp (disch := omega) only [fw_w_id, fw_wl_id, fw_r_k, fw_r_j, fw_r_s]; omega) | (simp only [fw_ptr_32_0, fl_ptr_32_0, fw_ptr_32_1, fl_ptr_32_1, fw_ptr_32_2, fw_ptr_32_3, fw_ptr_32_4, fw_ptr_32_5, fl_ptr_32_5, fw_ptr_32_6, fw_ptr_32_7, fw_ptr_32_8, fw_ptr_32_9, fw_ptr_32_10, fl_ptr_32_10, fw_ptr_32_11, fl_ptr_32_11, fw_ptr_32_12, fw_ptr_32_13, fw_ptr_32_14, fw_ptr_32_15, fw_ptr_32_16, fw_ptr_32_17, fl_ptr_32_17, fw_ptr_32_18, fl_ptr_32_18, fw_ptr_32_19, fl_ptr_32_19, fw_ptr_32_20, fl_ptr_32_20, fw_ptr_32_21, fl_ptr_32_21, fw_ptr_32_22, fl_ptr_32_22, fw_ptr_32_23, fw_ptr_32_24, fw_ptr_32_25, fw_ptr_32_26, fw_ptr_32_27, fw_ptr_32_28, fw_ptr_32_29, fw_ptr_32_30, fw_ptr_32_31, fw_ptr_32_32, fw_ptr_32_33, fw_ptr_32_34, fw_ptr_32_35, fw_ptr_1_8, fw_ptr_2_5, fw_ptr_2_6, fw_ptr_2_7, fw_ptr_2_8, fw_ptr_2_9, fw_ptr_8_2, fw_ptr_8_3, fw_ptr_11_2, fw_ptr_11_3, fw_ptr_11_4, fw_ptr_11_5, fw_ptr_11_6, fw_ptr_17_8, fw_ptr_18_2, fw_ptr_18_3, fw_ptr_25_1, fw_ptr_27_2, fw_ptr_28_1, fl_ptr_33, fl_ptr_34, fl_ptr_35, fl_ptr_36, fl_ptr_38, fl_ptr_39, fl_ptr_40, fl_ptr_41, fl_ptr_42, fl_ptr_43, fl_ptr_44, fl_ptr_45, fl_ptr_46, fl_ptr_47, fl_ptr_48, fl_ptr_49, fl_ptr_50, fw_ptr_3, fw_ptr_4, fw_ptr_5, fw_ptr_6, fw_ptr_7, fw_ptr_9, fw_ptr_10, fw_ptr_13, fw_ptr_15, fw_ptr_16, fw_ptr_19, fw_ptr_20, fw_ptr_21, fw_ptr_22, fw_ptr_23, fw_ptr_24, fw_ptr_26, fw_ptr_29, fw_ptr_30, fw_ptr_31, fw_ptr_33, fw_ptr_34, fw_ptr_35, fw_ptr_36, fw_ptr_37, fw_ptr_38, fw_ptr_39, fw_ptr_40, fw_ptr_41, fw_ptr_42, fw_ptr_43, fw_ptr_44, fw_ptr_45, fw_ptr_46, fw_ptr_47, fw_ptr_48, fw_ptr_49, fw_ptr_50, fw_ptr_51, fw_ptr_52, fw_ptr_53, fw_ptr_54, fw_ptr_55, fw_ptr_12, fw_ptr_x, fw_ptr_hi, fw_ptr_b3, fw_ptr_b1, fw_ptr_b2, fw_ptr_b2_, fl_ptr_x, fl_ptr_hi, fl_ptr_lo, fl_ptr_in]; assumption)) only [fw_b_26_57, fw_b_26_105, ↓if_pos, ↓if_neg, if_neg, if_pos, fw_bs, fw_cn_0, fw_cn_1, fw_cn_2, fw_cn_3, fw_cn_4, fw_cn_5, Nat.reduceAdd, fw_w_id, fw_wl_id, fw_r_k, fw_r_j, fw_r_s, fw_r_x, if_true, if_false]
  | succ k ih =>
    intro i acc r M c m a4 hm h0 hM hr h h1 h2 h3 h4 h5
    have hN := hm.1.2.2.1
    obtain ⟨c1, q1, q2, q3⟩ := fs_inner (x := x) (i := i) hm (by omega) hr (fw_r m 32 1).toNat 0 acc c (by omega) (by decide) h h4 (by omega)
    have e0 : (0 : Int) + (((fw_r m 32 1).toNat : Nat) : Int) = fw_r m 32 1 := by omega
    rw [e0] at q1 q2
    rw [fg_rot (fg_L m) _ _ hr, fg_L_sum hm] at q1
    have hnx := fg_BI_next hm hr q2
    have ot := fg_OT_T2 hm
    have eN : fw_r (fg_T2 m) 32 1 = fw_r m 32 1 := ot.1 32 1 (by decide) (by decide) (by decide) (by decide)
    have hcb := fg_C2_bd hm
    obtain ⟨c2, r1, r2, r3⟩ := ih (i + 1) (acc + fg_C2 m) (if r + 1 < fw_r m 32 1 then r + 1 else 0) (M + 1) c1 (fg_T2 m) (0, fw_r m 32 1) (fg_ML_T2 hm) (by omega) (by omega) (by rw [eN]; split <;> omega) hnx (by omega) (by omega) h3 (by omega) (by omega)
    refine ⟨c2, ?_, fg_FR_trans q3 r2, r3⟩
    rw [fg_Cn, ← Int.add_assoc, ← r1, fw_b_26_57, if_pos (by omega), fw_b_26_62, q1, fw_b_26_99, fw_w_id (by omega) (by omega)]
theorem fs_byTrays {M x : Int} {c m : fw_M} {a2 a3 a4 : fw_V} (h : fg_MN M c m) (h0 : 0 ≤ M) (hM : M ≤ 900000) (hx : 1 ≤ x ∧ x ≤ 200) : ∃ c', fw_E 26 0 [(2, 17), (0, x), a2, a3, a4] [] c = some ((0, fg_Cn x.toNat m), c') ∧ fg_FR c c' ∧ fw_ptr c' := by
  obtain ⟨h1, h2, h3, h4, h5⟩ := h
  have hp := h1.1.1
  have hk := h1.1.2.1
  have hn := h1.1.2.2
  have hN := h3.1.2.2.1
  obtain ⟨c1, b1, b2, b3, b4, b5⟩ := fs_begin (a1 := (8, 0)) (a2 := (8, 0)) hp hk
  have hb1 : fg_bok c1 8 := by
    have := h2.1
    unfold fg_bok at this ⊢
    rw [b3 8 2 (by decide) (by decide), b3 8 3 (by decide) (by decide)]; exact this
  obtain ⟨c2, d1, d2, d3, d4, d5⟩ := fs_init_lp (x := x) 20 0 c1 a3 a4 (by decide) (by decide) b2 hb1
  have fr1 : fg_FR c c1 := fun a j ha => b3 a j (by omega) (by omega)
  have fr2 : fg_FR c c2 := fun a j ha => (d3 a j (by omega) (by omega) (by omega)).trans (fr1 a j ha)
  have e82 : fw_r c1 8 2 = fw_r m 32 1 := (b3 8 2 (by decide) (by decide)).trans h2.2.1
  have hsl : ∀ p, fg_slot c1 8 p = fg_slot c 8 p := fun p => by unfold fg_slot; rw [b3 8 2 (by decide) (by decide), b3 8 3 (by decide) (by decide)]
  have htr : ∀ p, fg_tr c1 8 p = fg_tr c 8 p := fun p => by unfold fg_tr; rw [hsl]; exact b3 9 _ (by decide) (Or.inl (by decide))
  have hrd : ∀ p, fg_rd c1 8 p = fg_rd c 8 p := fun p => by unfold fg_rd; rw [hsl]; exact b3 10 _ (by decide) (Or.inl (by decide))
  have hBI : fg_BI 0 M 0 c2 m := by
    refine ⟨fg_CF_FR h1 d2 fr2, ?_, fun s a b => by omega, fun s a b => ?_, fun i a b => ⟨fun _ => ?_, fun hx => ?_⟩, fun _ => ?_, fun hx => ?_⟩
    · rw [fr2 2 6 (by decide), fr2 2 5 (by decide), h1.2.1.2.2.2.2.2, h4]
      have := h3.2.1.2.1; omega
    · obtain ⟨x1, x2, x3⟩ := d5 s a (by rw [e82]; exact b)
      obtain ⟨y1, y2⟩ := h2.2.2.1 s a b
      have hs := fg_slot_in h2.1 a (by rw [h2.2.1]; exact b)
      have hb := h2.2.2.2 (fg_slot c 8 s) hs.1 (by have := h2.2.1; omega)
      have e1 : fg_q (fw_r m 32 1) 0 s = s := by unfold fg_q; rw [if_pos (by omega)]; omega
      rw [x1, x2, x3, htr, hrd, e1, y1]
      exact ⟨rfl, rfl, y2, hb⟩
    · rw [d3 24 i (by decide) (by decide) (by decide), b5 i a (by omega), h5 i a b]
    · obtain ⟨s, x1, x2, -⟩ := hx; omega
    · rw [d3 17 8 (by decide) (by decide) (by decide), b4]; exact h4
    · obtain ⟨s, x1, x2, -⟩ := hx; omega
  obtain ⟨c3, e1, e2, e3⟩ := fs_outer (x := x) x.toNat 0 0 0 M c2 m a4 h3 h0 (by omega) ⟨by decide, by omega⟩ hBI (by decide) (by omega) hx.2 (by decide) (by decide)
  refine ⟨c3, ?_, fg_FR_trans fr2 e2, e3⟩
  simp (disch := first | omega | assumption | (simp (disch := omega) only [fw_w_id, fw_wl_id, fw_r_k, fw_r_j, fw_r_s]; omega) | (simp only [fw_ptr_32_0, fl_ptr_32_0, fw_ptr_32_1, fl_ptr_32_1, fw_ptr_32_2, fw_ptr_32_3, fw_ptr_32_4, fw_ptr_32_5, fl_ptr_32_5, fw_ptr_32_6, fw_ptr_32_7, fw_ptr_32_8, fw_ptr_32_9, fw_ptr_32_10, fl_ptr_32_10, fw_ptr_32_11, fl_ptr_32_11, fw_ptr_32_12, fw_ptr_32_13, fw_ptr_32_14, fw_ptr_32_15, fw_ptr_32_16, fw_ptr_32_17, fl_ptr_32_17, fw_ptr_32_18, fl_ptr_32_18, fw_ptr_32_19, fl_ptr_32_19, fw_ptr_32_20, fl_ptr_32_20, fw_ptr_32_21, fl_ptr_32_21, fw_ptr_32_22, fl_ptr_32_22, fw_ptr_32_23, fw_ptr_32_24, fw_ptr_32_25, fw_ptr_32_26, fw_ptr_32_27, fw_ptr_32_28, fw_ptr_32_29, fw_ptr_32_30, fw_ptr_32_31, fw_ptr_32_32, fw_ptr_32_33, fw_ptr_32_34, fw_ptr_32_35, fw_ptr_1_8, fw_ptr_2_5, fw_ptr_2_6, fw_ptr_2_7, fw_ptr_2_8, fw_ptr_2_9, fw_ptr_8_2, fw_ptr_8_3, fw_ptr_11_2, fw_ptr_11_3, fw_ptr_11_4, fw_ptr_11_5, fw_ptr_11_6, fw_ptr_17_8, fw_ptr_18_2, fw_ptr_18_3, fw_ptr_25_1, fw_ptr_27_2, fw_ptr_28_1, fl_ptr_33, fl_ptr_34, fl_ptr_35, fl_ptr_36, fl_ptr_38, fl_ptr_39, fl_ptr_40, fl_ptr_41, fl_ptr_42, fl_ptr_43, fl_ptr_44, fl_ptr_45, fl_ptr_46, fl_ptr_47, fl_ptr_48, fl_ptr_49, fl_ptr_50, fw_ptr_3, fw_ptr_4, fw_ptr_5, fw_ptr_6, fw_ptr_7, fw_ptr_9, fw_ptr_10, fw_ptr_13, fw_ptr_15, fw_ptr_16, fw_ptr_19, fw_ptr_20, fw_ptr_21, fw_ptr_22, fw_ptr_23, fw_ptr_24, fw_ptr_26, fw_ptr_29, fw_ptr_30, fw_ptr_31, fw_ptr_33, fw_ptr_34, fw_ptr_35, fw_ptr_36, fw_ptr_37, fw_ptr_38, fw_ptr_39, fw_ptr_40, fw_ptr_41, fw_ptr_42, fw_ptr_43, fw_ptr_44, fw_ptr_45, fw_ptr_46, fw_ptr_47, fw_ptr_48, fw_ptr_49, fw_ptr_50, fw_ptr_51, fw_ptr_52, fw_ptr_53, fw_ptr_54, fw_ptr_55, fw_ptr_12, fw_ptr_x, fw_ptr_hi, fw_ptr_b3, fw_ptr_b1, fw_ptr_b2, fw_ptr_b2_, fl_ptr_x, fl_ptr_hi, fl_ptr_lo, fl_ptr_in]; assumption)) only [fw_b_26_0, b1, fw_b_26_4, fw_bs, fw_cn_5, Nat.reduceAdd]
  rw [d1, e1, Int.zero_add]
