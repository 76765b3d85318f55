/-! a tick of the reference -/
theorem fs_leavesM {m : fw_M} {p v : Int} (hp : fw_ptr m) (h0 : 0 ≤ p) (h1 : p < 300) (hl : 0 ≤ fw_r m 32 17 ∧ fw_r m 32 17 ≤ 1000) (hl2 : 0 ≤ fw_r m 32 18 ∧ fw_r m 32 18 ≤ 1000000000) (hr : 0 ≤ fw_r m 40 p ∧ fw_r m 40 p ≤ 1000000) : fw_E 143 0 [(2, 32), (0, p), (0, v)] [] m = some ((5, 0), fw_u (fw_u (fw_u m 39 p v) 32 17 (fw_r m 32 17 + 1)) 32 18 (fw_r m 32 18 + fw_r m 40 p)) := by
  simp (disch := first | omega | assumption | (simp (disch := omega) only [fw_w_id, fw_wl_id, fw_r_k, fw_r_j, fw_r_s]; omega) | (simp only [fw_ptr_1_8, fw_ptr_2_5, fw_ptr_2_6, fw_ptr_2_7, fw_ptr_2_8, fw_ptr_2_9, fw_ptr_8_2, fw_ptr_8_3, fw_ptr_11_2, fw_ptr_11_3, fw_ptr_11_4, fw_ptr_11_5, fw_ptr_11_6, fw_ptr_17_8, fw_ptr_18_2, fw_ptr_18_3, fw_ptr_25_1, fw_ptr_27_2, fw_ptr_28_1, fw_ptr_32_0, fw_ptr_32_1, fw_ptr_32_3, fw_ptr_32_7, fw_ptr_32_8, fw_ptr_32_9, fw_ptr_32_10, fw_ptr_32_15, fw_ptr_32_16, fw_ptr_32_17, fw_ptr_32_18, fw_ptr_32_19, fw_ptr_32_25, fw_ptr_32_29, fw_ptr_3, fw_ptr_4, fw_ptr_5, fw_ptr_6, fw_ptr_7, fw_ptr_9, fw_ptr_10, fw_ptr_13, fw_ptr_15, fw_ptr_16, fw_ptr_19, fw_ptr_20, fw_ptr_21, fw_ptr_22, fw_ptr_23, fw_ptr_24, fw_ptr_26, fw_ptr_29, fw_ptr_30, fw_ptr_31, fw_ptr_33, fw_ptr_34, fw_ptr_35, fw_ptr_36, fw_ptr_37, fw_ptr_38, fw_ptr_39, fw_ptr_40, fw_ptr_41, fw_ptr_42, fw_ptr_43, fw_ptr_44, fw_ptr_45, fw_ptr_46, fw_ptr_47, fw_ptr_48, fw_ptr_49, fw_ptr_50, fw_ptr_51, fw_ptr_52, fw_ptr_53, fw_ptr_54, fw_ptr_55, fw_ptr_12, fw_ptr_x, fw_ptr_hi, fw_ptr_b3, fw_ptr_b1, fw_ptr_b2, fw_ptr_b2_]; assumption)) only [fw_b_143_0, fw_b_143_7, fw_b_143_17, fw_b_143_32, ↓if_pos, ↓if_neg, if_neg, if_pos, fw_bs, fw_cn_0, fw_cn_1, fw_cn_2, fw_cn_3, fw_cn_4, fw_cn_5, Nat.reduceAdd, fw_w_id, fw_wl_id, fw_r_k, fw_r_j, fw_r_s, fw_r_x, if_true, if_false]
theorem fg_IN_pc {M : Int} {c m : fw_M} {i : Int} (hM : M ≤ 400000) (h : fg_IN M c m) (h0 : 0 ≤ i) (hi : i < fw_r m 32 3) : ∃ c', fg_IN M c' (fg_pc m i) := by
  obtain ⟨c', -, q, -⟩ := fs_dropInto (a2 := (8, 0)) (a3 := (8, 0)) hM h h0 hi
  exact ⟨c', q⟩
theorem fg_IN_po {M : Int} {c m : fw_M} (hM : M ≤ 400000) (h : fg_IN M c m) : ∃ c', fg_IN M c' (fg_po m) := by
  obtain ⟨c', -, q, -⟩ := fs_dropOver (a1 := (8, 0)) (a2 := (8, 0)) hM h
  exact ⟨c', q⟩
theorem fg_IN_pl {M : Int} {c m : fw_M} (h : fg_IN M c m) : ∃ c', fg_IN M c' (fg_pl m) := by
  obtain ⟨c', -, q, -⟩ := fs_tick_load (a1 := (8, 0)) (a2 := (8, 0)) h
  exact ⟨c', q⟩
theorem fs_mp_lp {x1 : Int} : ∀ (k : Nat) (i M : Int) (c m : fw_M) (a3 : fw_V), M ≤ 400000 → fg_IN M c m → 0 ≤ i → i + k = fw_r m 32 3 → ∃ a3' c', fw_E 144 21 [(2, 32), (0, x1), (0, i), a3] [] m = fw_E 144 143 [(2, 32), (0, x1), (0, i + k), a3'] [] (fg_pcn m i k) ∧ fg_IN M c' (fg_pcn m i k) := by
  intro k
  induction k with
  | zero =>
    intro i M c m a3 hM h h0 h1
    refine ⟨a3, c, ?_, h⟩
    rw [fw_b_144_21, if_neg (by omega)]
    simp only [fg_pcn, Int.add_zero, Int.natCast_zero]
  | succ k ih =>
    intro i M c m a3 hM h h0 h1
    have hml := fg_ML_of h
    obtain ⟨c1, q1⟩ := fg_IN_pc hM h h0 (by omega : i < fw_r m 32 3)
    have e3 : fw_r (fg_pc m i) 32 3 = fw_r m 32 3 := fg_pc_n m i (by decide) (by decide)
    have hn6 := hml.1.2.1
    have hN := hml.1.2.2.1
    have hpm := hml.1.1
    have key : ∀ a3', fw_E 144 29 [(2, 32), (0, x1), (0, i), a3] [] m = fw_E 144 21 [(2, 32), (0, x1), (0, i + 1), a3'] [] (fg_pc m i) → ∃ a3' c', fw_E 144 21 [(2, 32), (0, x1), (0, i), a3] [] m = fw_E 144 143 [(2, 32), (0, x1), (0, i + ((k + 1 : Nat) : Int)), a3'] [] (fg_pcn m i (k + 1)) ∧ fg_IN M c' (fg_pcn m i (k + 1)) := by
      intro a3' he
      obtain ⟨b3, c2, r1, r2⟩ := ih (i + 1) M c1 (fg_pc m i) a3' hM q1 (by omega) (by rw [e3]; omega)
      have ek : i + 1 + (k : Int) = i + ((k + 1 : Nat) : Int) := by omega
      rw [ek] at r1
      refine ⟨b3, c2, ?_, r2⟩
      rw [fw_b_144_21, if_pos (by omega), he, r1]; rfl
    have hd0 := fs_drops (a2 := (8, 0)) hml h0 (by omega)
    rcases fg_dv_01 m i with hd | hd
    · rw [hd] at hd0
      have el : fg_pc m i = m := by unfold fg_pc; rw [if_neg (by omega)]
      refine key a3 ?_
      rw [el, fw_b_144_29, hd0, fw_bs, fw_cn_0, fw_b_144_34, if_pos rfl, fw_b_144_137, fw_w_id (by omega) (by omega)]
    · rw [hd] at hd0
      obtain ⟨gA, gB, gC, gD, gE, gF, -⟩ := h
      obtain ⟨d1, d2, d3, d4⟩ := fg_dv_1 hd
      obtain ⟨⟨p1, p2, p3⟩, ⟨cp1, cp2, cp3⟩, -⟩ := gA.1.2.2.2.1 i h0 (by omega)
      have htr := gB.2.1.2.2.1 (fw_r m 34 i) (by omega) (by omega)
      have hFP := gB.2.1.2.1
      have hrd := (gC.2.2.2.1 (fw_r m 33 (fw_r m 34 i)) (by omega) (by omega)).2.2.2.2.2.2
      have hbd := (fg_gD_bd gD hFP.1).1
      have hD2 := gD.2.1
      have gEi := gE.1 i h0 (by omega)
      have hse := fg_se_in (fun k => fw_r m 43 (30 * i + k)) (fw_r m 42 i).toNat 0 (0, 0) (by omega)
      rw [← gEi.2.1.2.2] at hse
      (try dsimp only at hse)
      have w30 : fw_w (30 * i) = 30 * i := fw_w_id (by omega) (by omega)
      have w31 : fw_w (30 * i + fw_r m 42 i) = 30 * i + fw_r m 42 i := fw_w_id (by omega) (by omega)
      have hp1 : fw_ptr (fw_u m 33 (fw_r m 34 i) (-1)) := by rw [fw_ptr_33]; exact hpm
      have hp2 : fw_ptr (fw_u (fw_u m 33 (fw_r m 34 i) (-1)) 43 (30 * i + fw_r m 42 i) (fw_r m 33 (fw_r m 34 i))) := by rw [fw_ptr_43]; exact hp1
      have hp3 : fw_ptr (fw_u (fw_u (fw_u m 33 (fw_r m 34 i) (-1)) 43 (30 * i + fw_r m 42 i) (fw_r m 33 (fw_r m 34 i))) 42 i (fw_r m 42 i + 1)) := by rw [fw_ptr_42]; exact hp2
      have hp4 : ∀ v, fw_ptr (fw_u (fw_u (fw_u (fw_u m 33 (fw_r m 34 i) (-1)) 43 (30 * i + fw_r m 42 i) (fw_r m 33 (fw_r m 34 i))) 42 i (fw_r m 42 i + 1)) 44 i v) := fun v => by rw [fw_ptr_44]; exact hp3
      have hp5 : ∀ v w, fw_ptr (fw_u (fw_u (fw_u (fw_u (fw_u m 33 (fw_r m 34 i) (-1)) 43 (30 * i + fw_r m 42 i) (fw_r m 33 (fw_r m 34 i))) 42 i (fw_r m 42 i + 1)) 44 i v) 45 i w) := fun v w => by rw [fw_ptr_45]; exact hp4 v
      have el : fg_pc m i = fg_us (fg_pcl m i) m := by unfold fg_pc; rw [if_pos hd]
      refine key (0, fw_r m 33 (fw_r m 34 i)) ?_
      rw [el]
      unfold fg_pcl
      simp only [fg_us]
      generalize hp : fw_r m 33 (fw_r m 34 i) = p at *
      have z42 : fw_r (fw_u (fw_u m 33 (fw_r m 34 i) (-1)) 43 (30 * i + fw_r m 42 i) p) 42 i = fw_r m 42 i := by rw [fw_r_k _ (by decide), fw_r_k _ (by decide)]
      have z42a : fw_r (fw_u m 33 (fw_r m 34 i) (-1)) 42 i = fw_r m 42 i := by rw [fw_r_k _ (by decide)]
      have z44 : fw_r (fw_u (fw_u (fw_u m 33 (fw_r m 34 i) (-1)) 43 (30 * i + fw_r m 42 i) p) 42 i (fw_r m 42 i + 1)) 44 i = fw_r m 44 i := by rw [fw_r_k _ (by decide), fw_r_k _ (by decide), fw_r_k _ (by decide)]
      have w44 : fw_w (fw_w (fw_r m 44 i + p) + 1) = fw_r m 44 i + p + 1 := by simp (disch := omega) only [fw_w_id]
      have z45 : ∀ v, fw_r (fw_u (fw_u (fw_u (fw_u m 33 (fw_r m 34 i) (-1)) 43 (30 * i + fw_r m 42 i) p) 42 i (fw_r m 42 i + 1)) 44 i v) 45 i = fw_r m 45 i := fun v => by rw [fw_r_k _ (by decide), fw_r_k _ (by decide), fw_r_k _ (by decide), fw_r_k _ (by decide)]
      have w45 : fw_w (fw_r m 45 i + (fw_r m 44 i + p + 1) % 9973) = fw_r m 45 i + (fw_r m 44 i + p + 1) % 9973 := fw_w_id (by omega) (by omega)
      have o : ∀ v w a b, a ≠ 33 → a ≠ 43 → a ≠ 42 → a ≠ 44 → a ≠ 45 → fw_r (fw_u (fw_u (fw_u (fw_u (fw_u m 33 (fw_r m 34 i) (-1)) 43 (30 * i + fw_r m 42 i) p) 42 i (fw_r m 42 i + 1)) 44 i v) 45 i w) a b = fw_r m a b := fun v w a b q1 q2 q3 q4 q5 => by rw [fw_r_k _ q5, fw_r_k _ q4, fw_r_k _ q3, fw_r_k _ q2, fw_r_k _ q1]
      have elv := fs_leavesM (v := 2) (p := p) (hp5 ((fw_r m 44 i + p + 1) % 9973) ((fw_r m 45 i + (fw_r m 44 i + p + 1) % 9973) % 9973)) (by omega) (by omega) (by rw [o _ _ _ _ (by decide) (by decide) (by decide) (by decide) (by decide)]; omega) (by rw [o _ _ _ _ (by decide) (by decide) (by decide) (by decide) (by decide)]; omega) (by rw [o _ _ _ _ (by decide) (by decide) (by decide) (by decide) (by decide)]; omega)
      rw [o _ _ 32 17 (by decide) (by decide) (by decide) (by decide) (by decide), o _ _ 32 18 (by decide) (by decide) (by decide) (by decide) (by decide), o _ _ 40 _ (by decide) (by decide) (by decide) (by decide) (by decide)] at elv
      rw [fw_b_144_29, hd0, fw_bs, fw_cn_0, fw_b_144_34, if_neg (by decide), fw_b_144_37 _ _ _ _ hpm h0 (by omega) (by omega) (by omega), hp,
        fw_b_144_61 _ _ _ _ hp1 h0 (by omega) (by rw [z42a, w30, w31]; omega) (by rw [z42a, w30, w31]; omega), z42a, w30, w31,
        fw_b_144_78 _ _ _ _ hp2 h0 (by omega), z42, fw_w_id (by omega) (by omega),
        fw_b_144_88 _ _ _ _ hp3 h0 (by omega) (by rw [z44, w44]; omega), z44, w44,
        fw_b_144_108 _ _ _ _ (hp4 _) h0 (by omega) (by rw [z45, fw_r_s, w45]; omega), z45, fw_r_s, w45,
        fw_b_144_131, elv, fw_bs, fw_cn_5, fw_b_144_137, fw_w_id (by omega) (by omega)]
def fg_P2 (m : fw_M) : fw_M := fg_pl (fg_po (fg_pcn (fg_mvs (fg_tk0 m)) 0 (fg_n m)))
theorem fs_mp_over {M x1 i : Int} {c m : fw_M} {a3 : fw_V} (hM : M ≤ 400000) (h : fg_IN M c m) : fw_E 144 143 [(2, 32), (0, x1), (0, i), a3] [] m = fw_E 144 188 [(2, 32), (0, x1), (0, i), a3] [] (fg_po m) := by
  have hml := fg_ML_of h
  have ho := fs_overflows (a1 := (8, 0)) hml
  have hpm := hml.1.1
  have hN := hml.1.2.2.1
  have ew : fw_w (fw_r m 32 1 - 1) = fw_r m 32 1 - 1 := fw_w_id (by omega) (by omega)
  rcases fg_ov_01 m with hd | hd
  · rw [hd] at ho
    have el : fg_po m = m := by unfold fg_po; rw [if_neg (by omega)]
    rw [el, fw_b_144_143, ho, fw_bs, fw_cn_0, fw_b_144_147, if_pos rfl]
  · rw [hd] at ho
    obtain ⟨gA, gB, gC, gD, gE, gF, -⟩ := h
    obtain ⟨d1, d2, d3⟩ := fg_ov_1 hd
    have htr := gB.2.1.2.2.1 (fw_r m 32 1 - 1) (by omega) (by omega)
    have hFP := gB.2.1.2.1
    have hrd := (gC.2.2.2.1 (fw_r m 33 (fw_r m 32 1 - 1)) (by omega) (by omega)).2.2.2.2.2.2
    have hbd := (fg_gD_bd gD hFP.1)
    have hD2 := gD.2.1
    have el : fg_po m = fg_us (fg_pol m) m := by unfold fg_po; rw [if_pos hd]
    rw [el]
    unfold fg_pol
    simp only [fg_us]
    generalize hp : fw_r m 33 (fw_r m 32 1 - 1) = p at *
    have elv := fs_leavesM (v := 4) (p := p) hpm (by omega) (by omega) (by omega) (by omega) (by omega)
    have hp3 : fw_ptr (fw_u (fw_u (fw_u m 39 p 4) 32 17 (fw_r m 32 17 + 1)) 32 18 (fw_r m 32 18 + fw_r m 40 p)) := by rw [fw_ptr_32_18, fw_ptr_32_17, fw_ptr_39]; exact hpm
    have e1 : fw_r (fw_u (fw_u (fw_u m 39 p 4) 32 17 (fw_r m 32 17 + 1)) 32 18 (fw_r m 32 18 + fw_r m 40 p)) 32 1 = fw_r m 32 1 := by rw [fw_r_j _ (by decide), fw_r_j _ (by decide), fw_r_k _ (by decide)]
    have e19 : fw_r (fw_u (fw_u (fw_u (fw_u m 39 p 4) 32 17 (fw_r m 32 17 + 1)) 32 18 (fw_r m 32 18 + fw_r m 40 p)) 33 (fw_r m 32 1 - 1) (-1)) 32 19 = fw_r m 32 19 := by rw [fw_r_k _ (by decide), fw_r_j _ (by decide), fw_r_j _ (by decide), fw_r_k _ (by decide)]
    rw [fw_b_144_143, ho, fw_bs, fw_cn_0, fw_b_144_147, if_neg (by decide), fw_b_144_150 _ _ _ _ hpm (by rw [ew]; omega) (by rw [ew]; omega), ew, hp, elv, fw_bs, fw_cn_5, fw_b_144_166 _ _ _ _ hp3 (by rw [e1, ew]; omega) (by rw [e1, ew]; omega), e1, ew, fw_b_144_178, e19, fw_w_id (by omega) (by omega)]
theorem fs_mp_load {M x1 i : Int} {c m : fw_M} {a3 : fw_V} (h : fg_IN M c m) : fw_E 144 188 [(2, 32), (0, x1), (0, i), a3] [] m = fw_E 144 246 [(2, 32), (0, x1), (0, i), a3] [] (fg_pl m) := by
  have hml := fg_ML_of h
  have hpm := hml.1.1
  have hF := hml.2.1.2.1
  by_cases c1 : fw_r m 32 7 = 0
  · by_cases c2 : fw_r m 33 0 = -1
    · by_cases c3 : fw_r m 32 15 < fw_r m 32 10
      · have hl : fg_lv m = 1 := by unfold fg_lv; rw [if_pos ⟨c1, c2, c3⟩]
        have hp1 : fw_ptr (fw_u m 33 0 (fw_r m 32 15)) := by rw [fw_ptr_33]; exact hpm
        have e15 : fw_r (fw_u m 33 0 (fw_r m 32 15)) 32 15 = fw_r m 32 15 := fw_r_k _ (by decide)
        have e15b : fw_r (fw_u (fw_u m 33 0 (fw_r m 32 15)) 39 (fw_r m 32 15) 1) 32 15 = fw_r m 32 15 := by rw [fw_r_k _ (by decide), e15]
        unfold fg_pl; rw [if_pos hl]
        simp only [fg_us]
        rw [fw_b_144_188, if_pos c1, fw_b_144_195 _ _ _ _ hpm, if_pos c2, fw_b_144_205, if_pos c3, fw_b_144_216 _ _ _ _ hpm, fw_b_144_226 _ _ _ _ hp1 (by rw [e15]; omega) (by rw [e15]; omega), e15, fw_b_144_236, e15b, fw_w_id (by omega) (by omega)]
      · have hl : ¬fg_lv m = 1 := by unfold fg_lv; rw [if_neg (fun h => c3 h.2.2)]; decide
        unfold fg_pl; rw [if_neg hl]
        rw [fw_b_144_188, if_pos c1, fw_b_144_195 _ _ _ _ hpm, if_pos c2, fw_b_144_205, if_neg c3]
    · have hl : ¬fg_lv m = 1 := by unfold fg_lv; rw [if_neg (fun h => c2 h.2.1)]; decide
      unfold fg_pl; rw [if_neg hl]
      rw [fw_b_144_188, if_pos c1, fw_b_144_195 _ _ _ _ hpm, if_neg c2]
  · have hl : ¬fg_lv m = 1 := by unfold fg_lv; rw [if_neg (fun h => c1 h.1)]; decide
    unfold fg_pl; rw [if_neg hl]
    rw [fw_b_144_188, if_neg c1]
theorem fs_passesOne {M : Int} {c m : fw_M} {a1 a2 a3 : fw_V} (hM : M + 1 ≤ 400000) (h : fg_IN M c m) : fw_E 144 0 [(2, 32), a1, a2, a3] [] m = some ((0, fw_r (fg_P2 m) 32 17 - fw_r m 32 17), fg_P2 m) ∧ (∃ c', fg_IN (M + 1) c' (fg_P2 m)) := by
  have hIN := fg_IN_move h
  have hml := fg_ML_of h
  obtain ⟨gA, gB, gC, gD, -⟩ := h
  have hn := hml.1.2.1
  have hbd := (fg_gD_bd gD gB.2.1.2.1.1).1
  have hF := gB.2.1.2.1
  have htk2 := gC.2.2.1
  have hmt : fg_ML M (fg_tk0 m) := by
    have tk : ∀ a b, (a ≠ 32 ∨ b ≠ 16) → fw_r (fg_tk0 m) a b = fw_r m a b := fun a b hab => by unfold fg_tk0; rw [fw_r_u, if_neg (by omega)]
    refine ⟨fg_MC_m hml.1 (by unfold fg_tk0; rw [fw_ptr_32_16]; exact gA.2) (fun j _ h16 _ _ _ _ => tk 32 j (Or.inr h16)) (fun a j ha => tk a j (Or.inl (by omega))), fg_TR_m hml.2.1 (tk _ _ (by decide)) (tk _ _ (by decide)) (tk _ _ (by decide)) (fun j => tk _ _ (Or.inl (by decide))) (fun j => tk _ _ (Or.inl (by decide))), fun i a b => ?_, fun p a b => ?_⟩
    · rw [tk 32 3 (by decide)] at b
      rw [tk 42 _ (Or.inl (by decide))]; exact hml.2.2.1 i a b
    · rw [tk 32 10 (by decide)] at b
      rw [tk 40 _ (Or.inl (by decide))]; exact hml.2.2.2 p a b
  have hmv := fs_moves (a1 := (8, 0)) (a2 := (8, 0)) hmt (by omega)
  have en : fw_r (fg_mvs (fg_tk0 m)) 32 3 = fw_r m 32 3 := by
    rw [fg_mvs_o _ (by decide) (by decide)]
    unfold fg_tk0; rw [fw_r_j _ (by decide)]
  have hk : ((fg_n m : Nat) : Int) = fw_r m 32 3 := by unfold fg_n; omega
  obtain ⟨b3, c2, r1, r2⟩ := fs_mp_lp (x1 := fw_r m 32 17) (fg_n m) 0 (M + 1) _ (fg_mvs (fg_tk0 m)) a3 hM hIN (by omega) (by omega)
  obtain ⟨c3, s2⟩ := fg_IN_po hM r2
  obtain ⟨c4, t2⟩ := fg_IN_pl s2
  have s1 := fs_mp_over (x1 := fw_r m 32 17) (i := 0 + (fg_n m : Int)) (a3 := b3) hM r2
  have t1 := fs_mp_load (x1 := fw_r m 32 17) (i := 0 + (fg_n m : Int)) (a3 := b3) s2
  have hbd2 := (fg_gD_bd t2.2.2.2.1 t2.2.1.2.1.2.1.1).1
  have hF2 := t2.2.1.2.1.2.1
  refine ⟨?_, c4, t2⟩
  rw [fw_b_144_0, fw_wl_id (by omega) (by omega)]
  show fw_E 144 15 [(2, 32), (0, fw_r m 32 17), a2, a3] [] (fg_tk0 m) = _
  rw [fw_b_144_15, hmv, fw_bs, fw_cn_5, fw_b_144_19, r1, s1, t1, fw_b_144_246, fw_w_id (by omega) (by omega)]
  rfl
/-! both orders of a tick leave the same -/
theorem fg_pll_eq : ∀ (m : fw_M), fg_lv m = 1 → fg_pl m = fg_us (fg_pll m) m := fun m h => by unfold fg_pl; rw [if_pos h]; rfl
theorem fg_pl_0 {m : fw_M} (h : fg_lv m = 0) : fg_pl m = m := by unfold fg_pl; rw [if_neg (by omega)]
theorem fg_plo (m : fw_M) {a b : Int} (h33 : a ≠ 33 ∨ b ≠ 0) (h39 : a ≠ 39 ∨ b ≠ fw_r m 32 15) (h32 : a ≠ 32 ∨ b ≠ 15) : fw_r (fg_pl m) a b = fw_r m a b := by
  rcases fg_lv_01 m with h | h
  · rw [fg_pl_0 h]
  · rw [fg_pll_eq m h]; exact fg_pll_o m h33 h39 h32
theorem fg_pco (m : fw_M) (i : Int) {a b : Int} (h33 : a ≠ 33 ∨ b ≠ fw_r m 34 i) (h43 : a ≠ 43 ∨ b ≠ 30 * i + fw_r m 42 i) (h42 : a ≠ 42 ∨ b ≠ i) (h44 : a ≠ 44 ∨ b ≠ i) (h45 : a ≠ 45 ∨ b ≠ i) (h39 : a ≠ 39 ∨ b ≠ fw_r m 33 (fw_r m 34 i)) (h32 : a ≠ 32 ∨ (b ≠ 17 ∧ b ≠ 18)) : fw_r (fg_pc m i) a b = fw_r m a b := by
  unfold fg_pc; split
  · exact fg_pcl_o m i h33 h43 h42 h44 h45 h39 h32
  · rfl
theorem fg_poo (m : fw_M) {a b : Int} (h33 : a ≠ 33 ∨ b ≠ fw_r m 32 1 - 1) (h39 : a ≠ 39 ∨ b ≠ fw_r m 33 (fw_r m 32 1 - 1)) (h32 : a ≠ 32 ∨ (b ≠ 17 ∧ b ≠ 18 ∧ b ≠ 19)) : fw_r (fg_po m) a b = fw_r m a b := by
  unfold fg_po; split
  · exact fg_pol_o m h33 h39 h32
  · rfl
theorem fg_pl_pc {m : fw_M} {i : Int} (h : fw_r m 34 i ≠ 0) (hp : fw_r m 33 (fw_r m 34 i) ≠ fw_r m 32 15) : fg_pl (fg_pc m i) = fg_pc (fg_pl m) i := by
  have e1 : fg_dv (fg_pl m) i = fg_dv m i := by
    unfold fg_dv
    simp (disch := omega) only [fg_plo]
  have e2 : fg_lv (fg_pc m i) = fg_lv m := by
    unfold fg_lv
    simp (disch := omega) only [fg_pco]
  rcases fg_dv_01 m i with hd | hd
  · have z1 : fg_pc m i = m := by unfold fg_pc; rw [if_neg (by omega)]
    have z2 : fg_pc (fg_pl m) i = fg_pl m := by unfold fg_pc; rw [if_neg (by omega)]
    rw [z1, z2]
  · rcases fg_lv_01 m with hl | hl
    · rw [fg_pl_0 (e2.trans hl), fg_pl_0 hl]
    · have z1 : fg_pc m i = fg_us (fg_pcl m i) m := by unfold fg_pc; rw [if_pos hd]
      have z2 : fg_pc (fg_pl m) i = fg_us (fg_pcl m i) (fg_pl m) := by
        unfold fg_pc; rw [if_pos (e1.trans hd)]
        congr 1
        unfold fg_pcl
        simp (disch := omega) only [fg_plo]
      have z3 : fg_pl (fg_pc m i) = fg_us (fg_pll m) (fg_pc m i) := by
        rw [fg_pll_eq _ (e2.trans hl)]
        congr 1
        unfold fg_pll
        simp (disch := omega) only [fg_pco]
      rw [z3, z2, z1, fg_pll_eq _ hl]
      refine fg_us_comm _ _ _ ?_
      unfold fg_pll fg_pcl
      simp only [List.mem_cons, List.not_mem_nil, or_false, forall_eq_or_imp, forall_eq]
      omega
theorem fg_pl_po {m : fw_M} (h : 4 ≤ fw_r m 32 1) (hp : fw_r m 33 (fw_r m 32 1 - 1) ≠ fw_r m 32 15) : fg_pl (fg_po m) = fg_po (fg_pl m) := by
  have e1 : fg_ov (fg_pl m) = fg_ov m := by
    unfold fg_ov
    simp (disch := omega) only [fg_plo]
  have e2 : fg_lv (fg_po m) = fg_lv m := by
    unfold fg_lv
    simp (disch := omega) only [fg_poo]
  rcases fg_ov_01 m with hd | hd
  · have z1 : fg_po m = m := by unfold fg_po; rw [if_neg (by omega)]
    have z2 : fg_po (fg_pl m) = fg_pl m := by unfold fg_po; rw [if_neg (by omega)]
    rw [z1, z2]
  · rcases fg_lv_01 m with hl | hl
    · rw [fg_pl_0 (e2.trans hl), fg_pl_0 hl]
    · have z1 : fg_po m = fg_us (fg_pol m) m := by unfold fg_po; rw [if_pos hd]
      have z2 : fg_po (fg_pl m) = fg_us (fg_pol m) (fg_pl m) := by
        unfold fg_po; rw [if_pos (e1.trans hd)]
        congr 1
        unfold fg_pol
        simp (disch := omega) only [fg_plo]
      have z3 : fg_pl (fg_po m) = fg_us (fg_pll m) (fg_po m) := by
        rw [fg_pll_eq _ (e2.trans hl)]
        congr 1
        unfold fg_pll
        simp (disch := omega) only [fg_poo]
      rw [z3, z2, z1, fg_pll_eq _ hl]
      refine fg_us_comm _ _ _ ?_
      unfold fg_pll fg_pol
      simp only [List.mem_cons, List.not_mem_nil, or_false, forall_eq_or_imp, forall_eq]
      omega
theorem fg_pcn_pl : ∀ (k : Nat) (i M : Int) (c m : fw_M), M ≤ 400000 → fg_IN M c m → 0 ≤ i → i + k = fw_r m 32 3 → fg_pcn (fg_pl m) i k = fg_pl (fg_pcn m i k) := by
  intro k
  induction k with
  | zero => intro i M c m hM h h0 h1; rfl
  | succ k ih =>
    intro i M c m hM h h0 h1
    have hc := h.1.1.2.2.2.1 i h0 (by omega)
    have ht := h.2.1.2.1.2.2.1 (fw_r m 34 i) (by omega) (by have := h.1.1.2.1.1; omega)
    obtain ⟨c1, q1⟩ := fg_IN_pc hM h h0 (by omega : i < fw_r m 32 3)
    have e3 : fw_r (fg_pc m i) 32 3 = fw_r m 32 3 := fg_pc_n m i (by decide) (by decide)
    rw [fg_pcn, fg_pcn, ← fg_pl_pc (by omega) (by omega)]
    exact ih (i + 1) M c1 (fg_pc m i) hM q1 (by omega) (by rw [e3]; omega)
theorem fg_P12 {M : Int} {c m : fw_M} (hM : M + 1 ≤ 400000) (h : fg_IN M c m) : fg_P1 m = fg_P2 m := by
  have hIN := fg_IN_move h
  have hml := fg_ML_of h
  have hn := hml.1.2.1
  have en : fw_r (fg_mvs (fg_tk0 m)) 32 3 = fw_r m 32 3 := by
    rw [fg_mvs_o _ (by decide) (by decide)]
    unfold fg_tk0; rw [fw_r_j _ (by decide)]
  have hk : ((fg_n m : Nat) : Int) = fw_r m 32 3 := by unfold fg_n; omega
  obtain ⟨b3, c2, r1, r2⟩ := fs_mp_lp (x1 := fw_r m 32 17) (fg_n m) 0 (M + 1) _ (fg_mvs (fg_tk0 m)) (8, 0) hM hIN (by omega) (by omega)
  have hN := r2.2.1.2.1.1
  have ht := r2.2.1.2.1.2.2.1 (fw_r (fg_pcn (fg_mvs (fg_tk0 m)) 0 (fg_n m)) 32 1 - 1) (by omega) (by omega)
  unfold fg_P1 fg_P2
  rw [fg_pcn_pl (fg_n m) 0 (M + 1) _ (fg_mvs (fg_tk0 m)) hM hIN (by omega) (by omega), fg_pl_po hN.1 (by omega)]
def fg_Pn : Nat → fw_M → fw_M
  | 0, m => m
  | k + 1, m => fg_Pn k (fg_P2 m)
theorem fs_pass_lp {x : Int} : ∀ (k : Nat) (i acc M : Int) (c m : fw_M), M + k ≤ 400000 → fg_IN M c m → 0 ≤ i → i + k = x → x ≤ 200 → 0 ≤ acc → acc ≤ 7 * i → ∃ c', fw_E 77 8 [(2, 1), (0, x), (0, acc), (0, i)] [] c = some ((0, acc + (fw_r (fg_Pn k m) 32 17 - fw_r m 32 17)), c') ∧ fg_IN (M + k) c' (fg_Pn k m) ∧ fg_CFr c c' := by
  intro k
  induction k with
  | zero =>
    intro i acc M c m hM h h0 h1 h2 h3 h4
    refine ⟨c, ?_, ?_, fg_CFr_refl c⟩
    · rw [fw_b_77_8, if_neg (by omega), fw_b_77_26]
      simp only [fg_Pn, Int.sub_self, Int.add_zero]
    · have : M + ((0 : Nat) : Int) = M := by omega
      rw [this]; exact h
  | succ k ih =>
    intro i acc M c m hM h h0 h1 h2 h3 h4
    obtain ⟨c1, q1, q2, q3, q4⟩ := fs_passOneTick (a1 := (8, 0)) (a2 := (8, 0)) (by omega) h
    have e := fg_P12 (by omega) h
    rw [e] at q1 q2 q4
    obtain ⟨c2, r1, r2, r3⟩ := ih (i + 1) (acc + (fw_r (fg_P2 m) 32 17 - fw_r m 32 17)) (M + 1) c1 (fg_P2 m) (by omega) q2 (by omega) (by omega) h2 (by omega) (by omega)
    have ea : acc + (fw_r (fg_P2 m) 32 17 - fw_r m 32 17) + (fw_r (fg_Pn k (fg_P2 m)) 32 17 - fw_r (fg_P2 m) 32 17) = acc + (fw_r (fg_Pn (k + 1) m) 32 17 - fw_r m 32 17) := by
      rw [fg_Pn]; omega
    have eM : M + 1 + (k : Int) = M + ((k + 1 : Nat) : Int) := by omega
    rw [ea] at r1
    rw [eM] at r2
    refine ⟨c2, ?_, r2, fg_CFr_trans q3 r3⟩
    rw [← r1, fw_b_77_8, if_pos (by omega), fw_b_77_13, q1, fw_bs, fw_cn_0, fw_b_77_18, fw_w_id (by omega) (by omega), fw_w_id (by omega) (by omega)]
theorem fs_mpass_lp {x : Int} : ∀ (k : Nat) (i acc M : Int) (c m : fw_M), M + k ≤ 400000 → fg_IN M c m → 0 ≤ i → i + k = x → x ≤ 200 → 0 ≤ acc → acc ≤ 7 * i → fw_E 145 29 [(2, 32), (0, x), (0, acc), (0, i)] [] m = some ((0, acc + (fw_r (fg_Pn k m) 32 17 - fw_r m 32 17)), fg_Pn k m) := by
  intro k
  induction k with
  | zero =>
    intro i acc M c m hM h h0 h1 h2 h3 h4
    rw [fw_b_145_29, if_neg (by omega), fw_b_145_47]
    simp only [fg_Pn, Int.sub_self, Int.add_zero]
  | succ k ih =>
    intro i acc M c m hM h h0 h1 h2 h3 h4
    obtain ⟨q1, c1, q2⟩ := fs_passesOne (a1 := (8, 0)) (a2 := (8, 0)) (a3 := (8, 0)) (by omega) h
    have q4 := (fs_passOneTick (a1 := (8, 0)) (a2 := (8, 0)) (by omega) h)
    obtain ⟨c3, -, -, -, q5⟩ := q4
    rw [fg_P12 (by omega) h] at q5
    have r1 := ih (i + 1) (acc + (fw_r (fg_P2 m) 32 17 - fw_r m 32 17)) (M + 1) c1 (fg_P2 m) (by omega) q2 (by omega) (by omega) h2 (by omega) (by omega)
    have ea : acc + (fw_r (fg_P2 m) 32 17 - fw_r m 32 17) + (fw_r (fg_Pn k (fg_P2 m)) 32 17 - fw_r (fg_P2 m) 32 17) = acc + (fw_r (fg_Pn (k + 1) m) 32 17 - fw_r m 32 17) := by
      rw [fg_Pn]; omega
    rw [ea] at r1
    rw [fw_b_145_29, if_pos (by omega), fw_b_145_34, q1, fw_bs, fw_cn_0, fw_b_145_39, fw_w_id (by omega) (by omega), fw_w_id (by omega) (by omega), r1]
    rfl
