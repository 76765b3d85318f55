/-! the law's loop serves a position as the ghost does -/
theorem fl_jm_eq {m m' : fw_M} (k1 : fw_r m' 32 1 = fw_r m 32 1) (k3 : fw_r m' 32 3 = fw_r m 32 3) (k7 : fw_r m' 32 7 = fw_r m 32 7) (k8 : fw_r m' 32 8 = fw_r m 32 8) (k34 : ∀ j, fw_r m' 34 j = fw_r m 34 j) (k36 : ∀ j, fw_r m' 36 j = fw_r m 36 j) (p : Int) : fl_jm m' p = fl_jm m p := by
  unfold fl_jm
  rw [k1, k7, k8, fg_nm_eq k3 k34, k36]
theorem fl_R_up {c c' m m' : fw_M} (r : fl_R c m) (hA : fl_RA c' m') (hB : fl_RB c' m') (hD : fl_RD c' m') (hF : fl_RF c' m') (k1 : fw_r m' 32 1 = fw_r m 32 1) (k3 : fw_r m' 32 3 = fw_r m 32 3) (k7 : fw_r m' 32 7 = fw_r m 32 7) (k8 : fw_r m' 32 8 = fw_r m 32 8) (k34 : ∀ j, fw_r m' 34 j = fw_r m 34 j) (k36 : ∀ j, fw_r m' 36 j = fw_r m 36 j) (k41 : ∀ j, fw_r m' 41 j = fw_r m 41 j)
    (o34 : ∀ j, fw_r c' 34 j = fw_r c 34 j) (o35 : ∀ j, fw_r c' 35 j = fw_r c 35 j) (o45 : ∀ j, fw_r c' 45 j = fw_r c 45 j) : fl_R c' m' := by
  obtain ⟨-, -, hC, -, hE, -, hG⟩ := r
  refine ⟨hA, hB, fun p x y => ?_, hD, fun q x y => ?_, hF, fun i k x y z => ?_⟩
  · rw [o34, o35, fg_nm_eq k3 k34, fl_jm_eq k1 k3 k7 k8 k34 k36]; exact hC p x y
  · rw [o45, k41]; exact hE q x y
  · rw [k3] at z
    rw [k34, k34]; exact hG i k x y z
theorem fm_serve_0 {M : Int} {c c0 m : fw_M} {a2 a3 a4 : fw_V} (h : fg_IN M c0 m) (r : fl_R c m) : ∃ c', fw_E 124 0 [(2, 32), (0, 0), a2, a3, a4] [] c = some ((5, 0), c') ∧ fl_R c' (fg_pl m) ∧ fl_O c c' := by
  have hr := r
  obtain ⟨⟨hq, hA, h60, h6⟩, hB, hC, hD, hE, ⟨hF1, hF2⟩, hG⟩ := r
  have hN := (fg_facts h).2.2.1
  have t0 := h.2.2.1.2.2.1
  have hTR := h.2.1.2.1
  have hmin := hTR.2.2.1 0 (by decide) (by omega)
  have hF0 := hTR.2.1
  have e1 := fm_tray (p := 0) hA.1 hN hA.2.1 t0.1 (by omega) (by omega)
  have s := fl_s_in (t := fw_r m 32 16) (by omega : 0 < fw_r m 32 1) (by omega : (0 : Int) ≤ 0) (by omega)
  have z := hC 0 (by omega) (by omega)
  have ej : fl_jm m 0 = fw_r m 32 7 := by unfold fl_jm; rw [if_pos rfl]
  rw [ej] at z
  have zB := hB 0 (by omega) (by omega)
  rcases fg_lv_01 m with h0 | h1
  · refine ⟨c, ?_, by rw [fg_pl_0 h0]; exact hr, fl_O_refl c⟩
    rw [fw_b_124_0, e1, fw_bs, fw_cn_0, fw_b_124_5 _ _ _ _ _ _ hq s.1 (by omega) (by omega) (by omega), z.2, zB]
    by_cases c1 : fw_r m 32 7 = 0
    · rw [if_pos c1, fw_b_124_23, if_pos rfl, fw_b_124_27]
      by_cases c2 : fw_r m 33 0 < 0
      · rw [if_pos c2, fw_b_124_31, if_neg ?_, fw_b_124_231]
        intro c3
        unfold fg_lv at h0
        rw [if_pos ⟨c1, by omega, by omega⟩] at h0
        exact absurd h0 (by decide)
      · rw [if_neg c2, fw_b_124_231]
    · rw [if_neg c1, fw_b_124_22]
  · have hlv : fw_r m 32 7 = 0 ∧ fw_r m 33 0 = -1 ∧ fw_r m 32 15 < fw_r m 32 10 := by
      unfold fg_lv at h1
      refine Classical.byContradiction (fun hx => ?_)
      rw [if_neg hx] at h1
      exact absurd h1 (by decide)
    have q17 := hA.2.2.2.2.2.1
    have q11 := hA.2.2.2.2.1
    have p1 : fl_ptr (fw_u c 33 (fl_s (fw_r m 32 16) (fw_r m 32 1) 0) (fw_r m 32 15)) := by rw [fl_ptr_33]; exact hq
    have p2 : fl_ptr (fw_u (fw_u c 33 (fl_s (fw_r m 32 16) (fw_r m 32 1) 0) (fw_r m 32 15)) 49 (fw_r m 32 15) 108) := by rw [fl_ptr_49]; exact p1
    refine ⟨fw_u (fw_u (fw_u c 33 (fl_s (fw_r m 32 16) (fw_r m 32 1) 0) (fw_r m 32 15)) 49 (fw_r m 32 15) 108) 32 17 (fw_r m 32 15 + 1), ?_, ?_, fun a j ha => by (try simp (disch := omega) only [fw_r_n, fw_r_s])⟩
    · rw [fw_b_124_0, e1, fw_bs, fw_cn_0, fw_b_124_5 _ _ _ _ _ _ hq s.1 (by omega) (by omega) (by omega), z.2, zB, if_pos hlv.1, fw_b_124_23, if_pos rfl, fw_b_124_27, if_pos (by omega), fw_b_124_31, if_pos (by omega), fw_b_124_42 _ _ _ _ _ hq s.1 (by omega), q17, fw_b_124_52 _ _ _ _ _ p1 (by rw [fw_r_k _ (by decide), q17]; omega) (by rw [fw_r_k _ (by decide), q17]; omega), fw_r_k _ (by decide), q17, fw_b_124_63, fw_r_k _ (by decide), fw_r_k _ (by decide), q17, fw_w_id (by omega) (by omega), fw_b_124_73]
    · rw [fg_pll_eq m h1]
      have mo : ∀ a j, a ≠ 33 → a ≠ 39 → (a ≠ 32 ∨ j ≠ 15) → fw_r (fg_us (fg_pll m) m) a j = fw_r m a j := fun a j x y w => fg_pll_o m (Or.inl x) (Or.inl y) w
      have m33 := fun b => fg_pll_33 m b
      have m39 := fun b => fg_pll_39 m b
      have m15 := fg_pll_15 m
      have inj : ∀ p, 0 ≤ p → p < fw_r m 32 1 → fl_s (fw_r m 32 16) (fw_r m 32 1) p = fl_s (fw_r m 32 16) (fw_r m 32 1) 0 → p = 0 := fun p x y e => fl_s_inj (by omega) x y (by decide) (by omega) e
      generalize hs0 : fl_s (fw_r m 32 16) (fw_r m 32 1) 0 = s0 at *
      generalize fg_us (fg_pll m) m = m' at *
      have k1 := mo 32 1 (by omega) (by omega) (by omega)
      have k3 := mo 32 3 (by omega) (by omega) (by omega)
      have k10 := mo 32 10 (by omega) (by omega) (by omega)
      have k16 := mo 32 16 (by omega) (by omega) (by omega)
      refine fl_R_up hr ⟨by rw [fl_ptr_32_17]; exact p2, ?_, by rw [k10]; exact h60, by rw [k3]; exact h6⟩ (fun p x y => ?_) ⟨fun i x y => ?_, fun i x y => ?_⟩ ⟨fun p x y => ?_, fun p x y => ?_⟩ k1 k3 (mo _ _ (by omega) (by omega) (by omega)) (mo _ _ (by omega) (by omega) (by omega)) (fun j => mo _ _ (by omega) (by omega) (by omega)) (fun j => mo _ _ (by omega) (by omega) (by omega)) (fun j => mo _ _ (by omega) (by omega) (by omega)) (fun j => by (try simp (disch := omega) only [fw_r_n, fw_r_s])) (fun j => by (try simp (disch := omega) only [fw_r_n, fw_r_s])) (fun j => by (try simp (disch := omega) only [fw_r_n, fw_r_s]))
      · rw [m15, k1, k3, k10, k16, mo 32 9 (by omega) (by omega) (by omega), mo 32 17 (by omega) (by omega) (by omega), mo 32 19 (by omega) (by omega) (by omega), mo 32 18 (by omega) (by omega) (by omega), mo 32 25 (by omega) (by omega) (by omega), mo 32 29 (by omega) (by omega) (by omega)]
        (try simp (disch := omega) only [fw_r_n, fw_r_s])
        exact ⟨hA.1, hA.2.1, hA.2.2.1, hA.2.2.2.1, hA.2.2.2.2.1, trivial, hA.2.2.2.2.2.2⟩
      · rw [k1] at y
        rw [k1, k16, m33]
        by_cases hp : p = 0
        · rw [if_pos hp, hp, hs0]; (try simp (disch := omega) only [fw_r_n, fw_r_s])
        · rw [if_neg hp]
          have := inj p x y
          rw [fw_r_n _ (by omega), fw_r_n _ (by omega), fw_r_n _ (by omega)]
          exact hB p x y
      · rw [k3] at y
        rw [mo 35 _ (by omega) (by omega) (by omega), mo 42 _ (by omega) (by omega) (by omega)]
        have g := hD.1 i x y
        refine ⟨by (try simp (disch := omega) only [fw_r_n, fw_r_s]); exact g.1, fun k k0 k1 => ?_⟩
        rw [mo 43 _ (by omega) (by omega) (by omega), fw_r_n _ (by omega), fw_r_n _ (by omega), fw_r_n _ (by omega)]
        exact g.2 k k0 k1
      · rw [mo 42 _ (by omega) (by omega) (by omega)]; (try simp (disch := omega) only [fw_r_n, fw_r_s]); exact hD.2 i x y
      · rw [k10] at y
        have g := hF1 p x y
        rw [mo 37 _ (by omega) (by omega) (by omega), mo 38 _ (by omega) (by omega) (by omega), mo 47 _ (by omega) (by omega) (by omega), m39]
        by_cases hp : p = fw_r m 32 15
        · rw [if_pos hp, ← hp]
          refine ⟨by (try simp (disch := omega) only [fw_r_n, fw_r_s]); exact g.1, by (try simp (disch := omega) only [fw_r_n, fw_r_s]); exact g.2.1, by (try simp (disch := omega) only [fw_r_n, fw_r_s]); rfl, fun e => absurd e (by decide)⟩
        · rw [if_neg hp]
          (try simp (disch := omega) only [fw_r_n, fw_r_s])
          exact g
      · rw [mo 40 _ (by omega) (by omega) (by omega)]; (try simp (disch := omega) only [fw_r_n, fw_r_s]); exact hF2 p x y
theorem fm_serve_ch {M i : Int} {c c0 m : fw_M} {a2 a3 a4 : fw_V} (hM : M ≤ 400000) (h : fg_IN M c0 m) (r : fl_R c m) (i0 : 0 ≤ i) (i1 : i < fw_r m 32 3) : ∃ c', fw_E 124 0 [(2, 32), (0, fw_r m 34 i), a2, a3, a4] [] c = some ((5, 0), c') ∧ fl_R c' (fg_pc m i) ∧ fl_O c c' := by
  have hr := r
  obtain ⟨⟨hq, hA, h60, h6⟩, hB, hC, hD, hE, ⟨hF1, hF2⟩, hG⟩ := r
  have hN := (fg_facts h).2.2.1
  have t0 := h.2.2.1.2.2.1
  have hTR := h.2.1.2.1
  have hcf := h.1.1.2.2.2.1 i i0 i1
  have hx := hcf.1.2
  have hnm := fl_nm_of h i0 i1
  have gEi := h.2.2.2.2.1.1 i i0 i1
  have h19 := fg_r19 h
  have c06 := h.1.1.2.2.2.2.2.1
  have hin := hTR.2.2.1 (fw_r m 34 i) (by omega) (by omega)
  have hF0 := hTR.2.1
  generalize hxx : fw_r m 34 i = x at *
  have e1 := fm_tray (p := x) hA.1 hN hA.2.1 t0.1 (by omega) (by omega)
  have s := fl_s_in (t := fw_r m 32 16) (by omega : 0 < fw_r m 32 1) (by omega : 0 ≤ x) (by omega)
  have z := hC x (by omega) (by omega)
  have ej : fl_jm m x = fw_r m 36 i := by unfold fl_jm; rw [if_neg (by omega), if_neg (by omega), if_neg (by omega), hnm]
  rw [ej, hnm] at z
  have zB := hB x (by omega) (by omega)
  have w1 : fw_w (fw_r c 32 0 - 1) = fw_r m 32 1 - 1 := by rw [hA.1, fw_w_id (by omega) (by omega)]
  have zD := hD.1 i i0 i1
  have zD2 := hD.2 i i0 (by omega)
  have start : fw_r m 36 i = 0 → fw_E 124 0 [(2, 32), (0, x), a2, a3, a4] [] c = fw_E 124 130 [(2, 32), (0, x), (0, fl_s (fw_r m 32 16) (fw_r m 32 1) x), (0, fw_r m 33 x), a4] [] c := by
    intro hj
    rw [fw_b_124_0, e1, fw_bs, fw_cn_0, fw_b_124_5 _ _ _ _ _ _ hq s.1 (by omega) (by omega) (by omega), z.2, if_pos hj, zB, fw_b_124_23, if_neg (by omega), fw_b_124_76]
    by_cases c1 : fw_r m 33 x < 0
    · rw [if_pos c1]
    · rw [if_neg c1, fw_b_124_80, w1, if_neg (by omega)]
  have route : 0 ≤ fw_r m 33 x → (0 ≤ fw_r c 46 (fw_r m 33 x) ∧ fw_r c 46 (fw_r m 33 x) < 8) ∧ fw_r c 45 (fw_r c 46 (fw_r m 33 x)) = fw_r m 41 (fw_r m 37 (fw_r m 33 x)) := fun hp => by
    have g := (hF1 _ hp (by omega)).1
    have g2 := c06 _ hp (by omega)
    rw [g]
    exact ⟨g2.2, hE _ g2.2.1 g2.2.2⟩
  have hdv : fg_dv m i = if fw_r m 33 x ≠ -1 ∧ fw_r m 36 i = 0 ∧ fw_r m 41 (fw_r m 37 (fw_r m 33 x)) = i ∧ fw_r m 42 i < fw_r m 35 i then 1 else 0 := by unfold fg_dv; rw [hxx]
  rcases fg_dv_01 m i with h0 | h1
  · refine ⟨c, ?_, by unfold fg_pc; rw [if_neg (by omega)]; exact hr, fl_O_refl c⟩
    by_cases c1 : fw_r m 36 i = 0
    · rw [start c1, fw_b_124_130]
      by_cases c2 : fw_r m 33 x < 0
      · rw [if_pos c2, fw_b_124_231]
      · have g := route (by omega)
        rw [if_neg c2, fw_b_124_134 _ _ _ _ _ hq (by omega) (by omega), if_neg (by omega), fw_b_124_143 _ _ _ _ _ hq (by omega) (by omega) g.1.1 g.1.2 (by omega) (by omega), g.2, z.1]
        by_cases c3 : fw_r m 41 (fw_r m 37 (fw_r m 33 x)) = i
        · rw [if_pos c3, fw_b_124_163 _ _ _ _ _ hq (by omega) (by omega) (by omega) (by omega), z.1, zD.1, zD2, if_neg ?_, fw_b_124_231]
          intro c4
          rw [hdv, if_pos ⟨by omega, c1, c3, c4⟩] at h0
          exact absurd h0 (by decide)
        · rw [if_neg c3, fw_b_124_231]
    · rw [fw_b_124_0, e1, fw_bs, fw_cn_0, fw_b_124_5 _ _ _ _ _ _ hq s.1 (by omega) (by omega) (by omega), z.2, if_neg c1, fw_b_124_22]
  · have hd : fw_r m 33 x ≠ -1 ∧ fw_r m 36 i = 0 ∧ fw_r m 41 (fw_r m 37 (fw_r m 33 x)) = i ∧ fw_r m 42 i < fw_r m 35 i := by
      refine Classical.byContradiction (fun hx => ?_)
      rw [hdv, if_neg hx] at h1
      exact absurd h1 (by decide)
    have g := route (by omega)
    have h40 := (h.2.2.1.2.2.2.1 (fw_r m 33 x) (by omega) (by omega)).2.2.2.2.2.2
    have pP : 0 ≤ fw_r m 33 x ∧ fw_r m 33 x < fw_r m 32 10 := by omega
    have p60 : fw_r m 33 x < 60 := by omega
    have mo : ∀ a j, a ≠ 33 → a ≠ 43 → a ≠ 42 → a ≠ 44 → a ≠ 45 → a ≠ 39 → (a ≠ 32 ∨ (j ≠ 17 ∧ j ≠ 18)) → fw_r (fg_us (fg_pcl m i) m) a j = fw_r m a j := fun a j q1 q2 q3 q4 q5 q6 q7 => fg_pcl_o m i (Or.inl q1) (Or.inl q2) (Or.inl q3) (Or.inl q4) (Or.inl q5) (Or.inl q6) q7
    have m33 := fun b => fg_pcl_33 m i b
    have m43 := fun b => fg_pcl_43 m i b
    have m42 := fun b => fg_pcl_42 m i b
    have m39 := fun b => fg_pcl_39 m i b
    have m17 := fg_pcl_17 m i
    have m18 := fg_pcl_18 m i
    rw [hxx] at m18
    simp only [hxx] at m33 m43 m39
    have inj : ∀ p, 0 ≤ p → p < fw_r m 32 1 → fl_s (fw_r m 32 16) (fw_r m 32 1) p = fl_s (fw_r m 32 16) (fw_r m 32 1) x → p = x := fun p a b e => fl_s_inj (by omega) a b (by omega) (by omega) e
    have hc48 := hF2 (fw_r m 33 x) pP.1 p60
    have epc : fg_pc m i = fg_us (fg_pcl m i) m := by unfold fg_pc; rw [if_pos h1]
    rw [epc]
    have kd := fl_kd38 i0 (by omega : i < 6)
    have ln := fl_ln38 i0 (by omega : i < 6)
    generalize hs0 : fl_s (fw_r m 32 16) (fw_r m 32 1) x = s0 at *
    generalize hpp : fw_r m 33 x = p at *
    generalize hK : fw_r m 42 i = K at *
    have p1 : fl_ptr (fw_u c 44 i (K + 1)) := by rw [fl_ptr_44]; exact hq
    have p2 : fl_ptr (fw_u (fw_u c 44 i (K + 1)) (38 + i) K p) := by rw [fl_ptr_in _ i0]; exact p1
    have e2 := fm_leave (c := fw_u (fw_u c 44 i (K + 1)) (38 + i) K p) (p := p) (s := 99) (L := fw_r m 32 17) (S := fw_r m 32 18) (rd := fw_r m 40 p) p2 pP.1 p60 (by decide) (by decide) (by (try simp (disch := omega) only [fw_r_n, fw_r_s]); exact hA.2.2.2.2.2.2.1) (by omega) (by (try simp (disch := omega) only [fw_r_n, fw_r_s]); exact hA.2.2.2.2.2.2.2.2.1) (by (try simp (disch := omega) only [fw_r_n, fw_r_s]); exact hc48) (by omega) (by omega)
    have p3 : fl_ptr (fw_u (fw_u (fw_u (fw_u (fw_u c 44 i (K + 1)) (38 + i) K p) 49 p 99) 32 18 (fw_r m 32 17 + 1)) 32 20 (fw_r m 32 18 + fw_r m 40 p)) := by rw [fl_ptr_32_20, fl_ptr_32_18, fl_ptr_49]; exact p2
    refine ⟨fw_u (fw_u (fw_u (fw_u (fw_u (fw_u c 44 i (K + 1)) (38 + i) K p) 49 p 99) 32 18 (fw_r m 32 17 + 1)) 32 20 (fw_r m 32 18 + fw_r m 40 p)) 33 s0 (-1), ?_, ?_, fun a j ha => by (try simp (disch := omega) only [fw_r_n, fw_r_s])⟩
    · rw [start hd.2.1, fw_b_124_130, if_neg (by omega), fw_b_124_134 _ _ _ _ _ hq (by omega) (by omega), if_neg (by omega), fw_b_124_143 _ _ _ _ _ hq (by omega) (by omega) g.1.1 g.1.2 (by omega) (by omega), g.2, z.1, if_pos hd.2.2.1, fw_b_124_163 _ _ _ _ _ hq (by omega) (by omega) (by omega) (by omega), z.1, zD.1, zD2, if_pos hd.2.2.2, fw_b_124_188 _ _ _ _ _ hq (by omega) (by omega) (by omega) (by omega), z.1, zD2, fw_w_id (by omega) (by omega), fw_b_124_215 _ _ _ _ _ _ _ kd (by omega) (by omega), fw_b_124_217, e2, fw_bs, fw_cn_5, fw_b_124_224 _ _ _ _ _ p3 s.1 (by omega), fw_b_124_231]
    · have hpi : ∀ p', 0 ≤ p' → p' < fw_r m 32 1 → p' ≠ x → fl_s (fw_r m 32 16) (fw_r m 32 1) p' ≠ s0 := fun p' a b ne e => ne (inj p' a b e)
      clear start route hdv epc e1 e2
      generalize fg_us (fg_pcl m i) m = m' at *
      have k1 := mo 32 1 (by omega) (by omega) (by omega) (by omega) (by omega) (by omega) (by omega)
      have k3 := mo 32 3 (by omega) (by omega) (by omega) (by omega) (by omega) (by omega) (by omega)
      have k10 := mo 32 10 (by omega) (by omega) (by omega) (by omega) (by omega) (by omega) (by omega)
      have k16 := mo 32 16 (by omega) (by omega) (by omega) (by omega) (by omega) (by omega) (by omega)
      refine fl_R_up hr ⟨by rw [fl_ptr_33]; exact p3, ?_, by rw [k10]; exact h60, by rw [k3]; exact h6⟩ (fun p' a b => ?_) ⟨fun i' a b => ?_, fun i' a b => ?_⟩ ⟨fun p' a b => ?_, fun p' a b => ?_⟩ k1 k3 (mo _ _ (by omega) (by omega) (by omega) (by omega) (by omega) (by omega) (by omega)) (mo _ _ (by omega) (by omega) (by omega) (by omega) (by omega) (by omega) (by omega)) (fun j => mo _ _ (by omega) (by omega) (by omega) (by omega) (by omega) (by omega) (by omega)) (fun j => mo _ _ (by omega) (by omega) (by omega) (by omega) (by omega) (by omega) (by omega)) (fun j => mo _ _ (by omega) (by omega) (by omega) (by omega) (by omega) (by omega) (by omega)) (fun j => by (try simp (disch := omega) only [fw_r_n, fw_r_s])) (fun j => by (try simp (disch := omega) only [fw_r_n, fw_r_s])) (fun j => by (try simp (disch := omega) only [fw_r_n, fw_r_s]))
      · rw [m17, m18, k1, k3, k10, k16, mo 32 9 (by omega) (by omega) (by omega) (by omega) (by omega) (by omega) (by omega), mo 32 15 (by omega) (by omega) (by omega) (by omega) (by omega) (by omega) (by omega), mo 32 19 (by omega) (by omega) (by omega) (by omega) (by omega) (by omega) (by omega), mo 32 25 (by omega) (by omega) (by omega) (by omega) (by omega) (by omega) (by omega), mo 32 29 (by omega) (by omega) (by omega) (by omega) (by omega) (by omega) (by omega)]
        (try simp (disch := omega) only [fw_r_n, fw_r_s])
        exact ⟨hA.1, hA.2.1, hA.2.2.1, hA.2.2.2.1, hA.2.2.2.2.1, hA.2.2.2.2.2.1, trivial, hA.2.2.2.2.2.2.2.1, trivial, hA.2.2.2.2.2.2.2.2.2⟩
      · rw [k1] at b
        rw [k1, k16, m33]
        by_cases hp : p' = x
        · rw [if_pos hp, hp, hs0, fw_r_s]
        · rw [if_neg hp]
          have := hpi p' a b hp
          rw [fw_r_n _ (by omega), fw_r_n _ (by omega), fw_r_n _ (by omega), fw_r_n _ (by omega), fw_r_n _ (by omega), fw_r_n _ (by omega)]
          exact hB p' a b
      · rw [k3] at b
        have gg := hD.1 i' a b
        have bd := (h.2.2.2.2.1.1 i' a b).1
        have bd2 := (h.1.1.2.2.2.1 i' a b).2.1
        rw [mo 35 _ (by omega) (by omega) (by omega) (by omega) (by omega) (by omega) (by omega), m42]
        refine ⟨by (try simp (disch := omega) only [fw_r_n, fw_r_s]); exact gg.1, fun k k0 k1 => ?_⟩
        rw [m43, fw_r_n _ (by omega), fw_r_n _ (by omega), fw_r_n _ (by omega), fw_r_n _ (by omega), fw_r_u]
        by_cases hi : i' = i
        · subst hi
          rw [if_pos rfl] at k1
          by_cases hk : k = K
          · rw [if_pos ⟨rfl, hk⟩, if_pos (by omega)]
          · rw [if_neg (fun e => hk e.2), if_neg (by omega), fw_r_n _ (by omega)]
            exact gg.2 k k0 (by omega)
        · rw [if_neg hi] at k1
          rw [if_neg (by omega), if_neg (by omega), fw_r_n _ (by omega)]
          exact gg.2 k k0 k1
      · rw [m42, fw_r_n _ (by omega), fw_r_n _ (by omega), fw_r_n _ (by omega), fw_r_n _ (by omega), fw_r_n _ (by omega), fw_r_u]
        by_cases hi : i' = i
        · rw [if_pos ⟨rfl, hi⟩, if_pos hi]
        · rw [if_neg (fun e => hi e.2), if_neg hi]; exact hD.2 i' a b
      · rw [k10] at b
        have gg := hF1 p' a b
        rw [mo 37 _ (by omega) (by omega) (by omega) (by omega) (by omega) (by omega) (by omega), mo 38 _ (by omega) (by omega) (by omega) (by omega) (by omega) (by omega) (by omega), mo 47 _ (by omega) (by omega) (by omega) (by omega) (by omega) (by omega) (by omega), m39]
        by_cases hp : p' = p
        · rw [if_pos hp, hp]
          rw [hp] at gg
          refine ⟨by (try simp (disch := omega) only [fw_r_n, fw_r_s]); exact gg.1, by (try simp (disch := omega) only [fw_r_n, fw_r_s]); exact gg.2.1, by (try simp (disch := omega) only [fw_r_n, fw_r_s]); rfl, fun e => absurd e (by decide)⟩
        · rw [if_neg hp]
          (try simp (disch := omega) only [fw_r_n, fw_r_s])
          exact gg
      · rw [mo 40 _ (by omega) (by omega) (by omega) (by omega) (by omega) (by omega) (by omega)]; (try simp (disch := omega) only [fw_r_n, fw_r_s]); exact hF2 p' a b
