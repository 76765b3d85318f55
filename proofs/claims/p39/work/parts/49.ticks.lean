/-! a tick of the law's loop -/
theorem fm_serve_last {M : Int} {c c0 m : fw_M} {a2 a3 a4 : fw_V} (hM : M ≤ 400000) (h : fg_IN M c0 m) (r : fl_R c m) : ∃ c', fw_E 124 0 [(2, 32), (0, fw_r m 32 1 - 1), a2, a3, a4] [] c = some ((5, 0), c') ∧ fl_R c' (fg_po m) ∧ fl_O c c' := by
  have hr := r
  obtain ⟨⟨hq, hA, h60, h6⟩, hB, hC, hD, hE, ⟨hF1, hF2⟩, hG⟩ := r
  have hN := (fg_facts h).2.2.1
  have t0 := h.2.2.1.2.2.1
  have hTR := h.2.1.2.1
  have h19 := fg_r19 h
  have hnm := fl_nm_last (p := fw_r m 32 1 - 1) h (Or.inr (Int.le_refl _))
  have hin := hTR.2.2.1 (fw_r m 32 1 - 1) (by omega) (by omega)
  have hF0 := hTR.2.1
  have hov : fg_ov m = if fw_r m 33 (fw_r m 32 1 - 1) ≠ -1 ∧ fw_r m 32 8 = 0 ∧ fw_r m 32 9 ≤ fw_r m 40 (fw_r m 33 (fw_r m 32 1 - 1)) then 1 else 0 := rfl
  have ej : fl_jm m (fw_r m 32 1 - 1) = fw_r m 32 8 := by unfold fl_jm; rw [if_neg (by omega), if_pos rfl]
  have m33 := fun b => fg_pol_33 m b
  have m39 := fun b => fg_pol_39 m b
  have m17 := fg_pol_17 m
  have m18 := fg_pol_18 m
  have m19 := fg_pol_19 m
  have mo : ∀ a j, a ≠ 33 → a ≠ 39 → (a ≠ 32 ∨ (j ≠ 17 ∧ j ≠ 18 ∧ j ≠ 19)) → fw_r (fg_us (fg_pol m) m) a j = fw_r m a j := fun a j q1 q2 q3 => fg_pol_o m (Or.inl q1) (Or.inl q2) q3
  have w1 : fw_w (fw_r c 32 0 - 1) = fw_r m 32 1 - 1 := by rw [hA.1, fw_w_id (by omega) (by omega)]
  generalize hxx : fw_r m 32 1 - 1 = x at *
  have e1 := fm_tray (p := x) hA.1 hN hA.2.1 t0.1 (by omega) (by omega)
  have s := fl_s_in (t := fw_r m 32 16) (by omega : 0 < fw_r m 32 1) (by omega : 0 ≤ x) (by omega)
  have z := hC x (by omega) (by omega)
  rw [ej, hnm] at z
  have zB := hB x (by omega) (by omega)
  have e130 : ∀ s0, fw_E 124 130 [(2, 32), (0, x), (0, s0), (0, fw_r m 33 x), a4] [] c = some ((5, 0), c) := by
    intro s0
    rw [fw_b_124_130]
    by_cases c1 : fw_r m 33 x < 0
    · rw [if_pos c1, fw_b_124_231]
    · rw [if_neg c1, fw_b_124_134 _ _ _ _ _ hq (by omega) (by omega), if_pos (by omega), fw_b_124_231]
  rcases fg_ov_01 m with h0 | h1
  · refine ⟨c, ?_, by unfold fg_po; rw [if_neg (by omega)]; exact hr, fl_O_refl c⟩
    rw [fw_b_124_0, e1, fw_bs, fw_cn_0, fw_b_124_5 _ _ _ _ _ _ hq s.1 (by omega) (by omega) (by omega), z.2, zB]
    by_cases c1 : fw_r m 32 8 = 0
    · rw [if_pos c1, fw_b_124_23, if_neg (by omega), fw_b_124_76]
      by_cases c2 : fw_r m 33 x < 0
      · rw [if_pos c2, e130]
      · rw [if_neg c2, fw_b_124_80, w1, if_pos rfl, fw_b_124_90 _ _ _ _ _ hq (by omega) (by omega), hF2 _ (by omega) (by omega), hA.2.2.2.1, if_pos ?_, e130]
        refine Classical.byContradiction (fun c3 => ?_)
        rw [hov, if_pos ⟨by omega, c1, by omega⟩] at h0
        exact absurd h0 (by decide)
    · rw [if_neg c1, fw_b_124_22]
  · have hd : fw_r m 33 x ≠ -1 ∧ fw_r m 32 8 = 0 ∧ fw_r m 32 9 ≤ fw_r m 40 (fw_r m 33 x) := by
      refine Classical.byContradiction (fun hx => ?_)
      rw [hov, if_neg hx] at h1
      exact absurd h1 (by decide)
    have h40 := (h.2.2.1.2.2.2.1 (fw_r m 33 x) (by omega) (by omega)).2.2.2.2.2.2
    have pP : 0 ≤ fw_r m 33 x ∧ fw_r m 33 x < fw_r m 32 10 := by omega
    have p60 : fw_r m 33 x < 60 := by omega
    have inj : ∀ p, 0 ≤ p → p < fw_r m 32 1 → fl_s (fw_r m 32 16) (fw_r m 32 1) p = fl_s (fw_r m 32 16) (fw_r m 32 1) x → p = x := fun p a b e => fl_s_inj (by omega) a b (by omega) (by omega) e
    have hc48 := hF2 (fw_r m 33 x) pP.1 p60
    have epo : fg_po m = fg_us (fg_pol m) m := by unfold fg_po; rw [if_pos h1]
    rw [epo]
    generalize hs0 : fl_s (fw_r m 32 16) (fw_r m 32 1) x = s0 at *
    generalize hpp : fw_r m 33 x = p at *
    have e2 := fm_leave (c := c) (p := p) (s := 111) (L := fw_r m 32 17) (S := fw_r m 32 18) (rd := fw_r m 40 p) hq pP.1 p60 (by decide) (by decide) hA.2.2.2.2.2.2.1 (by omega) hA.2.2.2.2.2.2.2.2.1 hc48 (by omega) (by omega)
    have p3 : fl_ptr (fw_u (fw_u (fw_u (fw_u c 49 p 111) 32 18 (fw_r m 32 17 + 1)) 32 20 (fw_r m 32 18 + fw_r m 40 p)) 32 19 (fw_r m 32 19 + 1)) := by rw [fl_ptr_32_19, fl_ptr_32_20, fl_ptr_32_18, fl_ptr_49]; exact hq
    have e19 : fw_r (fw_u (fw_u (fw_u c 49 p 111) 32 18 (fw_r m 32 17 + 1)) 32 20 (fw_r m 32 18 + fw_r m 40 p)) 32 19 = fw_r m 32 19 := by (try simp (disch := omega) only [fw_r_n, fw_r_s]); exact hA.2.2.2.2.2.2.2.1
    refine ⟨fw_u (fw_u (fw_u (fw_u (fw_u c 49 p 111) 32 18 (fw_r m 32 17 + 1)) 32 20 (fw_r m 32 18 + fw_r m 40 p)) 32 19 (fw_r m 32 19 + 1)) 33 s0 (-1), ?_, ?_, fun a j ha => by (try simp (disch := omega) only [fw_r_n, fw_r_s])⟩
    · rw [fw_b_124_0, e1, fw_bs, fw_cn_0, fw_b_124_5 _ _ _ _ _ _ hq s.1 (by omega) (by omega) (by omega), z.2, zB, if_pos hd.2.1, fw_b_124_23, if_neg (by omega), fw_b_124_76, if_neg (by omega), fw_b_124_80, w1, if_pos rfl, fw_b_124_90 _ _ _ _ _ hq (by omega) (by omega), hc48, hA.2.2.2.1, if_neg (by omega), fw_b_124_103, e2, fw_bs, fw_cn_5, fw_b_124_110, e19, fw_w_id (by omega) (by omega), fw_b_124_120 _ _ _ _ _ p3 s.1 (by omega), fw_b_124_127]
    · clear e1 e2 e130 epo hov
      generalize fg_us (fg_pol m) m = m' at *
      have k1 := mo 32 1 (by omega) (by omega) (by omega)
      have k3 := mo 32 3 (by omega) (by omega) (by omega)
      have k10 := mo 32 10 (by omega) (by omega) (by omega)
      have k16 := mo 32 16 (by omega) (by omega) (by omega)
      refine fl_R_up hr ⟨by rw [fl_ptr_33]; exact p3, ?_, by rw [k10]; exact h60, by rw [k3]; exact h6⟩ (fun p' a b => ?_) ⟨fun i' a b => ?_, fun i' a b => ?_⟩ ⟨fun p' a b => ?_, fun p' a b => ?_⟩ k1 k3 (mo _ _ (by omega) (by omega) (by omega)) (mo _ _ (by omega) (by omega) (by omega)) (fun j => mo _ _ (by omega) (by omega) (by omega)) (fun j => mo _ _ (by omega) (by omega) (by omega)) (fun j => mo _ _ (by omega) (by omega) (by omega)) (fun j => by (try simp (disch := omega) only [fw_r_n, fw_r_s])) (fun j => by (try simp (disch := omega) only [fw_r_n, fw_r_s])) (fun j => by (try simp (disch := omega) only [fw_r_n, fw_r_s]))
      · rw [m17, m18, m19, k1, k3, k10, k16, mo 32 9 (by omega) (by omega) (by omega), mo 32 15 (by omega) (by omega) (by omega), mo 32 25 (by omega) (by omega) (by omega), mo 32 29 (by omega) (by omega) (by omega)]
        (try simp (disch := omega) only [fw_r_n, fw_r_s])
        exact ⟨hA.1, hA.2.1, hA.2.2.1, hA.2.2.2.1, hA.2.2.2.2.1, hA.2.2.2.2.2.1, trivial, trivial, trivial, hA.2.2.2.2.2.2.2.2.2⟩
      · rw [k1] at b
        rw [k1, k16, m33]
        by_cases hp : p' = x
        · rw [if_pos hp, hp, hs0, fw_r_s]
        · rw [if_neg hp]
          have := inj p' a b
          rw [fw_r_n _ (by omega), fw_r_n _ (by omega), fw_r_n _ (by omega), fw_r_n _ (by omega), fw_r_n _ (by omega)]
          exact hB p' a b
      · rw [k3] at b
        have gg := hD.1 i' a b
        rw [mo 35 _ (by omega) (by omega) (by omega), mo 42 _ (by omega) (by omega) (by omega)]
        refine ⟨by (try simp (disch := omega) only [fw_r_n, fw_r_s]); exact gg.1, fun k k0 k1 => ?_⟩
        rw [mo 43 _ (by omega) (by omega) (by omega), fw_r_n _ (by omega), fw_r_n _ (by omega), fw_r_n _ (by omega), fw_r_n _ (by omega), fw_r_n _ (by omega)]
        exact gg.2 k k0 k1
      · rw [mo 42 _ (by omega) (by omega) (by omega)]; (try simp (disch := omega) only [fw_r_n, fw_r_s]); exact hD.2 i' a b
      · rw [k10] at b
        have gg := hF1 p' a b
        rw [mo 37 _ (by omega) (by omega) (by omega), mo 38 _ (by omega) (by omega) (by omega), mo 47 _ (by omega) (by omega) (by omega), m39]
        by_cases hp : p' = p
        · rw [if_pos hp, hp]
          rw [hp] at gg
          refine ⟨by (try simp (disch := omega) only [fw_r_n, fw_r_s]); exact gg.1, by (try simp (disch := omega) only [fw_r_n, fw_r_s]); exact gg.2.1, by (try simp (disch := omega) only [fw_r_n, fw_r_s]); rfl, fun e => absurd e (by decide)⟩
        · rw [if_neg hp]
          (try simp (disch := omega) only [fw_r_n, fw_r_s])
          exact gg
      · rw [mo 40 _ (by omega) (by omega) (by omega)]; (try simp (disch := omega) only [fw_r_n, fw_r_s]); exact hF2 p' a b
theorem fm_move {M : Int} {c c0 m : fw_M} {a1 a2 a3 : fw_V} (hM : M ≤ 400000) (h : fg_IN M c0 m) (r : fl_R c m) : ∃ c' p, fw_E 125 0 [(2, 32), a1, a2, a3] [] c = fw_E 125 50 [(2, 32), (0, fw_r m 32 17), (0, p), (0, 0)] [] c' ∧ fl_R c' (fg_mvs (fg_tk0 m)) ∧ fl_O c c' := by
  have hr := r
  obtain ⟨⟨hq, hA, h60, h6⟩, hB, hC, hD, hE, ⟨hF1, hF2⟩, hG⟩ := r
  have hN := (fg_facts h).2.2.1
  have t0 := h.2.2.1.2.2.1
  have hTR := h.2.1.2.1
  have hin := hTR.2.2.1 (fw_r m 32 1 - 1) (by omega) (by omega)
  have hF0 := hTR.2.1
  have nx := fun p (a : 0 ≤ p) (b : p < fw_r m 32 1) => fl_s_next (t := fw_r m 32 16) (by omega : 0 < fw_r m 32 1) a b
  have bkin : ∀ p, 0 ≤ p → p < fw_r m 32 1 → 0 ≤ fg_bk (fw_r m 32 1) p ∧ fg_bk (fw_r m 32 1) p < fw_r m 32 1 := fun p a b => by unfold fg_bk; split <;> omega
  have bk0 : fg_bk (fw_r m 32 1) 0 = fw_r m 32 1 - 1 := by unfold fg_bk; rw [if_pos rfl]
  have q1 : fl_ptr (fw_u c 32 1 (fw_r m 32 16 + 1)) := by rw [fl_ptr_32_1]; exact hq
  have e1 := fm_tray (c := fw_u c 32 1 (fw_r m 32 16 + 1)) (t := fw_r m 32 16 + 1) (p := 0) (by (try simp (disch := omega) only [fw_r_n, fw_r_s]); exact hA.1) hN (by (try simp (disch := omega) only [fw_r_n, fw_r_s])) (by omega) (by omega) (by omega)
  have s := fl_s_in (t := fw_r m 32 16 + 1) (by omega : 0 < fw_r m 32 1) (by omega : (0 : Int) ≤ 0) (by omega)
  have z0 : fw_r (fw_u c 32 1 (fw_r m 32 16 + 1)) 33 (fl_s (fw_r m 32 16 + 1) (fw_r m 32 1) 0) = fw_r m 33 (fw_r m 32 1 - 1) := by
    rw [fw_r_k _ (by decide), nx 0 (by decide) (by omega), bk0]
    exact hB _ (by omega) (by omega)
  have m' : ∀ a j, a ≠ 33 → a ≠ 40 → (a ≠ 32 ∨ j ≠ 16) → fw_r (fg_mvs (fg_tk0 m)) a j = fw_r m a j := fun a j x y w => by
    rw [fg_mvs_o _ x y]; unfold fg_tk0; rw [fw_r_n _ (by omega)]
  have m16 : fw_r (fg_mvs (fg_tk0 m)) 32 16 = fw_r m 32 16 + 1 := by
    rw [fg_mvs_o _ (by decide) (by decide)]; unfold fg_tk0; rw [fw_r_s]
  have tk1 : fw_r (fg_tk0 m) 32 1 = fw_r m 32 1 := by unfold fg_tk0; rw [fw_r_j _ (by decide)]
  have tk33 : ∀ j, fw_r (fg_tk0 m) 33 j = fw_r m 33 j := fun j => by unfold fg_tk0; rw [fw_r_k _ (by decide)]
  have tk40 : ∀ j, fw_r (fg_tk0 m) 40 j = fw_r m 40 j := fun j => by unfold fg_tk0; rw [fw_r_k _ (by decide)]
  have m33 : ∀ p, 0 ≤ p → p < fw_r m 32 1 → fw_r (fg_mvs (fg_tk0 m)) 33 p = fw_r m 33 (fg_bk (fw_r m 32 1) p) := fun p a b => by rw [fg_mvs_33 a (by rw [tk1]; exact b), tk1, tk33]
  have m40 : ∀ p, fw_r (fg_mvs (fg_tk0 m)) 40 p = if p = fw_r m 33 (fw_r m 32 1 - 1) ∧ fw_r m 33 (fw_r m 32 1 - 1) ≠ -1 then fw_r m 40 p + 1 else fw_r m 40 p := fun p => by rw [fg_mvs_40, tk1, tk33, tk40]
  generalize hs0 : fl_s (fw_r m 32 16 + 1) (fw_r m 32 1) 0 = s0 at *
  generalize hpp : fw_r m 33 (fw_r m 32 1 - 1) = p at *
  have done : ∀ v x, 0 ≤ x → x < 60 → (∀ p', 0 ≤ p' → p' < 60 → (if p' = x then v else fw_r m 40 p') = fw_r (fg_mvs (fg_tk0 m)) 40 p') → fl_R (fw_u (fw_u c 32 1 (fw_r m 32 16 + 1)) 48 x v) (fg_mvs (fg_tk0 m)) := by
    intro v x x0 x1 hv
    have k1 := m' 32 1 (by omega) (by omega) (by omega)
    have k3 := m' 32 3 (by omega) (by omega) (by omega)
    have k10 := m' 32 10 (by omega) (by omega) (by omega)
    refine fl_R_up hr ⟨by rw [fl_ptr_48]; exact q1, ?_, by rw [k10]; exact h60, by rw [k3]; exact h6⟩ (fun p' a b => ?_) ⟨fun i' a b => ?_, fun i' a b => ?_⟩ ⟨fun p' a b => ?_, fun p' a b => ?_⟩ k1 k3 (m' _ _ (by omega) (by omega) (by omega)) (m' _ _ (by omega) (by omega) (by omega)) (fun j => m' _ _ (by omega) (by omega) (by omega)) (fun j => m' _ _ (by omega) (by omega) (by omega)) (fun j => m' _ _ (by omega) (by omega) (by omega)) (fun j => by (try simp (disch := omega) only [fw_r_n, fw_r_s])) (fun j => by (try simp (disch := omega) only [fw_r_n, fw_r_s])) (fun j => by (try simp (disch := omega) only [fw_r_n, fw_r_s]))
    · rw [m16, k1, k3, k10, m' 32 9 (by omega) (by omega) (by omega), m' 32 15 (by omega) (by omega) (by omega), m' 32 17 (by omega) (by omega) (by omega), m' 32 18 (by omega) (by omega) (by omega), m' 32 19 (by omega) (by omega) (by omega), m' 32 25 (by omega) (by omega) (by omega), m' 32 29 (by omega) (by omega) (by omega)]
      (try simp (disch := omega) only [fw_r_n, fw_r_s])
      exact ⟨hA.1, trivial, hA.2.2⟩
    · rw [k1] at b
      rw [k1, m16, m33 p' a b, nx p' a b]
      (try simp (disch := omega) only [fw_r_n, fw_r_s])
      exact hB _ (bkin p' a b).1 (bkin p' a b).2
    · rw [k3] at b
      have gg := hD.1 i' a b
      rw [m' 35 _ (by omega) (by omega) (by omega), m' 42 _ (by omega) (by omega) (by omega)]
      refine ⟨by (try simp (disch := omega) only [fw_r_n, fw_r_s]); exact gg.1, fun k k0 k1 => ?_⟩
      rw [m' 43 _ (by omega) (by omega) (by omega), fw_r_n _ (by omega), fw_r_n _ (by omega)]
      exact gg.2 k k0 k1
    · rw [m' 42 _ (by omega) (by omega) (by omega)]; (try simp (disch := omega) only [fw_r_n, fw_r_s]); exact hD.2 i' a b
    · rw [k10] at b
      have gg := hF1 p' a b
      rw [m' 37 _ (by omega) (by omega) (by omega), m' 38 _ (by omega) (by omega) (by omega), m' 47 _ (by omega) (by omega) (by omega), m' 39 _ (by omega) (by omega) (by omega)]
      (try simp (disch := omega) only [fw_r_n, fw_r_s])
      exact gg
    · rw [← hv p' a b, fw_r_u]
      by_cases hp : p' = x
      · rw [if_pos ⟨rfl, hp⟩, if_pos hp]
      · rw [if_neg (fun e => hp e.2), if_neg hp, fw_r_k _ (by decide)]; exact hF2 p' a b
  have wt : fw_w (fw_r c 32 1 + 1) = fw_r m 32 16 + 1 := by rw [hA.2.1, fw_w_id (by omega) (by omega)]
  by_cases c1 : p < 0
  · have ep : p = -1 := by omega
    refine ⟨fw_u (fw_u c 32 1 (fw_r m 32 16 + 1)) 48 0 (fw_r m 40 0), p, ?_, done _ 0 (by decide) (by decide) (fun p' a b => ?_), fun a j ha => by (try simp (disch := omega) only [fw_r_n, fw_r_s])⟩
    · rw [fw_b_125_0, wt, hA.2.2.2.2.2.2.1, fw_b_125_15 _ _ _ _ q1, e1, fw_bs, fw_cn_0, fw_b_125_24 _ _ _ _ _ s.1 (by omega) q1 (by rw [z0, if_pos c1]; decide) (by rw [z0, if_pos c1]; decide), z0, if_pos c1, if_pos c1, fw_b_125_41 _ _ _ _ _ _ (by decide) (by decide), fw_r_k _ (by decide), hF2 0 (by decide) (by decide), Int.add_zero, fw_w_id ?_ ?_, fw_b_125_48]
      · by_cases hP : 0 < fw_r m 32 10
        · have := (h.2.2.1.2.2.2.1 0 (by omega) hP).2.2.2.2.2.2; omega
        · have := (h.2.2.1.2.2.2.2 0 (by omega) (by decide)).2; omega
      · by_cases hP : 0 < fw_r m 32 10
        · have := (h.2.2.1.2.2.2.1 0 (by omega) hP).2.2.2.2.2.2; omega
        · have := (h.2.2.1.2.2.2.2 0 (by omega) (by decide)).2; omega
    · rw [m40]
      by_cases hp : p' = 0
      · rw [if_pos hp, if_neg (fun e => e.2 ep), hp]
      · rw [if_neg hp, if_neg (fun e => e.2 ep)]
  · have h40 := (h.2.2.1.2.2.2.1 p (by omega) (by omega)).2.2.2.2.2.2
    refine ⟨fw_u (fw_u c 32 1 (fw_r m 32 16 + 1)) 48 p (fw_r m 40 p + 1), p, ?_, done _ p (by omega) (by omega) (fun p' a b => ?_), fun a j ha => by (try simp (disch := omega) only [fw_r_n, fw_r_s])⟩
    · rw [fw_b_125_0, wt, hA.2.2.2.2.2.2.1, fw_b_125_15 _ _ _ _ q1, e1, fw_bs, fw_cn_0, fw_b_125_24 _ _ _ _ _ s.1 (by omega) q1 (by rw [z0, if_neg c1]; omega) (by rw [z0, if_neg c1]; omega), z0, if_neg c1, if_neg c1, fw_b_125_45 _ _ _ _ _ _ (by omega) (by omega), fw_r_k _ (by decide), hF2 p (by omega) (by omega), fw_w_id (by omega) (by omega), fw_b_125_48]
    · rw [m40]
      by_cases hp : p' = p
      · rw [if_pos hp, if_pos ⟨hp, by omega⟩, hp]
      · rw [if_neg hp, if_neg (fun e => hp e.1)]
def fl_Q (m : fw_M) (x j : Int) : Prop := (∀ i, 0 ≤ i → i < j → fw_r m 34 i < x) ∧ ∀ i, j ≤ i → i < fw_r m 32 3 → x ≤ fw_r m 34 i
theorem fm_pos_lp {M x1 x2 : Int} (hM : M ≤ 400000) : ∀ (k : Nat) (x j : Int) (c c0 m : fw_M), fg_IN M c0 m → fl_R c m → fl_Q m x j → 1 ≤ x → x + k = fw_r m 32 1 - 1 → 0 ≤ j → j ≤ fw_r m 32 3 → ∃ c' c0', fw_E 125 50 [(2, 32), (0, x1), (0, x2), (0, x)] [] c = fw_E 125 50 [(2, 32), (0, x1), (0, x2), (0, fw_r m 32 1 - 1)] [] c' ∧ fl_R c' (fg_pcn m j (fw_r m 32 3 - j).toNat) ∧ fl_O c c' ∧ fg_IN M c0' (fg_pcn m j (fw_r m 32 3 - j).toNat) := by
  intro k
  induction k with
  | zero =>
    intro x j c c0 m h r q h1 hx j0 j1
    have ex : x = fw_r m 32 1 - 1 := by omega
    have ej : j = fw_r m 32 3 := by
      refine Classical.byContradiction (fun hn => ?_)
      have a := q.2 j (Int.le_refl _) (by omega)
      have b := (h.1.1.2.2.2.1 j j0 (by omega)).1.2
      omega
    have e0 : (fw_r m 32 3 - j).toNat = 0 := by omega
    rw [e0, ex]
    exact ⟨c, c0, rfl, r, fl_O_refl c, h⟩
  | succ k ih =>
    intro x j c c0 m h r q h1 hx j0 j1
    have hN := (fg_facts h).2.2.1
    have hA := r.1.2.1
    by_cases cj : j < fw_r m 32 3 ∧ fw_r m 34 j = x
    · obtain ⟨c1, s1, s2, s3⟩ := fm_serve_ch (a2 := (8, 0)) (a3 := (8, 0)) (a4 := (8, 0)) hM h r j0 cj.1
      obtain ⟨c01, g1⟩ := fg_IN_pc hM h j0 cj.1
      have m34 : ∀ i, fw_r (fg_pc m j) 34 i = fw_r m 34 i := fun i => fg_pco m j (by omega) (by omega) (by omega) (by omega) (by omega) (by omega) (by omega)
      have m1 : fw_r (fg_pc m j) 32 1 = fw_r m 32 1 := fg_pc_n m j (by decide) (by decide)
      have m3 : fw_r (fg_pc m j) 32 3 = fw_r m 32 3 := fg_pc_n m j (by decide) (by decide)
      have q' : fl_Q (fg_pc m j) (x + 1) (j + 1) := by
        refine ⟨fun i a b => ?_, fun i a b => ?_⟩
        · rw [m34]
          by_cases hi : i = j
          · rw [hi, cj.2]; omega
          · have := q.1 i a (by omega); omega
        · rw [m3] at b
          rw [m34]
          have := r.2.2.2.2.2.2 j i j0 (by omega) b
          omega
      obtain ⟨c2, c02, e1, e2, e3, e4⟩ := ih (x + 1) (j + 1) c1 c01 (fg_pc m j) g1 s2 q' (by omega) (by rw [m1]; omega) (by omega) (by rw [m3]; omega)
      have en : (fw_r m 32 3 - j).toNat = (fw_r m 32 3 - (j + 1)).toNat + 1 := by omega
      rw [m3] at e2 e4
      rw [m1] at e1
      refine ⟨c2, c02, ?_, ?_, fl_O_trans s3 e3, ?_⟩
      · rw [cj.2] at s1
        rw [fw_b_125_50, hA.1, if_pos (by omega), fw_b_125_58, s1, fw_bs, fw_cn_5, fw_b_125_63, fw_w_id (by omega) (by omega), e1]
      · rw [en, fg_pcn]; exact e2
      · rw [en, fg_pcn]; exact e4
    · have hnm : fg_nm m x = -1 := fl_nm_no h (fun i a b e => by
        by_cases hi : i < j
        · have := q.1 i a hi; omega
        · by_cases hi2 : i = j
          · exact cj ⟨by omega, by rw [← hi2]; exact e⟩
          · have a1 := q.2 j (Int.le_refl _) (by omega)
            have a2 := r.2.2.2.2.2.2 j i j0 (by omega) b
            omega)
      have s1 := fm_serve_no (a2 := (8, 0)) (a3 := (8, 0)) (a4 := (8, 0)) h r h1 (by omega) hnm
      have q' : fl_Q m (x + 1) j := by
        refine ⟨fun i a b => by have := q.1 i a b; omega, fun i a b => ?_⟩
        have a1 := q.2 i a b
        have : fw_r m 34 i ≠ x := fun e => by
          have := fl_nm_of h (by omega) b
          rw [e, hnm] at this
          omega
        omega
      obtain ⟨c2, c02, e1, e2, e3, e4⟩ := ih (x + 1) j c c0 m h r q' (by omega) (by omega) j0 j1
      refine ⟨c2, c02, ?_, e2, e3, e4⟩
      rw [fw_b_125_50, hA.1, if_pos (by omega), fw_b_125_58, s1, fw_bs, fw_cn_5, fw_b_125_63, fw_w_id (by omega) (by omega), e1]
theorem fl_tick {M : Int} {c c0 m : fw_M} {a1 a2 a3 : fw_V} (hM : M + 1 ≤ 400000) (h : fg_IN M c0 m) (r : fl_R c m) : ∃ c' c0', fw_E 125 0 [(2, 32), a1, a2, a3] [] c = some ((0, fw_r (fg_P1 m) 32 17 - fw_r m 32 17), c') ∧ fl_R c' (fg_P1 m) ∧ fl_O c c' ∧ fg_IN (M + 1) c0' (fg_P1 m) := by
  have hN := (fg_facts h).2.2.1
  obtain ⟨cz, z1, z2, -⟩ := fs_passOneTick (a1 := (8, 0)) (a2 := (8, 0)) hM h
  obtain ⟨c1, p, e1, r1, o1⟩ := fm_move (a1 := a1) (a2 := a2) (a3 := a3) (by omega) h r
  have h1 := fg_IN_move h
  obtain ⟨c2, e2, r2, o2⟩ := fm_serve_0 (a2 := (8, 0)) (a3 := (8, 0)) (a4 := (8, 0)) h1 r1
  obtain ⟨c02, h2⟩ := fg_IN_pl h1
  have mv : ∀ j, j ≠ 16 → fw_r (fg_mvs (fg_tk0 m)) 32 j = fw_r m 32 j := fun j hj => by
    rw [fg_mvs_o _ (by decide) (by decide)]; unfold fg_tk0; rw [fw_r_j _ hj]
  have ml : ∀ j, j ≠ 16 → j ≠ 15 → fw_r (fg_pl (fg_mvs (fg_tk0 m))) 32 j = fw_r m 32 j := fun j hj h5 => by rw [fg_pl_o _ h5, mv j hj]
  have hP : fg_P1 m = fg_po (fg_pcn (fg_pl (fg_mvs (fg_tk0 m))) 0 (fg_n m)) := rfl
  generalize hm2 : fg_pl (fg_mvs (fg_tk0 m)) = m2 at *
  have hq : fl_Q m2 1 0 := ⟨fun i a b => by omega, fun i a b => (h2.1.1.2.2.2.1 i a b).1.2.1⟩
  have k1 := ml 1 (by decide) (by decide)
  have k3 := ml 3 (by decide) (by decide)
  have hn := (fg_facts h).2.1
  obtain ⟨c3, c03, e3, r3, o3, h3⟩ := fm_pos_lp (x1 := fw_r m 32 17) (x2 := p) hM (fw_r m 32 1 - 2).toNat 1 0 c2 c02 m2 h2 r2 hq (by decide) (by rw [k1]; omega) (by decide) (by rw [k3]; omega)
  have en : (fw_r m2 32 3 - 0).toNat = fg_n m := by unfold fg_n; rw [k3]; omega
  rw [en] at r3 h3
  obtain ⟨c4, e4, r4, o4⟩ := fm_serve_last (a2 := (8, 0)) (a3 := (8, 0)) (a4 := (8, 0)) hM h3 r3
  rw [← hP] at r4
  have kk : fw_r (fg_pcn m2 0 (fg_n m)) 32 1 = fw_r m 32 1 := by
    have a := r3.1.2.1.1
    have b := r4.1.2.1.1
    have gen : ∀ (k : Nat) (i : Int) (m : fw_M), fw_r (fg_pcn m i k) 32 1 = fw_r m 32 1 := by
      intro k
      induction k with
      | zero => intro i m; rfl
      | succ k ih => intro i m; rw [fg_pcn, ih, fg_pc_n m i (by decide) (by decide)]
    rw [gen, k1]
  rw [kk] at e4
  rw [k1] at e3
  have hA1 := r1.1.2.1.1
  have hA3 := r3.1.2.1.1
  have hA4 := r4.1.2.1
  have hb := fg_r19 z2
  have hb0 := fg_r19 h
  have kP : fw_r (fg_P1 m) 32 1 = fw_r m 32 1 := by
    rw [hP, fg_poo _ (by omega) (by omega) (by omega), kk]
  refine ⟨c4, cz, ?_, r4, fl_O_trans o1 (fl_O_trans o2 (fl_O_trans o3 o4)), z2⟩
  have fin : fw_E 125 50 [(2, 32), (0, fw_r m 32 17), (0, p), (0, fw_r m 32 1 - 1 + 1)] [] c4 = some ((0, fw_r (fg_P1 m) 32 17 - fw_r m 32 17), c4) := by
    rw [fw_b_125_50, hA4.1, kP, if_neg (by omega), fw_b_125_69, hA4.2.2.2.2.2.2.1, fw_w_id (by omega) (by omega)]
  rw [e1, fw_b_125_50, hA1, mv 1 (by decide), if_pos (by omega), fw_b_125_58, e2, fw_bs, fw_cn_5, fw_b_125_63, fw_w_id (by decide) (by decide)]
  have e01 : (0 : Int) + 1 = 1 := rfl
  rw [e01, e3, fw_b_125_50, hA3, kk, if_pos (by omega), fw_b_125_58, e4, fw_bs, fw_cn_5, fw_b_125_63, fw_w_id (by omega) (by omega), fin]
