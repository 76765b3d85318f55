/-! a tick of the reference -/
theorem fg_IN_pc {M : Int} {c m : fw_M} {i : Int} (hM : M ≤ 400000) (h : fg_IN M c m) (h0 : 0 ≤ i) (hi : i < fw_r m 32 3) : ∃ c', fg_IN M c' (fg_pc m i) := by
  obtain ⟨c', -, q, -⟩ := fs_dropInto (a2 := (8, 0)) (a3 := (8, 0)) hM h h0 hi
  exact ⟨c', q⟩
theorem fg_IN_po {M : Int} {c m : fw_M} (hM : M ≤ 400000) (h : fg_IN M c m) : ∃ c', fg_IN M c' (fg_po m) := by
  obtain ⟨c', -, q, -⟩ := fs_dropOver (a1 := (8, 0)) (a2 := (8, 0)) hM h
  exact ⟨c', q⟩
theorem fg_IN_pl {M : Int} {c m : fw_M} (h : fg_IN M c m) : ∃ c', fg_IN M c' (fg_pl m) := by
  obtain ⟨c', -, q, -⟩ := fs_tick_load (a1 := (8, 0)) (a2 := (8, 0)) h
  exact ⟨c', q⟩
def fg_P2 (m : fw_M) : fw_M := fg_pl (fg_po (fg_pcn (fg_mvs (fg_tk0 m)) 0 (fg_n m)))
/-! both orders of a tick leave the same -/
theorem fg_pll_eq : ∀ (m : fw_M), fg_lv m = 1 → fg_pl m = fg_us (fg_pll m) m := fun m h => by unfold fg_pl; rw [if_pos h]; rfl
theorem fg_pl_0 {m : fw_M} (h : fg_lv m = 0) : fg_pl m = m := by unfold fg_pl; rw [if_neg (by omega)]
theorem fg_plo (m : fw_M) {a b : Int} (h33 : a ≠ 33 ∨ b ≠ 0) (h39 : a ≠ 39 ∨ b ≠ fw_r m 32 15) (h32 : a ≠ 32 ∨ b ≠ 15) : fw_r (fg_pl m) a b = fw_r m a b := by
  rcases fg_lv_01 m with h | h
  · rw [fg_pl_0 h]
  · rw [fg_pll_eq m h]; exact fg_pll_o m h33 h39 h32
theorem fg_pco (m : fw_M) (i : Int) {a b : Int} (h33 : a ≠ 33 ∨ b ≠ fw_r m 34 i) (h43 : a ≠ 43 ∨ b ≠ 30 * i + fw_r m 42 i) (h42 : a ≠ 42 ∨ b ≠ i) (h44 : a ≠ 44 ∨ b ≠ i) (h45 : a ≠ 45 ∨ b ≠ i) (h39 : a ≠ 39 ∨ b ≠ fw_r m 33 (fw_r m 34 i)) (h32 : a ≠ 32 ∨ (b ≠ 17 ∧ b ≠ 18)) : fw_r (fg_pc m i) a b = fw_r m a b := by
  unfold fg_pc; split
  · exact fg_pcl_o m i h33 h43 h42 h44 h45 h39 h32
  · rfl
theorem fg_poo (m : fw_M) {a b : Int} (h33 : a ≠ 33 ∨ b ≠ fw_r m 32 1 - 1) (h39 : a ≠ 39 ∨ b ≠ fw_r m 33 (fw_r m 32 1 - 1)) (h32 : a ≠ 32 ∨ (b ≠ 17 ∧ b ≠ 18 ∧ b ≠ 19)) : fw_r (fg_po m) a b = fw_r m a b := by
  unfold fg_po; split
  · exact fg_pol_o m h33 h39 h32
  · rfl
theorem fg_pl_pc {m : fw_M} {i : Int} (h : fw_r m 34 i ≠ 0) (hp : fw_r m 33 (fw_r m 34 i) ≠ fw_r m 32 15) : fg_pl (fg_pc m i) = fg_pc (fg_pl m) i := by
  have e1 : fg_dv (fg_pl m) i = fg_dv m i := by
    unfold fg_dv
    simp (disch := omega) only [fg_plo]
  have e2 : fg_lv (fg_pc m i) = fg_lv m := by
    unfold fg_lv
    simp (disch := omega) only [fg_pco]
  rcases fg_dv_01 m i with hd | hd
  · have z1 : fg_pc m i = m := by unfold fg_pc; rw [if_neg (by omega)]
    have z2 : fg_pc (fg_pl m) i = fg_pl m := by unfold fg_pc; rw [if_neg (by omega)]
    rw [z1, z2]
  · rcases fg_lv_01 m with hl | hl
    · rw [fg_pl_0 (e2.trans hl), fg_pl_0 hl]
    · have z1 : fg_pc m i = fg_us (fg_pcl m i) m := by unfold fg_pc; rw [if_pos hd]
      have z2 : fg_pc (fg_pl m) i = fg_us (fg_pcl m i) (fg_pl m) := by
        unfold fg_pc; rw [if_pos (e1.trans hd)]
        congr 1
        unfold fg_pcl
        simp (disch := omega) only [fg_plo]
      have z3 : fg_pl (fg_pc m i) = fg_us (fg_pll m) (fg_pc m i) := by
        rw [fg_pll_eq _ (e2.trans hl)]
        congr 1
        unfold fg_pll
        simp (disch := omega) only [fg_pco]
      rw [z3, z2, z1, fg_pll_eq _ hl]
      refine fg_us_comm _ _ _ ?_
      unfold fg_pll fg_pcl
      simp only [List.mem_cons, List.not_mem_nil, or_false, forall_eq_or_imp, forall_eq]
      omega
theorem fg_pl_po {m : fw_M} (h : 4 ≤ fw_r m 32 1) (hp : fw_r m 33 (fw_r m 32 1 - 1) ≠ fw_r m 32 15) : fg_pl (fg_po m) = fg_po (fg_pl m) := by
  have e1 : fg_ov (fg_pl m) = fg_ov m := by
    unfold fg_ov
    simp (disch := omega) only [fg_plo]
  have e2 : fg_lv (fg_po m) = fg_lv m := by
    unfold fg_lv
    simp (disch := omega) only [fg_poo]
  rcases fg_ov_01 m with hd | hd
  · have z1 : fg_po m = m := by unfold fg_po; rw [if_neg (by omega)]
    have z2 : fg_po (fg_pl m) = fg_pl m := by unfold fg_po; rw [if_neg (by omega)]
    rw [z1, z2]
  · rcases fg_lv_01 m with hl | hl
    · rw [fg_pl_0 (e2.trans hl), fg_pl_0 hl]
    · have z1 : fg_po m = fg_us (fg_pol m) m := by unfold fg_po; rw [if_pos hd]
      have z2 : fg_po (fg_pl m) = fg_us (fg_pol m) (fg_pl m) := by
        unfold fg_po; rw [if_pos (e1.trans hd)]
        congr 1
        unfold fg_pol
        simp (disch := omega) only [fg_plo]
      have z3 : fg_pl (fg_po m) = fg_us (fg_pll m) (fg_po m) := by
        rw [fg_pll_eq _ (e2.trans hl)]
        congr 1
        unfold fg_pll
        simp (disch := omega) only [fg_poo]
      rw [z3, z2, z1, fg_pll_eq _ hl]
      refine fg_us_comm _ _ _ ?_
      unfold fg_pll fg_pol
      simp only [List.mem_cons, List.not_mem_nil, or_false, forall_eq_or_imp, forall_eq]
      omega
theorem fg_pcn_pl : ∀ (k : Nat) (i M : Int) (c m : fw_M), M ≤ 400000 → fg_IN M c m → 0 ≤ i → i + k = fw_r m 32 3 → fg_pcn (fg_pl m) i k = fg_pl (fg_pcn m i k) := by
  intro k
  induction k with
  | zero => intro i M c m hM h h0 h1; rfl
  | succ k ih =>
    intro i M c m hM h h0 h1
    have hc := h.1.1.2.2.2.1 i h0 (by omega)
    have ht := h.2.1.2.1.2.2.1 (fw_r m 34 i) (by omega) (by have := h.1.1.2.1.1; omega)
    obtain ⟨c1, q1⟩ := fg_IN_pc hM h h0 (by omega : i < fw_r m 32 3)
    have e3 : fw_r (fg_pc m i) 32 3 = fw_r m 32 3 := fg_pc_n m i (by decide) (by decide)
    rw [fg_pcn, fg_pcn, ← fg_pl_pc (by omega) (by omega)]
    exact ih (i + 1) M c1 (fg_pc m i) hM q1 (by omega) (by rw [e3]; omega)
def fg_Pn : Nat → fw_M → fw_M
  | 0, m => m
  | k + 1, m => fg_Pn k (fg_P1 m)
theorem fs_pass_lp {x : Int} : ∀ (k : Nat) (i acc M : Int) (c m : fw_M), M + k ≤ 400000 → fg_IN M c m → 0 ≤ i → i + k = x → x ≤ 200 → 0 ≤ acc → acc ≤ 7 * i → ∃ c', fw_E 77 8 [(2, 1), (0, x), (0, acc), (0, i)] [] c = some ((0, acc + (fw_r (fg_Pn k m) 32 17 - fw_r m 32 17)), c') ∧ fg_IN (M + k) c' (fg_Pn k m) ∧ fg_CFr c c' := by
  intro k
  induction k with
  | zero =>
    intro i acc M c m hM h h0 h1 h2 h3 h4
    refine ⟨c, ?_, ?_, fg_CFr_refl c⟩
    · rw [fw_b_77_8, if_neg (by omega), fw_b_77_26]
      simp only [fg_Pn, Int.sub_self, Int.add_zero]
    · have : M + ((0 : Nat) : Int) = M := by omega
      rw [this]; exact h
  | succ k ih =>
    intro i acc M c m hM h h0 h1 h2 h3 h4
    obtain ⟨c1, q1, q2, q3, q4⟩ := fs_passOneTick (a1 := (8, 0)) (a2 := (8, 0)) (by omega) h
    obtain ⟨c2, r1, r2, r3⟩ := ih (i + 1) (acc + (fw_r (fg_P1 m) 32 17 - fw_r m 32 17)) (M + 1) c1 (fg_P1 m) (by omega) q2 (by omega) (by omega) h2 (by omega) (by omega)
    have ea : acc + (fw_r (fg_P1 m) 32 17 - fw_r m 32 17) + (fw_r (fg_Pn k (fg_P1 m)) 32 17 - fw_r (fg_P1 m) 32 17) = acc + (fw_r (fg_Pn (k + 1) m) 32 17 - fw_r m 32 17) := by
      rw [fg_Pn]; omega
    have eM : M + 1 + (k : Int) = M + ((k + 1 : Nat) : Int) := by omega
    rw [ea] at r1
    rw [eM] at r2
    refine ⟨c2, ?_, r2, fg_CFr_trans q3 r3⟩
    rw [← r1, fw_b_77_8, if_pos (by omega), fw_b_77_13, q1, fw_bs, fw_cn_0, fw_b_77_18, fw_w_id (by omega) (by omega), fw_w_id (by omega) (by omega)]
