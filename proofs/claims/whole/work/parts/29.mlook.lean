/-! updates that do not meet -/
def fg_us : List (Int × Int × Int) → fw_M → fw_M
  | [], m => m
  | (a, b, v) :: l, m => fg_us l (fw_u m a b v)
theorem fw_u_comm (m : fw_M) {a b v a' b' v' : Int} (h : ¬(a = a' ∧ b = b')) : fw_u (fw_u m a b v) a' b' v' = fw_u (fw_u m a' b' v') a b v := by
  funext x y
  unfold fw_u
  by_cases h1 : x = a ∧ y = b
  · by_cases h2 : x = a' ∧ y = b'
    · exact absurd ⟨h1.1.symm.trans h2.1, h1.2.symm.trans h2.2⟩ h
    · rw [if_neg h2, if_pos h1, if_pos h1]
  · by_cases h2 : x = a' ∧ y = b'
    · rw [if_pos h2, if_neg h1, if_pos h2]
    · rw [if_neg h2, if_neg h1, if_neg h1, if_neg h2]
theorem fg_us_1 : ∀ (l : List (Int × Int × Int)) (m : fw_M) (a b v : Int), (∀ y ∈ l, ¬(a = y.1 ∧ b = y.2.1)) → fg_us l (fw_u m a b v) = fw_u (fg_us l m) a b v := by
  intro l
  induction l with
  | nil => intro m a b v h; rfl
  | cons x l ih =>
    intro m a b v h
    obtain ⟨a', b', v'⟩ := x
    show fg_us l (fw_u (fw_u m a b v) a' b' v') = fw_u (fg_us l (fw_u m a' b' v')) a b v
    rw [fw_u_comm m (h (a', b', v') (List.mem_cons_self ..)), ih _ _ _ _ (fun y hy => h y (List.mem_cons_of_mem _ hy))]
theorem fg_us_comm : ∀ (l1 l2 : List (Int × Int × Int)) (m : fw_M), (∀ x ∈ l1, ∀ y ∈ l2, ¬(x.1 = y.1 ∧ x.2.1 = y.2.1)) → fg_us l1 (fg_us l2 m) = fg_us l2 (fg_us l1 m) := by
  intro l1
  induction l1 with
  | nil => intro l2 m h; rfl
  | cons x l ih =>
    intro l2 m h
    obtain ⟨a, b, v⟩ := x
    show fg_us l (fw_u (fg_us l2 m) a b v) = fg_us l2 (fg_us l (fw_u m a b v))
    rw [← fg_us_1 l2 m a b v (fun y hy => h (a, b, v) (List.mem_cons_self ..) y hy), ih l2 _ (fun x hx y hy => h x (List.mem_cons_of_mem _ hx) y hy)]
/-! the reference's look ahead -/
def fg_MC (m : fw_M) : Prop := fw_ptr m ∧ (0 ≤ fw_r m 32 3 ∧ fw_r m 32 3 ≤ 6) ∧ (4 ≤ fw_r m 32 1 ∧ fw_r m 32 1 ≤ 20) ∧ (0 ≤ fw_r m 32 10 ∧ fw_r m 32 10 ≤ 300) ∧ (∀ i, 0 ≤ i → i < fw_r m 32 3 → (1 ≤ fw_r m 34 i ∧ fw_r m 34 i ≤ fw_r m 32 1 - 2) ∧ (1 ≤ fw_r m 35 i ∧ fw_r m 35 i ≤ 30)) ∧ (∀ i j, 0 ≤ i → i < fw_r m 32 3 → 0 ≤ j → j < fw_r m 32 3 → fw_r m 34 i = fw_r m 34 j → i = j) ∧ (∀ p, 0 ≤ p → p < fw_r m 32 10 → 0 ≤ fw_r m 37 p ∧ fw_r m 37 p < 8)
theorem fg_MC_of {c m : fw_M} (h : fg_CF c m) (hp : fw_ptr m) : fg_MC m := by
  obtain ⟨⟨a1, a2, a3⟩, ⟨b0, b1, b2, b3, b4, b5⟩, e1, e2, e3, e4, e5⟩ := h
  have a4 := a2.1
  have a5 := a2.2.1
  refine ⟨hp, by omega, b0, e1.2.2.2, fun i h1 h2 => ?_, e3, fun p h1 h2 => ?_⟩
  · have := e2 i h1 h2; omega
  · have := e4 p h1 h2; omega
theorem fg_MC_m {m m' : fw_M} (h : fg_MC m) (hp : fw_ptr m') (h1 : ∀ j, j ≠ 15 → j ≠ 16 → j ≠ 17 → j ≠ 18 → j ≠ 19 → j ≠ 0 → fw_r m' 32 j = fw_r m 32 j) (h2 : ∀ a j, (a = 34 ∨ a = 35 ∨ a = 37) → fw_r m' a j = fw_r m a j) : fg_MC m' := by
  have q1 := h1 1 (by decide) (by decide) (by decide) (by decide) (by decide) (by decide)
  have q3 := h1 3 (by decide) (by decide) (by decide) (by decide) (by decide) (by decide)
  have q10 := h1 10 (by decide) (by decide) (by decide) (by decide) (by decide) (by decide)
  have r34 := fun j => h2 34 j (by decide)
  have r35 := fun j => h2 35 j (by decide)
  have r37 := fun j => h2 37 j (by decide)
  obtain ⟨a, b⟩ := h
  refine ⟨hp, ?_⟩
  simp only [q1, q3, q10, r34, r35, r37]
  exact b
def fg_ML (M : Int) (m : fw_M) : Prop := fg_MC m ∧ fg_TR m ∧ (∀ i, 0 ≤ i → i < fw_r m 32 3 → 0 ≤ fw_r m 42 i ∧ fw_r m 42 i ≤ 30) ∧ (∀ p, 0 ≤ p → p < fw_r m 32 10 → 0 ≤ fw_r m 40 p ∧ fw_r m 40 p ≤ M)
def fg_sh (m : fw_M) (j : Int) : fw_M := fun a b => if a = 33 ∧ j < b ∧ b < fw_r m 32 1 then fw_r m 33 (b - 1) else m a b
theorem fg_sh_r (m : fw_M) (j a b : Int) : fw_r (fg_sh m j) a b = if a = 33 ∧ j < b ∧ b < fw_r m 32 1 then fw_r m 33 (b - 1) else fw_r m a b := rfl
theorem fg_sh_o (m : fw_M) (j : Int) {a b : Int} (h : a ≠ 33) : fw_r (fg_sh m j) a b = fw_r m a b := by rw [fg_sh_r, if_neg (fun hc => h hc.1)]
theorem fg_ptr_of {m m' : fw_M} (h : fw_ptr m) (he : ∀ q ∈ fw_psT, fw_r m' q.1 q.2.1 = fw_r m q.1 q.2.1) : fw_ptr m' := fun q hq => (he q hq).trans (h q hq)
theorem fg_ps_no : ∀ q ∈ fw_psT, q.1 ≠ 33 ∧ q.1 ≠ 40 ∧ q.1 ≠ 39 ∧ q.1 ≠ 42 ∧ q.1 ≠ -1 := by decide
theorem fg_sh_ptr {m : fw_M} (j : Int) (h : fw_ptr m) : fw_ptr (fg_sh m j) := fg_ptr_of h (fun q hq => fg_sh_o m j (fg_ps_no q hq).1)
theorem fg_mvs_ptr {m : fw_M} (h : fw_ptr m) : fw_ptr (fg_mvs m) := fg_ptr_of h (fun q hq => fg_mvs_o m (fg_ps_no q hq).1 (fg_ps_no q hq).2.1)
theorem fs_moves_lp {m : fw_M} (hp : fw_ptr m) (hN : 4 ≤ fw_r m 32 1 ∧ fw_r m 32 1 ≤ 20) (v : Int) : ∀ (k : Nat), (k : Int) ≤ fw_r m 32 1 - 1 → fw_E 140 19 [(2, 32), (0, v), (0, (k : Int))] [] (fg_sh m k) = fw_E 140 43 [(2, 32), (0, v), (0, 0)] [] (fg_sh m 0) := by
  intro k
  induction k with
  | zero =>
    intro h
    have e0 : ((0 : Nat) : Int) = 0 := rfl
    rw [e0, fw_b_140_19, if_neg (by omega)]
  | succ k ih =>
    intro h
    have hp2 := fg_sh_ptr ((k + 1 : Nat) : Int) hp
    have e1 : ((k + 1 : Nat) : Int) = (k : Int) + 1 := by omega
    have eu : fw_u (fg_sh m ((k : Int) + 1)) 33 ((k : Int) + 1) (fw_r (fg_sh m ((k : Int) + 1)) 33 (k : Int)) = fg_sh m (k : Int) := by
      have ev : fw_r (fg_sh m ((k : Int) + 1)) 33 (k : Int) = fw_r m 33 (k : Int) := by rw [fg_sh_r, if_neg (by omega)]
      rw [ev]
      funext a b
      unfold fw_u fg_sh
      by_cases h1 : a = 33 ∧ b = (k : Int) + 1
      · rw [if_pos h1, if_pos (by omega), h1.2]
        congr 1; omega
      · rw [if_neg h1]
        by_cases h2 : a = 33 ∧ (k : Int) + 1 < b ∧ b < fw_r m 32 1
        · rw [if_pos h2, if_pos (by omega)]
        · rw [if_neg h2, if_neg (by omega)]
    rw [e1] at hp2 ⊢
    rw [fw_b_140_19, if_pos (by omega)]
    have ew : fw_w ((k : Int) + 1 - 1) = (k : Int) := by rw [fw_w_id (by omega) (by omega)]; omega
    have ew2 : fw_w ((k : Int) + 1 + -1) = (k : Int) := by rw [fw_w_id (by omega) (by omega)]; omega
    rw [fw_b_140_23 _ _ _ hp2 (by omega) (by omega) (by omega) (by omega), ew, eu, fw_b_140_37, ew2]
    exact ih (by omega)
theorem fs_moves {m : fw_M} {M : Int} {a1 a2 : fw_V} (h : fg_ML M m) (hM : M ≤ 1000000000) : fw_E 140 0 [(2, 32), a1, a2] [] m = some ((5, 0), fg_mvs m) := by
  obtain ⟨⟨hp, hn, hN, hP, -⟩, ht, hm, hr⟩ := h
  have ew : fw_w (fw_r m 32 1 - 1) = fw_r m 32 1 - 1 := fw_w_id (by omega) (by omega)
  have hl := ht.2.2.1 (fw_r m 32 1 - 1) (by omega) (by omega)
  have hF := ht.2.1
  rw [fw_b_140_0 _ _ _ hp (by omega) (by omega), ew]
  have e0 : fg_sh m (((fw_r m 32 1 - 1).toNat : Nat) : Int) = m := by
    have : (((fw_r m 32 1 - 1).toNat : Nat) : Int) = fw_r m 32 1 - 1 := by omega
    rw [this]
    funext a b
    unfold fg_sh
    rw [if_neg (by omega)]
  have hlp := fs_moves_lp hp hN (fw_r m 33 (fw_r m 32 1 - 1)) (fw_r m 32 1 - 1).toNat (by omega)
  rw [e0] at hlp
  have e1 : (((fw_r m 32 1 - 1).toNat : Nat) : Int) = fw_r m 32 1 - 1 := by omega
  rw [e1] at hlp
  have hp2 : fw_ptr (fw_u (fg_sh m 0) 33 0 (fw_r m 33 (fw_r m 32 1 - 1))) := by rw [fw_ptr_33]; exact fg_sh_ptr 0 hp
  rw [hlp, fw_b_140_43 _ _ _ (fg_sh_ptr 0 hp), fw_b_140_50]
  by_cases hc : fw_r m 33 (fw_r m 32 1 - 1) = -1
  · rw [if_pos hc, fw_b_140_65]
    congr 2
    funext a b
    show (if a = 33 ∧ b = 0 then fw_r m 33 (fw_r m 32 1 - 1) else fg_sh m 0 a b) = fw_r (fg_mvs m) a b
    rw [fg_mvs_r]
    unfold fg_sh fg_bk
    by_cases h1 : a = 33 ∧ 0 ≤ b ∧ b < fw_r m 32 1
    · rw [if_pos h1]
      by_cases h2 : b = 0
      · rw [if_pos ⟨h1.1, h2⟩, if_pos h2]
      · rw [if_neg (fun h => h2 h.2), if_neg h2, if_pos (by omega)]
    · rw [if_neg h1, if_neg (by omega), if_neg (by omega), if_neg (fun h => h.2.2 hc)]; rfl
  · rw [if_neg hc]
    have hr2 := hr _ (by omega : 0 ≤ fw_r m 33 (fw_r m 32 1 - 1)) (by omega)
    have er : fw_r (fw_u (fg_sh m 0) 33 0 (fw_r m 33 (fw_r m 32 1 - 1))) 40 (fw_r m 33 (fw_r m 32 1 - 1)) = fw_r m 40 (fw_r m 33 (fw_r m 32 1 - 1)) := by
      rw [fw_r_k _ (by decide), fg_sh_o _ _ (by decide)]
    rw [fw_b_140_55 _ _ _ hp2 (by omega) (by omega), er, fw_w_id (by omega) (by omega), fw_b_140_65]
    congr 2
    funext a b
    show (if a = 40 ∧ b = fw_r m 33 (fw_r m 32 1 - 1) then fw_r m 40 (fw_r m 33 (fw_r m 32 1 - 1)) + 1 else if a = 33 ∧ b = 0 then fw_r m 33 (fw_r m 32 1 - 1) else fg_sh m 0 a b) = fw_r (fg_mvs m) a b
    rw [fg_mvs_r]
    unfold fg_sh fg_bk
    by_cases h1 : a = 33 ∧ 0 ≤ b ∧ b < fw_r m 32 1
    · rw [if_pos h1, if_neg (by omega)]
      by_cases h2 : b = 0
      · rw [if_pos ⟨h1.1, h2⟩, if_pos h2]
      · rw [if_neg (fun h => h2 h.2), if_neg h2, if_pos (by omega)]
    · rw [if_neg h1]
      by_cases h3 : a = 40 ∧ b = fw_r m 33 (fw_r m 32 1 - 1)
      · rw [if_pos h3, if_pos ⟨h3.1, h3.2, hc⟩, h3.2]
      · rw [if_neg h3, if_neg (by omega), if_neg (by omega), if_neg (fun h => h3 ⟨h.1, h.2.1⟩)]; rfl
theorem fs_drops {m : fw_M} {M i : Int} {a2 : fw_V} (h : fg_ML M m) (h0 : 0 ≤ i) (h1 : i < fw_r m 32 3) : fw_E 141 0 [(2, 32), (0, i), a2] [] m = some ((0, fg_dv m i), m) := by
  obtain ⟨⟨hp, hn, hN, hP, hc, hd, hro⟩, ht, hm, hr⟩ := h
  have hi := hc i h0 h1
  have hp1 := ht.2.2.1 (fw_r m 34 i) (by omega) (by omega)
  have hF := ht.2.1
  unfold fg_dv
  by_cases c1 : fw_r m 33 (fw_r m 34 i) = -1
  · rw [if_neg (fun h => h.1 c1)]
    simp (disch := first | omega | assumption | (simp (disch := omega) only [fw_w_id, fw_wl_id, fw_r_k, fw_r_j, fw_r_s]; omega) | (simp only [fw_ptr_1_8, fw_ptr_2_5, fw_ptr_2_6, fw_ptr_2_7, fw_ptr_2_8, fw_ptr_2_9, fw_ptr_8_2, fw_ptr_8_3, fw_ptr_11_2, fw_ptr_11_3, fw_ptr_11_4, fw_ptr_11_5, fw_ptr_11_6, fw_ptr_17_8, fw_ptr_18_2, fw_ptr_18_3, fw_ptr_25_1, fw_ptr_27_2, fw_ptr_28_1, fw_ptr_32_0, fw_ptr_32_1, fw_ptr_32_3, fw_ptr_32_7, fw_ptr_32_8, fw_ptr_32_9, fw_ptr_32_10, fw_ptr_32_15, fw_ptr_32_16, fw_ptr_32_17, fw_ptr_32_18, fw_ptr_32_19, fw_ptr_32_25, fw_ptr_32_29, fw_ptr_3, fw_ptr_4, fw_ptr_5, fw_ptr_6, fw_ptr_7, fw_ptr_9, fw_ptr_10, fw_ptr_13, fw_ptr_15, fw_ptr_16, fw_ptr_19, fw_ptr_20, fw_ptr_21, fw_ptr_22, fw_ptr_23, fw_ptr_24, fw_ptr_26, fw_ptr_29, fw_ptr_30, fw_ptr_31, fw_ptr_33, fw_ptr_34, fw_ptr_35, fw_ptr_36, fw_ptr_37, fw_ptr_38, fw_ptr_39, fw_ptr_40, fw_ptr_41, fw_ptr_42, fw_ptr_43, fw_ptr_44, fw_ptr_45, fw_ptr_46, fw_ptr_47, fw_ptr_48, fw_ptr_49, fw_ptr_50, fw_ptr_51, fw_ptr_52, fw_ptr_53, fw_ptr_54, fw_ptr_55, fw_ptr_12, fw_ptr_x, fw_ptr_hi, fw_ptr_b3, fw_ptr_b1, fw_ptr_b2, fw_ptr_b2_]; assumption)) only [fw_b_141_0, fw_b_141_17, fw_b_141_60, fw_b_141_26, fw_b_141_41, fw_b_141_56, ↓if_pos, ↓if_neg, if_neg, if_pos, fw_bs, fw_cn_0, fw_cn_1, fw_cn_2, fw_cn_3, fw_cn_4, fw_cn_5, Nat.reduceAdd, fw_w_id, fw_wl_id, fw_r_k, fw_r_j, fw_r_s, if_true, if_false]
  · have hr1 := hro (fw_r m 33 (fw_r m 34 i)) (by omega) (by omega)
    by_cases c2 : fw_r m 36 i = 0
    · by_cases c3 : fw_r m 41 (fw_r m 37 (fw_r m 33 (fw_r m 34 i))) = i
      · by_cases c4 : fw_r m 42 i < fw_r m 35 i
        · rw [if_pos ⟨c1, c2, c3, c4⟩]
          simp (disch := first | omega | assumption | (simp (disch := omega) only [fw_w_id, fw_wl_id, fw_r_k, fw_r_j, fw_r_s]; omega) | (simp only [fw_ptr_1_8, fw_ptr_2_5, fw_ptr_2_6, fw_ptr_2_7, fw_ptr_2_8, fw_ptr_2_9, fw_ptr_8_2, fw_ptr_8_3, fw_ptr_11_2, fw_ptr_11_3, fw_ptr_11_4, fw_ptr_11_5, fw_ptr_11_6, fw_ptr_17_8, fw_ptr_18_2, fw_ptr_18_3, fw_ptr_25_1, fw_ptr_27_2, fw_ptr_28_1, fw_ptr_32_0, fw_ptr_32_1, fw_ptr_32_3, fw_ptr_32_7, fw_ptr_32_8, fw_ptr_32_9, fw_ptr_32_10, fw_ptr_32_15, fw_ptr_32_16, fw_ptr_32_17, fw_ptr_32_18, fw_ptr_32_19, fw_ptr_32_25, fw_ptr_32_29, fw_ptr_3, fw_ptr_4, fw_ptr_5, fw_ptr_6, fw_ptr_7, fw_ptr_9, fw_ptr_10, fw_ptr_13, fw_ptr_15, fw_ptr_16, fw_ptr_19, fw_ptr_20, fw_ptr_21, fw_ptr_22, fw_ptr_23, fw_ptr_24, fw_ptr_26, fw_ptr_29, fw_ptr_30, fw_ptr_31, fw_ptr_33, fw_ptr_34, fw_ptr_35, fw_ptr_36, fw_ptr_37, fw_ptr_38, fw_ptr_39, fw_ptr_40, fw_ptr_41, fw_ptr_42, fw_ptr_43, fw_ptr_44, fw_ptr_45, fw_ptr_46, fw_ptr_47, fw_ptr_48, fw_ptr_49, fw_ptr_50, fw_ptr_51, fw_ptr_52, fw_ptr_53, fw_ptr_54, fw_ptr_55, fw_ptr_12, fw_ptr_x, fw_ptr_hi, fw_ptr_b3, fw_ptr_b1, fw_ptr_b2, fw_ptr_b2_]; assumption)) only [fw_b_141_0, fw_b_141_17, fw_b_141_60, fw_b_141_26, fw_b_141_41, fw_b_141_56, ↓if_pos, ↓if_neg, if_neg, if_pos, fw_bs, fw_cn_0, fw_cn_1, fw_cn_2, fw_cn_3, fw_cn_4, fw_cn_5, Nat.reduceAdd, fw_w_id, fw_wl_id, fw_r_k, fw_r_j, fw_r_s, if_true, if_false]
        · rw [if_neg (fun h => c4 h.2.2.2)]
          simp (disch := first | omega | assumption | (simp (disch := omega) only [fw_w_id, fw_wl_id, fw_r_k, fw_r_j, fw_r_s]; omega) | (simp only [fw_ptr_1_8, fw_ptr_2_5, fw_ptr_2_6, fw_ptr_2_7, fw_ptr_2_8, fw_ptr_2_9, fw_ptr_8_2, fw_ptr_8_3, fw_ptr_11_2, fw_ptr_11_3, fw_ptr_11_4, fw_ptr_11_5, fw_ptr_11_6, fw_ptr_17_8, fw_ptr_18_2, fw_ptr_18_3, fw_ptr_25_1, fw_ptr_27_2, fw_ptr_28_1, fw_ptr_32_0, fw_ptr_32_1, fw_ptr_32_3, fw_ptr_32_7, fw_ptr_32_8, fw_ptr_32_9, fw_ptr_32_10, fw_ptr_32_15, fw_ptr_32_16, fw_ptr_32_17, fw_ptr_32_18, fw_ptr_32_19, fw_ptr_32_25, fw_ptr_32_29, fw_ptr_3, fw_ptr_4, fw_ptr_5, fw_ptr_6, fw_ptr_7, fw_ptr_9, fw_ptr_10, fw_ptr_13, fw_ptr_15, fw_ptr_16, fw_ptr_19, fw_ptr_20, fw_ptr_21, fw_ptr_22, fw_ptr_23, fw_ptr_24, fw_ptr_26, fw_ptr_29, fw_ptr_30, fw_ptr_31, fw_ptr_33, fw_ptr_34, fw_ptr_35, fw_ptr_36, fw_ptr_37, fw_ptr_38, fw_ptr_39, fw_ptr_40, fw_ptr_41, fw_ptr_42, fw_ptr_43, fw_ptr_44, fw_ptr_45, fw_ptr_46, fw_ptr_47, fw_ptr_48, fw_ptr_49, fw_ptr_50, fw_ptr_51, fw_ptr_52, fw_ptr_53, fw_ptr_54, fw_ptr_55, fw_ptr_12, fw_ptr_x, fw_ptr_hi, fw_ptr_b3, fw_ptr_b1, fw_ptr_b2, fw_ptr_b2_]; assumption)) only [fw_b_141_0, fw_b_141_17, fw_b_141_60, fw_b_141_26, fw_b_141_41, fw_b_141_56, ↓if_pos, ↓if_neg, if_neg, if_pos, fw_bs, fw_cn_0, fw_cn_1, fw_cn_2, fw_cn_3, fw_cn_4, fw_cn_5, Nat.reduceAdd, fw_w_id, fw_wl_id, fw_r_k, fw_r_j, fw_r_s, if_true, if_false]
      · rw [if_neg (fun h => c3 h.2.2.1)]
        simp (disch := first | omega | assumption | (simp (disch := omega) only [fw_w_id, fw_wl_id, fw_r_k, fw_r_j, fw_r_s]; omega) | (simp only [fw_ptr_1_8, fw_ptr_2_5, fw_ptr_2_6, fw_ptr_2_7, fw_ptr_2_8, fw_ptr_2_9, fw_ptr_8_2, fw_ptr_8_3, fw_ptr_11_2, fw_ptr_11_3, fw_ptr_11_4, fw_ptr_11_5, fw_ptr_11_6, fw_ptr_17_8, fw_ptr_18_2, fw_ptr_18_3, fw_ptr_25_1, fw_ptr_27_2, fw_ptr_28_1, fw_ptr_32_0, fw_ptr_32_1, fw_ptr_32_3, fw_ptr_32_7, fw_ptr_32_8, fw_ptr_32_9, fw_ptr_32_10, fw_ptr_32_15, fw_ptr_32_16, fw_ptr_32_17, fw_ptr_32_18, fw_ptr_32_19, fw_ptr_32_25, fw_ptr_32_29, fw_ptr_3, fw_ptr_4, fw_ptr_5, fw_ptr_6, fw_ptr_7, fw_ptr_9, fw_ptr_10, fw_ptr_13, fw_ptr_15, fw_ptr_16, fw_ptr_19, fw_ptr_20, fw_ptr_21, fw_ptr_22, fw_ptr_23, fw_ptr_24, fw_ptr_26, fw_ptr_29, fw_ptr_30, fw_ptr_31, fw_ptr_33, fw_ptr_34, fw_ptr_35, fw_ptr_36, fw_ptr_37, fw_ptr_38, fw_ptr_39, fw_ptr_40, fw_ptr_41, fw_ptr_42, fw_ptr_43, fw_ptr_44, fw_ptr_45, fw_ptr_46, fw_ptr_47, fw_ptr_48, fw_ptr_49, fw_ptr_50, fw_ptr_51, fw_ptr_52, fw_ptr_53, fw_ptr_54, fw_ptr_55, fw_ptr_12, fw_ptr_x, fw_ptr_hi, fw_ptr_b3, fw_ptr_b1, fw_ptr_b2, fw_ptr_b2_]; assumption)) only [fw_b_141_0, fw_b_141_17, fw_b_141_60, fw_b_141_26, fw_b_141_41, fw_b_141_56, ↓if_pos, ↓if_neg, if_neg, if_pos, fw_bs, fw_cn_0, fw_cn_1, fw_cn_2, fw_cn_3, fw_cn_4, fw_cn_5, Nat.reduceAdd, fw_w_id, fw_wl_id, fw_r_k, fw_r_j, fw_r_s, if_true, if_false]
    · rw [if_neg (fun h => c2 h.2.1)]
      simp (disch := first | omega | assumption | (simp (disch := omega) only [fw_w_id, fw_wl_id, fw_r_k, fw_r_j, fw_r_s]; omega) | (simp only [fw_ptr_1_8, fw_ptr_2_5, fw_ptr_2_6, fw_ptr_2_7, fw_ptr_2_8, fw_ptr_2_9, fw_ptr_8_2, fw_ptr_8_3, fw_ptr_11_2, fw_ptr_11_3, fw_ptr_11_4, fw_ptr_11_5, fw_ptr_11_6, fw_ptr_17_8, fw_ptr_18_2, fw_ptr_18_3, fw_ptr_25_1, fw_ptr_27_2, fw_ptr_28_1, fw_ptr_32_0, fw_ptr_32_1, fw_ptr_32_3, fw_ptr_32_7, fw_ptr_32_8, fw_ptr_32_9, fw_ptr_32_10, fw_ptr_32_15, fw_ptr_32_16, fw_ptr_32_17, fw_ptr_32_18, fw_ptr_32_19, fw_ptr_32_25, fw_ptr_32_29, fw_ptr_3, fw_ptr_4, fw_ptr_5, fw_ptr_6, fw_ptr_7, fw_ptr_9, fw_ptr_10, fw_ptr_13, fw_ptr_15, fw_ptr_16, fw_ptr_19, fw_ptr_20, fw_ptr_21, fw_ptr_22, fw_ptr_23, fw_ptr_24, fw_ptr_26, fw_ptr_29, fw_ptr_30, fw_ptr_31, fw_ptr_33, fw_ptr_34, fw_ptr_35, fw_ptr_36, fw_ptr_37, fw_ptr_38, fw_ptr_39, fw_ptr_40, fw_ptr_41, fw_ptr_42, fw_ptr_43, fw_ptr_44, fw_ptr_45, fw_ptr_46, fw_ptr_47, fw_ptr_48, fw_ptr_49, fw_ptr_50, fw_ptr_51, fw_ptr_52, fw_ptr_53, fw_ptr_54, fw_ptr_55, fw_ptr_12, fw_ptr_x, fw_ptr_hi, fw_ptr_b3, fw_ptr_b1, fw_ptr_b2, fw_ptr_b2_]; assumption)) only [fw_b_141_0, fw_b_141_17, fw_b_141_60, fw_b_141_26, fw_b_141_41, fw_b_141_56, ↓if_pos, ↓if_neg, if_neg, if_pos, fw_bs, fw_cn_0, fw_cn_1, fw_cn_2, fw_cn_3, fw_cn_4, fw_cn_5, Nat.reduceAdd, fw_w_id, fw_wl_id, fw_r_k, fw_r_j, fw_r_s, if_true, if_false]
theorem fs_overflows {m : fw_M} {M : Int} {a1 : fw_V} (h : fg_ML M m) : fw_E 142 0 [(2, 32), a1] [] m = some ((0, fg_ov m), m) := by
  obtain ⟨⟨hp, hn, hN, hP, hc, hd, hro⟩, ht, hm, hr⟩ := h
  have ew : fw_w (fw_r m 32 1 - 1) = fw_r m 32 1 - 1 := fw_w_id (by omega) (by omega)
  have hl := ht.2.2.1 (fw_r m 32 1 - 1) (by omega) (by omega)
  have hF := ht.2.1
  unfold fg_ov
  rw [fw_b_142_0 _ _ hp (by omega) (by omega), ew]
  by_cases c1 : fw_r m 33 (fw_r m 32 1 - 1) = -1
  · rw [if_pos c1, if_neg (fun h => h.1 c1)]
    simp (disch := first | omega | assumption | (simp (disch := omega) only [fw_w_id, fw_wl_id, fw_r_k, fw_r_j, fw_r_s]; omega) | (simp only [fw_ptr_1_8, fw_ptr_2_5, fw_ptr_2_6, fw_ptr_2_7, fw_ptr_2_8, fw_ptr_2_9, fw_ptr_8_2, fw_ptr_8_3, fw_ptr_11_2, fw_ptr_11_3, fw_ptr_11_4, fw_ptr_11_5, fw_ptr_11_6, fw_ptr_17_8, fw_ptr_18_2, fw_ptr_18_3, fw_ptr_25_1, fw_ptr_27_2, fw_ptr_28_1, fw_ptr_32_0, fw_ptr_32_1, fw_ptr_32_3, fw_ptr_32_7, fw_ptr_32_8, fw_ptr_32_9, fw_ptr_32_10, fw_ptr_32_15, fw_ptr_32_16, fw_ptr_32_17, fw_ptr_32_18, fw_ptr_32_19, fw_ptr_32_25, fw_ptr_32_29, fw_ptr_3, fw_ptr_4, fw_ptr_5, fw_ptr_6, fw_ptr_7, fw_ptr_9, fw_ptr_10, fw_ptr_13, fw_ptr_15, fw_ptr_16, fw_ptr_19, fw_ptr_20, fw_ptr_21, fw_ptr_22, fw_ptr_23, fw_ptr_24, fw_ptr_26, fw_ptr_29, fw_ptr_30, fw_ptr_31, fw_ptr_33, fw_ptr_34, fw_ptr_35, fw_ptr_36, fw_ptr_37, fw_ptr_38, fw_ptr_39, fw_ptr_40, fw_ptr_41, fw_ptr_42, fw_ptr_43, fw_ptr_44, fw_ptr_45, fw_ptr_46, fw_ptr_47, fw_ptr_48, fw_ptr_49, fw_ptr_50, fw_ptr_51, fw_ptr_52, fw_ptr_53, fw_ptr_54, fw_ptr_55, fw_ptr_12, fw_ptr_x, fw_ptr_hi, fw_ptr_b3, fw_ptr_b1, fw_ptr_b2, fw_ptr_b2_]; assumption)) only [fw_b_142_41, ↓if_pos, ↓if_neg, if_neg, if_pos, fw_bs, fw_cn_0, fw_cn_1, fw_cn_2, fw_cn_3, fw_cn_4, fw_cn_5, Nat.reduceAdd, fw_w_id, fw_wl_id, fw_r_k, fw_r_j, fw_r_s, if_true, if_false]
  · by_cases c2 : fw_r m 32 8 = 0
    · by_cases c3 : fw_r m 32 9 ≤ fw_r m 40 (fw_r m 33 (fw_r m 32 1 - 1))
      · rw [if_neg c1, if_pos ⟨c1, c2, c3⟩]
        simp (disch := first | omega | assumption | (simp (disch := omega) only [fw_w_id, fw_wl_id, fw_r_k, fw_r_j, fw_r_s]; omega) | (simp only [fw_ptr_1_8, fw_ptr_2_5, fw_ptr_2_6, fw_ptr_2_7, fw_ptr_2_8, fw_ptr_2_9, fw_ptr_8_2, fw_ptr_8_3, fw_ptr_11_2, fw_ptr_11_3, fw_ptr_11_4, fw_ptr_11_5, fw_ptr_11_6, fw_ptr_17_8, fw_ptr_18_2, fw_ptr_18_3, fw_ptr_25_1, fw_ptr_27_2, fw_ptr_28_1, fw_ptr_32_0, fw_ptr_32_1, fw_ptr_32_3, fw_ptr_32_7, fw_ptr_32_8, fw_ptr_32_9, fw_ptr_32_10, fw_ptr_32_15, fw_ptr_32_16, fw_ptr_32_17, fw_ptr_32_18, fw_ptr_32_19, fw_ptr_32_25, fw_ptr_32_29, fw_ptr_3, fw_ptr_4, fw_ptr_5, fw_ptr_6, fw_ptr_7, fw_ptr_9, fw_ptr_10, fw_ptr_13, fw_ptr_15, fw_ptr_16, fw_ptr_19, fw_ptr_20, fw_ptr_21, fw_ptr_22, fw_ptr_23, fw_ptr_24, fw_ptr_26, fw_ptr_29, fw_ptr_30, fw_ptr_31, fw_ptr_33, fw_ptr_34, fw_ptr_35, fw_ptr_36, fw_ptr_37, fw_ptr_38, fw_ptr_39, fw_ptr_40, fw_ptr_41, fw_ptr_42, fw_ptr_43, fw_ptr_44, fw_ptr_45, fw_ptr_46, fw_ptr_47, fw_ptr_48, fw_ptr_49, fw_ptr_50, fw_ptr_51, fw_ptr_52, fw_ptr_53, fw_ptr_54, fw_ptr_55, fw_ptr_12, fw_ptr_x, fw_ptr_hi, fw_ptr_b3, fw_ptr_b1, fw_ptr_b2, fw_ptr_b2_]; assumption)) only [fw_b_142_17, fw_b_142_24, fw_b_142_37, fw_b_142_41, ↓if_pos, ↓if_neg, if_neg, if_pos, fw_bs, fw_cn_0, fw_cn_1, fw_cn_2, fw_cn_3, fw_cn_4, fw_cn_5, Nat.reduceAdd, fw_w_id, fw_wl_id, fw_r_k, fw_r_j, fw_r_s, if_true, if_false]
      · rw [if_neg c1, if_neg (fun h => c3 h.2.2)]
        simp (disch := first | omega | assumption | (simp (disch := omega) only [fw_w_id, fw_wl_id, fw_r_k, fw_r_j, fw_r_s]; omega) | (simp only [fw_ptr_1_8, fw_ptr_2_5, fw_ptr_2_6, fw_ptr_2_7, fw_ptr_2_8, fw_ptr_2_9, fw_ptr_8_2, fw_ptr_8_3, fw_ptr_11_2, fw_ptr_11_3, fw_ptr_11_4, fw_ptr_11_5, fw_ptr_11_6, fw_ptr_17_8, fw_ptr_18_2, fw_ptr_18_3, fw_ptr_25_1, fw_ptr_27_2, fw_ptr_28_1, fw_ptr_32_0, fw_ptr_32_1, fw_ptr_32_3, fw_ptr_32_7, fw_ptr_32_8, fw_ptr_32_9, fw_ptr_32_10, fw_ptr_32_15, fw_ptr_32_16, fw_ptr_32_17, fw_ptr_32_18, fw_ptr_32_19, fw_ptr_32_25, fw_ptr_32_29, fw_ptr_3, fw_ptr_4, fw_ptr_5, fw_ptr_6, fw_ptr_7, fw_ptr_9, fw_ptr_10, fw_ptr_13, fw_ptr_15, fw_ptr_16, fw_ptr_19, fw_ptr_20, fw_ptr_21, fw_ptr_22, fw_ptr_23, fw_ptr_24, fw_ptr_26, fw_ptr_29, fw_ptr_30, fw_ptr_31, fw_ptr_33, fw_ptr_34, fw_ptr_35, fw_ptr_36, fw_ptr_37, fw_ptr_38, fw_ptr_39, fw_ptr_40, fw_ptr_41, fw_ptr_42, fw_ptr_43, fw_ptr_44, fw_ptr_45, fw_ptr_46, fw_ptr_47, fw_ptr_48, fw_ptr_49, fw_ptr_50, fw_ptr_51, fw_ptr_52, fw_ptr_53, fw_ptr_54, fw_ptr_55, fw_ptr_12, fw_ptr_x, fw_ptr_hi, fw_ptr_b3, fw_ptr_b1, fw_ptr_b2, fw_ptr_b2_]; assumption)) only [fw_b_142_17, fw_b_142_24, fw_b_142_37, fw_b_142_41, ↓if_pos, ↓if_neg, if_neg, if_pos, fw_bs, fw_cn_0, fw_cn_1, fw_cn_2, fw_cn_3, fw_cn_4, fw_cn_5, Nat.reduceAdd, fw_w_id, fw_wl_id, fw_r_k, fw_r_j, fw_r_s, if_true, if_false]
    · rw [if_neg c1, if_neg (fun h => c2 h.2.1)]
      simp (disch := first | omega | assumption | (simp (disch := omega) only [fw_w_id, fw_wl_id, fw_r_k, fw_r_j, fw_r_s]; omega) | (simp only [fw_ptr_1_8, fw_ptr_2_5, fw_ptr_2_6, fw_ptr_2_7, fw_ptr_2_8, fw_ptr_2_9, fw_ptr_8_2, fw_ptr_8_3, fw_ptr_11_2, fw_ptr_11_3, fw_ptr_11_4, fw_ptr_11_5, fw_ptr_11_6, fw_ptr_17_8, fw_ptr_18_2, fw_ptr_18_3, fw_ptr_25_1, fw_ptr_27_2, fw_ptr_28_1, fw_ptr_32_0, fw_ptr_32_1, fw_ptr_32_3, fw_ptr_32_7, fw_ptr_32_8, fw_ptr_32_9, fw_ptr_32_10, fw_ptr_32_15, fw_ptr_32_16, fw_ptr_32_17, fw_ptr_32_18, fw_ptr_32_19, fw_ptr_32_25, fw_ptr_32_29, fw_ptr_3, fw_ptr_4, fw_ptr_5, fw_ptr_6, fw_ptr_7, fw_ptr_9, fw_ptr_10, fw_ptr_13, fw_ptr_15, fw_ptr_16, fw_ptr_19, fw_ptr_20, fw_ptr_21, fw_ptr_22, fw_ptr_23, fw_ptr_24, fw_ptr_26, fw_ptr_29, fw_ptr_30, fw_ptr_31, fw_ptr_33, fw_ptr_34, fw_ptr_35, fw_ptr_36, fw_ptr_37, fw_ptr_38, fw_ptr_39, fw_ptr_40, fw_ptr_41, fw_ptr_42, fw_ptr_43, fw_ptr_44, fw_ptr_45, fw_ptr_46, fw_ptr_47, fw_ptr_48, fw_ptr_49, fw_ptr_50, fw_ptr_51, fw_ptr_52, fw_ptr_53, fw_ptr_54, fw_ptr_55, fw_ptr_12, fw_ptr_x, fw_ptr_hi, fw_ptr_b3, fw_ptr_b1, fw_ptr_b2, fw_ptr_b2_]; assumption)) only [fw_b_142_17, fw_b_142_24, fw_b_142_37, fw_b_142_41, ↓if_pos, ↓if_neg, if_neg, if_pos, fw_bs, fw_cn_0, fw_cn_1, fw_cn_2, fw_cn_3, fw_cn_4, fw_cn_5, Nat.reduceAdd, fw_w_id, fw_wl_id, fw_r_k, fw_r_j, fw_r_s, if_true, if_false]
theorem fg_ML_mvs {m : fw_M} {M : Int} (h : fg_ML M m) : fg_ML (M + 1) (fg_mvs m) := by
  obtain ⟨h1, h2, h3, h4⟩ := h
  refine ⟨fg_MC_m h1 (fg_mvs_ptr h1.1) (fun j _ _ _ _ _ _ => fg_mvs_o m (by decide) (by decide)) (fun a j ha => fg_mvs_o m (by omega) (by omega)), fg_TR_mvs h2, fun i a b => ?_, fun p a b => ?_⟩
  · rw [fg_mvs_o _ (by decide) (by decide)] at b
    rw [fg_mvs_o _ (by decide) (by decide)]; exact h3 i a b
  · rw [fg_mvs_o _ (by decide) (by decide)] at b
    have := h4 p a b
    rw [fg_mvs_40]; split <;> omega
theorem fg_ML_33 {m : fw_M} {M p : Int} (h : fg_ML M m) (h0 : 0 ≤ p) (h1 : p < fw_r m 32 1) : fg_ML M (fw_u m 33 p (-1)) := by
  obtain ⟨h1', h2, h3, h4⟩ := h
  refine ⟨fg_MC_m h1' (by rw [fw_ptr_33]; exact h1'.1) (fun j _ _ _ _ _ _ => fw_r_k _ (by decide)) (fun a j ha => fw_r_k _ (by omega)), fg_TR_take h2 h0 h1, fun i a b => ?_, fun p a b => ?_⟩
  · rw [fw_r_k _ (by decide)] at b
    rw [fw_r_k _ (by decide)]; exact h3 i a b
  · rw [fw_r_k _ (by decide)] at b
    rw [fw_r_k _ (by decide)]; exact h4 p a b
theorem fg_ML_lc {m : fw_M} {M i : Int} (h : fg_ML M m) (h0 : 0 ≤ i) (h1 : i < fw_r m 32 3) : fg_ML M (fg_lc m i) := by
  unfold fg_lc
  split
  · rename_i hd
    have hc := h.1.2.2.2.2.1 i h0 h1
    have hdd := (fg_dv_1 hd).2.2.2
    have hmi := h.2.2.1 i h0 h1
    obtain ⟨k1, k2, k3, k4⟩ := fg_ML_33 (p := fw_r m 34 i) h (by omega) (by omega)
    refine ⟨fg_MC_m k1 (by rw [fw_ptr_42]; exact k1.1) (fun j _ _ _ _ _ _ => fw_r_k _ (by decide)) (fun a j ha => fw_r_k _ (by omega)), fg_TR_m k2 (fw_r_k _ (by decide)) (fw_r_k _ (by decide)) (fw_r_k _ (by decide)) (fun j => fw_r_k _ (by decide)) (fun j => fw_r_k _ (by decide)), fun j a b => ?_, fun p a b => ?_⟩
    · rw [fw_r_k _ (by decide)] at b
      rw [fw_r_u]
      by_cases hj : j = i
      · rw [if_pos ⟨rfl, hj⟩]; omega
      · rw [if_neg (fun hc => hj hc.2)]; exact k3 j a b
    · rw [fw_r_k _ (by decide)] at b
      rw [fw_r_k _ (by decide)]; exact k4 p a b
  · exact h
theorem fg_ML_lo {m : fw_M} {M : Int} (h : fg_ML M m) : fg_ML M (fg_lo m) := by
  unfold fg_lo
  split
  · have := h.1.2.2.1
    exact fg_ML_33 h (by omega) (by omega)
  · exact h
theorem fg_ML_ll {m : fw_M} {M : Int} (h : fg_ML M m) : fg_ML M (fg_ll m) := by
  unfold fg_ll
  split
  · rename_i hl
    have hll := (fg_lv_1 hl).2.2
    obtain ⟨h1, h2, h3, h4⟩ := h
    refine ⟨fg_MC_m h1 (by rw [fw_ptr_32_15, fw_ptr_33]; exact h1.1) (fun j hj _ _ _ _ _ => by rw [fw_r_j _ hj, fw_r_k _ (by decide)]) (fun a j ha => by rw [fw_r_k _ (by omega), fw_r_k _ (by omega)]), fg_TR_load h2 hll, fun i a b => ?_, fun p a b => ?_⟩
    · rw [fw_r_j _ (by decide), fw_r_k _ (by decide)] at b
      rw [fw_r_k _ (by decide), fw_r_k _ (by decide)]; exact h3 i a b
    · rw [fw_r_j _ (by decide), fw_r_k _ (by decide)] at b
      rw [fw_r_k _ (by decide), fw_r_k _ (by decide)]; exact h4 p a b
  · exact h
theorem fs_looks_lp : ∀ (k : Nat) (i acc M : Int) (m : fw_M), fg_ML M m → 0 ≤ i → i + k = fw_r m 32 3 → 0 ≤ acc → acc ≤ i → fw_E 146 8 [(2, 32), (0, acc), (0, i)] [] m = fw_E 146 55 [(2, 32), (0, acc + fg_lcs m i k), (0, i + k)] [] (fg_lcn m i k) ∧ fg_ML M (fg_lcn m i k) ∧ fw_r (fg_lcn m i k) 32 3 = fw_r m 32 3 ∧ (0 ≤ acc + fg_lcs m i k ∧ acc + fg_lcs m i k ≤ i + k) := by
  intro k
  induction k with
  | zero =>
    intro i acc M m h h0 h1 h2 h3
    refine ⟨?_, h, rfl, ?_⟩
    · simp (disch := first | omega | assumption | (simp (disch := omega) only [fw_w_id, fw_wl_id, fw_r_k, fw_r_j, fw_r_s]; omega) | (simp only [fw_ptr_1_8, fw_ptr_2_5, fw_ptr_2_6, fw_ptr_2_7, fw_ptr_2_8, fw_ptr_2_9, fw_ptr_8_2, fw_ptr_8_3, fw_ptr_11_2, fw_ptr_11_3, fw_ptr_11_4, fw_ptr_11_5, fw_ptr_11_6, fw_ptr_17_8, fw_ptr_18_2, fw_ptr_18_3, fw_ptr_25_1, fw_ptr_27_2, fw_ptr_28_1, fw_ptr_32_0, fw_ptr_32_1, fw_ptr_32_3, fw_ptr_32_7, fw_ptr_32_8, fw_ptr_32_9, fw_ptr_32_10, fw_ptr_32_15, fw_ptr_32_16, fw_ptr_32_17, fw_ptr_32_18, fw_ptr_32_19, fw_ptr_32_25, fw_ptr_32_29, fw_ptr_3, fw_ptr_4, fw_ptr_5, fw_ptr_6, fw_ptr_7, fw_ptr_9, fw_ptr_10, fw_ptr_13, fw_ptr_15, fw_ptr_16, fw_ptr_19, fw_ptr_20, fw_ptr_21, fw_ptr_22, fw_ptr_23, fw_ptr_24, fw_ptr_26, fw_ptr_29, fw_ptr_30, fw_ptr_31, fw_ptr_33, fw_ptr_34, fw_ptr_35, fw_ptr_36, fw_ptr_37, fw_ptr_38, fw_ptr_39, fw_ptr_40, fw_ptr_41, fw_ptr_42, fw_ptr_43, fw_ptr_44, fw_ptr_45, fw_ptr_46, fw_ptr_47, fw_ptr_48, fw_ptr_49, fw_ptr_50, fw_ptr_51, fw_ptr_52, fw_ptr_53, fw_ptr_54, fw_ptr_55, fw_ptr_12, fw_ptr_x, fw_ptr_hi, fw_ptr_b3, fw_ptr_b1, fw_ptr_b2, fw_ptr_b2_]; assumption)) only [fw_b_146_8, ↓if_pos, ↓if_neg, if_neg, if_pos, fw_bs, fw_cn_0, fw_cn_1, fw_cn_2, fw_cn_3, fw_cn_4, fw_cn_5, Nat.reduceAdd, fw_w_id, fw_wl_id, fw_r_k, fw_r_j, fw_r_s, if_true, if_false, fg_lcs, fg_lcn, Int.add_zero, Int.natCast_zero]
    · simp only [fg_lcs]; omega
  | succ k ih =>
    intro i acc M m h h0 h1 h2 h3
    have hp := h.1.1
    have hn := h.1.2.1
    have hN := h.1.2.2.1
    have hc := h.1.2.2.2.2.1 i h0 (by omega)
    have hm := h.2.2.1 i h0 (by omega)
    have hd := fs_drops (a2 := (8, 0)) h h0 (by omega)
    have h01 := fg_dv_01 m i
    have e3 : fw_r (fg_lc m i) 32 3 = fw_r m 32 3 := fg_lc_n m i 32 (by decide) (by decide) 3
    obtain ⟨q1, q2, q3, q4⟩ := ih (i + 1) (acc + fg_dv m i) M (fg_lc m i) (fg_ML_lc h h0 (by omega)) (by omega) (by rw [e3]; omega) (by omega) (by omega)
    have ek : i + 1 + (k : Int) = i + ((k + 1 : Nat) : Int) := by omega
    rw [ek] at q1 q4
    refine ⟨?_, q2, q3.trans e3, ?_⟩
    · rw [fg_lcs, fg_lcn, ← Int.add_assoc, ← q1, fw_b_146_8]
      rcases h01 with hv | hv
      · have el : fg_lc m i = m := by unfold fg_lc; rw [if_neg (by omega)]
        rw [el, hv]
        rw [hv] at hd
        simp (disch := first | omega | assumption | (simp (disch := omega) only [fw_w_id, fw_wl_id, fw_r_k, fw_r_j, fw_r_s]; omega) | (simp only [fw_ptr_1_8, fw_ptr_2_5, fw_ptr_2_6, fw_ptr_2_7, fw_ptr_2_8, fw_ptr_2_9, fw_ptr_8_2, fw_ptr_8_3, fw_ptr_11_2, fw_ptr_11_3, fw_ptr_11_4, fw_ptr_11_5, fw_ptr_11_6, fw_ptr_17_8, fw_ptr_18_2, fw_ptr_18_3, fw_ptr_25_1, fw_ptr_27_2, fw_ptr_28_1, fw_ptr_32_0, fw_ptr_32_1, fw_ptr_32_3, fw_ptr_32_7, fw_ptr_32_8, fw_ptr_32_9, fw_ptr_32_10, fw_ptr_32_15, fw_ptr_32_16, fw_ptr_32_17, fw_ptr_32_18, fw_ptr_32_19, fw_ptr_32_25, fw_ptr_32_29, fw_ptr_3, fw_ptr_4, fw_ptr_5, fw_ptr_6, fw_ptr_7, fw_ptr_9, fw_ptr_10, fw_ptr_13, fw_ptr_15, fw_ptr_16, fw_ptr_19, fw_ptr_20, fw_ptr_21, fw_ptr_22, fw_ptr_23, fw_ptr_24, fw_ptr_26, fw_ptr_29, fw_ptr_30, fw_ptr_31, fw_ptr_33, fw_ptr_34, fw_ptr_35, fw_ptr_36, fw_ptr_37, fw_ptr_38, fw_ptr_39, fw_ptr_40, fw_ptr_41, fw_ptr_42, fw_ptr_43, fw_ptr_44, fw_ptr_45, fw_ptr_46, fw_ptr_47, fw_ptr_48, fw_ptr_49, fw_ptr_50, fw_ptr_51, fw_ptr_52, fw_ptr_53, fw_ptr_54, fw_ptr_55, fw_ptr_12, fw_ptr_x, fw_ptr_hi, fw_ptr_b3, fw_ptr_b1, fw_ptr_b2, fw_ptr_b2_]; assumption)) only [fw_b_146_16, fw_b_146_21, fw_b_146_49, hd, ↓if_pos, ↓if_neg, if_neg, if_pos, fw_bs, fw_cn_0, fw_cn_1, fw_cn_2, fw_cn_3, fw_cn_4, fw_cn_5, Nat.reduceAdd, fw_w_id, fw_wl_id, fw_r_k, fw_r_j, fw_r_s, if_true, if_false, Int.add_zero]
      · have el : fg_lc m i = fw_u (fw_u m 33 (fw_r m 34 i) (-1)) 42 i (fw_r m 42 i + 1) := by unfold fg_lc; rw [if_pos hv]
        rw [el, hv]
        rw [hv] at hd
        simp (disch := first | omega | assumption | (simp (disch := omega) only [fw_w_id, fw_wl_id, fw_r_k, fw_r_j, fw_r_s]; omega) | (simp only [fw_ptr_1_8, fw_ptr_2_5, fw_ptr_2_6, fw_ptr_2_7, fw_ptr_2_8, fw_ptr_2_9, fw_ptr_8_2, fw_ptr_8_3, fw_ptr_11_2, fw_ptr_11_3, fw_ptr_11_4, fw_ptr_11_5, fw_ptr_11_6, fw_ptr_17_8, fw_ptr_18_2, fw_ptr_18_3, fw_ptr_25_1, fw_ptr_27_2, fw_ptr_28_1, fw_ptr_32_0, fw_ptr_32_1, fw_ptr_32_3, fw_ptr_32_7, fw_ptr_32_8, fw_ptr_32_9, fw_ptr_32_10, fw_ptr_32_15, fw_ptr_32_16, fw_ptr_32_17, fw_ptr_32_18, fw_ptr_32_19, fw_ptr_32_25, fw_ptr_32_29, fw_ptr_3, fw_ptr_4, fw_ptr_5, fw_ptr_6, fw_ptr_7, fw_ptr_9, fw_ptr_10, fw_ptr_13, fw_ptr_15, fw_ptr_16, fw_ptr_19, fw_ptr_20, fw_ptr_21, fw_ptr_22, fw_ptr_23, fw_ptr_24, fw_ptr_26, fw_ptr_29, fw_ptr_30, fw_ptr_31, fw_ptr_33, fw_ptr_34, fw_ptr_35, fw_ptr_36, fw_ptr_37, fw_ptr_38, fw_ptr_39, fw_ptr_40, fw_ptr_41, fw_ptr_42, fw_ptr_43, fw_ptr_44, fw_ptr_45, fw_ptr_46, fw_ptr_47, fw_ptr_48, fw_ptr_49, fw_ptr_50, fw_ptr_51, fw_ptr_52, fw_ptr_53, fw_ptr_54, fw_ptr_55, fw_ptr_12, fw_ptr_x, fw_ptr_hi, fw_ptr_b3, fw_ptr_b1, fw_ptr_b2, fw_ptr_b2_]; assumption)) only [fw_b_146_16, fw_b_146_21, fw_b_146_24, fw_b_146_36, fw_b_146_46, hd, ↓if_pos, ↓if_neg, if_neg, if_pos, fw_bs, fw_cn_0, fw_cn_1, fw_cn_2, fw_cn_3, fw_cn_4, fw_cn_5, Nat.reduceAdd, fw_w_id, fw_wl_id, fw_r_k, fw_r_j, fw_r_s, if_true, if_false]
    · rw [fg_lcs]; omega
/-- a tick of the look ahead in the reference's order -/
def fg_T2 (m : fw_M) : fw_M := fg_ll (fg_lo (fg_lcn (fg_mvs m) 0 (fg_n m)))
def fg_C2 (m : fw_M) : Int := fg_lcs (fg_mvs m) 0 (fg_n m) + fg_ov (fg_lcn (fg_mvs m) 0 (fg_n m))
theorem fg_ML_T2 {m : fw_M} {M : Int} (h : fg_ML M m) : fg_ML (M + 1) (fg_T2 m) := by
  have h1 := fg_ML_mvs h
  have hn := h.1.2.1
  have e : fw_r (fg_mvs m) 32 3 = fw_r m 32 3 := fg_mvs_o m (by decide) (by decide)
  have hk : ((fg_n m : Nat) : Int) = fw_r m 32 3 := by unfold fg_n; omega
  have := (fs_looks_lp (fg_n m) 0 0 (M + 1) (fg_mvs m) h1 (by omega) (by omega) (by omega) (by omega)).2.1
  exact fg_ML_ll (fg_ML_lo this)
theorem fs_looksOne {m : fw_M} {M : Int} {a1 a2 : fw_V} (h : fg_ML M m) (hM : M ≤ 1000000000) : fw_E 146 0 [(2, 32), a1, a2] [] m = some ((0, fg_C2 m), fg_T2 m) ∧ 0 ≤ fg_C2 m ∧ fg_C2 m ≤ 7 := by
  have h1 := fg_ML_mvs h
  have hn := h.1.2.1
  have e : fw_r (fg_mvs m) 32 3 = fw_r m 32 3 := fg_mvs_o m (by decide) (by decide)
  have hk : ((fg_n m : Nat) : Int) = fw_r m 32 3 := by unfold fg_n; omega
  obtain ⟨q1, q2, q3, q4⟩ := fs_looks_lp (fg_n m) 0 0 (M + 1) (fg_mvs m) h1 (by omega) (by omega) (by omega) (by omega)
  have hmv := fs_moves (a1 := (8, 0)) (a2 := (8, 0)) h hM
  have ho := fs_overflows (a1 := (8, 0)) q2
  have ho1 := fg_ov_01 (fg_lcn (fg_mvs m) 0 (fg_n m))
  have hN := q2.1.2.2.1
  have hpp := q2.1.1
  rw [Int.zero_add] at q1 q4
  refine ⟨?_, by unfold fg_C2; omega⟩
  simp (disch := first | omega | assumption | (simp (disch := omega) only [fw_w_id, fw_wl_id, fw_r_k, fw_r_j, fw_r_s]; omega) | (simp only [fw_ptr_1_8, fw_ptr_2_5, fw_ptr_2_6, fw_ptr_2_7, fw_ptr_2_8, fw_ptr_2_9, fw_ptr_8_2, fw_ptr_8_3, fw_ptr_11_2, fw_ptr_11_3, fw_ptr_11_4, fw_ptr_11_5, fw_ptr_11_6, fw_ptr_17_8, fw_ptr_18_2, fw_ptr_18_3, fw_ptr_25_1, fw_ptr_27_2, fw_ptr_28_1, fw_ptr_32_0, fw_ptr_32_1, fw_ptr_32_3, fw_ptr_32_7, fw_ptr_32_8, fw_ptr_32_9, fw_ptr_32_10, fw_ptr_32_15, fw_ptr_32_16, fw_ptr_32_17, fw_ptr_32_18, fw_ptr_32_19, fw_ptr_32_25, fw_ptr_32_29, fw_ptr_3, fw_ptr_4, fw_ptr_5, fw_ptr_6, fw_ptr_7, fw_ptr_9, fw_ptr_10, fw_ptr_13, fw_ptr_15, fw_ptr_16, fw_ptr_19, fw_ptr_20, fw_ptr_21, fw_ptr_22, fw_ptr_23, fw_ptr_24, fw_ptr_26, fw_ptr_29, fw_ptr_30, fw_ptr_31, fw_ptr_33, fw_ptr_34, fw_ptr_35, fw_ptr_36, fw_ptr_37, fw_ptr_38, fw_ptr_39, fw_ptr_40, fw_ptr_41, fw_ptr_42, fw_ptr_43, fw_ptr_44, fw_ptr_45, fw_ptr_46, fw_ptr_47, fw_ptr_48, fw_ptr_49, fw_ptr_50, fw_ptr_51, fw_ptr_52, fw_ptr_53, fw_ptr_54, fw_ptr_55, fw_ptr_12, fw_ptr_x, fw_ptr_hi, fw_ptr_b3, fw_ptr_b1, fw_ptr_b2, fw_ptr_b2_]; assumption)) only [fw_b_146_0, hmv, fw_bs, fw_cn_5, Nat.reduceAdd]
  rw [fw_b_146_6, q1]
  unfold fg_C2 fg_T2
  have hlo := fg_ML_lo q2
  have hq : ∀ (acc : Int) (x : fw_M), fg_ML (M + 1) x → (if fw_r x 32 7 = 0 then fw_E 146 84 [(2, 32), (0, acc), (0, 0 + (fg_n m : Int))] [] x else fw_E 146 125 [(2, 32), (0, acc), (0, 0 + (fg_n m : Int))] [] x) = some ((0, acc), fg_ll x) := by
    intro acc x hx
    have hpx := hx.1.1
    have hFx := hx.2.1.2.1
    by_cases c1 : fw_r x 32 7 = 0
    · by_cases c2 : fw_r x 33 0 = -1
      · by_cases c3 : fw_r x 32 15 < fw_r x 32 10
        · have hl : fg_lv x = 1 := by unfold fg_lv; rw [if_pos ⟨c1, c2, c3⟩]
          unfold fg_ll; rw [if_pos hl]
          simp (disch := first | omega | assumption | (simp (disch := omega) only [fw_w_id, fw_wl_id, fw_r_k, fw_r_j, fw_r_s]; omega) | (simp only [fw_ptr_1_8, fw_ptr_2_5, fw_ptr_2_6, fw_ptr_2_7, fw_ptr_2_8, fw_ptr_2_9, fw_ptr_8_2, fw_ptr_8_3, fw_ptr_11_2, fw_ptr_11_3, fw_ptr_11_4, fw_ptr_11_5, fw_ptr_11_6, fw_ptr_17_8, fw_ptr_18_2, fw_ptr_18_3, fw_ptr_25_1, fw_ptr_27_2, fw_ptr_28_1, fw_ptr_32_0, fw_ptr_32_1, fw_ptr_32_3, fw_ptr_32_7, fw_ptr_32_8, fw_ptr_32_9, fw_ptr_32_10, fw_ptr_32_15, fw_ptr_32_16, fw_ptr_32_17, fw_ptr_32_18, fw_ptr_32_19, fw_ptr_32_25, fw_ptr_32_29, fw_ptr_3, fw_ptr_4, fw_ptr_5, fw_ptr_6, fw_ptr_7, fw_ptr_9, fw_ptr_10, fw_ptr_13, fw_ptr_15, fw_ptr_16, fw_ptr_19, fw_ptr_20, fw_ptr_21, fw_ptr_22, fw_ptr_23, fw_ptr_24, fw_ptr_26, fw_ptr_29, fw_ptr_30, fw_ptr_31, fw_ptr_33, fw_ptr_34, fw_ptr_35, fw_ptr_36, fw_ptr_37, fw_ptr_38, fw_ptr_39, fw_ptr_40, fw_ptr_41, fw_ptr_42, fw_ptr_43, fw_ptr_44, fw_ptr_45, fw_ptr_46, fw_ptr_47, fw_ptr_48, fw_ptr_49, fw_ptr_50, fw_ptr_51, fw_ptr_52, fw_ptr_53, fw_ptr_54, fw_ptr_55, fw_ptr_12, fw_ptr_x, fw_ptr_hi, fw_ptr_b3, fw_ptr_b1, fw_ptr_b2, fw_ptr_b2_]; assumption)) only [fw_b_146_84, fw_b_146_94, fw_b_146_105, fw_b_146_115, fw_b_146_125, ↓if_pos, ↓if_neg, if_neg, if_pos, fw_bs, fw_cn_0, fw_cn_1, fw_cn_2, fw_cn_3, fw_cn_4, fw_cn_5, Nat.reduceAdd, fw_w_id, fw_wl_id, fw_r_k, fw_r_j, fw_r_s, if_true, if_false]
        · have hl : ¬fg_lv x = 1 := by unfold fg_lv; rw [if_neg (fun h => c3 h.2.2)]; decide
          unfold fg_ll; rw [if_neg hl]
          simp (disch := first | omega | assumption | (simp (disch := omega) only [fw_w_id, fw_wl_id, fw_r_k, fw_r_j, fw_r_s]; omega) | (simp only [fw_ptr_1_8, fw_ptr_2_5, fw_ptr_2_6, fw_ptr_2_7, fw_ptr_2_8, fw_ptr_2_9, fw_ptr_8_2, fw_ptr_8_3, fw_ptr_11_2, fw_ptr_11_3, fw_ptr_11_4, fw_ptr_11_5, fw_ptr_11_6, fw_ptr_17_8, fw_ptr_18_2, fw_ptr_18_3, fw_ptr_25_1, fw_ptr_27_2, fw_ptr_28_1, fw_ptr_32_0, fw_ptr_32_1, fw_ptr_32_3, fw_ptr_32_7, fw_ptr_32_8, fw_ptr_32_9, fw_ptr_32_10, fw_ptr_32_15, fw_ptr_32_16, fw_ptr_32_17, fw_ptr_32_18, fw_ptr_32_19, fw_ptr_32_25, fw_ptr_32_29, fw_ptr_3, fw_ptr_4, fw_ptr_5, fw_ptr_6, fw_ptr_7, fw_ptr_9, fw_ptr_10, fw_ptr_13, fw_ptr_15, fw_ptr_16, fw_ptr_19, fw_ptr_20, fw_ptr_21, fw_ptr_22, fw_ptr_23, fw_ptr_24, fw_ptr_26, fw_ptr_29, fw_ptr_30, fw_ptr_31, fw_ptr_33, fw_ptr_34, fw_ptr_35, fw_ptr_36, fw_ptr_37, fw_ptr_38, fw_ptr_39, fw_ptr_40, fw_ptr_41, fw_ptr_42, fw_ptr_43, fw_ptr_44, fw_ptr_45, fw_ptr_46, fw_ptr_47, fw_ptr_48, fw_ptr_49, fw_ptr_50, fw_ptr_51, fw_ptr_52, fw_ptr_53, fw_ptr_54, fw_ptr_55, fw_ptr_12, fw_ptr_x, fw_ptr_hi, fw_ptr_b3, fw_ptr_b1, fw_ptr_b2, fw_ptr_b2_]; assumption)) only [fw_b_146_84, fw_b_146_94, fw_b_146_105, fw_b_146_115, fw_b_146_125, ↓if_pos, ↓if_neg, if_neg, if_pos, fw_bs, fw_cn_0, fw_cn_1, fw_cn_2, fw_cn_3, fw_cn_4, fw_cn_5, Nat.reduceAdd, fw_w_id, fw_wl_id, fw_r_k, fw_r_j, fw_r_s, if_true, if_false]
      · have hl : ¬fg_lv x = 1 := by unfold fg_lv; rw [if_neg (fun h => c2 h.2.1)]; decide
        unfold fg_ll; rw [if_neg hl]
        simp (disch := first | omega | assumption | (simp (disch := omega) only [fw_w_id, fw_wl_id, fw_r_k, fw_r_j, fw_r_s]; omega) | (simp only [fw_ptr_1_8, fw_ptr_2_5, fw_ptr_2_6, fw_ptr_2_7, fw_ptr_2_8, fw_ptr_2_9, fw_ptr_8_2, fw_ptr_8_3, fw_ptr_11_2, fw_ptr_11_3, fw_ptr_11_4, fw_ptr_11_5, fw_ptr_11_6, fw_ptr_17_8, fw_ptr_18_2, fw_ptr_18_3, fw_ptr_25_1, fw_ptr_27_2, fw_ptr_28_1, fw_ptr_32_0, fw_ptr_32_1, fw_ptr_32_3, fw_ptr_32_7, fw_ptr_32_8, fw_ptr_32_9, fw_ptr_32_10, fw_ptr_32_15, fw_ptr_32_16, fw_ptr_32_17, fw_ptr_32_18, fw_ptr_32_19, fw_ptr_32_25, fw_ptr_32_29, fw_ptr_3, fw_ptr_4, fw_ptr_5, fw_ptr_6, fw_ptr_7, fw_ptr_9, fw_ptr_10, fw_ptr_13, fw_ptr_15, fw_ptr_16, fw_ptr_19, fw_ptr_20, fw_ptr_21, fw_ptr_22, fw_ptr_23, fw_ptr_24, fw_ptr_26, fw_ptr_29, fw_ptr_30, fw_ptr_31, fw_ptr_33, fw_ptr_34, fw_ptr_35, fw_ptr_36, fw_ptr_37, fw_ptr_38, fw_ptr_39, fw_ptr_40, fw_ptr_41, fw_ptr_42, fw_ptr_43, fw_ptr_44, fw_ptr_45, fw_ptr_46, fw_ptr_47, fw_ptr_48, fw_ptr_49, fw_ptr_50, fw_ptr_51, fw_ptr_52, fw_ptr_53, fw_ptr_54, fw_ptr_55, fw_ptr_12, fw_ptr_x, fw_ptr_hi, fw_ptr_b3, fw_ptr_b1, fw_ptr_b2, fw_ptr_b2_]; assumption)) only [fw_b_146_84, fw_b_146_94, fw_b_146_105, fw_b_146_115, fw_b_146_125, ↓if_pos, ↓if_neg, if_neg, if_pos, fw_bs, fw_cn_0, fw_cn_1, fw_cn_2, fw_cn_3, fw_cn_4, fw_cn_5, Nat.reduceAdd, fw_w_id, fw_wl_id, fw_r_k, fw_r_j, fw_r_s, if_true, if_false]
    · have hl : ¬fg_lv x = 1 := by unfold fg_lv; rw [if_neg (fun h => c1 h.1)]; decide
      unfold fg_ll; rw [if_neg hl]
      simp (disch := first | omega | assumption | (simp (disch := omega) only [fw_w_id, fw_wl_id, fw_r_k, fw_r_j, fw_r_s]; omega) | (simp only [fw_ptr_1_8, fw_ptr_2_5, fw_ptr_2_6, fw_ptr_2_7, fw_ptr_2_8, fw_ptr_2_9, fw_ptr_8_2, fw_ptr_8_3, fw_ptr_11_2, fw_ptr_11_3, fw_ptr_11_4, fw_ptr_11_5, fw_ptr_11_6, fw_ptr_17_8, fw_ptr_18_2, fw_ptr_18_3, fw_ptr_25_1, fw_ptr_27_2, fw_ptr_28_1, fw_ptr_32_0, fw_ptr_32_1, fw_ptr_32_3, fw_ptr_32_7, fw_ptr_32_8, fw_ptr_32_9, fw_ptr_32_10, fw_ptr_32_15, fw_ptr_32_16, fw_ptr_32_17, fw_ptr_32_18, fw_ptr_32_19, fw_ptr_32_25, fw_ptr_32_29, fw_ptr_3, fw_ptr_4, fw_ptr_5, fw_ptr_6, fw_ptr_7, fw_ptr_9, fw_ptr_10, fw_ptr_13, fw_ptr_15, fw_ptr_16, fw_ptr_19, fw_ptr_20, fw_ptr_21, fw_ptr_22, fw_ptr_23, fw_ptr_24, fw_ptr_26, fw_ptr_29, fw_ptr_30, fw_ptr_31, fw_ptr_33, fw_ptr_34, fw_ptr_35, fw_ptr_36, fw_ptr_37, fw_ptr_38, fw_ptr_39, fw_ptr_40, fw_ptr_41, fw_ptr_42, fw_ptr_43, fw_ptr_44, fw_ptr_45, fw_ptr_46, fw_ptr_47, fw_ptr_48, fw_ptr_49, fw_ptr_50, fw_ptr_51, fw_ptr_52, fw_ptr_53, fw_ptr_54, fw_ptr_55, fw_ptr_12, fw_ptr_x, fw_ptr_hi, fw_ptr_b3, fw_ptr_b1, fw_ptr_b2, fw_ptr_b2_]; assumption)) only [fw_b_146_125, ↓if_pos, ↓if_neg, if_neg, if_pos, fw_bs, fw_cn_0, fw_cn_1, fw_cn_2, fw_cn_3, fw_cn_4, fw_cn_5, Nat.reduceAdd, fw_w_id, fw_wl_id, fw_r_k, fw_r_j, fw_r_s, if_true, if_false]
  rcases ho1 with hv | hv
  · have el : fg_lo (fg_lcn (fg_mvs m) 0 (fg_n m)) = fg_lcn (fg_mvs m) 0 (fg_n m) := by unfold fg_lo; rw [if_neg (by omega)]
    rw [hv] at ho
    rw [hv, el, Int.add_zero, fw_b_146_55, ho, fw_bs, fw_cn_0, fw_b_146_59, if_pos rfl, fw_b_146_77]
    exact hq _ _ q2
  · have el : fg_lo (fg_lcn (fg_mvs m) 0 (fg_n m)) = fw_u (fg_lcn (fg_mvs m) 0 (fg_n m)) 33 (fw_r (fg_lcn (fg_mvs m) 0 (fg_n m)) 32 1 - 1) (-1) := by unfold fg_lo; rw [if_pos hv]
    have ew : fw_w (fw_r (fg_lcn (fg_mvs m) 0 (fg_n m)) 32 1 - 1) = fw_r (fg_lcn (fg_mvs m) 0 (fg_n m)) 32 1 - 1 := fw_w_id (by omega) (by omega)
    rw [hv] at ho
    rw [hv, fw_b_146_55, ho, fw_bs, fw_cn_0, fw_b_146_59, if_neg (by decide), fw_b_146_62 _ _ _ hpp (by omega) (by omega), ew, ← el, fw_b_146_74, fw_w_id (by omega) (by omega)]
    exact hq _ _ hlo
/-! both orders leave the same -/
theorem fg_ll_o (m : fw_M) {a b : Int} (h : a ≠ 33 ∨ b ≠ 0) (h2 : a ≠ 32 ∨ b ≠ 15) : fw_r (fg_ll m) a b = fw_r m a b := by
  unfold fg_ll; split
  · rw [fw_r_u, if_neg (by omega), fw_r_u, if_neg (by omega)]
  · rfl
theorem fg_lc_o (m : fw_M) (c : Int) {a b : Int} (h : a ≠ 33 ∨ b ≠ fw_r m 34 c) (h2 : a ≠ 42 ∨ b ≠ c) : fw_r (fg_lc m c) a b = fw_r m a b := by
  unfold fg_lc; split
  · rw [fw_r_u, if_neg (by omega), fw_r_u, if_neg (by omega)]
  · rfl
theorem fg_lo_o (m : fw_M) {a b : Int} (h : a ≠ 33 ∨ b ≠ fw_r m 32 1 - 1) : fw_r (fg_lo m) a b = fw_r m a b := by
  unfold fg_lo; split
  · rw [fw_r_u, if_neg (by omega)]
  · rfl
theorem fg_dv_ll {m : fw_M} {i : Int} (h : fw_r m 34 i ≠ 0) : fg_dv (fg_ll m) i = fg_dv m i := by
  unfold fg_dv
  simp (disch := omega) only [fg_ll_o]
theorem fg_ov_ll {m : fw_M} (h : 4 ≤ fw_r m 32 1) : fg_ov (fg_ll m) = fg_ov m := by
  unfold fg_ov
  simp (disch := omega) only [fg_ll_o]
theorem fg_lv_lc {m : fw_M} {i : Int} (h : fw_r m 34 i ≠ 0) : fg_lv (fg_lc m i) = fg_lv m := by
  unfold fg_lv
  simp (disch := omega) only [fg_lc_o]
theorem fg_lv_lo {m : fw_M} (h : 4 ≤ fw_r m 32 1) : fg_lv (fg_lo m) = fg_lv m := by
  unfold fg_lv
  simp (disch := omega) only [fg_lo_o]
theorem fg_ll_0 {m : fw_M} (h : fg_lv m = 0) : fg_ll m = m := by unfold fg_ll; rw [if_neg (by omega)]
theorem fg_ll_1 {m : fw_M} (h : fg_lv m = 1) : fg_ll m = fg_us [(33, 0, fw_r m 32 15), (32, 15, fw_r m 32 15 + 1)] m := by unfold fg_ll; rw [if_pos h]; rfl
theorem fg_lc_0 {m : fw_M} {i : Int} (h : fg_dv m i = 0) : fg_lc m i = m := by unfold fg_lc; rw [if_neg (by omega)]
theorem fg_lc_1 {m : fw_M} {i : Int} (h : fg_dv m i = 1) : fg_lc m i = fg_us [(33, fw_r m 34 i, -1), (42, i, fw_r m 42 i + 1)] m := by unfold fg_lc; rw [if_pos h]; rfl
theorem fg_lo_0 {m : fw_M} (h : fg_ov m = 0) : fg_lo m = m := by unfold fg_lo; rw [if_neg (by omega)]
theorem fg_lo_1 {m : fw_M} (h : fg_ov m = 1) : fg_lo m = fg_us [(33, fw_r m 32 1 - 1, -1)] m := by unfold fg_lo; rw [if_pos h]; rfl
theorem fg_ll_lc {m : fw_M} {i : Int} (h : fw_r m 34 i ≠ 0) : fg_ll (fg_lc m i) = fg_lc (fg_ll m) i := by
  have e1 := fg_dv_ll (m := m) h
  have e2 := fg_lv_lc (m := m) h
  rcases fg_dv_01 m i with hd | hd
  · rw [fg_lc_0 hd, fg_lc_0 (e1.trans hd)]
  · rcases fg_lv_01 m with hl | hl
    · rw [fg_ll_0 (e2.trans hl), fg_ll_0 hl]
    · rw [fg_ll_1 (e2.trans hl), fg_lc_1 (e1.trans hd)]
      simp (disch := omega) only [fg_ll_o, fg_lc_o]
      rw [fg_ll_1 hl, fg_lc_1 hd]
      refine fg_us_comm _ _ _ ?_
      simp only [List.mem_cons, List.not_mem_nil, or_false, forall_eq_or_imp, forall_eq]
      omega
theorem fg_ll_lo {m : fw_M} (h : 4 ≤ fw_r m 32 1) : fg_ll (fg_lo m) = fg_lo (fg_ll m) := by
  have e1 := fg_ov_ll (m := m) h
  have e2 := fg_lv_lo (m := m) h
  rcases fg_ov_01 m with hd | hd
  · rw [fg_lo_0 hd, fg_lo_0 (e1.trans hd)]
  · rcases fg_lv_01 m with hl | hl
    · rw [fg_ll_0 (e2.trans hl), fg_ll_0 hl]
    · rw [fg_ll_1 (e2.trans hl), fg_lo_1 (e1.trans hd)]
      simp (disch := omega) only [fg_ll_o, fg_lo_o]
      rw [fg_ll_1 hl, fg_lo_1 hd]
      refine fg_us_comm _ _ _ ?_
      simp only [List.mem_cons, List.not_mem_nil, or_false, forall_eq_or_imp, forall_eq]
      omega
theorem fg_lcn_ll : ∀ (k : Nat) (i M : Int) (m : fw_M), fg_ML M m → 0 ≤ i → i + k = fw_r m 32 3 → fg_lcn (fg_ll m) i k = fg_ll (fg_lcn m i k) ∧ fg_lcs (fg_ll m) i k = fg_lcs m i k := by
  intro k
  induction k with
  | zero => intro i M m h h0 h1; exact ⟨rfl, rfl⟩
  | succ k ih =>
    intro i M m h h0 h1
    have hc := h.1.2.2.2.2.1 i h0 (by omega)
    have e3 : fw_r (fg_lc m i) 32 3 = fw_r m 32 3 := fg_lc_n m i 32 (by decide) (by decide) 3
    have e4 := fg_ll_lc (m := m) (i := i) (by omega)
    obtain ⟨q1, q2⟩ := ih (i + 1) M (fg_lc m i) (fg_ML_lc h h0 (by omega)) (by omega) (by rw [e3]; omega)
    rw [fg_lcn, fg_lcn, fg_lcs, fg_lcs, ← e4, q1, q2, fg_dv_ll (by omega)]
    exact ⟨rfl, rfl⟩
theorem fg_T12 {m : fw_M} {M : Int} (h : fg_ML M m) : fg_T1 m = fg_T2 m ∧ fg_C1 m = fg_C2 m := by
  have h1 := fg_ML_mvs h
  have hn := h.1.2.1
  have e : fw_r (fg_mvs m) 32 3 = fw_r m 32 3 := fg_mvs_o m (by decide) (by decide)
  have hk : ((fg_n m : Nat) : Int) = fw_r m 32 3 := by unfold fg_n; omega
  obtain ⟨q1, q2⟩ := fg_lcn_ll (fg_n m) 0 (M + 1) (fg_mvs m) h1 (by omega) (by omega)
  have h2 := (fs_looks_lp (fg_n m) 0 0 (M + 1) (fg_mvs m) h1 (by omega) (by omega) (by omega) (by omega)).2.1
  have hN := h2.1.2.2.1.1
  unfold fg_T1 fg_T2 fg_C1 fg_C2
  rw [q1, q2, fg_ll_lo hN, fg_ov_ll hN]
  exact ⟨rfl, rfl⟩
/-- so many leave in k ticks -/
def fg_Cn : Nat → fw_M → Int
  | 0, _ => 0
  | k + 1, m => fg_C2 m + fg_Cn k (fg_T2 m)
def fg_Tn : Nat → fw_M → fw_M
  | 0, m => m
  | k + 1, m => fg_Tn k (fg_T2 m)
