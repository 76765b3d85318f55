/-! updates that do not meet -/
def fg_us : List (Int × Int × Int) → fw_M → fw_M
  | [], m => m
  | (a, b, v) :: l, m => fg_us l (fw_u m a b v)
theorem fw_u_comm (m : fw_M) {a b v a' b' v' : Int} (h : ¬(a = a' ∧ b = b')) : fw_u (fw_u m a b v) a' b' v' = fw_u (fw_u m a' b' v') a b v := by
  funext x y
  unfold fw_u
  by_cases h1 : x = a ∧ y = b
  · by_cases h2 : x = a' ∧ y = b'
    · exact absurd ⟨h1.1.symm.trans h2.1, h1.2.symm.trans h2.2⟩ h
    · rw [if_neg h2, if_pos h1, if_pos h1]
  · by_cases h2 : x = a' ∧ y = b'
    · rw [if_pos h2, if_neg h1, if_pos h2]
    · rw [if_neg h2, if_neg h1, if_neg h1, if_neg h2]
theorem fg_us_1 : ∀ (l : List (Int × Int × Int)) (m : fw_M) (a b v : Int), (∀ y ∈ l, ¬(a = y.1 ∧ b = y.2.1)) → fg_us l (fw_u m a b v) = fw_u (fg_us l m) a b v := by
  intro l
  induction l with
  | nil => intro m a b v h; rfl
  | cons x l ih =>
    intro m a b v h
    obtain ⟨a', b', v'⟩ := x
    show fg_us l (fw_u (fw_u m a b v) a' b' v') = fw_u (fg_us l (fw_u m a' b' v')) a b v
    rw [fw_u_comm m (h (a', b', v') (List.mem_cons_self ..)), ih _ _ _ _ (fun y hy => h y (List.mem_cons_of_mem _ hy))]
theorem fg_us_comm : ∀ (l1 l2 : List (Int × Int × Int)) (m : fw_M), (∀ x ∈ l1, ∀ y ∈ l2, ¬(x.1 = y.1 ∧ x.2.1 = y.2.1)) → fg_us l1 (fg_us l2 m) = fg_us l2 (fg_us l1 m) := by
  intro l1
  induction l1 with
  | nil => intro l2 m h; rfl
  | cons x l ih =>
    intro l2 m h
    obtain ⟨a, b, v⟩ := x
    show fg_us l (fw_u (fg_us l2 m) a b v) = fg_us l2 (fg_us l (fw_u m a b v))
    rw [← fg_us_1 l2 m a b v (fun y hy => h (a, b, v) (List.mem_cons_self ..) y hy), ih l2 _ (fun x hx y hy => h x (List.mem_cons_of_mem _ hx) y hy)]
/-! the reference's look ahead -/
def fg_MC (m : fw_M) : Prop := fw_ptr m ∧ (0 ≤ fw_r m 32 3 ∧ fw_r m 32 3 ≤ 6) ∧ (4 ≤ fw_r m 32 1 ∧ fw_r m 32 1 ≤ 20) ∧ (0 ≤ fw_r m 32 10 ∧ fw_r m 32 10 ≤ 300) ∧ (∀ i, 0 ≤ i → i < fw_r m 32 3 → (1 ≤ fw_r m 34 i ∧ fw_r m 34 i ≤ fw_r m 32 1 - 2) ∧ (1 ≤ fw_r m 35 i ∧ fw_r m 35 i ≤ 30)) ∧ (∀ i j, 0 ≤ i → i < fw_r m 32 3 → 0 ≤ j → j < fw_r m 32 3 → fw_r m 34 i = fw_r m 34 j → i = j) ∧ (∀ p, 0 ≤ p → p < fw_r m 32 10 → 0 ≤ fw_r m 37 p ∧ fw_r m 37 p < 8)
theorem fg_MC_of {c m : fw_M} (h : fg_CF c m) (hp : fw_ptr m) : fg_MC m := by
  obtain ⟨⟨a1, a2, a3⟩, ⟨b0, b1, b2, b3, b4, b5⟩, e1, e2, e3, e4, e5⟩ := h
  have a4 := a2.1
  have a5 := a2.2.1
  refine ⟨hp, by omega, b0, e1.2.2.2, fun i h1 h2 => ?_, e3, fun p h1 h2 => ?_⟩
  · have := e2 i h1 h2; omega
  · have := e4 p h1 h2; omega
theorem fg_MC_m {m m' : fw_M} (h : fg_MC m) (hp : fw_ptr m') (h1 : ∀ j, j ≠ 15 → j ≠ 16 → j ≠ 17 → j ≠ 18 → j ≠ 19 → j ≠ 0 → fw_r m' 32 j = fw_r m 32 j) (h2 : ∀ a j, (a = 34 ∨ a = 35 ∨ a = 37) → fw_r m' a j = fw_r m a j) : fg_MC m' := by
  have q1 := h1 1 (by decide) (by decide) (by decide) (by decide) (by decide) (by decide)
  have q3 := h1 3 (by decide) (by decide) (by decide) (by decide) (by decide) (by decide)
  have q10 := h1 10 (by decide) (by decide) (by decide) (by decide) (by decide) (by decide)
  have r34 := fun j => h2 34 j (by decide)
  have r35 := fun j => h2 35 j (by decide)
  have r37 := fun j => h2 37 j (by decide)
  obtain ⟨a, b⟩ := h
  refine ⟨hp, ?_⟩
  simp only [q1, q3, q10, r34, r35, r37]
  exact b
def fg_ML (M : Int) (m : fw_M) : Prop := fg_MC m ∧ fg_TR m ∧ (∀ i, 0 ≤ i → i < fw_r m 32 3 → 0 ≤ fw_r m 42 i ∧ fw_r m 42 i ≤ 30) ∧ (∀ p, 0 ≤ p → p < fw_r m 32 10 → 0 ≤ fw_r m 40 p ∧ fw_r m 40 p ≤ M)
def fg_sh (m : fw_M) (j : Int) : fw_M := fun a b => if a = 33 ∧ j < b ∧ b < fw_r m 32 1 then fw_r m 33 (b - 1) else m a b
theorem fg_sh_r (m : fw_M) (j a b : Int) : fw_r (fg_sh m j) a b = if a = 33 ∧ j < b ∧ b < fw_r m 32 1 then fw_r m 33 (b - 1) else fw_r m a b := rfl
theorem fg_sh_o (m : fw_M) (j : Int) {a b : Int} (h : a ≠ 33) : fw_r (fg_sh m j) a b = fw_r m a b := by rw [fg_sh_r, if_neg (fun hc => h hc.1)]
theorem fg_ptr_of {m m' : fw_M} (h : fw_ptr m) (he : ∀ q ∈ fw_psT, fw_r m' q.1 q.2.1 = fw_r m q.1 q.2.1) : fw_ptr m' := fun q hq => (he q hq).trans (h q hq)
theorem fg_ps_no : ∀ q ∈ fw_psT, q.1 ≠ 33 ∧ q.1 ≠ 40 ∧ q.1 ≠ 39 ∧ q.1 ≠ 42 ∧ q.1 ≠ -1 := by decide
theorem fg_sh_ptr {m : fw_M} (j : Int) (h : fw_ptr m) : fw_ptr (fg_sh m j) := fg_ptr_of h (fun q hq => fg_sh_o m j (fg_ps_no q hq).1)
theorem fg_mvs_ptr {m : fw_M} (h : fw_ptr m) : fw_ptr (fg_mvs m) := fg_ptr_of h (fun q hq => fg_mvs_o m (fg_ps_no q hq).1 (fg_ps_no q hq).2.1)
theorem fg_ML_mvs {m : fw_M} {M : Int} (h : fg_ML M m) : fg_ML (M + 1) (fg_mvs m) := by
  obtain ⟨h1, h2, h3, h4⟩ := h
  refine ⟨fg_MC_m h1 (fg_mvs_ptr h1.1) (fun j _ _ _ _ _ _ => fg_mvs_o m (by decide) (by decide)) (fun a j ha => fg_mvs_o m (by omega) (by omega)), fg_TR_mvs h2, fun i a b => ?_, fun p a b => ?_⟩
  · rw [fg_mvs_o _ (by decide) (by decide)] at b
    rw [fg_mvs_o _ (by decide) (by decide)]; exact h3 i a b
  · rw [fg_mvs_o _ (by decide) (by decide)] at b
    have := h4 p a b
    rw [fg_mvs_40]; split <;> omega
theorem fg_ML_33 {m : fw_M} {M p : Int} (h : fg_ML M m) (h0 : 0 ≤ p) (h1 : p < fw_r m 32 1) : fg_ML M (fw_u m 33 p (-1)) := by
  obtain ⟨h1', h2, h3, h4⟩ := h
  refine ⟨fg_MC_m h1' (by rw [fw_ptr_33]; exact h1'.1) (fun j _ _ _ _ _ _ => fw_r_k _ (by decide)) (fun a j ha => fw_r_k _ (by omega)), fg_TR_take h2 h0 h1, fun i a b => ?_, fun p a b => ?_⟩
  · rw [fw_r_k _ (by decide)] at b
    rw [fw_r_k _ (by decide)]; exact h3 i a b
  · rw [fw_r_k _ (by decide)] at b
    rw [fw_r_k _ (by decide)]; exact h4 p a b
theorem fg_ML_lc {m : fw_M} {M i : Int} (h : fg_ML M m) (h0 : 0 ≤ i) (h1 : i < fw_r m 32 3) : fg_ML M (fg_lc m i) := by
  unfold fg_lc
  split
  · rename_i hd
    have hc := h.1.2.2.2.2.1 i h0 h1
    have hdd := (fg_dv_1 hd).2.2.2
    have hmi := h.2.2.1 i h0 h1
    obtain ⟨k1, k2, k3, k4⟩ := fg_ML_33 (p := fw_r m 34 i) h (by omega) (by omega)
    refine ⟨fg_MC_m k1 (by rw [fw_ptr_42]; exact k1.1) (fun j _ _ _ _ _ _ => fw_r_k _ (by decide)) (fun a j ha => fw_r_k _ (by omega)), fg_TR_m k2 (fw_r_k _ (by decide)) (fw_r_k _ (by decide)) (fw_r_k _ (by decide)) (fun j => fw_r_k _ (by decide)) (fun j => fw_r_k _ (by decide)), fun j a b => ?_, fun p a b => ?_⟩
    · rw [fw_r_k _ (by decide)] at b
      rw [fw_r_u]
      by_cases hj : j = i
      · rw [if_pos ⟨rfl, hj⟩]; omega
      · rw [if_neg (fun hc => hj hc.2)]; exact k3 j a b
    · rw [fw_r_k _ (by decide)] at b
      rw [fw_r_k _ (by decide)]; exact k4 p a b
  · exact h
theorem fg_ML_lo {m : fw_M} {M : Int} (h : fg_ML M m) : fg_ML M (fg_lo m) := by
  unfold fg_lo
  split
  · have := h.1.2.2.1
    exact fg_ML_33 h (by omega) (by omega)
  · exact h
theorem fg_ML_ll {m : fw_M} {M : Int} (h : fg_ML M m) : fg_ML M (fg_ll m) := by
  unfold fg_ll
  split
  · rename_i hl
    have hll := (fg_lv_1 hl).2.2
    obtain ⟨h1, h2, h3, h4⟩ := h
    refine ⟨fg_MC_m h1 (by rw [fw_ptr_32_15, fw_ptr_33]; exact h1.1) (fun j hj _ _ _ _ _ => by rw [fw_r_j _ hj, fw_r_k _ (by decide)]) (fun a j ha => by rw [fw_r_k _ (by omega), fw_r_k _ (by omega)]), fg_TR_load h2 hll, fun i a b => ?_, fun p a b => ?_⟩
    · rw [fw_r_j _ (by decide), fw_r_k _ (by decide)] at b
      rw [fw_r_k _ (by decide), fw_r_k _ (by decide)]; exact h3 i a b
    · rw [fw_r_j _ (by decide), fw_r_k _ (by decide)] at b
      rw [fw_r_k _ (by decide), fw_r_k _ (by decide)]; exact h4 p a b
  · exact h
/-- a tick of the look ahead in the reference's order -/
def fg_T2 (m : fw_M) : fw_M := fg_ll (fg_lo (fg_lcn (fg_mvs m) 0 (fg_n m)))
def fg_C2 (m : fw_M) : Int := fg_lcs (fg_mvs m) 0 (fg_n m) + fg_ov (fg_lcn (fg_mvs m) 0 (fg_n m))
/-! both orders leave the same -/
theorem fg_ll_o (m : fw_M) {a b : Int} (h : a ≠ 33 ∨ b ≠ 0) (h2 : a ≠ 32 ∨ b ≠ 15) : fw_r (fg_ll m) a b = fw_r m a b := by
  unfold fg_ll; split
  · rw [fw_r_u, if_neg (by omega), fw_r_u, if_neg (by omega)]
  · rfl
theorem fg_lc_o (m : fw_M) (c : Int) {a b : Int} (h : a ≠ 33 ∨ b ≠ fw_r m 34 c) (h2 : a ≠ 42 ∨ b ≠ c) : fw_r (fg_lc m c) a b = fw_r m a b := by
  unfold fg_lc; split
  · rw [fw_r_u, if_neg (by omega), fw_r_u, if_neg (by omega)]
  · rfl
theorem fg_lo_o (m : fw_M) {a b : Int} (h : a ≠ 33 ∨ b ≠ fw_r m 32 1 - 1) : fw_r (fg_lo m) a b = fw_r m a b := by
  unfold fg_lo; split
  · rw [fw_r_u, if_neg (by omega)]
  · rfl
theorem fg_dv_ll {m : fw_M} {i : Int} (h : fw_r m 34 i ≠ 0) : fg_dv (fg_ll m) i = fg_dv m i := by
  unfold fg_dv
  simp (disch := omega) only [fg_ll_o]
theorem fg_ov_ll {m : fw_M} (h : 4 ≤ fw_r m 32 1) : fg_ov (fg_ll m) = fg_ov m := by
  unfold fg_ov
  simp (disch := omega) only [fg_ll_o]
theorem fg_lv_lc {m : fw_M} {i : Int} (h : fw_r m 34 i ≠ 0) : fg_lv (fg_lc m i) = fg_lv m := by
  unfold fg_lv
  simp (disch := omega) only [fg_lc_o]
theorem fg_lv_lo {m : fw_M} (h : 4 ≤ fw_r m 32 1) : fg_lv (fg_lo m) = fg_lv m := by
  unfold fg_lv
  simp (disch := omega) only [fg_lo_o]
theorem fg_ll_0 {m : fw_M} (h : fg_lv m = 0) : fg_ll m = m := by unfold fg_ll; rw [if_neg (by omega)]
theorem fg_ll_1 {m : fw_M} (h : fg_lv m = 1) : fg_ll m = fg_us [(33, 0, fw_r m 32 15), (32, 15, fw_r m 32 15 + 1)] m := by unfold fg_ll; rw [if_pos h]; rfl
theorem fg_lc_0 {m : fw_M} {i : Int} (h : fg_dv m i = 0) : fg_lc m i = m := by unfold fg_lc; rw [if_neg (by omega)]
theorem fg_lc_1 {m : fw_M} {i : Int} (h : fg_dv m i = 1) : fg_lc m i = fg_us [(33, fw_r m 34 i, -1), (42, i, fw_r m 42 i + 1)] m := by unfold fg_lc; rw [if_pos h]; rfl
theorem fg_lo_0 {m : fw_M} (h : fg_ov m = 0) : fg_lo m = m := by unfold fg_lo; rw [if_neg (by omega)]
theorem fg_lo_1 {m : fw_M} (h : fg_ov m = 1) : fg_lo m = fg_us [(33, fw_r m 32 1 - 1, -1)] m := by unfold fg_lo; rw [if_pos h]; rfl
theorem fg_ll_lc {m : fw_M} {i : Int} (h : fw_r m 34 i ≠ 0) : fg_ll (fg_lc m i) = fg_lc (fg_ll m) i := by
  have e1 := fg_dv_ll (m := m) h
  have e2 := fg_lv_lc (m := m) h
  rcases fg_dv_01 m i with hd | hd
  · rw [fg_lc_0 hd, fg_lc_0 (e1.trans hd)]
  · rcases fg_lv_01 m with hl | hl
    · rw [fg_ll_0 (e2.trans hl), fg_ll_0 hl]
    · rw [fg_ll_1 (e2.trans hl), fg_lc_1 (e1.trans hd)]
      simp (disch := omega) only [fg_ll_o, fg_lc_o]
      rw [fg_ll_1 hl, fg_lc_1 hd]
      refine fg_us_comm _ _ _ ?_
      simp only [List.mem_cons, List.not_mem_nil, or_false, forall_eq_or_imp, forall_eq]
      omega
theorem fg_ll_lo {m : fw_M} (h : 4 ≤ fw_r m 32 1) : fg_ll (fg_lo m) = fg_lo (fg_ll m) := by
  have e1 := fg_ov_ll (m := m) h
  have e2 := fg_lv_lo (m := m) h
  rcases fg_ov_01 m with hd | hd
  · rw [fg_lo_0 hd, fg_lo_0 (e1.trans hd)]
  · rcases fg_lv_01 m with hl | hl
    · rw [fg_ll_0 (e2.trans hl), fg_ll_0 hl]
    · rw [fg_ll_1 (e2.trans hl), fg_lo_1 (e1.trans hd)]
      simp (disch := omega) only [fg_ll_o, fg_lo_o]
      rw [fg_ll_1 hl, fg_lo_1 hd]
      refine fg_us_comm _ _ _ ?_
      simp only [List.mem_cons, List.not_mem_nil, or_false, forall_eq_or_imp, forall_eq]
      omega
theorem fg_lcn_ll : ∀ (k : Nat) (i M : Int) (m : fw_M), fg_ML M m → 0 ≤ i → i + k = fw_r m 32 3 → fg_lcn (fg_ll m) i k = fg_ll (fg_lcn m i k) ∧ fg_lcs (fg_ll m) i k = fg_lcs m i k := by
  intro k
  induction k with
  | zero => intro i M m h h0 h1; exact ⟨rfl, rfl⟩
  | succ k ih =>
    intro i M m h h0 h1
    have hc := h.1.2.2.2.2.1 i h0 (by omega)
    have e3 : fw_r (fg_lc m i) 32 3 = fw_r m 32 3 := fg_lc_n m i 32 (by decide) (by decide) 3
    have e4 := fg_ll_lc (m := m) (i := i) (by omega)
    obtain ⟨q1, q2⟩ := ih (i + 1) M (fg_lc m i) (fg_ML_lc h h0 (by omega)) (by omega) (by rw [e3]; omega)
    rw [fg_lcn, fg_lcn, fg_lcs, fg_lcs, ← e4, q1, q2, fg_dv_ll (by omega)]
    exact ⟨rfl, rfl⟩
/-- so many leave in k ticks -/
def fg_Cn : Nat → fw_M → Int
  | 0, _ => 0
  | k + 1, m => fg_C2 m + fg_Cn k (fg_T2 m)
def fg_Tn : Nat → fw_M → fw_M
  | 0, m => m
  | k + 1, m => fg_Tn k (fg_T2 m)

theorem fg_ML_lcn : ∀ (k : Nat) (i M : Int) (m : fw_M), fg_ML M m → 0 ≤ i → i + k = fw_r m 32 3 → fg_ML M (fg_lcn m i k) ∧ fw_r (fg_lcn m i k) 32 3 = fw_r m 32 3 ∧ (0 ≤ fg_lcs m i k ∧ fg_lcs m i k ≤ k) := by
  intro k
  induction k with
  | zero => intro i M m h h0 h1; exact ⟨h, rfl, by simp only [fg_lcs]; omega⟩
  | succ k ih =>
    intro i M m h h0 h1
    have h01 := fg_dv_01 m i
    have e3 : fw_r (fg_lc m i) 32 3 = fw_r m 32 3 := fg_lc_n m i 32 (by decide) (by decide) 3
    obtain ⟨q2, q3, q4⟩ := ih (i + 1) M (fg_lc m i) (fg_ML_lc h h0 (by omega)) (by omega) (by rw [e3]; omega)
    refine ⟨q2, q3.trans e3, ?_⟩
    rw [fg_lcs]; omega
theorem fg_ML_T2 {m : fw_M} {M : Int} (h : fg_ML M m) : fg_ML (M + 1) (fg_T2 m) := by
  have h1 := fg_ML_mvs h
  have hn := h.1.2.1
  have e : fw_r (fg_mvs m) 32 3 = fw_r m 32 3 := fg_mvs_o m (by decide) (by decide)
  have hk : ((fg_n m : Nat) : Int) = fw_r m 32 3 := by unfold fg_n; omega
  have := (fg_ML_lcn (fg_n m) 0 (M + 1) (fg_mvs m) h1 (by omega) (by omega)).1
  exact fg_ML_ll (fg_ML_lo this)
theorem fg_C2_bd {m : fw_M} {M : Int} (h : fg_ML M m) : 0 ≤ fg_C2 m ∧ fg_C2 m ≤ 7 := by
  have h1 := fg_ML_mvs h
  have hn := h.1.2.1
  have e : fw_r (fg_mvs m) 32 3 = fw_r m 32 3 := fg_mvs_o m (by decide) (by decide)
  have hk : ((fg_n m : Nat) : Int) = fw_r m 32 3 := by unfold fg_n; omega
  have := (fg_ML_lcn (fg_n m) 0 (M + 1) (fg_mvs m) h1 (by omega) (by omega)).2.2
  have ho := fg_ov_01 (fg_lcn (fg_mvs m) 0 (fg_n m))
  unfold fg_C2
  omega
theorem fg_T12 {m : fw_M} {M : Int} (h : fg_ML M m) : fg_T1 m = fg_T2 m ∧ fg_C1 m = fg_C2 m := by
  have h1 := fg_ML_mvs h
  have hn := h.1.2.1
  have e : fw_r (fg_mvs m) 32 3 = fw_r m 32 3 := fg_mvs_o m (by decide) (by decide)
  have hk : ((fg_n m : Nat) : Int) = fw_r m 32 3 := by unfold fg_n; omega
  obtain ⟨q1, q2⟩ := fg_lcn_ll (fg_n m) 0 (M + 1) (fg_mvs m) h1 (by omega) (by omega)
  have h2 := (fg_ML_lcn (fg_n m) 0 (M + 1) (fg_mvs m) h1 (by omega) (by omega)).1
  have hN := h2.1.2.2.1.1
  unfold fg_T1 fg_T2 fg_C1 fg_C2
  rw [q1, q2, fg_ll_lo hN, fg_ov_ll hN]
  exact ⟨rfl, rfl⟩
