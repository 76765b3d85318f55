/-! the look ahead and what comes: as many leave -/
def fg_ev (a j : Int) : Prop := a = 33 ∨ a = 34 ∨ a = 35 ∨ a = 36 ∨ a = 37 ∨ a = 40 ∨ a = 41 ∨ a = 42 ∨ (a = 32 ∧ (j = 1 ∨ j = 3 ∨ j = 7 ∨ j = 8 ∨ j = 9 ∨ j = 10 ∨ j = 15))
def fg_EV (t p : fw_M) : Prop := ∀ a j, fg_ev a j → fw_r p a j = fw_r t a j
theorem fg_EV_refl (m : fw_M) : fg_EV m m := fun _ _ _ => rfl
theorem fg_EV_c {t p : fw_M} (h : fg_EV t p) : (∀ j, fw_r p 33 j = fw_r t 33 j) ∧ (∀ j, fw_r p 34 j = fw_r t 34 j) ∧ (∀ j, fw_r p 35 j = fw_r t 35 j) ∧ (∀ j, fw_r p 36 j = fw_r t 36 j) ∧ (∀ j, fw_r p 37 j = fw_r t 37 j) ∧ (∀ j, fw_r p 40 j = fw_r t 40 j) ∧ (∀ j, fw_r p 41 j = fw_r t 41 j) ∧ (∀ j, fw_r p 42 j = fw_r t 42 j) ∧ fw_r p 32 1 = fw_r t 32 1 ∧ fw_r p 32 3 = fw_r t 32 3 ∧ fw_r p 32 7 = fw_r t 32 7 ∧ fw_r p 32 8 = fw_r t 32 8 ∧ fw_r p 32 9 = fw_r t 32 9 ∧ fw_r p 32 10 = fw_r t 32 10 ∧ fw_r p 32 15 = fw_r t 32 15 := by
  refine ⟨fun j => h _ _ ?_, fun j => h _ _ ?_, fun j => h _ _ ?_, fun j => h _ _ ?_, fun j => h _ _ ?_, fun j => h _ _ ?_, fun j => h _ _ ?_, fun j => h _ _ ?_, h _ _ ?_, h _ _ ?_, h _ _ ?_, h _ _ ?_, h _ _ ?_, h _ _ ?_, h _ _ ?_⟩ <;> unfold fg_ev <;> omega
theorem fg_EV_dv {t p : fw_M} (h : fg_EV t p) (i : Int) : fg_dv p i = fg_dv t i := by
  obtain ⟨a, b, c, d, e, f, g, k, -⟩ := fg_EV_c h
  unfold fg_dv
  rw [b, a, d, e, g, k, c]
theorem fg_EV_ov {t p : fw_M} (h : fg_EV t p) : fg_ov p = fg_ov t := by
  obtain ⟨a, b, c, d, e, f, g, k, q1, q2, q3, q4, q5, q6, q7⟩ := fg_EV_c h
  unfold fg_ov
  rw [q1, a, q4, q5, f]
theorem fg_EV_lv {t p : fw_M} (h : fg_EV t p) : fg_lv p = fg_lv t := by
  obtain ⟨a, b, c, d, e, f, g, k, q1, q2, q3, q4, q5, q6, q7⟩ := fg_EV_c h
  unfold fg_lv
  rw [q3, a, q7, q6]
theorem fg_EV_mvs {t p : fw_M} (h : fg_EV t p) : fg_EV (fg_mvs t) (fg_mvs (fg_tk0 p)) := fun a j ha => by
  obtain ⟨q33, b, c, d, e, q40, g, k, q1, -⟩ := fg_EV_c h
  have e0 : ∀ a j, (a ≠ 32 ∨ j ≠ 16) → fw_r (fg_tk0 p) a j = fw_r p a j := fun a j x => by unfold fg_tk0; rw [fw_r_n _ (by omega)]
  rw [fg_mvs_r, fg_mvs_r, e0 32 1 (by decide), q1, e0 33 _ (Or.inl (by decide)), e0 33 _ (Or.inl (by decide)), e0 40 _ (Or.inl (by decide)), q33, q33, q40, e0 a j (by unfold fg_ev at ha; omega), h a j ha]
theorem fg_EV_pl {t p : fw_M} (h : fg_EV t p) : fg_EV (fg_ll t) (fg_pl p) := fun a j ha => by
  have e := fg_EV_lv h
  have q15 := (fg_EV_c h).2.2.2.2.2.2.2.2.2.2.2.2.2.2
  rcases fg_lv_01 t with h0 | h1
  · rw [fg_ll_0 h0, fg_pl_0 (e.trans h0)]; exact h a j ha
  · have z := h a j ha
    rw [fg_pll_eq p (e.trans h1)]
    unfold fg_ll fg_pll
    rw [if_pos h1]
    simp only [fg_us, q15]
    unfold fg_ev at ha
    rw [fw_r_u, fw_r_u, fw_r_u, fw_r_u, fw_r_u, z]
    repeat' split
    all_goals first | rfl | omega
theorem fg_EV_pc {t p : fw_M} (h : fg_EV t p) (i : Int) : fg_EV (fg_lc t i) (fg_pc p i) := fun a j ha => by
  have e := fg_EV_dv h i
  obtain ⟨q33, q34, -, -, -, -, -, q42, -⟩ := fg_EV_c h
  have z := h a j ha
  unfold fg_pc fg_lc
  rw [e]
  rcases fg_dv_01 t i with h0 | h1
  · rw [if_neg (by omega), if_neg (by omega)]; exact z
  · rw [if_pos h1, if_pos h1, fw_r_u, fw_r_u]
    by_cases c1 : a = 42
    · subst c1
      rw [fg_pcl_42, q42, q42]
      by_cases c2 : j = i
      · rw [if_pos c2, if_pos ⟨rfl, c2⟩]
      · rw [if_neg c2, if_neg (fun x => c2 x.2), if_neg (by omega)]
    · rw [if_neg (fun x => c1 x.1)]
      by_cases c2 : a = 33
      · subst c2
        rw [fg_pcl_33, q34, q33]
        by_cases c3 : j = fw_r t 34 i
        · rw [if_pos c3, if_pos ⟨rfl, c3⟩]
        · rw [if_neg c3, if_neg (fun x => c3 x.2)]
      · rw [if_neg (fun x => c2 x.1), ← z]
        unfold fg_ev at ha
        exact fg_pcl_o p i (by omega) (by omega) (by omega) (by omega) (by omega) (by omega) (by omega)
theorem fg_EV_po {t p : fw_M} (h : fg_EV t p) : fg_EV (fg_lo t) (fg_po p) := fun a j ha => by
  have e := fg_EV_ov h
  obtain ⟨q33, -, -, -, -, -, -, -, q1, -⟩ := fg_EV_c h
  have z := h a j ha
  unfold fg_po fg_lo
  rw [e]
  rcases fg_ov_01 t with h0 | h1
  · rw [if_neg (by omega), if_neg (by omega)]; exact z
  · rw [if_pos h1, if_pos h1, fw_r_u]
    by_cases c2 : a = 33
    · subst c2
      rw [fg_pol_33, q1, q33]
      by_cases c3 : j = fw_r t 32 1 - 1
      · rw [if_pos c3, if_pos ⟨rfl, c3⟩]
      · rw [if_neg c3, if_neg (fun x => c3 x.2)]
    · rw [if_neg (fun x => c2 x.1), ← z]
      unfold fg_ev at ha
      exact fg_pol_o p (by omega) (by omega) (by omega)
theorem fg_EV_pcn : ∀ (k : Nat) (i : Int) (t p : fw_M), fg_EV t p → fg_EV (fg_lcn t i k) (fg_pcn p i k) ∧ fw_r (fg_pcn p i k) 32 17 = fw_r p 32 17 + fg_lcs t i k := by
  intro k
  induction k with
  | zero => intro i t p h; exact ⟨h, by simp [fg_pcn, fg_lcs]⟩
  | succ k ih =>
    intro i t p h
    obtain ⟨q1, q2⟩ := ih (i + 1) _ _ (fg_EV_pc h i)
    refine ⟨q1, ?_⟩
    rw [fg_pcn, fg_lcs, q2, fg_pc_17, fg_EV_dv h]; omega
theorem fg_EV_P1 {t p : fw_M} (h : fg_EV t p) : fg_EV (fg_T1 t) (fg_P1 p) ∧ fw_r (fg_P1 p) 32 17 = fw_r p 32 17 + fg_C1 t := by
  have h1 := fg_EV_pl (fg_EV_mvs h)
  have hn : fg_n p = fg_n t := by unfold fg_n; rw [(fg_EV_c h).2.2.2.2.2.2.2.2.2.1]
  obtain ⟨q1, q2⟩ := fg_EV_pcn (fg_n t) 0 _ _ h1
  unfold fg_P1 fg_T1 fg_C1
  rw [hn]
  refine ⟨fg_EV_po q1, ?_⟩
  rw [fg_po_17, q2, fg_EV_ov q1]
  have e1 : fw_r (fg_pl (fg_mvs (fg_tk0 p))) 32 17 = fw_r p 32 17 := by
    rw [fg_pl_o _ (by decide), fg_mvs_o _ (by decide) (by decide)]
    unfold fg_tk0; rw [fw_r_j _ (by decide)]
  omega
theorem fg_CP : ∀ (k : Nat) (M : Int) (t p : fw_M), fg_ML M t → fg_EV t p → fw_r (fg_Pn k p) 32 17 = fw_r p 32 17 + fg_Cn k t := by
  intro k
  induction k with
  | zero => intro M t p h e; simp [fg_Pn, fg_Cn]
  | succ k ih =>
    intro M t p h e
    obtain ⟨q1, q2⟩ := fg_EV_P1 e
    obtain ⟨e1, e2⟩ := fg_T12 h
    rw [e1] at q1
    rw [e2] at q2
    rw [fg_Pn, fg_Cn, ih (M + 1) _ _ (fg_ML_T2 h) q1, q2]; omega
/-- what leaves ahead is what leaves then -/
theorem fg_ahead {M : Int} {c m : fw_M} (h : fg_IN M c m) (k : Nat) : fw_r (fg_Pn k m) 32 17 = fw_r m 32 17 + fg_Cn k m := fg_CP k M m m (fg_ML_of h) (fg_EV_refl m)
