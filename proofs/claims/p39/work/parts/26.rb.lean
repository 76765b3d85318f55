/-! the belt of the class (c, at b) beside the tray row of the reference (m) -/
def fg_RB (b M : Int) (c m : fw_M) : Prop := fg_bok c b ∧ fw_r c b 2 = fw_r m 32 1 ∧ (∀ p, 0 ≤ p → p < fw_r m 32 1 → fg_tr c b p = fw_r m 33 p ∧ (fw_r m 33 p ≠ -1 → fg_rd c b p = fw_r m 40 (fw_r m 33 p))) ∧ (∀ j, 0 ≤ j → j < fw_r m 32 1 → 0 ≤ fw_r c (b + 2) j ∧ fw_r c (b + 2) j ≤ M)
def fg_TR (m : fw_M) : Prop := (4 ≤ fw_r m 32 1 ∧ fw_r m 32 1 ≤ 20) ∧ (0 ≤ fw_r m 32 15 ∧ fw_r m 32 15 ≤ fw_r m 32 10 ∧ fw_r m 32 10 ≤ 300) ∧ (∀ p, 0 ≤ p → p < fw_r m 32 1 → -1 ≤ fw_r m 33 p ∧ fw_r m 33 p < fw_r m 32 15) ∧ (∀ p q, 0 ≤ p → p < fw_r m 32 1 → 0 ≤ q → q < fw_r m 32 1 → fw_r m 33 p = fw_r m 33 q → fw_r m 33 p ≠ -1 → p = q) ∧ (∀ p, fw_r m 32 15 ≤ p → p < fw_r m 32 10 → fw_r m 40 p = 0)
/-- the reference's move -/
def fg_mvs (m : fw_M) : fw_M := fun a b => if a = 33 ∧ 0 ≤ b ∧ b < fw_r m 32 1 then fw_r m 33 (fg_bk (fw_r m 32 1) b) else if a = 40 ∧ b = fw_r m 33 (fw_r m 32 1 - 1) ∧ fw_r m 33 (fw_r m 32 1 - 1) ≠ -1 then fw_r m 40 b + 1 else fw_r m a b
theorem fg_mvs_33 {m : fw_M} {p : Int} (h0 : 0 ≤ p) (h1 : p < fw_r m 32 1) : fw_r (fg_mvs m) 33 p = fw_r m 33 (fg_bk (fw_r m 32 1) p) := if_pos ⟨rfl, h0, h1⟩
theorem fg_mvs_r (m : fw_M) (a b : Int) : fw_r (fg_mvs m) a b = if a = 33 ∧ 0 ≤ b ∧ b < fw_r m 32 1 then fw_r m 33 (fg_bk (fw_r m 32 1) b) else if a = 40 ∧ b = fw_r m 33 (fw_r m 32 1 - 1) ∧ fw_r m 33 (fw_r m 32 1 - 1) ≠ -1 then fw_r m 40 b + 1 else fw_r m a b := rfl
theorem fg_mvs_33o {m : fw_M} {p : Int} (h : ¬(0 ≤ p ∧ p < fw_r m 32 1)) : fw_r (fg_mvs m) 33 p = fw_r m 33 p := by
  rw [fg_mvs_r, if_neg (fun hc => h ⟨hc.2.1, hc.2.2⟩), if_neg (fun hc => absurd hc.1 (by decide))]
theorem fg_mvs_40 (m : fw_M) (p : Int) : fw_r (fg_mvs m) 40 p = if p = fw_r m 33 (fw_r m 32 1 - 1) ∧ fw_r m 33 (fw_r m 32 1 - 1) ≠ -1 then fw_r m 40 p + 1 else fw_r m 40 p := by
  rw [fg_mvs_r, if_neg (fun hc => absurd hc.1 (by decide))]
  by_cases h : p = fw_r m 33 (fw_r m 32 1 - 1) ∧ fw_r m 33 (fw_r m 32 1 - 1) ≠ -1
  · rw [if_pos h, if_pos ⟨rfl, h⟩]
  · rw [if_neg h, if_neg (fun hc => h hc.2)]
theorem fg_mvs_o (m : fw_M) {a p : Int} (h : a ≠ 33) (h2 : a ≠ 40) : fw_r (fg_mvs m) a p = fw_r m a p := by
  rw [fg_mvs_r, if_neg (fun hc => h hc.1), if_neg (fun hc => h2 hc.1)]
theorem fg_bk_in {N p : Int} (h : 4 ≤ N) (h0 : 0 ≤ p) (h1 : p < N) : 0 ≤ fg_bk N p ∧ fg_bk N p < N := by unfold fg_bk; split <;> omega
theorem fg_bk_inj {N p q : Int} (h : 4 ≤ N) (h0 : 0 ≤ p) (h1 : p < N) (h2 : 0 ≤ q) (h3 : q < N) (e : fg_bk N p = fg_bk N q) : p = q := by unfold fg_bk at e; split at e <;> split at e <;> omega
theorem fg_TR_mvs {m : fw_M} (h : fg_TR m) : fg_TR (fg_mvs m) := by
  obtain ⟨h1, h2, h3, h4, h5⟩ := h
  have eN : fw_r (fg_mvs m) 32 1 = fw_r m 32 1 := fg_mvs_o m (by decide) (by decide)
  have eF : fw_r (fg_mvs m) 32 15 = fw_r m 32 15 := fg_mvs_o m (by decide) (by decide)
  have eP : fw_r (fg_mvs m) 32 10 = fw_r m 32 10 := fg_mvs_o m (by decide) (by decide)
  unfold fg_TR
  rw [eN, eF, eP]
  refine ⟨h1, h2, fun p a b => ?_, fun p q a b a2 b2 e ne => ?_, fun p a b => ?_⟩
  · rw [fg_mvs_33 a b]
    have := fg_bk_in h1.1 a b
    exact h3 _ this.1 this.2
  · rw [fg_mvs_33 a b] at e ne
    rw [fg_mvs_33 a2 b2] at e
    have k1 := fg_bk_in h1.1 a b
    have k2 := fg_bk_in h1.1 a2 b2
    exact fg_bk_inj h1.1 a b a2 b2 (h4 _ _ k1.1 k1.2 k2.1 k2.2 e ne)
  · rw [fg_mvs_40, if_neg]
    · exact h5 p a b
    · intro hc
      have := h3 (fw_r m 32 1 - 1) (by omega) (by omega)
      omega
theorem fg_RB_mvs {b M : Int} {c m : fw_M} (h : fg_RB b M c m) (ht : fg_TR m) : fg_RB b (M + 1) (fg_mv c b) (fg_mvs m) := by
  obtain ⟨h1, h2, h3, h4⟩ := h
  obtain ⟨t1, t2, t3, t4, t5⟩ := ht
  have eN : fw_r (fg_mvs m) 32 1 = fw_r m 32 1 := fg_mvs_o m (by decide) (by decide)
  unfold fg_RB
  rw [eN, fg_mv_2]
  refine ⟨fg_mv_ok h1, h2, fun p a d => ?_, fun j a d => ?_⟩
  · have k := fg_bk_in t1.1 a d
    have k3 := h3 _ k.1 k.2
    have kl := h3 (fw_r m 32 1 - 1) (by omega) (by omega)
    rw [fg_mv_tr h1 a (by omega), fg_mvs_33 a d, h2]
    refine ⟨k3.1, fun ne => ?_⟩
    rw [fg_mv_rd h1 a (by omega), fg_mvs_40, h2, kl.1]
    by_cases hp : p = 0
    · subst hp
      have e : fg_bk (fw_r m 32 1) 0 = fw_r m 32 1 - 1 := if_pos rfl
      rw [e] at ne ⊢
      rw [if_pos ⟨rfl, ne⟩, if_pos ⟨rfl, ne⟩, kl.2 ne]
    · rw [if_neg (fun hc => hp hc.1), if_neg]
      · exact k3.2 ne
      · intro hc
        have := t4 _ _ k.1 k.2 (by omega) (by omega) hc.1 ne
        unfold fg_bk at this
        rw [if_neg hp] at this
        omega
  · have ho := fg_or_in h1
    have k := h4 (fg_or c b) ho.1 (by omega)
    unfold fg_mv
    by_cases hj : j = fg_or c b
    · subst hj
      rw [fw_r_s]
      split <;> omega
    · rw [fw_r_j _ hj, fw_r_k _ (by omega)]
      have := h4 j a d
      omega
theorem fg_RB_take {b M p : Int} {c m : fw_M} (hM : 0 ≤ M) (h : fg_RB b M c m) (h0 : 0 ≤ p) (hp : p < fw_r m 32 1) : fg_RB b M (fg_put c b p (-1)) (fw_u m 33 p (-1)) := by
  obtain ⟨h1, h2, h3, h4⟩ := h
  have eN : fw_r (fw_u m 33 p (-1)) 32 1 = fw_r m 32 1 := fw_r_k _ (by decide)
  unfold fg_RB
  rw [eN, fg_put_N]
  refine ⟨fg_put_ok h1, h2, fun q a d => ?_, fun j a d => ?_⟩
  · have k3 := h3 q a d
    rw [fg_put_tr h1 h0 (by omega) a (by omega), fg_put_rd h1 h0 (by omega) a (by omega)]
    by_cases hq : q = p
    · subst hq
      rw [if_pos rfl, if_pos rfl, fw_r_s]
      exact ⟨rfl, fun h => absurd rfl h⟩
    · rw [if_neg hq, if_neg hq, fw_r_j _ hq, fw_r_k _ (by decide)]
      exact k3
  · unfold fg_put
    by_cases hj : j = fg_slot c b p
    · subst hj; rw [fw_r_s]; omega
    · rw [fw_r_j _ hj, fw_r_k _ (by omega)]; exact h4 j a d
theorem fg_TR_take {m : fw_M} {p : Int} (h : fg_TR m) (h0 : 0 ≤ p) (hp : p < fw_r m 32 1) : fg_TR (fw_u m 33 p (-1)) := by
  obtain ⟨h1, h2, h3, h4, h5⟩ := h
  have e : ∀ a j, a ≠ 33 → fw_r (fw_u m 33 p (-1)) a j = fw_r m a j := fun a j h => fw_r_k _ h
  unfold fg_TR
  rw [e 32 1 (by decide), e 32 15 (by decide), e 32 10 (by decide)]
  refine ⟨h1, h2, fun q a b => ?_, fun q r a b a2 b2 ee ne => ?_, fun q a b => ?_⟩
  · by_cases hq : q = p
    · subst hq; rw [fw_r_s]; omega
    · rw [fw_r_j _ hq]; exact h3 q a b
  · by_cases hq : q = p
    · subst hq; rw [fw_r_s] at ne; exact absurd rfl ne
    · rw [fw_r_j _ hq] at ee ne
      by_cases hr : r = p
      · subst hr; rw [fw_r_s] at ee; exact absurd ee ne
      · rw [fw_r_j _ hr] at ee
        exact h4 q r a b a2 b2 ee ne
  · rw [e 40 q (by decide)]; exact h5 q a b
/-- the loader puts the queue's first parcel -/
theorem fg_RB_load {b M : Int} {c m : fw_M} (hM : 0 ≤ M) (h : fg_RB b M c m) (ht : fg_TR m) (hf : fw_r m 32 15 < fw_r m 32 10) : fg_RB b M (fg_put c b 0 (fw_r m 32 15)) (fw_u (fw_u m 33 0 (fw_r m 32 15)) 32 15 (fw_r m 32 15 + 1)) := by
  obtain ⟨h1, h2, h3, h4⟩ := h
  obtain ⟨t1, t2, t3, t4, t5⟩ := ht
  have e : ∀ a j, a ≠ 33 → a ≠ 32 → fw_r (fw_u (fw_u m 33 0 (fw_r m 32 15)) 32 15 (fw_r m 32 15 + 1)) a j = fw_r m a j := fun a j h h2 => by rw [fw_r_k _ h2, fw_r_k _ h]
  have eN : fw_r (fw_u (fw_u m 33 0 (fw_r m 32 15)) 32 15 (fw_r m 32 15 + 1)) 32 1 = fw_r m 32 1 := by rw [fw_r_j _ (by decide), fw_r_k _ (by decide)]
  have e33 : ∀ j, fw_r (fw_u (fw_u m 33 0 (fw_r m 32 15)) 32 15 (fw_r m 32 15 + 1)) 33 j = if j = 0 then fw_r m 32 15 else fw_r m 33 j := by
    intro j
    rw [fw_r_k _ (by decide), fw_r_u]
    by_cases hj : j = 0
    · rw [if_pos ⟨rfl, hj⟩, if_pos hj]
    · rw [if_neg (fun hc => hj hc.2), if_neg hj]
  unfold fg_RB
  rw [eN, fg_put_N]
  refine ⟨fg_put_ok h1, h2, fun q a d => ?_, fun j a d => ?_⟩
  · have k3 := h3 q a d
    rw [fg_put_tr h1 (by omega) (by omega) a (by omega), fg_put_rd h1 (by omega) (by omega) a (by omega), e33, e 40 _ (by decide) (by decide)]
    by_cases hq : q = 0
    · subst hq
      rw [if_pos rfl, if_pos rfl, if_pos rfl]
      exact ⟨rfl, fun _ => (t5 _ (by omega) hf).symm⟩
    · rw [if_neg hq, if_neg hq, if_neg hq]
      exact k3
  · unfold fg_put
    by_cases hj : j = fg_slot c b 0
    · subst hj; rw [fw_r_s]; omega
    · rw [fw_r_j _ hj, fw_r_k _ (by omega)]; exact h4 j a d
theorem fg_TR_load {m : fw_M} (ht : fg_TR m) (hf : fw_r m 32 15 < fw_r m 32 10) : fg_TR (fw_u (fw_u m 33 0 (fw_r m 32 15)) 32 15 (fw_r m 32 15 + 1)) := by
  obtain ⟨t1, t2, t3, t4, t5⟩ := ht
  have e : ∀ a j, a ≠ 33 → a ≠ 32 → fw_r (fw_u (fw_u m 33 0 (fw_r m 32 15)) 32 15 (fw_r m 32 15 + 1)) a j = fw_r m a j := fun a j h h2 => by rw [fw_r_k _ h2, fw_r_k _ h]
  have e32 : ∀ j, j ≠ 15 → fw_r (fw_u (fw_u m 33 0 (fw_r m 32 15)) 32 15 (fw_r m 32 15 + 1)) 32 j = fw_r m 32 j := fun j hj => by rw [fw_r_j _ hj, fw_r_k _ (by decide)]
  have eF : fw_r (fw_u (fw_u m 33 0 (fw_r m 32 15)) 32 15 (fw_r m 32 15 + 1)) 32 15 = fw_r m 32 15 + 1 := fw_r_s _ _ _ _
  have e33 : ∀ j, fw_r (fw_u (fw_u m 33 0 (fw_r m 32 15)) 32 15 (fw_r m 32 15 + 1)) 33 j = if j = 0 then fw_r m 32 15 else fw_r m 33 j := by
    intro j
    rw [fw_r_k _ (by decide), fw_r_u]
    by_cases hj : j = 0
    · rw [if_pos ⟨rfl, hj⟩, if_pos hj]
    · rw [if_neg (fun hc => hj hc.2), if_neg hj]
  unfold fg_TR
  rw [e32 1 (by decide), e32 10 (by decide), eF]
  refine ⟨t1, by omega, fun q a b => ?_, fun q r a b a2 b2 ee ne => ?_, fun q a b => ?_⟩
  · rw [e33]
    have := t3 q a b
    split <;> omega
  · rw [e33] at ee ne
    rw [e33] at ee
    have hq := t3 q a b
    have hr := t3 r a2 b2
    by_cases k1 : q = 0
    · by_cases k2 : r = 0
      · omega
      · rw [if_pos k1, if_neg k2] at ee; omega
    · by_cases k2 : r = 0
      · rw [if_neg k1, if_pos k2] at ee; omega
      · rw [if_neg k1, if_neg k2] at ee
        rw [if_neg k1] at ne
        exact t4 q r a b a2 b2 ee ne
  · rw [e 40 q (by decide) (by decide)]; exact t5 q (by omega) b
/-- only what is read counts -/
theorem fg_RB_m {b M : Int} {c m m' : fw_M} (h : fg_RB b M c m) (h1 : fw_r m' 32 1 = fw_r m 32 1) (h2 : ∀ j, fw_r m' 33 j = fw_r m 33 j) (h3 : ∀ j, fw_r m' 40 j = fw_r m 40 j) : fg_RB b M c m' := by
  unfold fg_RB at h ⊢
  rw [h1]
  simp only [h2, h3]
  exact h
theorem fg_slot_c {b : Int} {c c' : fw_M} (h : ∀ j, fw_r c' b j = fw_r c b j) (p : Int) : fg_slot c' b p = fg_slot c b p := by
  unfold fg_slot; rw [h, h]
theorem fg_RB_c {b M : Int} {c c' m : fw_M} (h : fg_RB b M c m) (h1 : ∀ j, fw_r c' b j = fw_r c b j) (h2 : ∀ j, fw_r c' (b + 1) j = fw_r c (b + 1) j) (h3 : ∀ j, fw_r c' (b + 2) j = fw_r c (b + 2) j) : fg_RB b M c' m := by
  unfold fg_RB fg_bok fg_tr fg_rd at h ⊢
  simp only [h1, h2, h3, fg_slot_c h1]
  exact h
theorem fg_RB_M {b M M' : Int} {c m : fw_M} (h : fg_RB b M c m) (hM : M ≤ M') : fg_RB b M' c m := by
  obtain ⟨h1, h2, h3, h4⟩ := h
  exact ⟨h1, h2, h3, fun j a d => ⟨(h4 j a d).1, Int.le_trans (h4 j a d).2 hM⟩⟩
theorem fg_TR_m {m m' : fw_M} (h : fg_TR m) (h1 : fw_r m' 32 1 = fw_r m 32 1) (h15 : fw_r m' 32 15 = fw_r m 32 15) (h10 : fw_r m' 32 10 = fw_r m 32 10) (h2 : ∀ j, fw_r m' 33 j = fw_r m 33 j) (h3 : ∀ j, fw_r m' 40 j = fw_r m 40 j) : fg_TR m' := by
  unfold fg_TR at h ⊢
  rw [h1, h15, h10]
  simp only [h2, h3]
  exact h
