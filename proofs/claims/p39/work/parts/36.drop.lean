/-! a chute takes a parcel: the reference -/
theorem fg_pcl_o (m : fw_M) (i : Int) {a b : Int} (h33 : a ≠ 33 ∨ b ≠ fw_r m 34 i) (h43 : a ≠ 43 ∨ b ≠ 30 * i + fw_r m 42 i) (h42 : a ≠ 42 ∨ b ≠ i) (h44 : a ≠ 44 ∨ b ≠ i) (h45 : a ≠ 45 ∨ b ≠ i) (h39 : a ≠ 39 ∨ b ≠ fw_r m 33 (fw_r m 34 i)) (h32 : a ≠ 32 ∨ (b ≠ 17 ∧ b ≠ 18)) : fw_r (fg_us (fg_pcl m i) m) a b = fw_r m a b := by
  unfold fg_pcl
  simp only [fg_us]
  rw [fw_r_u, if_neg (by omega), fw_r_u, if_neg (by omega), fw_r_u, if_neg (by omega), fw_r_u, if_neg (by omega), fw_r_u, if_neg (by omega), fw_r_u, if_neg (by omega), fw_r_u, if_neg (by omega), fw_r_u, if_neg (by omega)]
theorem fg_pcl_33 (m : fw_M) (i b : Int) : fw_r (fg_us (fg_pcl m i) m) 33 b = if b = fw_r m 34 i then -1 else fw_r m 33 b := by
  by_cases h : b = fw_r m 34 i
  · rw [if_pos h, h]
    unfold fg_pcl
    simp (disch := omega) only [fg_us, fw_r_k, fw_r_j, fw_r_s]
  · rw [if_neg h]
    exact fg_pcl_o m i (Or.inr h) (Or.inl (by decide)) (Or.inl (by decide)) (Or.inl (by decide)) (Or.inl (by decide)) (Or.inl (by decide)) (Or.inl (by decide))
theorem fg_pcl_43 (m : fw_M) (i b : Int) : fw_r (fg_us (fg_pcl m i) m) 43 b = if b = 30 * i + fw_r m 42 i then fw_r m 33 (fw_r m 34 i) else fw_r m 43 b := by
  by_cases h : b = 30 * i + fw_r m 42 i
  · rw [if_pos h, h]
    unfold fg_pcl
    simp (disch := omega) only [fg_us, fw_r_k, fw_r_j, fw_r_s]
  · rw [if_neg h]
    exact fg_pcl_o m i (Or.inl (by decide)) (Or.inr h) (Or.inl (by decide)) (Or.inl (by decide)) (Or.inl (by decide)) (Or.inl (by decide)) (Or.inl (by decide))
theorem fg_pcl_42 (m : fw_M) (i b : Int) : fw_r (fg_us (fg_pcl m i) m) 42 b = if b = i then fw_r m 42 i + 1 else fw_r m 42 b := by
  by_cases h : b = i
  · rw [if_pos h, h]
    unfold fg_pcl
    simp (disch := omega) only [fg_us, fw_r_k, fw_r_j, fw_r_s]
  · rw [if_neg h]
    exact fg_pcl_o m i (Or.inl (by decide)) (Or.inl (by decide)) (Or.inr h) (Or.inl (by decide)) (Or.inl (by decide)) (Or.inl (by decide)) (Or.inl (by decide))
theorem fg_pcl_44 (m : fw_M) (i b : Int) : fw_r (fg_us (fg_pcl m i) m) 44 b = if b = i then (fw_r m 44 i + fw_r m 33 (fw_r m 34 i) + 1) % 9973 else fw_r m 44 b := by
  by_cases h : b = i
  · rw [if_pos h, h]
    unfold fg_pcl
    simp (disch := omega) only [fg_us, fw_r_k, fw_r_j, fw_r_s]
  · rw [if_neg h]
    exact fg_pcl_o m i (Or.inl (by decide)) (Or.inl (by decide)) (Or.inl (by decide)) (Or.inr h) (Or.inl (by decide)) (Or.inl (by decide)) (Or.inl (by decide))
theorem fg_pcl_45 (m : fw_M) (i b : Int) : fw_r (fg_us (fg_pcl m i) m) 45 b = if b = i then (fw_r m 45 i + (fw_r m 44 i + fw_r m 33 (fw_r m 34 i) + 1) % 9973) % 9973 else fw_r m 45 b := by
  by_cases h : b = i
  · rw [if_pos h, h]
    unfold fg_pcl
    simp (disch := omega) only [fg_us, fw_r_k, fw_r_j, fw_r_s]
  · rw [if_neg h]
    exact fg_pcl_o m i (Or.inl (by decide)) (Or.inl (by decide)) (Or.inl (by decide)) (Or.inl (by decide)) (Or.inr h) (Or.inl (by decide)) (Or.inl (by decide))
theorem fg_pcl_39 (m : fw_M) (i b : Int) : fw_r (fg_us (fg_pcl m i) m) 39 b = if b = fw_r m 33 (fw_r m 34 i) then 2 else fw_r m 39 b := by
  by_cases h : b = fw_r m 33 (fw_r m 34 i)
  · rw [if_pos h, h]
    unfold fg_pcl
    simp (disch := omega) only [fg_us, fw_r_k, fw_r_j, fw_r_s]
  · rw [if_neg h]
    exact fg_pcl_o m i (Or.inl (by decide)) (Or.inl (by decide)) (Or.inl (by decide)) (Or.inl (by decide)) (Or.inl (by decide)) (Or.inr h) (Or.inl (by decide))
theorem fg_pcl_17 (m : fw_M) (i : Int) : fw_r (fg_us (fg_pcl m i) m) 32 17 = fw_r m 32 17 + 1 := by
  unfold fg_pcl
  simp (disch := omega) only [fg_us, fw_r_k, fw_r_j, fw_r_s]
theorem fg_pcl_18 (m : fw_M) (i : Int) : fw_r (fg_us (fg_pcl m i) m) 32 18 = fw_r m 32 18 + fw_r m 40 (fw_r m 33 (fw_r m 34 i)) := by
  unfold fg_pcl
  simp (disch := omega) only [fg_us, fw_r_k, fw_r_j, fw_r_s]
theorem fg_pcl_32 (m : fw_M) (i : Int) {b : Int} (h : b ≠ 17) (h2 : b ≠ 18) : fw_r (fg_us (fg_pcl m i) m) 32 b = fw_r m 32 b :=
  fg_pcl_o m i (Or.inl (by decide)) (Or.inl (by decide)) (Or.inl (by decide)) (Or.inl (by decide)) (Or.inl (by decide)) (Or.inl (by decide)) (Or.inr ⟨h, h2⟩)
theorem fg_pcl_x (m : fw_M) (i : Int) {a b : Int} (h1 : a ≠ 33) (h2 : a ≠ 43) (h3 : a ≠ 42) (h4 : a ≠ 44) (h5 : a ≠ 45) (h6 : a ≠ 39) (h7 : a ≠ 32) : fw_r (fg_us (fg_pcl m i) m) a b = fw_r m a b :=
  fg_pcl_o m i (Or.inl h1) (Or.inl h2) (Or.inl h3) (Or.inl h4) (Or.inl h5) (Or.inl h6) (Or.inl h7)
theorem fg_ps_no2 : ∀ q ∈ fw_psT, q.1 ≠ 33 ∧ q.1 ≠ 43 ∧ q.1 ≠ 42 ∧ q.1 ≠ 44 ∧ q.1 ≠ 45 ∧ q.1 ≠ 39 ∧ (q.1 = 32 → q.2.1 ≠ 17 ∧ q.2.1 ≠ 18 ∧ q.2.1 ≠ 15 ∧ q.2.1 ≠ 16 ∧ q.2.1 ≠ 19) := by decide
theorem fg_pcl_ptr {m : fw_M} (i : Int) (h : fw_ptr m) : fw_ptr (fg_us (fg_pcl m i) m) := fg_ptr_of h (fun q hq => by
  obtain ⟨h1, h2, h3, h4, h5, h6, h7⟩ := fg_ps_no2 q hq
  exact fg_pcl_o m i (Or.inl h1) (Or.inl h2) (Or.inl h3) (Or.inl h4) (Or.inl h5) (Or.inl h6) (by by_cases h : q.1 = 32; exact Or.inr ⟨(h7 h).1, (h7 h).2.1⟩; exact Or.inl h))
/-! a chute takes a parcel: the class -/
theorem fg_ad_o (σ : fw_M) (r v : Int) {a b : Int} (h1 : a ≠ r + 1) (h2 : a ≠ r) : fw_r (fg_ad σ r v) a b = fw_r σ a b := by
  unfold fg_ad; rw [fw_r_k _ h2, fw_r_k _ h1]
theorem fg_dr_o (σ : fw_M) (c p : Int) {a b : Int} (h1 : a ≠ c) (h2 : a ≠ c + 1) (h3 : a ≠ c + 1 + 1) : fw_r (fg_dr σ c p) a b = fw_r σ a b := by
  unfold fg_dr; rw [fw_r_k _ h1, fw_r_k _ h1, fg_ad_o _ _ _ h3 h2]
theorem fg_dr_c (σ : fw_M) (c p : Int) {b : Int} (h4 : b ≠ 4) (h5 : b ≠ 5) : fw_r (fg_dr σ c p) c b = fw_r σ c b := by
  unfold fg_dr; rw [fw_r_j _ h5, fw_r_j _ h4, fg_ad_o _ _ _ (by omega) (by omega)]
theorem fg_dr_4 (σ : fw_M) (c p : Int) : fw_r (fg_dr σ c p) c 4 = (fw_r σ c 4 + p + 1) % 9973 := by
  unfold fg_dr; rw [fw_r_j _ (by decide), fw_r_s]
theorem fg_dr_5 (σ : fw_M) (c p : Int) : fw_r (fg_dr σ c p) c 5 = (fw_r σ c 5 + (fw_r σ c 4 + p + 1) % 9973) % 9973 := by
  unfold fg_dr; rw [fw_r_s]
theorem fg_dr_r (σ : fw_M) (c p : Int) : fw_r (fg_dr σ c p) (c + 1) 1 = fw_r σ (c + 1) 1 + 1 := by
  unfold fg_dr fg_ad; rw [fw_r_k _ (by omega), fw_r_k _ (by omega), fw_r_s]
theorem fg_dr_r0 (σ : fw_M) (c p : Int) : fw_r (fg_dr σ c p) (c + 1) 0 = fw_r σ (c + 1) 0 := by
  unfold fg_dr fg_ad; rw [fw_r_k _ (by omega), fw_r_k _ (by omega), fw_r_j _ (by decide), fw_r_k _ (by omega)]
theorem fg_dr_n (σ : fw_M) (c p k : Int) : fw_r (fg_dr σ c p) (c + 1 + 1) k = if k = fw_r σ (c + 1) 1 then p else fw_r σ (c + 1 + 1) k := by
  unfold fg_dr fg_ad; rw [fw_r_k _ (by omega), fw_r_k _ (by omega), fw_r_k _ (by omega), fw_r_u]
  by_cases h : k = fw_r σ (c + 1) 1
  · rw [if_pos ⟨rfl, h⟩, if_pos h]
  · rw [if_neg (fun x => h x.2), if_neg h]
theorem fg_dr_ptr {σ : fw_M} {c : Int} (p : Int) (hc : 51 ≤ c) (h : fw_ptr σ) : fw_ptr (fg_dr σ c p) := by
  unfold fg_dr fg_ad
  rw [fw_ptr_hi _ (by omega), fw_ptr_hi _ (by omega), fw_ptr_hi _ (by omega), fw_ptr_hi _ (by omega)]; exact h
def fg_cd (c : fw_M) (i pos p rd : Int) : fw_M := fg_dr (fg_put (fg_c0 c p 99 rd) 8 pos (-1)) (51 + 3 * i) p
theorem fg_cd_lo (c : fw_M) {i pos p rd a b : Int} (hi : 0 ≤ i) (h : a < 51) (h9 : a ≠ 9) (h10 : a ≠ 10) (h5 : a ≠ 5) (h6 : a ≠ 6) (h2 : a ≠ 2 ∨ (b ≠ 7 ∧ b ≠ 8)) : fw_r (fg_cd c i pos p rd) a b = fw_r c a b := by
  unfold fg_cd
  rw [fg_dr_o _ _ _ (by omega) (by omega) (by omega), fg_put_o _ _ _ _ (by omega) (by omega), fg_c0_o _ _ _ _ (Or.inl h5) (Or.inl h6) h2]
theorem fg_cd_hi (c : fw_M) {i pos p rd a b : Int} (h : 51 ≤ a) : fw_r (fg_put (fg_c0 c p 99 rd) 8 pos (-1)) a b = fw_r c a b := by
  rw [fg_put_o _ _ _ _ (by omega) (by omega), fg_c0_o _ _ _ _ (Or.inl (by omega)) (Or.inl (by omega)) (Or.inl (by omega))]
theorem fg_IN_drop {M : Int} {c m : fw_M} {i : Int} (hM : M ≤ 400000) (h : fg_IN M c m) (h0 : 0 ≤ i) (hi : i < fw_r m 32 3) (hd : fg_dv m i = 1) :
    fg_IN M (fg_cd c i (fw_r m 34 i) (fw_r m 33 (fw_r m 34 i)) (fw_r m 40 (fw_r m 33 (fw_r m 34 i)))) (fg_us (fg_pcl m i) m) := by
  obtain ⟨gA, gB, gC, gD, gE, gF, gG, gH, gI⟩ := h
  have hcf := gA.1
  have hcf2 := hcf
  obtain ⟨⟨a1, a2, a3⟩, ⟨b0, b1, b2, b3, b4, b5⟩, e1, e2, e3, e4, e5⟩ := hcf2
  obtain ⟨d1, d2, d3, d4⟩ := fg_dv_1 hd
  obtain ⟨⟨p1, p2, p3⟩, ⟨cp1, cp2, cp3⟩, -⟩ := e2 i h0 hi
  have htr := gB.2.1.2.2.1 (fw_r m 34 i) (by omega) (by omega)
  have hFP := gB.2.1.2.1
  have hst := gF (fw_r m 34 i) (by omega) (by omega) d1
  have hk := (gE.1 i h0 hi).1
  have hrd := (gC.2.2.2.1 (fw_r m 33 (fw_r m 34 i)) (by omega) (by omega)).2.2.2.2.2.2
  have hch := a2.2.2
  generalize hpos : fw_r m 34 i = pos at *
  generalize hp : fw_r m 33 pos = p at *
  have hlo : ∀ a b, a < 51 → a ≠ 9 → a ≠ 10 → a ≠ 5 → a ≠ 6 → (a ≠ 2 ∨ (b ≠ 7 ∧ b ≠ 8)) → fw_r (fg_cd c i pos p (fw_r m 40 p)) a b = fw_r c a b := fun a b x1 x2 x3 x4 x5 x6 => fg_cd_lo c h0 x1 x2 x3 x4 x5 x6
  have hhi : ∀ a b, 51 ≤ a → fw_r (fg_put (fg_c0 c p 99 (fw_r m 40 p)) 8 pos (-1)) a b = fw_r c a b := fun a b x => fg_cd_hi (i := i) c x
  have hoth : ∀ j a b, 0 ≤ j → j ≠ i → (a = 51 + 3 * j ∨ a = 51 + 3 * j + 1 ∨ a = 51 + 3 * j + 1 + 1) → fw_r (fg_cd c i pos p (fw_r m 40 p)) a b = fw_r c a b := fun j a b x1 x2 x3 => by
    unfold fg_cd
    rw [fg_dr_o _ _ _ (by omega) (by omega) (by omega), hhi _ _ (by omega)]
  have o39 : ∀ b, fw_r (fg_us (fg_pcl m i) m) 39 b = if b = p then 2 else fw_r m 39 b := fun b => by rw [fg_pcl_39, hpos, hp]
  have o33 : ∀ b, fw_r (fg_us (fg_pcl m i) m) 33 b = if b = pos then -1 else fw_r m 33 b := fun b => by rw [fg_pcl_33, hpos]
  have o43 : ∀ b, fw_r (fg_us (fg_pcl m i) m) 43 b = if b = 30 * i + fw_r m 42 i then p else fw_r m 43 b := fun b => by rw [fg_pcl_43, hpos, hp]
  have o42 : ∀ b, fw_r (fg_us (fg_pcl m i) m) 42 b = if b = i then fw_r m 42 i + 1 else fw_r m 42 b := fun b => fg_pcl_42 m i b
  have o44 : ∀ b, fw_r (fg_us (fg_pcl m i) m) 44 b = if b = i then (fw_r m 44 i + p + 1) % 9973 else fw_r m 44 b := fun b => by rw [fg_pcl_44, hpos, hp]
  have o45 : ∀ b, fw_r (fg_us (fg_pcl m i) m) 45 b = if b = i then (fw_r m 45 i + (fw_r m 44 i + p + 1) % 9973) % 9973 else fw_r m 45 b := fun b => by rw [fg_pcl_45, hpos, hp]
  have o17 : fw_r (fg_us (fg_pcl m i) m) 32 17 = fw_r m 32 17 + 1 := fg_pcl_17 m i
  have o18 : fw_r (fg_us (fg_pcl m i) m) 32 18 = fw_r m 32 18 + fw_r m 40 p := by rw [fg_pcl_18, hpos, hp]
  have o32 : ∀ b, b ≠ 17 → b ≠ 18 → fw_r (fg_us (fg_pcl m i) m) 32 b = fw_r m 32 b := fun b x y => fg_pcl_32 m i x y
  have ox : ∀ a b, a ≠ 33 → a ≠ 43 → a ≠ 42 → a ≠ 44 → a ≠ 45 → a ≠ 39 → a ≠ 32 → fw_r (fg_us (fg_pcl m i) m) a b = fw_r m a b := fun a b x1 x2 x3 x4 x5 x6 x7 => fg_pcl_x m i x1 x2 x3 x4 x5 x6 x7
  have optr : fw_ptr (fg_us (fg_pcl m i) m) := fg_pcl_ptr i gA.2
  generalize hm' : fg_us (fg_pcl m i) m = m' at *
  have x40 : ∀ b, fw_r m' 40 b = fw_r m 40 b := fun b => ox _ _ (by decide) (by decide) (by decide) (by decide) (by decide) (by decide) (by decide)
  have x1 := o32 1 (by decide) (by decide)
  have x3 := o32 3 (by decide) (by decide)
  have x10 := o32 10 (by decide) (by decide)
  have x15 := o32 15 (by decide) (by decide)
  have x16 := o32 16 (by decide) (by decide)
  have x19 := o32 19 (by decide) (by decide)
  have x25 := o32 25 (by decide) (by decide)
  have x29 := o32 29 (by decide) (by decide)
  have hp1 : fw_ptr (fg_put (fg_c0 c p 99 (fw_r m 40 p)) 8 pos (-1)) := fg_put_ptr (Or.inl rfl) (fg_c0_ptr _ _ _ a1)
  refine ⟨?_, ?_, ?_, ?_, ?_, ?_, ?_, ?_, ?_⟩
  · -- what both are told
    refine fg_gA_c gA (fg_dr_ptr _ (by omega) hp1) (fg_cok_c a2 (hlo _ _ (by decide) (by decide) (by decide) (by decide) (by decide) (Or.inl (by decide))) (fun j => hlo _ _ (by decide) (by decide) (by decide) (by decide) (by decide) (Or.inl (by decide))) (fun j hj => ?_) (fun j hj => ?_)) optr (fun j => hlo _ _ (by decide) (by decide) (by decide) (by decide) (by decide) (Or.inl (by decide))) (hlo _ _ (by decide) (by decide) (by decide) (by decide) (by decide) (Or.inr (by decide))) (fun j => hlo _ _ (by decide) (by decide) (by decide) (by decide) (by decide) (Or.inl (by decide))) (fun j => hlo _ _ (by decide) (by decide) (by decide) (by decide) (by decide) (Or.inl (by decide))) (fun j b hj _ hb => ?_) (fun j _ _ h17 h18 _ _ _ _ => o32 j h17 h18) (fun a j ha => ox _ _ (by omega) (by omega) (by omega) (by omega) (by omega) (by omega) (by omega))
    · by_cases hji : j = i
      · subst hji; unfold fg_cd; rw [fg_dr_c _ _ _ (by decide) (by decide), hhi _ _ (by omega)]
      · exact hoth j _ _ hj hji (Or.inl rfl)
    · by_cases hji : j = i
      · subst hji; unfold fg_cd; rw [fg_dr_r0, hhi _ _ (by omega)]
      · exact hoth j _ _ hj hji (Or.inr (Or.inl rfl))
    · by_cases hji : j = i
      · subst hji; unfold fg_cd; rw [fg_dr_c _ _ _ (by omega) (by omega), hhi _ _ (by omega)]
      · exact hoth j _ _ hj hji (Or.inl rfl)
  · -- the belt
    have hrb0 : fg_RB 8 M (fg_c0 c p 99 (fw_r m 40 p)) m := fg_RB_c gB.1 (fun j => fg_c0_o _ _ _ _ (Or.inl (by decide)) (Or.inl (by decide)) (Or.inl (by decide))) (fun j => fg_c0_o _ _ _ _ (Or.inl (by decide)) (Or.inl (by decide)) (Or.inl (by decide))) (fun j => fg_c0_o _ _ _ _ (Or.inl (by decide)) (Or.inl (by decide)) (Or.inl (by decide)))
    have hM0 : 0 ≤ M := by omega
    have hrb1 := fg_RB_take (p := pos) hM0 hrb0 (by omega) (by omega)
    have y33 : ∀ j, fw_r m' 33 j = fw_r (fw_u m 33 pos (-1)) 33 j := fun j => by
      rw [o33, fw_r_u]
      by_cases hj : j = pos
      · rw [if_pos hj, if_pos ⟨rfl, hj⟩]
      · rw [if_neg hj, if_neg (fun x => hj x.2)]
    refine ⟨fg_RB_c (fg_RB_m hrb1 (x1.trans (fw_r_k _ (by decide)).symm) y33 (fun j => (x40 j).trans (fw_r_k _ (by decide)).symm)) (fun j => ?_) (fun j => ?_) (fun j => ?_), fg_TR_m (fg_TR_take gB.2.1 (p := pos) (by omega) (by omega)) (x1.trans (fw_r_k _ (by decide)).symm) (x15.trans (fw_r_k _ (by decide)).symm) (x10.trans (fw_r_k _ (by decide)).symm) y33 (fun j => (x40 j).trans (fw_r_k _ (by decide)).symm), fun q a b => ?_⟩
    · unfold fg_cd; exact fg_dr_o _ _ _ (by omega) (by omega) (by omega)
    · unfold fg_cd; exact fg_dr_o _ _ _ (by omega) (by omega) (by omega)
    · unfold fg_cd; exact fg_dr_o _ _ _ (by omega) (by omega) (by omega)
    · rw [x1] at a; rw [o33, if_neg (by omega)]; exact gB.2.2 q a b
  · -- parcels
    refine fg_gC_out (p := p) (v := 2) (s := 99) (rd := fw_r m 40 p) gC ⟨by omega, by omega⟩ hFP.2.1 (Or.inl rfl) rfl rfl (hlo _ _ (by decide) (by decide) (by decide) (by decide) (by decide) (Or.inr (by decide))) (hlo _ _ (by decide) (by decide) (by decide) (by decide) (by decide) (Or.inl (by decide))) (fun j => hlo _ _ (by decide) (by decide) (by decide) (by decide) (by decide) (Or.inl (by decide))) (fun j => ?_) (fun j => ?_) (fun j => hlo _ _ (by decide) (by decide) (by decide) (by decide) (by decide) (Or.inl (by decide))) x10 x15 x16 (fun j => ox _ _ (by decide) (by decide) (by decide) (by decide) (by decide) (by decide) (by decide)) o39 x40 (fun j => ox _ _ (by decide) (by decide) (by decide) (by decide) (by decide) (by decide) (by decide))
    · unfold fg_cd; rw [fg_dr_o _ _ _ (by omega) (by omega) (by omega), fg_put_o _ _ _ _ (by decide) (by decide), fg_c0_5]
    · unfold fg_cd; rw [fg_dr_o _ _ _ (by omega) (by omega) (by omega), fg_put_o _ _ _ _ (by decide) (by decide), fg_c0_6]
  · -- counts
    refine fg_gD_out (p := p) (v := 2) (rd := fw_r m 40 p) gD ⟨by omega, by omega⟩ hst (Or.inl rfl) ⟨hrd.1, by omega⟩ ?_ ?_ (hlo _ _ (by decide) (by decide) (by decide) (by decide) (by decide) (Or.inr (by decide))) ?_ (hlo _ _ (by decide) (by decide) (by decide) (by decide) (by decide) (Or.inl (by decide))) x15 o17 o18 ?_ x29 o39
    · unfold fg_cd; rw [fg_dr_o _ _ _ (by omega) (by omega) (by omega), fg_put_o _ _ _ _ (by decide) (by decide), fg_c0_27]
    · unfold fg_cd; rw [fg_dr_o _ _ _ (by omega) (by omega) (by omega), fg_put_o _ _ _ _ (by decide) (by decide), fg_c0_28]
    · rw [if_neg (by decide), Int.add_zero]; exact hlo _ _ (by decide) (by decide) (by decide) (by decide) (by decide) (Or.inl (by decide))
    · rw [if_neg (by decide), Int.add_zero]; exact x19
  · -- chutes
    refine ⟨fun j hj hj2 => ?_, fun j hj hj2 => ?_⟩
    · rw [x3] at hj2
      have gEj := gE.1 j hj hj2
      have hcj := e2 j hj hj2
      by_cases hji : j = i
      · subst hji
        have q1 : fw_r (fg_cd c j pos p (fw_r m 40 p)) (51 + 3 * j + 1) 1 = fw_r m 42 j + 1 := by unfold fg_cd; rw [fg_dr_r, hhi _ _ (by omega), gEj.1.1]
        have q4 : fw_r (fg_cd c j pos p (fw_r m 40 p)) (51 + 3 * j) 4 = (fw_r m 44 j + p + 1) % 9973 := by unfold fg_cd; rw [fg_dr_4, hhi _ _ (by omega), gEj.2.1.1]
        have q5 : fw_r (fg_cd c j pos p (fw_r m 40 p)) (51 + 3 * j) 5 = (fw_r m 45 j + (fw_r m 44 j + p + 1) % 9973) % 9973 := by unfold fg_cd; rw [fg_dr_5, hhi _ _ (by omega), hhi _ _ (by omega), gEj.2.1.1, gEj.2.1.2.1]
        have qn : ∀ k, fw_r (fg_cd c j pos p (fw_r m 40 p)) (51 + 3 * j + 1 + 1) k = if k = fw_r m 42 j then p else fw_r c (51 + 3 * j + 1 + 1) k := fun k => by unfold fg_cd; rw [fg_dr_n, hhi _ _ (by omega), hhi _ _ (by omega), gEj.1.1]
        rw [q1, q4, q5, o42, if_pos rfl, o44, if_pos rfl, o45, if_pos rfl]
        refine ⟨⟨rfl, by omega, by rw [ox _ _ (by decide) (by decide) (by decide) (by decide) (by decide) (by decide) (by decide)]; omega⟩, ⟨rfl, rfl, ?_⟩, fun k ka kb => ?_⟩
        · have ek : (fw_r m 42 j + 1).toNat = (fw_r m 42 j).toNat + 1 := by omega
          rw [ek, fg_se_end]
          have ee : fg_se (fun k => fw_r m' 43 (30 * j + k)) 0 (fw_r m 42 j).toNat (0, 0) = (fw_r m 44 j, fw_r m 45 j) := by
            rw [gEj.2.1.2.2]
            exact fg_se_ext _ _ _ (fun k ka kb => by (try dsimp only); rw [o43, if_neg (by omega)])
          rw [ee]
          have el : fw_r m' 43 (30 * j + (0 + (((fw_r m 42 j).toNat : Nat) : Int))) = p := by rw [o43, if_pos (by omega)]
          rw [el]
          rfl
        · rw [qn, o43, x15]
          by_cases hkk : k = fw_r m 42 j
          · rw [if_pos hkk, if_pos (by omega), o39, if_pos rfl]
            exact ⟨rfl, by omega, by omega, rfl⟩
          · rw [if_neg hkk, if_neg (by omega), o39]
            obtain ⟨y1, y2, y3, y4⟩ := gEj.2.2 k ka (by omega)
            refine ⟨y1, y2, y3, ?_⟩
            split
            · rfl
            · exact y4
      · have hoc := fun b => hoth j (51 + 3 * j) b hj hji (Or.inl rfl)
        have hor := fun b => hoth j (51 + 3 * j + 1) b hj hji (Or.inr (Or.inl rfl))
        have hon := fun b => hoth j (51 + 3 * j + 1 + 1) b hj hji (Or.inr (Or.inr rfl))
        rw [hor, hoc, hoc, o42, if_neg hji, o44, if_neg hji, o45, if_neg hji, ox 35 _ (by decide) (by decide) (by decide) (by decide) (by decide) (by decide) (by decide)]
        have e43 : ∀ k, 0 ≤ k → k < fw_r m 42 j → fw_r m' 43 (30 * j + k) = fw_r m 43 (30 * j + k) := fun k ka kb => by rw [o43, if_neg (by omega)]
        refine ⟨gEj.1, ⟨gEj.2.1.1, gEj.2.1.2.1, ?_⟩, fun k ka kb => ?_⟩
        · rw [gEj.2.1.2.2]
          exact fg_se_ext _ _ _ (fun k ka kb => (e43 k ka (by omega)).symm)
        · rw [hon, e43 k ka kb, x15, o39]
          obtain ⟨y1, y2, y3, y4⟩ := gEj.2.2 k ka kb
          refine ⟨y1, y2, y3, ?_⟩
          split
          · rfl
          · exact y4
    · rw [x3] at hj
      rw [o42, if_neg (by omega), o44, if_neg (by omega), o45, if_neg (by omega), ox 36 _ (by decide) (by decide) (by decide) (by decide) (by decide) (by decide) (by decide)]
      exact gE.2 j hj hj2
  · -- trays
    intro q a b ne
    rw [x1] at b
    rw [o33] at ne ⊢
    by_cases hq : q = pos
    · rw [if_pos hq] at ne; exact absurd rfl ne
    · rw [if_neg hq] at ne ⊢
      rw [o39, if_neg]
      · exact gF q a b ne
      · intro e
        exact hq (gB.2.1.2.2.2.1 q pos a b (by omega) (by omega) (by rw [hp]; exact e) ne)
  · exact fg_gG_st gG (fun j _ _ => hlo _ _ (by decide) (by decide) (by decide) (by decide) (by decide) (Or.inl (by decide))) (by omega) x19 (fun q hq => by rw [o39, if_neg]; exact hq; intro e; rw [e] at hq; omega)
  · refine fg_gH_st gH (hlo _ _ (by decide) (by decide) (by decide) (by decide) (by decide) (Or.inl (by decide))) (hlo _ _ (by decide) (by decide) (by decide) (by decide) (by decide) (Or.inl (by decide))) (fun j => hlo _ _ (by decide) (by decide) (by decide) (by decide) (by decide) (Or.inl (by decide))) (fun j => hlo _ _ (by decide) (by decide) (by decide) (by decide) (by decide) (Or.inl (by decide))) (by omega) x25 (fun q hq => by rw [o39, if_neg]; exact hq; intro e; rw [e] at hq; omega) (fun q a b hq => ?_) (fun j => ox _ _ (by decide) (by decide) (by decide) (by decide) (by decide) (by decide) (by decide)) (fun j => ox _ _ (by decide) (by decide) (by decide) (by decide) (by decide) (by decide) (by decide)) (fun j => ox _ _ (by decide) (by decide) (by decide) (by decide) (by decide) (by decide) (by decide))
    rw [o39] at hq
    by_cases e : q = p
    · rw [if_pos e] at hq; omega
    · rw [if_neg e] at hq; exact ⟨by omega, hq⟩
  · -- each parcel once
    intro q hq
    have g := gI q hq
    have c33 : fg_cnt (fw_r m' 33) (fw_r m 32 1) q = fg_cnt (fw_r m 33) (fw_r m 32 1) q - if p = q then 1 else 0 := by
      rw [fg_cnt_upd (g := fw_r m 33) (x := pos) (fun j _ _ hj => by rw [o33, if_neg hj]) (by omega) (by omega), o33, if_pos rfl, hp, if_neg (by omega)]; omega
    have cch : fg_chs m' q = fg_chs m q + if p = q then 1 else 0 := by
      unfold fg_chs
      rw [x3, fg_sf_upd (g := fun i => fg_cnt (fun k => fw_r m 43 (30 * i + k)) (fw_r m 42 i) q) (x := i) _ _ (fun j a b hj => ?_) h0 (by omega)]
      · (try dsimp only)
        rw [o42, if_pos rfl, fg_cnt_end _ _ (by omega), o43, if_pos rfl]
        have ee : fg_cnt (fun k => fw_r m' 43 (30 * i + k)) (fw_r m 42 i) q = fg_cnt (fun k => fw_r m 43 (30 * i + k)) (fw_r m 42 i) q := fg_cnt_ext (fun k ka kb => by (try dsimp only); rw [o43, if_neg (by omega)])
        rw [ee]; omega
      · (try dsimp only)
        have hj1 := (gE.1 j a (by omega)).1
        have hj2 := e2 j a (by omega)
        rw [o42, if_neg hj]
        exact fg_cnt_ext (fun k ka kb => by (try dsimp only); rw [o43, if_neg (by omega)])
    have c29 : fg_cnt (fw_r (fg_cd c i pos p (fw_r m 40 p)) 29) (fw_r (fg_cd c i pos p (fw_r m 40 p)) 28 1) q = fg_cnt (fw_r c 29) (fw_r c 28 1) q := by
      rw [hlo 28 1 (by decide) (by decide) (by decide) (by decide) (by decide) (Or.inl (by decide))]
      exact fg_cnt_c (fun j => hlo _ _ (by decide) (by decide) (by decide) (by decide) (by decide) (Or.inl (by decide))) _ _
    have c26 : fg_cnt (fw_r (fg_cd c i pos p (fw_r m 40 p)) 26) (fw_r m 32 19) q = fg_cnt (fw_r c 26) (fw_r m 32 19) q := fg_cnt_c (fun j => hlo _ _ (by decide) (by decide) (by decide) (by decide) (by decide) (Or.inl (by decide))) _ _
    rw [x1, x10, x15, x19, c33, cch, c29, c26]
    omega
