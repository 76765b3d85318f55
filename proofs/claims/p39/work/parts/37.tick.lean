/-! the overflow takes a parcel -/
theorem fg_pol_o (m : fw_M) {a b : Int} (h33 : a ≠ 33 ∨ b ≠ fw_r m 32 1 - 1) (h39 : a ≠ 39 ∨ b ≠ fw_r m 33 (fw_r m 32 1 - 1)) (h32 : a ≠ 32 ∨ (b ≠ 17 ∧ b ≠ 18 ∧ b ≠ 19)) : fw_r (fg_us (fg_pol m) m) a b = fw_r m a b := by
  unfold fg_pol
  simp only [fg_us]
  rw [fw_r_u, if_neg (by omega), fw_r_u, if_neg (by omega), fw_r_u, if_neg (by omega), fw_r_u, if_neg (by omega), fw_r_u, if_neg (by omega)]
theorem fg_pol_33 (m : fw_M) (b : Int) : fw_r (fg_us (fg_pol m) m) 33 b = if b = fw_r m 32 1 - 1 then -1 else fw_r m 33 b := by
  by_cases h : b = fw_r m 32 1 - 1
  · rw [if_pos h, h]
    unfold fg_pol
    simp (disch := omega) only [fg_us, fw_r_k, fw_r_j, fw_r_s]
  · rw [if_neg h]
    exact fg_pol_o m (Or.inr h) (Or.inl (by decide)) (Or.inl (by decide))
theorem fg_pol_39 (m : fw_M) (b : Int) : fw_r (fg_us (fg_pol m) m) 39 b = if b = fw_r m 33 (fw_r m 32 1 - 1) then 4 else fw_r m 39 b := by
  by_cases h : b = fw_r m 33 (fw_r m 32 1 - 1)
  · rw [if_pos h, h]
    unfold fg_pol
    simp (disch := omega) only [fg_us, fw_r_k, fw_r_j, fw_r_s]
  · rw [if_neg h]
    exact fg_pol_o m (Or.inl (by decide)) (Or.inr h) (Or.inl (by decide))
theorem fg_pol_17 (m : fw_M) : fw_r (fg_us (fg_pol m) m) 32 17 = fw_r m 32 17 + 1 := by
  unfold fg_pol
  simp (disch := omega) only [fg_us, fw_r_k, fw_r_j, fw_r_s]
theorem fg_pol_18 (m : fw_M) : fw_r (fg_us (fg_pol m) m) 32 18 = fw_r m 32 18 + fw_r m 40 (fw_r m 33 (fw_r m 32 1 - 1)) := by
  unfold fg_pol
  simp (disch := omega) only [fg_us, fw_r_k, fw_r_j, fw_r_s]
theorem fg_pol_19 (m : fw_M) : fw_r (fg_us (fg_pol m) m) 32 19 = fw_r m 32 19 + 1 := by
  unfold fg_pol
  simp (disch := omega) only [fg_us, fw_r_k, fw_r_j, fw_r_s]
theorem fg_pol_32 (m : fw_M) {b : Int} (h : b ≠ 17) (h2 : b ≠ 18) (h3 : b ≠ 19) : fw_r (fg_us (fg_pol m) m) 32 b = fw_r m 32 b :=
  fg_pol_o m (Or.inl (by decide)) (Or.inl (by decide)) (Or.inr ⟨h, h2, h3⟩)
theorem fg_pol_x (m : fw_M) {a b : Int} (h1 : a ≠ 33) (h6 : a ≠ 39) (h7 : a ≠ 32) : fw_r (fg_us (fg_pol m) m) a b = fw_r m a b :=
  fg_pol_o m (Or.inl h1) (Or.inl h6) (Or.inl h7)
theorem fg_pol_ptr {m : fw_M} (h : fw_ptr m) : fw_ptr (fg_us (fg_pol m) m) := fg_ptr_of h (fun q hq => by
  obtain ⟨h1, h2, h3, h4, h5, h6, h7⟩ := fg_ps_no2 q hq
  exact fg_pol_o m (Or.inl h1) (Or.inl h6) (by by_cases h : q.1 = 32; exact Or.inr ⟨(h7 h).1, (h7 h).2.1, (h7 h).2.2.2.2⟩; exact Or.inl h))
def fg_co (c : fw_M) (pos p rd : Int) : fw_M := fg_ad (fg_put (fg_c0 c p 111 rd) 8 pos (-1)) 25 p
theorem fg_co_o (c : fw_M) {pos p rd a b : Int} (h25 : a ≠ 25 ∨ b ≠ 1) (h26 : a ≠ 26) (h9 : a ≠ 9) (h10 : a ≠ 10) (h5 : a ≠ 5) (h6 : a ≠ 6) (h2 : a ≠ 2 ∨ (b ≠ 7 ∧ b ≠ 8)) : fw_r (fg_co c pos p rd) a b = fw_r c a b := by
  unfold fg_co fg_ad
  rw [fw_r_u, if_neg (by omega), fw_r_k _ (by omega), fg_put_o _ _ _ _ (by omega) (by omega), fg_c0_o _ _ _ _ (Or.inl h5) (Or.inl h6) h2]
theorem fg_co_251 (c : fw_M) (pos p rd : Int) : fw_r (fg_co c pos p rd) 25 1 = fw_r c 25 1 + 1 := by
  unfold fg_co fg_ad
  rw [fw_r_s, fg_put_o _ _ _ _ (by decide) (by decide), fg_c0_o _ _ _ _ (Or.inl (by decide)) (Or.inl (by decide)) (Or.inl (by decide))]
theorem fg_co_26 (c : fw_M) (pos p rd k : Int) : fw_r (fg_co c pos p rd) 26 k = if k = fw_r c 25 1 then p else fw_r c 26 k := by
  unfold fg_co fg_ad
  have e : fw_r (fg_put (fg_c0 c p 111 rd) 8 pos (-1)) 25 1 = fw_r c 25 1 := by rw [fg_put_o _ _ _ _ (by decide) (by decide), fg_c0_o _ _ _ _ (Or.inl (by decide)) (Or.inl (by decide)) (Or.inl (by decide))]
  have e2 : fw_r (fg_put (fg_c0 c p 111 rd) 8 pos (-1)) 26 k = fw_r c 26 k := by rw [fg_put_o _ _ _ _ (by decide) (by decide), fg_c0_o _ _ _ _ (Or.inl (by decide)) (Or.inl (by decide)) (Or.inl (by decide))]
  rw [e, fw_r_k _ (by decide), fw_r_u]
  show (if 26 = 25 + 1 ∧ k = fw_r c 25 1 then p else fw_r (fg_put (fg_c0 c p 111 rd) 8 pos (-1)) 26 k) = _
  by_cases h : k = fw_r c 25 1
  · rw [if_pos ⟨by decide, h⟩, if_pos h]
  · rw [if_neg (fun x => h x.2), if_neg h, e2]
theorem fg_co_b (c : fw_M) {pos p rd a b : Int} (h25 : a ≠ 25) (h26 : a ≠ 26) : fw_r (fg_co c pos p rd) a b = fw_r (fg_put (fg_c0 c p 111 rd) 8 pos (-1)) a b := by
  unfold fg_co
  rw [fg_ad_o _ _ _ (by omega) h25]
theorem fg_IN_over {M : Int} {c m : fw_M} (hM : M ≤ 400000) (h : fg_IN M c m) (hd : fg_ov m = 1) :
    fg_IN M (fg_co c (fw_r m 32 1 - 1) (fw_r m 33 (fw_r m 32 1 - 1)) (fw_r m 40 (fw_r m 33 (fw_r m 32 1 - 1)))) (fg_us (fg_pol m) m) := by
  obtain ⟨gA, gB, gC, gD, gE, gF, gG, gH, gI⟩ := h
  have hcf := gA.1
  have hcf2 := hcf
  obtain ⟨⟨a1, a2, a3⟩, ⟨b0, b1, b2, b3, b4, b5⟩, e1, e2, e3, e4, e5⟩ := hcf2
  obtain ⟨d1, d2, d3⟩ := fg_ov_1 hd
  have htr := gB.2.1.2.2.1 (fw_r m 32 1 - 1) (by omega) (by omega)
  have hFP := gB.2.1.2.1
  have hst := gF (fw_r m 32 1 - 1) (by omega) (by omega) d1
  have hrd := (gC.2.2.2.1 (fw_r m 33 (fw_r m 32 1 - 1)) (by omega) (by omega)).2.2.2.2.2.2
  have hov := gD.2.2.1
  have hbd := (fg_gD_bd gD hFP.1).2.1
  generalize hpos : fw_r m 32 1 - 1 = pos at *
  generalize hp : fw_r m 33 pos = p at *
  have hlo : ∀ a b, (a ≠ 25 ∨ b ≠ 1) → a ≠ 26 → a ≠ 9 → a ≠ 10 → a ≠ 5 → a ≠ 6 → (a ≠ 2 ∨ (b ≠ 7 ∧ b ≠ 8)) → fw_r (fg_co c pos p (fw_r m 40 p)) a b = fw_r c a b := fun a b x0 x1 x2 x3 x4 x5 x6 => fg_co_o c x0 x1 x2 x3 x4 x5 x6
  have hl : ∀ a b, a ≠ 25 → a ≠ 26 → a ≠ 9 → a ≠ 10 → a ≠ 5 → a ≠ 6 → a ≠ 2 → fw_r (fg_co c pos p (fw_r m 40 p)) a b = fw_r c a b := fun a b x0 x1 x2 x3 x4 x5 x6 => fg_co_o c (Or.inl x0) x1 x2 x3 x4 x5 (Or.inl x6)
  have o39 : ∀ b, fw_r (fg_us (fg_pol m) m) 39 b = if b = p then 4 else fw_r m 39 b := fun b => by rw [fg_pol_39, hpos, hp]
  have o33 : ∀ b, fw_r (fg_us (fg_pol m) m) 33 b = if b = pos then -1 else fw_r m 33 b := fun b => by rw [fg_pol_33, hpos]
  have o17 : fw_r (fg_us (fg_pol m) m) 32 17 = fw_r m 32 17 + 1 := fg_pol_17 m
  have o18 : fw_r (fg_us (fg_pol m) m) 32 18 = fw_r m 32 18 + fw_r m 40 p := by rw [fg_pol_18, hpos, hp]
  have o19 : fw_r (fg_us (fg_pol m) m) 32 19 = fw_r m 32 19 + 1 := fg_pol_19 m
  have o32 : ∀ b, b ≠ 17 → b ≠ 18 → b ≠ 19 → fw_r (fg_us (fg_pol m) m) 32 b = fw_r m 32 b := fun b x y z => fg_pol_32 m x y z
  have ox : ∀ a b, a ≠ 33 → a ≠ 39 → a ≠ 32 → fw_r (fg_us (fg_pol m) m) a b = fw_r m a b := fun a b x1 x6 x7 => fg_pol_x m x1 x6 x7
  have optr : fw_ptr (fg_us (fg_pol m) m) := fg_pol_ptr gA.2
  generalize hm' : fg_us (fg_pol m) m = m' at *
  have x40 : ∀ b, fw_r m' 40 b = fw_r m 40 b := fun b => ox _ _ (by decide) (by decide) (by decide)
  have x1 := o32 1 (by decide) (by decide) (by decide)
  have x3 := o32 3 (by decide) (by decide) (by decide)
  have x10 := o32 10 (by decide) (by decide) (by decide)
  have x15 := o32 15 (by decide) (by decide) (by decide)
  have x16 := o32 16 (by decide) (by decide) (by decide)
  have x25 := o32 25 (by decide) (by decide) (by decide)
  have x29 := o32 29 (by decide) (by decide) (by decide)
  have hp1 : fw_ptr (fg_put (fg_c0 c p 111 (fw_r m 40 p)) 8 pos (-1)) := fg_put_ptr (Or.inl rfl) (fg_c0_ptr _ _ _ a1)
  have hp2 : fw_ptr (fg_co c pos p (fw_r m 40 p)) := by
    unfold fg_co fg_ad
    rw [fw_ptr_25_1]
    show fw_ptr (fw_u _ 26 _ _)
    rw [fw_ptr_26]; exact hp1
  refine ⟨?_, ?_, ?_, ?_, ?_, ?_, ?_, ?_, ?_⟩
  · exact fg_gA_c gA hp2 (fg_cok_c a2 (hl _ _ (by decide) (by decide) (by decide) (by decide) (by decide) (by decide) (by decide)) (fun j => hl _ _ (by decide) (by decide) (by decide) (by decide) (by decide) (by decide) (by decide)) (fun j hj => hl _ _ (by omega) (by omega) (by omega) (by omega) (by omega) (by omega) (by omega)) (fun j hj => hl _ _ (by omega) (by omega) (by omega) (by omega) (by omega) (by omega) (by omega))) optr (fun j => hl _ _ (by decide) (by decide) (by decide) (by decide) (by decide) (by decide) (by decide)) (hlo _ _ (Or.inl (by decide)) (by decide) (by decide) (by decide) (by decide) (by decide) (Or.inr (by decide))) (fun j => hl _ _ (by decide) (by decide) (by decide) (by decide) (by decide) (by decide) (by decide)) (fun j => hl _ _ (by decide) (by decide) (by decide) (by decide) (by decide) (by decide) (by decide)) (fun j b hj _ hb => hl _ _ (by omega) (by omega) (by omega) (by omega) (by omega) (by omega) (by omega)) (fun j _ _ h17 h18 h19 _ _ _ => o32 j h17 h18 h19) (fun a j ha => ox _ _ (by omega) (by omega) (by omega))
  · have hrb0 : fg_RB 8 M (fg_c0 c p 111 (fw_r m 40 p)) m := fg_RB_c gB.1 (fun j => fg_c0_o _ _ _ _ (Or.inl (by decide)) (Or.inl (by decide)) (Or.inl (by decide))) (fun j => fg_c0_o _ _ _ _ (Or.inl (by decide)) (Or.inl (by decide)) (Or.inl (by decide))) (fun j => fg_c0_o _ _ _ _ (Or.inl (by decide)) (Or.inl (by decide)) (Or.inl (by decide)))
    have hM0 : 0 ≤ M := by omega
    have hrb1 := fg_RB_take (p := pos) hM0 hrb0 (by omega) (by omega)
    have y33 : ∀ j, fw_r m' 33 j = fw_r (fw_u m 33 pos (-1)) 33 j := fun j => by
      rw [o33, fw_r_u]
      by_cases hj : j = pos
      · rw [if_pos hj, if_pos ⟨rfl, hj⟩]
      · rw [if_neg hj, if_neg (fun x => hj x.2)]
    refine ⟨fg_RB_c (fg_RB_m hrb1 (x1.trans (fw_r_k _ (by decide)).symm) y33 (fun j => (x40 j).trans (fw_r_k _ (by decide)).symm)) (fun j => fg_co_b c (by decide) (by decide)) (fun j => fg_co_b c (by decide) (by decide)) (fun j => fg_co_b c (by decide) (by decide)), fg_TR_m (fg_TR_take gB.2.1 (p := pos) (by omega) (by omega)) (x1.trans (fw_r_k _ (by decide)).symm) (x15.trans (fw_r_k _ (by decide)).symm) (x10.trans (fw_r_k _ (by decide)).symm) y33 (fun j => (x40 j).trans (fw_r_k _ (by decide)).symm), fun q a b => ?_⟩
    rw [x1] at a; rw [o33, if_neg (by omega)]; exact gB.2.2 q a b
  · refine fg_gC_out (p := p) (v := 4) (s := 111) (rd := fw_r m 40 p) gC ⟨by omega, by omega⟩ hFP.2.1 (Or.inr rfl) rfl rfl (hlo _ _ (Or.inl (by decide)) (by decide) (by decide) (by decide) (by decide) (by decide) (Or.inr (by decide))) (hl _ _ (by decide) (by decide) (by decide) (by decide) (by decide) (by decide) (by decide)) (fun j => hl _ _ (by decide) (by decide) (by decide) (by decide) (by decide) (by decide) (by decide)) (fun j => ?_) (fun j => ?_) (fun j => hl _ _ (by decide) (by decide) (by decide) (by decide) (by decide) (by decide) (by decide)) x10 x15 x16 (fun j => ox _ _ (by decide) (by decide) (by decide)) o39 x40 (fun j => ox _ _ (by decide) (by decide) (by decide))
    · rw [fg_co_b c (by decide) (by decide), fg_put_o _ _ _ _ (by decide) (by decide), fg_c0_5]
    · rw [fg_co_b c (by decide) (by decide), fg_put_o _ _ _ _ (by decide) (by decide), fg_c0_6]
  · refine fg_gD_out (p := p) (v := 4) (rd := fw_r m 40 p) gD ⟨by omega, by omega⟩ hst (Or.inr rfl) ⟨hrd.1, by omega⟩ ?_ ?_ (hlo _ _ (Or.inl (by decide)) (by decide) (by decide) (by decide) (by decide) (by decide) (Or.inr (by decide))) ?_ (hl _ _ (by decide) (by decide) (by decide) (by decide) (by decide) (by decide) (by decide)) x15 o17 o18 ?_ x29 o39
    · rw [fg_co_b c (by decide) (by decide), fg_put_o _ _ _ _ (by decide) (by decide), fg_c0_27]
    · rw [fg_co_b c (by decide) (by decide), fg_put_o _ _ _ _ (by decide) (by decide), fg_c0_28]
    · rw [if_pos rfl]; exact fg_co_251 _ _ _ _
    · rw [if_pos rfl]; exact o19
  · refine ⟨fun j hj hj2 => ?_, fun j hj hj2 => ?_⟩
    · rw [x3] at hj2
      have gEj := gE.1 j hj hj2
      rw [hl _ _ (by omega) (by omega) (by omega) (by omega) (by omega) (by omega) (by omega), hl _ _ (by omega) (by omega) (by omega) (by omega) (by omega) (by omega) (by omega), hl _ _ (by omega) (by omega) (by omega) (by omega) (by omega) (by omega) (by omega), ox 42 _ (by decide) (by decide) (by decide), ox 44 _ (by decide) (by decide) (by decide), ox 45 _ (by decide) (by decide) (by decide), ox 35 _ (by decide) (by decide) (by decide), x15]
      have e43 : ∀ k, fw_r m' 43 k = fw_r m 43 k := fun k => ox _ _ (by decide) (by decide) (by decide)
      simp only [e43]
      refine ⟨gEj.1, gEj.2.1, fun k ka kb => ?_⟩
      rw [hl _ _ (by omega) (by omega) (by omega) (by omega) (by omega) (by omega) (by omega), o39]
      obtain ⟨y1, y2, y3, y4⟩ := gEj.2.2 k ka kb
      refine ⟨y1, y2, y3, ?_⟩
      rw [if_neg]
      · exact y4
      · intro e; rw [e] at y4; omega
    · rw [x3] at hj
      rw [ox 42 _ (by decide) (by decide) (by decide), ox 44 _ (by decide) (by decide) (by decide), ox 45 _ (by decide) (by decide) (by decide), ox 36 _ (by decide) (by decide) (by decide)]
      exact gE.2 j hj hj2
  · intro q a b ne
    rw [x1] at b
    rw [o33] at ne ⊢
    by_cases hq : q = pos
    · rw [if_pos hq] at ne; exact absurd rfl ne
    · rw [if_neg hq] at ne ⊢
      rw [o39, if_neg]
      · exact gF q a b ne
      · intro e
        exact hq (gB.2.1.2.2.2.1 q pos a b (by omega) (by omega) (by rw [hp]; exact e) ne)
  · intro j a b
    rw [o19] at b
    rw [fg_co_26, hov.1, x15, o39]
    by_cases hj : j = fw_r m 32 19
    · rw [if_pos hj, if_pos rfl]
      exact ⟨⟨by omega, by omega⟩, rfl⟩
    · rw [if_neg hj]
      obtain ⟨y1, y2⟩ := gG j a (by omega)
      refine ⟨y1, ?_⟩
      split
      · rfl
      · exact y2
  · refine fg_gH_st gH (hl _ _ (by decide) (by decide) (by decide) (by decide) (by decide) (by decide) (by decide)) (hl _ _ (by decide) (by decide) (by decide) (by decide) (by decide) (by decide) (by decide)) (fun j => hl _ _ (by decide) (by decide) (by decide) (by decide) (by decide) (by decide) (by decide)) (fun j => hl _ _ (by decide) (by decide) (by decide) (by decide) (by decide) (by decide) (by decide)) (by omega) x25 (fun q hq => by rw [o39, if_neg]; exact hq; intro e; rw [e] at hq; omega) (fun q a b hq => ?_) (fun j => ox _ _ (by decide) (by decide) (by decide)) (fun j => ox _ _ (by decide) (by decide) (by decide)) (fun j => ox _ _ (by decide) (by decide) (by decide))
    rw [o39] at hq
    by_cases e : q = p
    · rw [if_pos e] at hq; omega
    · rw [if_neg e] at hq; exact ⟨by omega, hq⟩
  · intro q hq
    have g := gI q hq
    have c33 : fg_cnt (fw_r m' 33) (fw_r m 32 1) q = fg_cnt (fw_r m 33) (fw_r m 32 1) q - if p = q then 1 else 0 := by
      rw [fg_cnt_upd (g := fw_r m 33) (x := pos) (fun j _ _ hj => by rw [o33, if_neg hj]) (by omega) (by omega), o33, if_pos rfl, hp, if_neg (by omega)]; omega
    have cch : fg_chs m' q = fg_chs m q := fg_chs_c x3 (fun j => ox _ _ (by decide) (by decide) (by decide)) (fun j => ox _ _ (by decide) (by decide) (by decide)) q
    have c29 : fg_cnt (fw_r (fg_co c pos p (fw_r m 40 p)) 29) (fw_r (fg_co c pos p (fw_r m 40 p)) 28 1) q = fg_cnt (fw_r c 29) (fw_r c 28 1) q := by
      rw [hl 28 1 (by decide) (by decide) (by decide) (by decide) (by decide) (by decide) (by decide)]
      exact fg_cnt_c (fun j => hl _ _ (by decide) (by decide) (by decide) (by decide) (by decide) (by decide) (by decide)) _ _
    have c26 : fg_cnt (fw_r (fg_co c pos p (fw_r m 40 p)) 26) (fw_r m 32 19 + 1) q = fg_cnt (fw_r c 26) (fw_r m 32 19) q + if p = q then 1 else 0 := by
      rw [fg_cnt_end _ _ hbd.1, fg_co_26, hov.1, if_pos rfl]
      congr 1
      exact fg_cnt_ext (fun j ja jb => by rw [fg_co_26, hov.1, if_neg (by omega)])
    rw [x1, x10, x15, o19, c33, cch, c29, c26]
    omega
/-! the loader puts a parcel -/
def fg_pll (m : fw_M) : List (Int × Int × Int) := [(33, 0, fw_r m 32 15), (39, fw_r m 32 15, 1), (32, 15, fw_r m 32 15 + 1)]
theorem fg_pll_o (m : fw_M) {a b : Int} (h33 : a ≠ 33 ∨ b ≠ 0) (h39 : a ≠ 39 ∨ b ≠ fw_r m 32 15) (h32 : a ≠ 32 ∨ b ≠ 15) : fw_r (fg_us (fg_pll m) m) a b = fw_r m a b := by
  unfold fg_pll
  simp only [fg_us]
  rw [fw_r_u, if_neg (by omega), fw_r_u, if_neg (by omega), fw_r_u, if_neg (by omega)]
theorem fg_pll_33 (m : fw_M) (b : Int) : fw_r (fg_us (fg_pll m) m) 33 b = if b = 0 then fw_r m 32 15 else fw_r m 33 b := by
  by_cases h : b = 0
  · rw [if_pos h, h]
    unfold fg_pll
    simp (disch := omega) only [fg_us, fw_r_k, fw_r_j, fw_r_s]
  · rw [if_neg h]
    exact fg_pll_o m (Or.inr h) (Or.inl (by decide)) (Or.inl (by decide))
theorem fg_pll_39 (m : fw_M) (b : Int) : fw_r (fg_us (fg_pll m) m) 39 b = if b = fw_r m 32 15 then 1 else fw_r m 39 b := by
  by_cases h : b = fw_r m 32 15
  · rw [if_pos h, h]
    unfold fg_pll
    simp (disch := omega) only [fg_us, fw_r_k, fw_r_j, fw_r_s]
  · rw [if_neg h]
    exact fg_pll_o m (Or.inl (by decide)) (Or.inr h) (Or.inl (by decide))
theorem fg_pll_15 (m : fw_M) : fw_r (fg_us (fg_pll m) m) 32 15 = fw_r m 32 15 + 1 := by
  unfold fg_pll
  simp (disch := omega) only [fg_us, fw_r_k, fw_r_j, fw_r_s]
theorem fg_pll_ptr {m : fw_M} (h : fw_ptr m) : fw_ptr (fg_us (fg_pll m) m) := fg_ptr_of h (fun q hq => by
  obtain ⟨h1, h2, h3, h4, h5, h6, h7⟩ := fg_ps_no2 q hq
  exact fg_pll_o m (Or.inl h1) (Or.inl h6) (by by_cases h : q.1 = 32; exact Or.inr (h7 h).2.2.1; exact Or.inl h))
def fg_cl2 (c : fw_M) (F : Int) : fw_M := fg_put (fw_u (fw_u c 5 F 108) 2 6 (F + 1)) 8 0 F
theorem fg_cl2_o (c : fw_M) {F a b : Int} (h5 : a ≠ 5 ∨ b ≠ F) (h2 : a ≠ 2 ∨ b ≠ 6) (h9 : a ≠ 9) (h10 : a ≠ 10) : fw_r (fg_cl2 c F) a b = fw_r c a b := by
  unfold fg_cl2
  rw [fg_put_o _ _ _ _ (by omega) (by omega), fw_r_u, if_neg (by omega), fw_r_u, if_neg (by omega)]
theorem fg_IN_load {M : Int} {c m : fw_M} (h : fg_IN M c m) (hd : fg_lv m = 1) : fg_IN M (fg_cl2 c (fw_r m 32 15)) (fg_us (fg_pll m) m) := by
  obtain ⟨gA, gB, gC, gD, gE, gF, gG, gH, gI⟩ := h
  have hcf2 := gA.1
  obtain ⟨⟨a1, a2, a3⟩, ⟨b0, b1, b2, b3, b4, b5⟩, e1, e2, e3, e4, e5⟩ := hcf2
  obtain ⟨d1, d2, d3⟩ := fg_lv_1 hd
  have hFP := gB.2.1.2.1
  have hst := gC.2.2.2.1 (fw_r m 32 15) hFP.1 d3
  have hst0 : fw_r m 39 (fw_r m 32 15) = 0 := hst.2.2.2.1.mpr (Int.le_refl _)
  generalize hF : fw_r m 32 15 = F at *
  have hl : ∀ a b, a ≠ 5 → a ≠ 2 → a ≠ 9 → a ≠ 10 → fw_r (fg_cl2 c F) a b = fw_r c a b := fun a b x1 x2 x3 x4 => fg_cl2_o c (Or.inl x1) (Or.inl x2) x3 x4
  have h26 : fw_r (fg_cl2 c F) 2 6 = F + 1 := by unfold fg_cl2; rw [fg_put_o _ _ _ _ (by decide) (by decide), fw_r_s]
  have h2 : ∀ b, b ≠ 6 → fw_r (fg_cl2 c F) 2 b = fw_r c 2 b := fun b hb => fg_cl2_o c (Or.inl (by decide)) (Or.inr hb) (by decide) (by decide)
  have h5 : ∀ b, fw_r (fg_cl2 c F) 5 b = if b = F then 108 else fw_r c 5 b := fun b => by
    unfold fg_cl2
    rw [fg_put_o _ _ _ _ (by decide) (by decide), fw_r_k _ (by decide), fw_r_u]
    by_cases hb : b = F
    · rw [if_pos ⟨rfl, hb⟩, if_pos hb]
    · rw [if_neg (fun x => hb x.2), if_neg hb]
  have o39 : ∀ b, fw_r (fg_us (fg_pll m) m) 39 b = if b = F then 1 else fw_r m 39 b := fun b => by rw [fg_pll_39, hF]
  have o33 : ∀ b, fw_r (fg_us (fg_pll m) m) 33 b = if b = 0 then F else fw_r m 33 b := fun b => by rw [fg_pll_33, hF]
  have o15 : fw_r (fg_us (fg_pll m) m) 32 15 = F + 1 := by rw [fg_pll_15, hF]
  have o32 : ∀ b, b ≠ 15 → fw_r (fg_us (fg_pll m) m) 32 b = fw_r m 32 b := fun b x => fg_pll_o m (Or.inl (by decide)) (Or.inl (by decide)) (Or.inr x)
  have ox : ∀ a b, a ≠ 33 → a ≠ 39 → a ≠ 32 → fw_r (fg_us (fg_pll m) m) a b = fw_r m a b := fun a b x1 x6 x7 => fg_pll_o m (Or.inl x1) (Or.inl x6) (Or.inl x7)
  have optr : fw_ptr (fg_us (fg_pll m) m) := fg_pll_ptr gA.2
  have hrb : fg_RB 8 M (fg_cl2 c F) (fw_u (fw_u m 33 0 F) 32 15 (F + 1)) := by
    have hM0 : 0 ≤ M := by have := gC.2.2.1; omega
    have hrb0 : fg_RB 8 M (fw_u (fw_u c 5 F 108) 2 6 (F + 1)) m := fg_RB_c gB.1 (fun j => by rw [fw_r_k _ (by decide), fw_r_k _ (by decide)]) (fun j => by rw [fw_r_k _ (by decide), fw_r_k _ (by decide)]) (fun j => by rw [fw_r_k _ (by decide), fw_r_k _ (by decide)])
    have := fg_RB_load hM0 hrb0 gB.2.1 (by rw [hF]; exact d3)
    rw [hF] at this
    exact this
  have htr : fg_TR (fw_u (fw_u m 33 0 F) 32 15 (F + 1)) := by
    have := fg_TR_load gB.2.1 (by rw [hF]; exact d3)
    rw [hF] at this
    exact this
  generalize hm' : fg_us (fg_pll m) m = m' at *
  have x40 : ∀ b, fw_r m' 40 b = fw_r m 40 b := fun b => ox _ _ (by decide) (by decide) (by decide)
  have x1 := o32 1 (by decide)
  have x3 := o32 3 (by decide)
  have x10 := o32 10 (by decide)
  have x16 := o32 16 (by decide)
  have x17 := o32 17 (by decide)
  have x18 := o32 18 (by decide)
  have x19 := o32 19 (by decide)
  have x25 := o32 25 (by decide)
  have x29 := o32 29 (by decide)
  have hp2 : fw_ptr (fg_cl2 c F) := by
    unfold fg_cl2
    exact fg_put_ptr (Or.inl rfl) (by rw [fw_ptr_2_6, fw_ptr_5]; exact a1)
  refine ⟨?_, ?_, ?_, ?_, ?_, ?_, ?_, ?_, ?_⟩
  · exact fg_gA_c gA hp2 (fg_cok_c a2 (hl _ _ (by decide) (by decide) (by decide) (by decide)) (fun j => hl _ _ (by decide) (by decide) (by decide) (by decide)) (fun j hj => hl _ _ (by omega) (by omega) (by omega) (by omega)) (fun j hj => hl _ _ (by omega) (by omega) (by omega) (by omega))) optr (fun j => hl _ _ (by decide) (by decide) (by decide) (by decide)) (h2 _ (by decide)) (fun j => hl _ _ (by decide) (by decide) (by decide) (by decide)) (fun j => hl _ _ (by decide) (by decide) (by decide) (by decide)) (fun j b hj _ hb => hl _ _ (by omega) (by omega) (by omega) (by omega)) (fun j h15 _ _ _ _ _ _ _ => o32 j h15) (fun a j ha => ox _ _ (by omega) (by omega) (by omega))
  · have y33 : ∀ j, fw_r m' 33 j = fw_r (fw_u (fw_u m 33 0 F) 32 15 (F + 1)) 33 j := fun j => by
      rw [o33, fw_r_k _ (by decide), fw_r_u]
      by_cases hj : j = 0
      · rw [if_pos hj, if_pos ⟨rfl, hj⟩]
      · rw [if_neg hj, if_neg (fun x => hj x.2)]
    have y1 : fw_r m' 32 1 = fw_r (fw_u (fw_u m 33 0 F) 32 15 (F + 1)) 32 1 := by rw [x1, fw_r_j _ (by decide), fw_r_k _ (by decide)]
    have y15 : fw_r m' 32 15 = fw_r (fw_u (fw_u m 33 0 F) 32 15 (F + 1)) 32 15 := by rw [o15, fw_r_s]
    have y10 : fw_r m' 32 10 = fw_r (fw_u (fw_u m 33 0 F) 32 15 (F + 1)) 32 10 := by rw [x10, fw_r_j _ (by decide), fw_r_k _ (by decide)]
    have y40 : ∀ j, fw_r m' 40 j = fw_r (fw_u (fw_u m 33 0 F) 32 15 (F + 1)) 40 j := fun j => by rw [x40, fw_r_k _ (by decide), fw_r_k _ (by decide)]
    refine ⟨fg_RB_m hrb y1 y33 y40, fg_TR_m htr y1 y15 y10 y33 y40, fun q a b => ?_⟩
    rw [x1] at a; rw [o33, if_neg (by omega)]; exact gB.2.2 q a b
  · refine ⟨by rw [h26, o15], by rw [hl 1 8 (by decide) (by decide) (by decide) (by decide), x16]; exact gC.2.1, by rw [x16]; exact gC.2.2.1, fun q a b => ?_, fun q a b => ?_⟩
    · rw [x10] at b
      obtain ⟨y1, y2, y3, y4, y5, y6, y7⟩ := gC.2.2.2.1 q a b
      rw [hl 4 _ (by decide) (by decide) (by decide) (by decide), ox 38 _ (by decide) (by decide) (by decide), o39, h5, o15, hl 6 _ (by decide) (by decide) (by decide) (by decide), x40, hl 7 _ (by decide) (by decide) (by decide) (by decide), ox 47 _ (by decide) (by decide) (by decide)]
      by_cases hq : q = F
      · subst hq
        simp only [if_true]
        refine ⟨y1, by omega, rfl, by omega, fun e => by omega, fun e => by omega, y7⟩
      · simp only [if_neg hq]
        refine ⟨y1, y2, y3, ⟨fun e => ?_, fun e => ?_⟩, y5, y6, y7⟩
        · have := y4.mp e; omega
        · exact y4.mpr (by omega)
    · rw [x10] at a
      rw [o39, x40, if_neg (by omega)]; exact gC.2.2.2.2 q a b
  · obtain ⟨⟨g1, g2⟩, g3, ⟨g4, g5⟩, g6, g7⟩ := gD
    have et : (F + 1).toNat = F.toNat + 1 := by omega
    have e0 : (0 : Int) + ((F.toNat : Nat) : Int) = F := by omega
    have e39 : ∀ j, j ≠ F → fw_r m' 39 j = fw_r m 39 j := fun j hj => by rw [o39, if_neg hj]
    have s2 : fg_sf (fg_s2 m') 0 (F + 1).toNat = fg_sf (fg_s2 m) 0 F.toNat := by
      rw [et, fg_sf_end, e0]
      have z : fg_s2 m' F = 0 := by unfold fg_s2; rw [o39, if_pos rfl, if_neg (by omega)]
      rw [z, fg_sf_ext (g := fg_s2 m) _ _ (fun j a b => by unfold fg_s2; rw [e39 j (by omega)])]; omega
    have sv : ∀ v, v ≠ 1 → fg_sf (fg_sv m' v) 0 (F + 1).toNat = fg_sf (fg_sv m v) 0 F.toNat := fun v hv => by
      rw [et, fg_sf_end, e0]
      have z : fg_sv m' v F = 0 := by unfold fg_sv; rw [o39, if_pos rfl, if_neg (by omega)]
      rw [z, fg_sf_ext (g := fg_sv m v) _ _ (fun j a b => by unfold fg_sv; rw [e39 j (by omega)])]; omega
    unfold fg_gD
    rw [h2 7 (by decide), h2 8 (by decide), h2 9 (by decide), hl 25 _ (by decide) (by decide) (by decide) (by decide), hl 28 _ (by decide) (by decide) (by decide) (by decide), o15, x17, x18, x19, x29, s2, sv 4 (by decide), sv 3 (by decide)]
    exact ⟨⟨g1, by rw [hF] at g2; exact g2⟩, g3, ⟨g4, by rw [hF] at g5; exact g5⟩, g6, by rw [hF] at g7; exact g7⟩
  · refine ⟨fun j hj hj2 => ?_, fun j hj hj2 => ?_⟩
    · rw [x3] at hj2
      have gEj := gE.1 j hj hj2
      rw [hl _ _ (by omega) (by omega) (by omega) (by omega), hl _ _ (by omega) (by omega) (by omega) (by omega), hl _ _ (by omega) (by omega) (by omega) (by omega), ox 42 _ (by decide) (by decide) (by decide), ox 44 _ (by decide) (by decide) (by decide), ox 45 _ (by decide) (by decide) (by decide), ox 35 _ (by decide) (by decide) (by decide), o15]
      have e43 : ∀ k, fw_r m' 43 k = fw_r m 43 k := fun k => ox _ _ (by decide) (by decide) (by decide)
      simp only [e43]
      refine ⟨gEj.1, gEj.2.1, fun k ka kb => ?_⟩
      rw [hl _ _ (by omega) (by omega) (by omega) (by omega), o39]
      obtain ⟨y1, y2, y3, y4⟩ := gEj.2.2 k ka kb
      refine ⟨y1, y2, by omega, ?_⟩
      rw [if_neg (by omega)]
      exact y4
    · rw [x3] at hj
      rw [ox 42 _ (by decide) (by decide) (by decide), ox 44 _ (by decide) (by decide) (by decide), ox 45 _ (by decide) (by decide) (by decide), ox 36 _ (by decide) (by decide) (by decide)]
      exact gE.2 j hj hj2
  · intro q a b ne
    rw [x1] at b
    rw [o33] at ne ⊢
    by_cases hq : q = 0
    · rw [if_pos hq, o39, if_pos rfl]
    · rw [if_neg hq] at ne ⊢
      have := gB.2.1.2.2.1 q a b
      rw [o39, if_neg (by omega)]
      exact gF q a b ne
  · exact fg_gG_st gG (fun j _ _ => hl _ _ (by decide) (by decide) (by decide) (by decide)) (by omega) x19 (fun q hq => by rw [o39, if_neg]; exact hq; intro e; rw [e] at hq; omega)
  · refine fg_gH_st gH (hl _ _ (by decide) (by decide) (by decide) (by decide)) (hl _ _ (by decide) (by decide) (by decide) (by decide)) (fun j => hl _ _ (by decide) (by decide) (by decide) (by decide)) (fun j => hl _ _ (by decide) (by decide) (by decide) (by decide)) (by omega) x25 (fun q hq => by rw [o39, if_neg]; exact hq; intro e; rw [e] at hq; omega) (fun q a b hq => ?_) (fun j => ox _ _ (by decide) (by decide) (by decide)) (fun j => ox _ _ (by decide) (by decide) (by decide)) (fun j => ox _ _ (by decide) (by decide) (by decide))
    rw [o39] at hq
    by_cases e : q = F
    · rw [if_pos e] at hq; omega
    · rw [if_neg e] at hq; exact ⟨by omega, hq⟩
  · intro q hq
    have g := gI q hq
    have c33 : fg_cnt (fw_r m' 33) (fw_r m 32 1) q = fg_cnt (fw_r m 33) (fw_r m 32 1) q + if F = q then 1 else 0 := by
      rw [fg_cnt_upd (g := fw_r m 33) (x := 0) (fun j _ _ hj => by rw [o33, if_neg hj]) (by omega) (by omega), o33, if_pos rfl, d2, if_neg (by omega : ¬((-1 : Int) = q))]; omega
    have cch : fg_chs m' q = fg_chs m q := fg_chs_c x3 (fun j => ox _ _ (by decide) (by decide) (by decide)) (fun j => ox _ _ (by decide) (by decide) (by decide)) q
    have c29 : fg_cnt (fw_r (fg_cl2 c F) 29) (fw_r (fg_cl2 c F) 28 1) q = fg_cnt (fw_r c 29) (fw_r c 28 1) q := by
      rw [hl 28 1 (by decide) (by decide) (by decide) (by decide)]
      exact fg_cnt_c (fun j => hl _ _ (by decide) (by decide) (by decide) (by decide)) _ _
    have c26 : fg_cnt (fw_r (fg_cl2 c F) 26) (fw_r m 32 19) q = fg_cnt (fw_r c 26) (fw_r m 32 19) q := fg_cnt_c (fun j => hl _ _ (by decide) (by decide) (by decide) (by decide)) _ _
    rw [x1, x10, x19, o15, c33, cch, c29, c26]
    rw [hF] at g
    by_cases z1 : F = q
    · rw [if_pos z1, if_neg (by omega : ¬(F + 1 ≤ q ∧ q < fw_r m 32 10))]
      rw [if_pos (by omega : F ≤ q ∧ q < fw_r m 32 10)] at g
      omega
    · rw [if_neg z1]
      by_cases z2 : F ≤ q ∧ q < fw_r m 32 10
      · rw [if_pos z2] at g
        rw [if_pos (by omega)]; omega
      · rw [if_neg z2] at g
        rw [if_neg (by omega)]; omega
/-! the belt moves -/
theorem fg_IN_move {M : Int} {c m : fw_M} (h : fg_IN M c m) : fg_IN (M + 1) (fg_mv (fw_u c 1 8 (fw_r c 1 8 + 1)) 8) (fg_mvs (fg_tk0 m)) := by
  obtain ⟨gA, gB, gC, gD, gE, gF, gG, gH, gI⟩ := h
  have hcf2 := gA.1
  obtain ⟨⟨a1, a2, a3⟩, ⟨b0, b1, b2, b3, b4, b5⟩, e1, e2, e3, e4, e5⟩ := hcf2
  have hFP := gB.2.1.2.1
  have t16 : fw_r (fg_tk0 m) 32 16 = fw_r m 32 16 + 1 := fw_r_s _ _ _ _
  have tk : ∀ a b, (a ≠ 32 ∨ b ≠ 16) → fw_r (fg_tk0 m) a b = fw_r m a b := fun a b hab => by unfold fg_tk0; rw [fw_r_u, if_neg (by omega)]
  have tN : fw_r (fg_tk0 m) 32 1 = fw_r m 32 1 := tk 32 1 (by decide)
  have t33 : ∀ b, fw_r (fg_tk0 m) 33 b = fw_r m 33 b := fun b => tk 33 b (Or.inl (by decide))
  have t40 : ∀ b, fw_r (fg_tk0 m) 40 b = fw_r m 40 b := fun b => tk 40 b (Or.inl (by decide))
  have ptk : fw_ptr (fg_tk0 m) := by unfold fg_tk0; rw [fw_ptr_32_16]; exact gA.2
  have p1 : fw_ptr (fw_u c 1 8 (fw_r c 1 8 + 1)) := by rw [fw_ptr_1_8]; exact a1
  have hrb1 : fg_RB 8 M (fw_u c 1 8 (fw_r c 1 8 + 1)) (fg_tk0 m) := fg_RB_m (fg_RB_c gB.1 (fun j => fw_r_k _ (by decide)) (fun j => fw_r_k _ (by decide)) (fun j => fw_r_k _ (by decide))) tN t33 t40
  have htr1 : fg_TR (fg_tk0 m) := fg_TR_m gB.2.1 tN (tk 32 15 (by decide)) (tk 32 10 (by decide)) t33 t40
  have hrb2 := fg_RB_mvs hrb1 htr1
  have htr2 := fg_TR_mvs htr1
  have hl : ∀ a b, a ≠ 8 → a ≠ 10 → (a ≠ 1 ∨ b ≠ 8) → fw_r (fg_mv (fw_u c 1 8 (fw_r c 1 8 + 1)) 8) a b = fw_r c a b := fun a b x1 x2 x3 => by rw [fg_mv_o _ _ x1 (by omega), fw_r_u, if_neg (by omega)]
  have h18 : fw_r (fg_mv (fw_u c 1 8 (fw_r c 1 8 + 1)) 8) 1 8 = fw_r c 1 8 + 1 := by rw [fg_mv_o _ _ (by decide) (by decide), fw_r_s]
  have pmv : fw_ptr (fg_mv (fw_u c 1 8 (fw_r c 1 8 + 1)) 8) := fg_mv_ptr (Or.inl rfl) p1
  have ox : ∀ a b, a ≠ 33 → a ≠ 40 → (a ≠ 32 ∨ b ≠ 16) → fw_r (fg_mvs (fg_tk0 m)) a b = fw_r m a b := fun a b x1 x2 x3 => by rw [fg_mvs_o _ x1 x2, tk a b x3]
  have o16 : fw_r (fg_mvs (fg_tk0 m)) 32 16 = fw_r m 32 16 + 1 := by rw [fg_mvs_o _ (by decide) (by decide), t16]
  have o33 : ∀ b, 0 ≤ b → b < fw_r m 32 1 → fw_r (fg_mvs (fg_tk0 m)) 33 b = fw_r m 33 (fg_bk (fw_r m 32 1) b) := fun b x y => by rw [fg_mvs_33 x (by rw [tN]; exact y), t33, tN]
  have o33o : ∀ b, ¬(0 ≤ b ∧ b < fw_r m 32 1) → fw_r (fg_mvs (fg_tk0 m)) 33 b = fw_r m 33 b := fun b x => by rw [fg_mvs_33o (by rw [tN]; exact x), t33]
  have o40 : ∀ b, fw_r (fg_mvs (fg_tk0 m)) 40 b = if b = fw_r m 33 (fw_r m 32 1 - 1) ∧ fw_r m 33 (fw_r m 32 1 - 1) ≠ -1 then fw_r m 40 b + 1 else fw_r m 40 b := fun b => by rw [fg_mvs_40, tN, t33, t40]
  have pm : fw_ptr (fg_mvs (fg_tk0 m)) := fg_mvs_ptr ptk
  have hlast := gB.2.1.2.2.1 (fw_r m 32 1 - 1) (by omega) (by omega)
  have hlst : fw_r m 33 (fw_r m 32 1 - 1) ≠ -1 → fw_r m 39 (fw_r m 33 (fw_r m 32 1 - 1)) = 1 := fun e => gF _ (by omega) (by omega) e
  generalize hm' : fg_mvs (fg_tk0 m) = m' at *
  generalize hc' : fg_mv (fw_u c 1 8 (fw_r c 1 8 + 1)) 8 = c' at *
  have x1 := ox 32 1 (by decide) (by decide) (by decide)
  have x3 := ox 32 3 (by decide) (by decide) (by decide)
  have x10 := ox 32 10 (by decide) (by decide) (by decide)
  have x15 := ox 32 15 (by decide) (by decide) (by decide)
  have x17 := ox 32 17 (by decide) (by decide) (by decide)
  have x18 := ox 32 18 (by decide) (by decide) (by decide)
  have x19 := ox 32 19 (by decide) (by decide) (by decide)
  have x25 := ox 32 25 (by decide) (by decide) (by decide)
  have x29 := ox 32 29 (by decide) (by decide) (by decide)
  have oy : ∀ a b, a ≠ 33 → a ≠ 40 → a ≠ 32 → fw_r m' a b = fw_r m a b := fun a b x1 x2 x3 => ox a b x1 x2 (Or.inl x3)
  have hy : ∀ a b, a ≠ 8 → a ≠ 10 → a ≠ 1 → fw_r c' a b = fw_r c a b := fun a b x1 x2 x3 => hl a b x1 x2 (Or.inl x3)
  refine ⟨?_, ?_, ?_, ?_, ?_, ?_, ?_, ?_, ?_⟩
  · exact fg_gA_c gA pmv (fg_cok_c a2 (hy _ _ (by decide) (by decide) (by decide)) (fun j => hy _ _ (by decide) (by decide) (by decide)) (fun j hj => hy _ _ (by omega) (by omega) (by omega)) (fun j hj => hy _ _ (by omega) (by omega) (by omega))) pm (fun j => hy _ _ (by decide) (by decide) (by decide)) (hy _ _ (by decide) (by decide) (by decide)) (fun j => hy _ _ (by decide) (by decide) (by decide)) (fun j => hy _ _ (by decide) (by decide) (by decide)) (fun j b hj _ hb => hy _ _ (by omega) (by omega) (by omega)) (fun j _ h16 _ _ _ _ _ _ => ox 32 j (by decide) (by decide) (Or.inr h16)) (fun a j ha => oy _ _ (by omega) (by omega) (by omega))
  · refine ⟨hrb2, htr2, fun q a b => ?_⟩
    rw [x1] at a; rw [o33o q (by omega)]; exact gB.2.2 q a b
  · obtain ⟨g1, g2, g3, g4, g5⟩ := gC
    refine ⟨by rw [hy 2 6 (by decide) (by decide) (by decide), x15]; exact g1, by rw [h18, o16, g2], by rw [o16]; omega, fun q a b => ?_, fun q a b => ?_⟩
    · rw [x10] at b
      obtain ⟨y1, y2, y3, y4, y5, y6, y7⟩ := g4 q a b
      rw [hy 4 _ (by decide) (by decide) (by decide), oy 38 _ (by decide) (by decide) (by decide), oy 39 _ (by decide) (by decide) (by decide), hy 5 _ (by decide) (by decide) (by decide), x15, hy 6 _ (by decide) (by decide) (by decide), hy 7 _ (by decide) (by decide) (by decide), oy 47 _ (by decide) (by decide) (by decide), o40]
      refine ⟨y1, y2, y3, y4, fun e => ?_, y6, ?_⟩
      · rw [if_neg]
        · exact y5 e
        · rintro ⟨z1, z2⟩
          have := hlst z2
          rw [← z1] at this
          omega
      · split <;> omega
    · rw [x10] at a
      rw [oy 39 _ (by decide) (by decide) (by decide), o40, if_neg (by omega)]
      exact g5 q a b
  · exact fg_gD_c gD (hy _ _ (by decide) (by decide) (by decide)) (hy _ _ (by decide) (by decide) (by decide)) (hy _ _ (by decide) (by decide) (by decide)) (hy _ _ (by decide) (by decide) (by decide)) (hy _ _ (by decide) (by decide) (by decide)) x15 x17 x18 x19 x29 (fun j => oy _ _ (by decide) (by decide) (by decide))
  · exact fg_gE_c gE (fun i hi => ⟨hy _ _ (by omega) (by omega) (by omega), hy _ _ (by omega) (by omega) (by omega), hy _ _ (by omega) (by omega) (by omega), fun k => hy _ _ (by omega) (by omega) (by omega)⟩) x3 x15 (fun j => oy _ _ (by decide) (by decide) (by decide)) (fun j => oy _ _ (by decide) (by decide) (by decide)) (fun j => oy _ _ (by decide) (by decide) (by decide)) (fun j => oy _ _ (by decide) (by decide) (by decide)) (fun j => oy _ _ (by decide) (by decide) (by decide)) (fun j => oy _ _ (by decide) (by decide) (by decide)) (fun j => oy _ _ (by decide) (by decide) (by decide))
  · intro q a b ne
    rw [x1] at b
    have k := fg_bk_in b0.1 a b
    rw [o33 q a b] at ne ⊢
    rw [oy 39 _ (by decide) (by decide) (by decide)]
    exact gF _ k.1 k.2 ne
  · exact fg_gG_c gG (fun j => hy _ _ (by decide) (by decide) (by decide)) x15 x19 (fun j => oy _ _ (by decide) (by decide) (by decide))
  · exact fg_gH_c gH (hy _ _ (by decide) (by decide) (by decide)) (hy _ _ (by decide) (by decide) (by decide)) (fun j => hy _ _ (by decide) (by decide) (by decide)) (fun j => hy _ _ (by decide) (by decide) (by decide)) x15 x25 (fun j => oy _ _ (by decide) (by decide) (by decide)) (fun j => oy _ _ (by decide) (by decide) (by decide)) (fun j => oy _ _ (by decide) (by decide) (by decide)) (fun j => oy _ _ (by decide) (by decide) (by decide))
  · intro q hq
    have g := gI q hq
    have c33 : fg_cnt (fw_r m' 33) (fw_r m 32 1) q = fg_cnt (fw_r m 33) (fw_r m 32 1) q := by
      have hr := fg_rot (fun x => if fw_r m 33 x = q then 1 else 0) (fw_r m 32 1) (fw_r m 32 1 - 2) (by omega)
      unfold fg_cnt
      rw [← hr]
      refine fg_sf_ext _ _ (fun j a b => ?_)
      (try dsimp only)
      rw [o33 j a (by omega)]
      have e : fg_bk (fw_r m 32 1) j = fg_nq (fw_r m 32 1) (fg_q (fw_r m 32 1) (fw_r m 32 1 - 2) j) := by
        unfold fg_bk fg_nq fg_q
        split <;> split <;> split <;> omega
      rw [e]
    have cch : fg_chs m' q = fg_chs m q := fg_chs_c x3 (fun j => oy _ _ (by decide) (by decide) (by decide)) (fun j => oy _ _ (by decide) (by decide) (by decide)) q
    have c29 : fg_cnt (fw_r c' 29) (fw_r c' 28 1) q = fg_cnt (fw_r c 29) (fw_r c 28 1) q := by
      rw [hy 28 1 (by decide) (by decide) (by decide)]
      exact fg_cnt_c (fun j => hy _ _ (by decide) (by decide) (by decide)) _ _
    have c26 : fg_cnt (fw_r c' 26) (fw_r m 32 19) q = fg_cnt (fw_r c 26) (fw_r m 32 19) q := fg_cnt_c (fun j => hy _ _ (by decide) (by decide) (by decide)) _ _
    rw [x1, x10, x15, x19, c33, cch, c29, c26]
    exact g
