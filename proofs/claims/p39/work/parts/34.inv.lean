/-! all of the class (c) beside all of the reference (m) -/
def fg_code (s : Int) : Int := if s = 0 then 119 else if s = 1 then 108 else if s = 2 then 99 else if s = 3 then 116 else 111
def fg_cnt (f : Int → Int) (n p : Int) : Int := fg_sf (fun j => if f j = p then 1 else 0) 0 n.toNat
def fg_gA (c m : fw_M) : Prop := fg_CF c m ∧ fw_ptr m
def fg_gB (M : Int) (c m : fw_M) : Prop := fg_RB 8 M c m ∧ fg_TR m ∧ ∀ p, fw_r m 32 1 ≤ p → p < 20 → fw_r m 33 p = -1
def fg_gC (M : Int) (c m : fw_M) : Prop := fw_r c 2 6 = fw_r m 32 15 ∧ fw_r c 1 8 = fw_r m 32 16 ∧ (0 ≤ fw_r m 32 16 ∧ fw_r m 32 16 ≤ M) ∧ (∀ p, 0 ≤ p → p < fw_r m 32 10 → (fw_r c 4 p = fw_r m 38 p ∧ 1 ≤ fw_r m 38 p ∧ fw_r m 38 p ≤ 9) ∧ (0 ≤ fw_r m 39 p ∧ fw_r m 39 p ≤ 4) ∧ fw_r c 5 p = fg_code (fw_r m 39 p) ∧ (fw_r m 39 p = 0 ↔ fw_r m 32 15 ≤ p) ∧ (2 ≤ fw_r m 39 p → fw_r c 6 p = fw_r m 40 p) ∧ (fw_r m 39 p = 3 → fw_r c 7 p = fw_r m 47 p) ∧ (0 ≤ fw_r m 40 p ∧ fw_r m 40 p ≤ M)) ∧ (∀ p, fw_r m 32 10 ≤ p → p < 300 → fw_r m 39 p = 0 ∧ fw_r m 40 p = 0)
def fg_s2 (m : fw_M) : Int → Int := fun p => if 2 ≤ fw_r m 39 p then 1 else 0
def fg_sv (m : fw_M) (v : Int) : Int → Int := fun p => if fw_r m 39 p = v then 1 else 0
def fg_gD (c m : fw_M) : Prop := (fw_r c 2 7 = fw_r m 32 17 ∧ fw_r m 32 17 = fg_sf (fg_s2 m) 0 (fw_r m 32 15).toNat) ∧ (fw_r c 2 8 = fw_r m 32 18 ∧ 0 ≤ fw_r m 32 18 ∧ fw_r m 32 18 ≤ 400000 * fw_r m 32 17) ∧ (fw_r c 25 1 = fw_r m 32 19 ∧ fw_r m 32 19 = fg_sf (fg_sv m 4) 0 (fw_r m 32 15).toNat) ∧ (fw_r c 2 9 = fw_r m 32 29 ∧ 0 ≤ fw_r m 32 29 ∧ fw_r m 32 29 ≤ 9 * fw_r c 28 1) ∧ fw_r c 28 1 = fg_sf (fg_sv m 3) 0 (fw_r m 32 15).toNat
def fg_gE (c m : fw_M) : Prop := (∀ i, 0 ≤ i → i < fw_r m 32 3 → (fw_r c (51 + 3 * i + 1) 1 = fw_r m 42 i ∧ 0 ≤ fw_r m 42 i ∧ fw_r m 42 i ≤ fw_r m 35 i) ∧ (fw_r c (51 + 3 * i) 4 = fw_r m 44 i ∧ fw_r c (51 + 3 * i) 5 = fw_r m 45 i ∧ (fw_r m 44 i, fw_r m 45 i) = fg_se (fun k => fw_r m 43 (30 * i + k)) 0 (fw_r m 42 i).toNat (0, 0)) ∧ (∀ k, 0 ≤ k → k < fw_r m 42 i → fw_r c (51 + 3 * i + 1 + 1) k = fw_r m 43 (30 * i + k) ∧ 0 ≤ fw_r m 43 (30 * i + k) ∧ fw_r m 43 (30 * i + k) < fw_r m 32 15 ∧ fw_r m 39 (fw_r m 43 (30 * i + k)) = 2)) ∧ (∀ i, fw_r m 32 3 ≤ i → i < 6 → fw_r m 42 i = 0 ∧ fw_r m 36 i = 0 ∧ fw_r m 44 i = 0 ∧ fw_r m 45 i = 0)
def fg_gF (m : fw_M) : Prop := ∀ p, 0 ≤ p → p < fw_r m 32 1 → fw_r m 33 p ≠ -1 → fw_r m 39 (fw_r m 33 p) = 1
def fg_gG (c m : fw_M) : Prop := ∀ j, 0 ≤ j → j < fw_r m 32 19 → (0 ≤ fw_r c 26 j ∧ fw_r c 26 j < fw_r m 32 15) ∧ fw_r m 39 (fw_r c 26 j) = 4
def fg_gH (c m : fw_M) : Prop := (fw_r c 27 2 = fw_r m 32 25 ∧ 0 ≤ fw_r m 32 25 ∧ fw_r m 32 25 ≤ fw_r c 28 1) ∧ (∀ j, 0 ≤ j → j < fw_r c 28 1 → (0 ≤ fw_r c 29 j ∧ fw_r c 29 j < fw_r m 32 15) ∧ fw_r m 39 (fw_r c 29 j) = 3) ∧ (∀ u, 0 ≤ u → u < fw_r m 32 25 → 0 ≤ fw_r c 30 u ∧ 1 ≤ fw_r m 46 u ∧ fw_r m 46 u ≤ 30 ∧ fw_r c 30 u + fw_r m 46 u ≤ fw_r c 28 1 ∧ (u + 1 < fw_r m 32 25 → fw_r c 30 (u + 1) = fw_r c 30 u + fw_r m 46 u) ∧ (u + 1 = fw_r m 32 25 → fw_r c 28 1 = fw_r c 30 u + fw_r m 46 u)) ∧ (∀ u i, 0 ≤ u → u < fw_r m 32 25 → 0 ≤ i → i < fw_r m 46 u → fw_r m 47 (fw_r c 29 (fw_r c 30 u + i)) = u ∧ fw_r m 48 (fw_r c 29 (fw_r c 30 u + i)) = i) ∧ (∀ p, 0 ≤ p → p < fw_r m 32 15 → fw_r m 39 p = 3 → (0 ≤ fw_r m 47 p ∧ fw_r m 47 p < fw_r m 32 25) ∧ (0 ≤ fw_r m 48 p ∧ fw_r m 48 p < fw_r m 46 (fw_r m 47 p)) ∧ fw_r c 29 (fw_r c 30 (fw_r m 47 p) + fw_r m 48 p) = p)
def fg_chs (m : fw_M) (p : Int) : Int := fg_sf (fun i => fg_cnt (fun k => fw_r m 43 (30 * i + k)) (fw_r m 42 i) p) 0 (fw_r m 32 3).toNat
def fg_gI (c m : fw_M) : Prop := ∀ p, 0 ≤ p → (if fw_r m 32 15 ≤ p ∧ p < fw_r m 32 10 then 1 else 0) + fg_cnt (fw_r m 33) (fw_r m 32 1) p + fg_chs m p + fg_cnt (fw_r c 29) (fw_r c 28 1) p + fg_cnt (fw_r c 26) (fw_r m 32 19) p = if p < fw_r m 32 10 then 1 else 0
def fg_IN (M : Int) (c m : fw_M) : Prop := fg_gA c m ∧ fg_gB M c m ∧ fg_gC M c m ∧ fg_gD c m ∧ fg_gE c m ∧ fg_gF m ∧ fg_gG c m ∧ fg_gH c m ∧ fg_gI c m
/-! each part lives on few cells -/
theorem fg_gA_c {c c' m m' : fw_M} (h : fg_gA c m) (hp : fw_ptr c') (hk : fg_cok c') (hm : fw_ptr m') (h1 : ∀ j, fw_r c' 11 j = fw_r c 11 j) (h2 : fw_r c' 2 5 = fw_r c 2 5) (h3 : ∀ j, fw_r c' 3 j = fw_r c 3 j) (h4 : ∀ j, fw_r c' 13 j = fw_r c 13 j) (h5 : ∀ i j, 0 ≤ i → 0 ≤ j → j < 4 → fw_r c' (51 + 3 * i) j = fw_r c (51 + 3 * i) j) (k1 : ∀ j, j ≠ 15 → j ≠ 16 → j ≠ 17 → j ≠ 18 → j ≠ 19 → j ≠ 0 → j ≠ 25 → j ≠ 29 → fw_r m' 32 j = fw_r m 32 j) (k2 : ∀ a j, (a = 34 ∨ a = 35 ∨ a = 36 ∨ a = 37 ∨ a = 41) → fw_r m' a j = fw_r m a j) : fg_gA c' m' := by
  refine ⟨fg_CF_c ?_ hp hk h1 h2 h3 h4 h5, hm⟩
  have hcf := h.1
  have q1 := k1 1 (by decide) (by decide) (by decide) (by decide) (by decide) (by decide) (by decide) (by decide)
  have q3 := k1 3 (by decide) (by decide) (by decide) (by decide) (by decide) (by decide) (by decide) (by decide)
  have q7 := k1 7 (by decide) (by decide) (by decide) (by decide) (by decide) (by decide) (by decide) (by decide)
  have q8 := k1 8 (by decide) (by decide) (by decide) (by decide) (by decide) (by decide) (by decide) (by decide)
  have q9 := k1 9 (by decide) (by decide) (by decide) (by decide) (by decide) (by decide) (by decide) (by decide)
  have q10 := k1 10 (by decide) (by decide) (by decide) (by decide) (by decide) (by decide) (by decide) (by decide)
  have r34 := fun j => k2 34 j (by decide)
  have r35 := fun j => k2 35 j (by decide)
  have r36 := fun j => k2 36 j (by decide)
  have r37 := fun j => k2 37 j (by decide)
  have r41 := fun j => k2 41 j (by decide)
  unfold fg_CF at hcf ⊢
  simp only [q1, q3, q7, q8, q9, q10, r34, r35, r36, r37, r41]
  exact hcf
theorem fg_gB_c {M : Int} {c c' m m' : fw_M} (h : fg_gB M c m) (h8 : ∀ j, fw_r c' 8 j = fw_r c 8 j) (h9 : ∀ j, fw_r c' 9 j = fw_r c 9 j) (h10 : ∀ j, fw_r c' 10 j = fw_r c 10 j) (k1 : fw_r m' 32 1 = fw_r m 32 1) (k10 : fw_r m' 32 10 = fw_r m 32 10) (k15 : fw_r m' 32 15 = fw_r m 32 15) (k33 : ∀ j, fw_r m' 33 j = fw_r m 33 j) (k40 : ∀ j, fw_r m' 40 j = fw_r m 40 j) : fg_gB M c' m' :=
  ⟨fg_RB_m (fg_RB_c h.1 h8 h9 h10) k1 k33 k40, fg_TR_m h.2.1 k1 k15 k10 k33 k40, fun p a b => by rw [k1] at a; rw [k33]; exact h.2.2 p a b⟩
theorem fg_gB_M {M M' : Int} {c m : fw_M} (h : fg_gB M c m) (hM : M ≤ M') : fg_gB M' c m := ⟨fg_RB_M h.1 hM, h.2⟩
theorem fg_gC_c {M : Int} {c c' m m' : fw_M} (h : fg_gC M c m) (h26 : fw_r c' 2 6 = fw_r c 2 6) (h18 : fw_r c' 1 8 = fw_r c 1 8) (h4 : ∀ j, fw_r c' 4 j = fw_r c 4 j) (h5 : ∀ j, fw_r c' 5 j = fw_r c 5 j) (h6 : ∀ j, fw_r c' 6 j = fw_r c 6 j) (h7 : ∀ j, fw_r c' 7 j = fw_r c 7 j) (k10 : fw_r m' 32 10 = fw_r m 32 10) (k15 : fw_r m' 32 15 = fw_r m 32 15) (k16 : fw_r m' 32 16 = fw_r m 32 16) (k38 : ∀ j, fw_r m' 38 j = fw_r m 38 j) (k39 : ∀ j, fw_r m' 39 j = fw_r m 39 j) (k40 : ∀ j, fw_r m' 40 j = fw_r m 40 j) (k47 : ∀ j, fw_r m' 47 j = fw_r m 47 j) : fg_gC M c' m' := by
  unfold fg_gC at h ⊢
  simp only [h26, h18, h4, h5, h6, h7, k10, k15, k16, k38, k39, k40, k47]
  exact h
theorem fg_gC_M {M M' : Int} {c m : fw_M} (h : fg_gC M c m) (hM : M ≤ M') : fg_gC M' c m := by
  obtain ⟨h1, h2, h3, h4, h5⟩ := h
  refine ⟨h1, h2, by omega, fun p a b => ?_, h5⟩
  obtain ⟨x1, x2, x3, x4, x5, x6, x7⟩ := h4 p a b
  exact ⟨x1, x2, x3, x4, x5, x6, by omega⟩
theorem fg_gD_c {c c' m m' : fw_M} (h : fg_gD c m) (h27 : fw_r c' 2 7 = fw_r c 2 7) (h28 : fw_r c' 2 8 = fw_r c 2 8) (h29 : fw_r c' 2 9 = fw_r c 2 9) (h251 : fw_r c' 25 1 = fw_r c 25 1) (h281 : fw_r c' 28 1 = fw_r c 28 1) (k15 : fw_r m' 32 15 = fw_r m 32 15) (k17 : fw_r m' 32 17 = fw_r m 32 17) (k18 : fw_r m' 32 18 = fw_r m 32 18) (k19 : fw_r m' 32 19 = fw_r m 32 19) (k29 : fw_r m' 32 29 = fw_r m 32 29) (k39 : ∀ j, fw_r m' 39 j = fw_r m 39 j) : fg_gD c' m' := by
  unfold fg_gD fg_s2 fg_sv at h ⊢
  simp only [h27, h28, h29, h251, h281, k15, k17, k18, k19, k29, k39]
  exact h
theorem fg_gE_c {c c' m m' : fw_M} (h : fg_gE c m) (h0 : ∀ i, 0 ≤ i → fw_r c' (51 + 3 * i + 1) 1 = fw_r c (51 + 3 * i + 1) 1 ∧ fw_r c' (51 + 3 * i) 4 = fw_r c (51 + 3 * i) 4 ∧ fw_r c' (51 + 3 * i) 5 = fw_r c (51 + 3 * i) 5 ∧ ∀ k, fw_r c' (51 + 3 * i + 1 + 1) k = fw_r c (51 + 3 * i + 1 + 1) k) (k3 : fw_r m' 32 3 = fw_r m 32 3) (k15 : fw_r m' 32 15 = fw_r m 32 15) (k35 : ∀ j, fw_r m' 35 j = fw_r m 35 j) (k36 : ∀ j, fw_r m' 36 j = fw_r m 36 j) (k39 : ∀ j, fw_r m' 39 j = fw_r m 39 j) (k42 : ∀ j, fw_r m' 42 j = fw_r m 42 j) (k43 : ∀ j, fw_r m' 43 j = fw_r m 43 j) (k44 : ∀ j, fw_r m' 44 j = fw_r m 44 j) (k45 : ∀ j, fw_r m' 45 j = fw_r m 45 j) : fg_gE c' m' := by
  unfold fg_gE at h ⊢
  simp only [k3, k15, k35, k36, k39, k42, k43, k44, k45]
  refine ⟨fun i a b => ?_, h.2⟩
  obtain ⟨e1, e2, e3, e4⟩ := h0 i a
  rw [e1, e2, e3]
  simp only [e4]
  exact h.1 i a b
theorem fg_gF_c {m m' : fw_M} (h : fg_gF m) (k1 : fw_r m' 32 1 = fw_r m 32 1) (k33 : ∀ j, fw_r m' 33 j = fw_r m 33 j) (k39 : ∀ j, fw_r m' 39 j = fw_r m 39 j) : fg_gF m' := by
  unfold fg_gF at h ⊢
  simp only [k1, k33, k39]
  exact h
theorem fg_gG_c {c c' m m' : fw_M} (h : fg_gG c m) (h26 : ∀ j, fw_r c' 26 j = fw_r c 26 j) (k15 : fw_r m' 32 15 = fw_r m 32 15) (k19 : fw_r m' 32 19 = fw_r m 32 19) (k39 : ∀ j, fw_r m' 39 j = fw_r m 39 j) : fg_gG c' m' := by
  unfold fg_gG at h ⊢
  simp only [h26, k15, k19, k39]
  exact h
theorem fg_gH_c {c c' m m' : fw_M} (h : fg_gH c m) (h27 : fw_r c' 27 2 = fw_r c 27 2) (h28 : fw_r c' 28 1 = fw_r c 28 1) (h29 : ∀ j, fw_r c' 29 j = fw_r c 29 j) (h30 : ∀ j, fw_r c' 30 j = fw_r c 30 j) (k15 : fw_r m' 32 15 = fw_r m 32 15) (k25 : fw_r m' 32 25 = fw_r m 32 25) (k39 : ∀ j, fw_r m' 39 j = fw_r m 39 j) (k46 : ∀ j, fw_r m' 46 j = fw_r m 46 j) (k47 : ∀ j, fw_r m' 47 j = fw_r m 47 j) (k48 : ∀ j, fw_r m' 48 j = fw_r m 48 j) : fg_gH c' m' := by
  unfold fg_gH at h ⊢
  simp only [h27, h28, h29, h30, k15, k25, k39, k46, k47, k48]
  exact h
theorem fg_chs_c {m m' : fw_M} (k3 : fw_r m' 32 3 = fw_r m 32 3) (k42 : ∀ j, fw_r m' 42 j = fw_r m 42 j) (k43 : ∀ j, fw_r m' 43 j = fw_r m 43 j) (p : Int) : fg_chs m' p = fg_chs m p := by
  unfold fg_chs
  simp only [k3, k42, k43]
theorem fg_cnt_c {f g : Int → Int} (h : ∀ j, f j = g j) (n p : Int) : fg_cnt f n p = fg_cnt g n p := by
  unfold fg_cnt
  simp only [h]
theorem fg_gI_c {c c' m m' : fw_M} (h : fg_gI c m) (h28 : fw_r c' 28 1 = fw_r c 28 1) (h29 : ∀ j, fw_r c' 29 j = fw_r c 29 j) (h26 : ∀ j, fw_r c' 26 j = fw_r c 26 j) (k1 : fw_r m' 32 1 = fw_r m 32 1) (k3 : fw_r m' 32 3 = fw_r m 32 3) (k10 : fw_r m' 32 10 = fw_r m 32 10) (k15 : fw_r m' 32 15 = fw_r m 32 15) (k19 : fw_r m' 32 19 = fw_r m 32 19) (k33 : ∀ j, fw_r m' 33 j = fw_r m 33 j) (k42 : ∀ j, fw_r m' 42 j = fw_r m 42 j) (k43 : ∀ j, fw_r m' 43 j = fw_r m 43 j) : fg_gI c' m' := by
  intro p hp
  have := h p hp
  rw [fg_chs_c k3 k42 k43, fg_cnt_c k33, fg_cnt_c h29, fg_cnt_c h26, h28, k1, k10, k15, k19]
  exact this
/-- counting -/
theorem fg_cnt_0 {f : Int → Int} {n p : Int} (h : ∀ j, 0 ≤ j → j < n → f j ≠ p) : fg_cnt f n p = 0 := by
  unfold fg_cnt
  exact fg_sf_0 _ _ (fun j a b => if_neg (h j a (by omega)))
theorem fg_cnt_ge {f : Int → Int} {n p : Int} : 0 ≤ fg_cnt f n p := by
  unfold fg_cnt
  have := fg_sf_bd (f := fun j => if f j = p then 1 else 0) (lo := 0) (hi := 1) n.toNat 0 (fun j _ _ => by (try dsimp only); split <;> omega)
  omega
theorem fg_cnt_ext {f g : Int → Int} {n p : Int} (h : ∀ j, 0 ≤ j → j < n → f j = g j) : fg_cnt f n p = fg_cnt g n p := by
  unfold fg_cnt
  exact fg_sf_ext _ _ (fun j a b => by rw [h j a (by omega)])
theorem fg_cnt_upd {f g : Int → Int} {n p x : Int} (h : ∀ j, 0 ≤ j → j < n → j ≠ x → f j = g j) (h0 : 0 ≤ x) (h1 : x < n) : fg_cnt f n p = fg_cnt g n p + ((if f x = p then 1 else 0) - (if g x = p then 1 else 0)) := by
  unfold fg_cnt
  exact fg_sf_upd (f := fun j => if f j = p then 1 else 0) (g := fun j => if g j = p then 1 else 0) _ _ (fun j a b d => by (try dsimp only); rw [h j a (by omega) d]) h0 (by omega)
theorem fg_cnt_end (f : Int → Int) {n : Int} (p : Int) (h : 0 ≤ n) : fg_cnt f (n + 1) p = fg_cnt f n p + if f n = p then 1 else 0 := by
  unfold fg_cnt
  have e : (n + 1).toNat = n.toNat + 1 := by omega
  have e2 : (0 : Int) + ((n.toNat : Nat) : Int) = n := by omega
  rw [e, fg_sf_end, e2]
theorem fg_cnt_pos {f : Int → Int} {n p x : Int} (h0 : 0 ≤ x) (h1 : x < n) (h : f x = p) : 1 ≤ fg_cnt f n p := by
  rw [fg_cnt_upd (g := fun j => if j = x then p - 1 else f j) (x := x) (fun j _ _ hj => by rw [if_neg hj]) h0 h1]
  have := fg_cnt_ge (f := fun j => if j = x then p - 1 else f j) (n := n) (p := p)
  rw [if_pos h, if_pos rfl, if_neg (by omega)]; omega
theorem fg_cnt_two {f : Int → Int} {n p x y : Int} (h0 : 0 ≤ x) (h1 : x < n) (h : f x = p) (k0 : 0 ≤ y) (k1 : y < n) (k : f y = p) (hxy : x ≠ y) : 2 ≤ fg_cnt f n p := by
  rw [fg_cnt_upd (g := fun j => if j = x then p - 1 else f j) (x := x) (fun j _ _ hj => by rw [if_neg hj]) h0 h1]
  have := fg_cnt_pos (f := fun j => if j = x then p - 1 else f j) (n := n) (p := p) k0 k1 (by rw [if_neg (Ne.symm hxy)]; exact k)
  rw [if_pos h, if_pos rfl, if_neg (by omega)]; omega
theorem fg_cnt_ex {f : Int → Int} {n p : Int} (h : 1 ≤ fg_cnt f n p) : ∃ x, 0 ≤ x ∧ x < n ∧ f x = p := by
  refine Classical.byContradiction (fun hn => ?_)
  have := fg_cnt_0 (f := f) (n := n) (p := p) (fun j a b e => hn ⟨j, a, b, e⟩)
  omega
theorem fg_chs_ge (m : fw_M) (p : Int) : 0 ≤ fg_chs m p := by
  unfold fg_chs
  have := fg_sf_bd (f := fun i => fg_cnt (fun k => fw_r m 43 (30 * i + k)) (fw_r m 42 i) p) (lo := 0) (hi := fg_sf (fun i => fg_cnt (fun k => fw_r m 43 (30 * i + k)) (fw_r m 42 i) p) 0 0) 0 0 (fun j a b => by omega)
  have gen : ∀ (k : Nat) (i : Int), 0 ≤ fg_sf (fun i => fg_cnt (fun k => fw_r m 43 (30 * i + k)) (fw_r m 42 i) p) i k := by
    intro k
    induction k with
    | zero => intro i; simp [fg_sf]
    | succ k ih =>
      intro i
      rw [fg_sf]
      have := ih (i + 1)
      have := fg_cnt_ge (f := fun k => fw_r m 43 (30 * i + k)) (n := fw_r m 42 i) (p := p)
      omega
  exact gen _ _
