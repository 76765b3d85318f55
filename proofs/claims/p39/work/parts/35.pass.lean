/-! a tick: the reference's pieces -/
def fg_tk0 (m : fw_M) : fw_M := fw_u m 32 16 (fw_r m 32 16 + 1)
def fg_pl (m : fw_M) : fw_M := if fg_lv m = 1 then fg_us [(33, 0, fw_r m 32 15), (39, fw_r m 32 15, 1), (32, 15, fw_r m 32 15 + 1)] m else m
def fg_pcl (m : fw_M) (i : Int) : List (Int × Int × Int) :=
  [(33, fw_r m 34 i, -1), (43, 30 * i + fw_r m 42 i, fw_r m 33 (fw_r m 34 i)), (42, i, fw_r m 42 i + 1),
   (44, i, (fw_r m 44 i + fw_r m 33 (fw_r m 34 i) + 1) % 9973), (45, i, (fw_r m 45 i + (fw_r m 44 i + fw_r m 33 (fw_r m 34 i) + 1) % 9973) % 9973),
   (39, fw_r m 33 (fw_r m 34 i), 2), (32, 17, fw_r m 32 17 + 1), (32, 18, fw_r m 32 18 + fw_r m 40 (fw_r m 33 (fw_r m 34 i)))]
def fg_pc (m : fw_M) (i : Int) : fw_M := if fg_dv m i = 1 then fg_us (fg_pcl m i) m else m
def fg_pol (m : fw_M) : List (Int × Int × Int) :=
  [(39, fw_r m 33 (fw_r m 32 1 - 1), 4), (32, 17, fw_r m 32 17 + 1), (32, 18, fw_r m 32 18 + fw_r m 40 (fw_r m 33 (fw_r m 32 1 - 1))), (33, fw_r m 32 1 - 1, -1), (32, 19, fw_r m 32 19 + 1)]
def fg_po (m : fw_M) : fw_M := if fg_ov m = 1 then fg_us (fg_pol m) m else m
def fg_pcn (m : fw_M) : Int → Nat → fw_M
  | _, 0 => m
  | i, k + 1 => fg_pcn (fg_pc m i) (i + 1) k
/-! a change of one parcel's state leaves the rows alone -/
theorem fg_gG_st {c c' m m' : fw_M} (h : fg_gG c m) (h26 : ∀ j, 0 ≤ j → j < fw_r m 32 19 → fw_r c' 26 j = fw_r c 26 j) (k15 : fw_r m 32 15 ≤ fw_r m' 32 15) (k19 : fw_r m' 32 19 = fw_r m 32 19) (k39 : ∀ q, fw_r m 39 q = 4 → fw_r m' 39 q = 4) : fg_gG c' m' := by
  intro j a b
  rw [k19] at b
  have := h j a b
  rw [h26 j a b]
  exact ⟨by omega, k39 _ this.2⟩
theorem fg_gH_st {c c' m m' : fw_M} (h : fg_gH c m) (h27 : fw_r c' 27 2 = fw_r c 27 2) (h28 : fw_r c' 28 1 = fw_r c 28 1) (h29 : ∀ j, fw_r c' 29 j = fw_r c 29 j) (h30 : ∀ j, fw_r c' 30 j = fw_r c 30 j) (k15 : fw_r m 32 15 ≤ fw_r m' 32 15) (k25 : fw_r m' 32 25 = fw_r m 32 25) (k39 : ∀ q, fw_r m 39 q = 3 → fw_r m' 39 q = 3) (k39b : ∀ q, 0 ≤ q → q < fw_r m' 32 15 → fw_r m' 39 q = 3 → q < fw_r m 32 15 ∧ fw_r m 39 q = 3) (k46 : ∀ j, fw_r m' 46 j = fw_r m 46 j) (k47 : ∀ j, fw_r m' 47 j = fw_r m 47 j) (k48 : ∀ j, fw_r m' 48 j = fw_r m 48 j) : fg_gH c' m' := by
  obtain ⟨h1, h2, h3, h4, h5⟩ := h
  unfold fg_gH
  simp only [h27, h28, h29, h30, k25, k46, k47, k48]
  refine ⟨h1, fun j a b => ?_, h3, h4, fun p a b d => ?_⟩
  · have := h2 j a b
    exact ⟨by omega, k39 _ this.2⟩
  · obtain ⟨x, y⟩ := k39b p a b d
    exact h5 p a x y
/-! the class's pieces -/
def fg_c0 (c : fw_M) (p s rd : Int) : fw_M := fw_u (fw_u (fw_u (fw_u c 5 p s) 6 p rd) 2 7 (fw_r c 2 7 + 1)) 2 8 (fw_r c 2 8 + rd)
theorem fg_c0_o (c : fw_M) (p s rd : Int) {a b : Int} (h5 : a ≠ 5 ∨ b ≠ p) (h6 : a ≠ 6 ∨ b ≠ p) (h2 : a ≠ 2 ∨ (b ≠ 7 ∧ b ≠ 8)) : fw_r (fg_c0 c p s rd) a b = fw_r c a b := by
  unfold fg_c0
  rw [fw_r_u, if_neg (by omega), fw_r_u, if_neg (by omega), fw_r_u, if_neg (by omega), fw_r_u, if_neg (by omega)]
theorem fg_c0_5 (c : fw_M) (p s rd q : Int) : fw_r (fg_c0 c p s rd) 5 q = if q = p then s else fw_r c 5 q := by
  unfold fg_c0
  rw [fw_r_k _ (by decide), fw_r_k _ (by decide), fw_r_k _ (by decide), fw_r_u]
  by_cases h : q = p
  · rw [if_pos ⟨rfl, h⟩, if_pos h]
  · rw [if_neg (fun x => h x.2), if_neg h]
theorem fg_c0_6 (c : fw_M) (p s rd q : Int) : fw_r (fg_c0 c p s rd) 6 q = if q = p then rd else fw_r c 6 q := by
  unfold fg_c0
  rw [fw_r_k _ (by decide), fw_r_k _ (by decide), fw_r_u]
  by_cases h : q = p
  · rw [if_pos ⟨rfl, h⟩, if_pos h]
  · rw [if_neg (fun x => h x.2), if_neg h, fw_r_k _ (by decide)]
theorem fg_c0_27 (c : fw_M) (p s rd : Int) : fw_r (fg_c0 c p s rd) 2 7 = fw_r c 2 7 + 1 := by
  unfold fg_c0
  rw [fw_r_j _ (by decide), fw_r_s]
theorem fg_c0_28 (c : fw_M) (p s rd : Int) : fw_r (fg_c0 c p s rd) 2 8 = fw_r c 2 8 + rd := by
  unfold fg_c0
  rw [fw_r_s]
theorem fg_c0_ptr {c : fw_M} (p s rd : Int) (h : fw_ptr c) : fw_ptr (fg_c0 c p s rd) := by
  unfold fg_c0
  rw [fw_ptr_2_8, fw_ptr_2_7, fw_ptr_6, fw_ptr_5]; exact h
/-- a parcel's numbers on its way out, as far as counts and states go -/
theorem fg_gC_out {M p v s rd : Int} {c c' m m' : fw_M} (h : fg_gC M c m) (hp : 0 ≤ p ∧ p < fw_r m 32 15) (hF : fw_r m 32 15 ≤ fw_r m 32 10) (hv : v = 2 ∨ v = 4) (hs : s = fg_code v) (hrd : rd = fw_r m 40 p)
    (h26 : fw_r c' 2 6 = fw_r c 2 6) (h18 : fw_r c' 1 8 = fw_r c 1 8) (h4 : ∀ j, fw_r c' 4 j = fw_r c 4 j) (h5 : ∀ j, fw_r c' 5 j = if j = p then s else fw_r c 5 j) (h6 : ∀ j, fw_r c' 6 j = if j = p then rd else fw_r c 6 j) (h7 : ∀ j, fw_r c' 7 j = fw_r c 7 j)
    (k10 : fw_r m' 32 10 = fw_r m 32 10) (k15 : fw_r m' 32 15 = fw_r m 32 15) (k16 : fw_r m' 32 16 = fw_r m 32 16) (k38 : ∀ j, fw_r m' 38 j = fw_r m 38 j) (k39 : ∀ j, fw_r m' 39 j = if j = p then v else fw_r m 39 j) (k40 : ∀ j, fw_r m' 40 j = fw_r m 40 j) (k47 : ∀ j, fw_r m' 47 j = fw_r m 47 j) : fg_gC M c' m' := by
  obtain ⟨g1, g2, g3, g4, g5⟩ := h
  refine ⟨by rw [h26, k15]; exact g1, by rw [h18, k16]; exact g2, by rw [k16]; exact g3, fun q a b => ?_, fun q a b => ?_⟩
  · rw [k10] at b
    obtain ⟨x1, x2, x3, x4, x5, x6, x7⟩ := g4 q a b
    rw [h4, k38, k39, h5, k15, h6, k40, h7, k47]
    by_cases hq : q = p
    · subst hq
      simp only [if_true]
      refine ⟨x1, by omega, hs, by omega, fun _ => hrd, fun e => by omega, x7⟩
    · simp only [if_neg hq]
      exact ⟨x1, x2, x3, x4, x5, x6, x7⟩
  · rw [k10] at a
    rw [k39, k40, if_neg (by omega)]
    exact g5 q a b
theorem fg_sum_st {f g : Int → Int} {p F : Int} (hp : 0 ≤ p ∧ p < F) (h : ∀ q, q ≠ p → f q = g q) : fg_sf f 0 F.toNat = fg_sf g 0 F.toNat + (f p - g p) :=
  fg_sf_upd _ _ (fun j _ _ hj => h j hj) hp.1 (by omega)
theorem fg_gD_out {p v rd : Int} {c c' m m' : fw_M} (h : fg_gD c m) (hp : 0 ≤ p ∧ p < fw_r m 32 15) (h1 : fw_r m 39 p = 1) (hv : v = 2 ∨ v = 4) (hrd : 0 ≤ rd ∧ rd ≤ 400000)
    (h27 : fw_r c' 2 7 = fw_r c 2 7 + 1) (h28 : fw_r c' 2 8 = fw_r c 2 8 + rd) (h29 : fw_r c' 2 9 = fw_r c 2 9) (h251 : fw_r c' 25 1 = fw_r c 25 1 + if v = 4 then 1 else 0) (h281 : fw_r c' 28 1 = fw_r c 28 1)
    (k15 : fw_r m' 32 15 = fw_r m 32 15) (k17 : fw_r m' 32 17 = fw_r m 32 17 + 1) (k18 : fw_r m' 32 18 = fw_r m 32 18 + rd) (k19 : fw_r m' 32 19 = fw_r m 32 19 + if v = 4 then 1 else 0) (k29 : fw_r m' 32 29 = fw_r m 32 29) (k39 : ∀ j, fw_r m' 39 j = if j = p then v else fw_r m 39 j) : fg_gD c' m' := by
  obtain ⟨⟨a1, a2⟩, ⟨b1, b2, b3⟩, ⟨d1, d2⟩, ⟨e1, e2, e3⟩, f1⟩ := h
  have s2 : fg_sf (fg_s2 m') 0 (fw_r m 32 15).toNat = fg_sf (fg_s2 m) 0 (fw_r m 32 15).toNat + 1 := by
    rw [fg_sum_st (g := fg_s2 m) hp (fun q hq => by unfold fg_s2; rw [k39, if_neg hq])]
    have x1 : fg_s2 m' p = 1 := by unfold fg_s2; rw [k39, if_pos rfl, if_pos (by omega)]
    have x2 : fg_s2 m p = 0 := by unfold fg_s2; rw [h1, if_neg (by omega)]
    omega
  have s4 : fg_sf (fg_sv m' 4) 0 (fw_r m 32 15).toNat = fg_sf (fg_sv m 4) 0 (fw_r m 32 15).toNat + if v = 4 then 1 else 0 := by
    rw [fg_sum_st (g := fg_sv m 4) hp (fun q hq => by unfold fg_sv; rw [k39, if_neg hq])]
    have x1 : fg_sv m' 4 p = if v = 4 then 1 else 0 := by unfold fg_sv; rw [k39, if_pos rfl]
    have x2 : fg_sv m 4 p = 0 := by unfold fg_sv; rw [h1, if_neg (by omega)]
    omega
  have s3 : fg_sf (fg_sv m' 3) 0 (fw_r m 32 15).toNat = fg_sf (fg_sv m 3) 0 (fw_r m 32 15).toNat := by
    rw [fg_sum_st (g := fg_sv m 3) hp (fun q hq => by unfold fg_sv; rw [k39, if_neg hq])]
    have x1 : fg_sv m' 3 p = 0 := by unfold fg_sv; rw [k39, if_pos rfl, if_neg (by omega)]
    have x2 : fg_sv m 3 p = 0 := by unfold fg_sv; rw [h1, if_neg (by omega)]
    omega
  unfold fg_gD
  rw [h27, h28, h29, h251, h281, k15, k17, k18, k19, k29, s2, s3, s4]
  refine ⟨⟨by omega, by omega⟩, ⟨by omega, by omega, by omega⟩, ⟨by omega, by omega⟩, ⟨e1, e2, e3⟩, f1⟩
/-- bounds that the counts give -/
theorem fg_sf01 {f : Int → Int} {F : Int} (h : ∀ q, f q = 0 ∨ f q = 1) (hF : 0 ≤ F) : 0 ≤ fg_sf f 0 F.toNat ∧ fg_sf f 0 F.toNat ≤ F := by
  have := fg_sf_bd (f := f) (lo := 0) (hi := 1) F.toNat 0 (fun j _ _ => by have := h j; omega)
  omega
theorem fg_gD_bd {c m : fw_M} (h : fg_gD c m) (hF : 0 ≤ fw_r m 32 15) : (0 ≤ fw_r m 32 17 ∧ fw_r m 32 17 ≤ fw_r m 32 15) ∧ (0 ≤ fw_r m 32 19 ∧ fw_r m 32 19 ≤ fw_r m 32 15) ∧ (0 ≤ fw_r c 28 1 ∧ fw_r c 28 1 ≤ fw_r m 32 15) := by
  obtain ⟨⟨a1, a2⟩, -, ⟨d1, d2⟩, -, f1⟩ := h
  have h2 := fg_sf01 (f := fg_s2 m) (fun q => by unfold fg_s2; split <;> omega) hF
  have h4 := fg_sf01 (f := fg_sv m 4) (fun q => by unfold fg_sv; split <;> omega) hF
  have h3 := fg_sf01 (f := fg_sv m 3) (fun q => by unfold fg_sv; split <;> omega) hF
  omega
/-- one more at large: so many parcels with state 4 are fewer than the queue's end -/
theorem fg_over_lt {c m : fw_M} (h : fg_gD c m) {p : Int} (hp : 0 ≤ p ∧ p < fw_r m 32 15) (h1 : fw_r m 39 p = 1) : fw_r m 32 19 < fw_r m 32 15 ∧ fw_r m 32 17 < fw_r m 32 15 := by
  obtain ⟨⟨a1, a2⟩, -, ⟨d1, d2⟩, -, f1⟩ := h
  constructor
  · have e := fg_sum_st (f := fun q => if q = p then 1 else fg_sv m 4 q) (g := fg_sv m 4) hp (fun q hq => if_neg hq)
    have h4 := fg_sf01 (f := fun q => if q = p then 1 else fg_sv m 4 q) (F := fw_r m 32 15) (fun q => by (try dsimp only); unfold fg_sv; split <;> (try split) <;> omega) (by omega)
    have x2 : fg_sv m 4 p = 0 := by unfold fg_sv; rw [h1, if_neg (by omega)]
    simp only [if_true] at e
    omega
  · have e := fg_sum_st (f := fun q => if q = p then 1 else fg_s2 m q) (g := fg_s2 m) hp (fun q hq => if_neg hq)
    have h4 := fg_sf01 (f := fun q => if q = p then 1 else fg_s2 m q) (F := fw_r m 32 15) (fun q => by (try dsimp only); unfold fg_s2; split <;> (try split) <;> omega) (by omega)
    have x2 : fg_s2 m p = 0 := by unfold fg_s2; rw [h1, if_neg (by omega)]
    simp only [if_true] at e
    omega
