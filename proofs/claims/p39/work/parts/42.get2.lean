/-! more answers: load, trucks, quotients, isOnce -/
def fg_ldm (m : fw_M) (r : Int) : Int → Int := fun j => if (fw_r m 39 j = 0 ∨ fw_r m 39 j = 1) ∧ fw_r m 37 j = r then fw_r m 38 j else 0
def fg_ld (m : fw_M) (r : Int) : Int := fg_sf (fg_ldm m r) 0 (fw_r m 32 10).toNat
theorem fg_ld_eq {m m' : fw_M} (h10 : fw_r m' 32 10 = fw_r m 32 10) (h37 : ∀ j, fw_r m' 37 j = fw_r m 37 j) (h38 : ∀ j, fw_r m' 38 j = fw_r m 38 j) (h39 : ∀ j, fw_r m' 39 j = fw_r m 39 j) (r : Int) : fg_ld m' r = fg_ld m r := by
  unfold fg_ld fg_ldm
  simp only [h10, h37, h38, h39]
theorem fg_ld_c {M : Int} {c m : fw_M} (h : fg_IN M c m) (r : Int) : fg_sf (fg_ldf c r) 0 (fw_r c 2 5).toNat = fg_ld m r := by
  have e5 := h.1.1.2.1.2.2.2.2.2
  unfold fg_ld
  rw [e5]
  refine fg_sf_ext _ _ (fun j a b => ?_)
  have hP := h.1.1.2.2.1.2.2.2
  have g := h.2.2.1.2.2.2.1 j a (by omega)
  have g3 := h.1.1.2.2.2.2.2.1 j a (by omega)
  unfold fg_ldf fg_ldm
  rw [g.1.1, g3.1, g.2.2.1]
  have s := g.2.1
  have : (fg_code (fw_r m 39 j) = 119 ∨ fg_code (fw_r m 39 j) = 108) ↔ (fw_r m 39 j = 0 ∨ fw_r m 39 j = 1) := by
    unfold fg_code
    constructor
    · intro hx
      by_cases c0 : fw_r m 39 j = 0
      · exact Or.inl c0
      · rw [if_neg c0] at hx
        by_cases c1 : fw_r m 39 j = 1
        · exact Or.inr c1
        · rw [if_neg c1] at hx
          by_cases c2 : fw_r m 39 j = 2
          · rw [if_pos c2] at hx; omega
          · rw [if_neg c2] at hx
            by_cases c3 : fw_r m 39 j = 3
            · rw [if_pos c3] at hx; omega
            · rw [if_neg c3] at hx; omega
    · rintro (hx | hx)
      · rw [if_pos hx]; exact Or.inl rfl
      · rw [if_neg (by omega), if_pos hx]; exact Or.inr rfl
  by_cases z : (fw_r m 39 j = 0 ∨ fw_r m 39 j = 1) ∧ fw_r m 37 j = r
  · rw [if_pos z, if_pos ⟨this.2 z.1, z.2⟩]
  · rw [if_neg z, if_neg (fun hx => z ⟨this.1 hx.1, hx.2⟩)]
theorem fg_ld_bd {M : Int} {c m : fw_M} (h : fg_IN M c m) (r : Int) : 0 ≤ fg_ld m r ∧ fg_ld m r ≤ 2700 := by
  have hP := h.1.1.2.2.1.2.2.2
  have := fg_sf_bd (f := fg_ldm m r) (lo := 0) (hi := 9) (fw_r m 32 10).toNat 0 (fun j a b => by
    have g := h.2.2.1.2.2.2.1 j a (by omega)
    unfold fg_ldm; split <;> omega)
  unfold fg_ld
  omega
theorem fg_hw {M : Int} {c m : fw_M} (h : fg_IN M c m) : (∀ j, 0 ≤ j → j < fw_r c 2 5 → 1 ≤ fw_r c 4 j ∧ fw_r c 4 j ≤ 9) ∧ (∀ j, 0 ≤ j → j < fw_r m 32 10 → 1 ≤ fw_r m 38 j ∧ fw_r m 38 j ≤ 9) := by
  have e5 := h.1.1.2.1.2.2.2.2.2
  refine ⟨fun j a b => ?_, fun j a b => ?_⟩
  · have g := (h.2.2.1.2.2.2.1 j a (by omega)).1
    omega
  · have g := (h.2.2.1.2.2.2.1 j a (by omega)).1
    omega
theorem fm_load {M x : Int} {c m : fw_M} (h : fg_IN M c m) (c1 : 0 ≤ x ∧ x < 8) : fw_E 92 0 [(2, 1), (0, x)] [] c = some ((0, fg_ld m x), c) := by
  obtain ⟨⟨hp, hk, hpk⟩, ⟨h3, h30, h36⟩, hN, h82, h113, h25, hP⟩ := fg_facts h
  have r1 := fs_rRoute_t (σ := c) c1
  have r2 := fs_loadOf (r := x) (a2 := (8, 0)) (a3 := (8, 0)) (a4 := (8, 0)) hp hpk (fg_hw h).1
  rw [fg_ld_c h x] at r2
  simp (disch := first | assumption | first | omega | assumption | (simp (disch := omega) only [fw_w_id, fw_wl_id, fw_r_k, fw_r_j, fw_r_s]; omega) | (simp only [fw_ptr_32_0, fl_ptr_32_0, fw_ptr_32_1, fl_ptr_32_1, fw_ptr_32_2, fw_ptr_32_3, fw_ptr_32_4, fw_ptr_32_5, fl_ptr_32_5, fw_ptr_32_6, fw_ptr_32_7, fw_ptr_32_8, fw_ptr_32_9, fw_ptr_32_10, fl_ptr_32_10, fw_ptr_32_11, fl_ptr_32_11, fw_ptr_32_12, fw_ptr_32_13, fw_ptr_32_14, fw_ptr_32_15, fw_ptr_32_16, fw_ptr_32_17, fl_ptr_32_17, fw_ptr_32_18, fl_ptr_32_18, fw_ptr_32_19, fl_ptr_32_19, fw_ptr_32_20, fl_ptr_32_20, fw_ptr_32_21, fl_ptr_32_21, fw_ptr_32_22, fl_ptr_32_22, fw_ptr_32_23, fw_ptr_32_24, fw_ptr_32_25, fw_ptr_32_26, fw_ptr_32_27, fw_ptr_32_28, fw_ptr_32_29, fw_ptr_32_30, fw_ptr_32_31, fw_ptr_32_32, fw_ptr_32_33, fw_ptr_32_34, fw_ptr_32_35, fw_ptr_1_8, fw_ptr_2_5, fw_ptr_2_6, fw_ptr_2_7, fw_ptr_2_8, fw_ptr_2_9, fw_ptr_8_2, fw_ptr_8_3, fw_ptr_11_2, fw_ptr_11_3, fw_ptr_11_4, fw_ptr_11_5, fw_ptr_11_6, fw_ptr_17_8, fw_ptr_18_2, fw_ptr_18_3, fw_ptr_25_1, fw_ptr_27_2, fw_ptr_28_1, fl_ptr_33, fl_ptr_34, fl_ptr_35, fl_ptr_36, fl_ptr_38, fl_ptr_39, fl_ptr_40, fl_ptr_41, fl_ptr_42, fl_ptr_43, fl_ptr_44, fl_ptr_45, fl_ptr_46, fl_ptr_47, fl_ptr_48, fl_ptr_49, fl_ptr_50, fw_ptr_3, fw_ptr_4, fw_ptr_5, fw_ptr_6, fw_ptr_7, fw_ptr_9, fw_ptr_10, fw_ptr_13, fw_ptr_15, fw_ptr_16, fw_ptr_19, fw_ptr_20, fw_ptr_21, fw_ptr_22, fw_ptr_23, fw_ptr_24, fw_ptr_26, fw_ptr_29, fw_ptr_30, fw_ptr_31, fw_ptr_33, fw_ptr_34, fw_ptr_35, fw_ptr_36, fw_ptr_37, fw_ptr_38, fw_ptr_39, fw_ptr_40, fw_ptr_41, fw_ptr_42, fw_ptr_43, fw_ptr_44, fw_ptr_45, fw_ptr_46, fw_ptr_47, fw_ptr_48, fw_ptr_49, fw_ptr_50, fw_ptr_51, fw_ptr_52, fw_ptr_53, fw_ptr_54, fw_ptr_55, fw_ptr_12, fw_ptr_x, fw_ptr_hi, fw_ptr_b3, fw_ptr_b1, fw_ptr_b2, fw_ptr_b2_, fl_ptr_x, fl_ptr_hi, fl_ptr_lo, fl_ptr_in]; assumption)) only [fw_b_92_0, fw_b_92_4, fw_b_92_12, fw_c9_92, r1, r2, ↓if_pos, ↓if_neg, if_neg, if_pos, fw_bs, fw_cn_0, fw_cn_1, fw_cn_2, fw_cn_3, fw_cn_4, fw_cn_5, Nat.reduceAdd, fw_w_id, fw_wl_id, fw_r_k, fw_r_j, fw_r_s, fw_r_x, if_true, if_false]
theorem fs_tHas_t {σ : fw_M} {u : Int} (h0 : 0 ≤ u) (h1 : u < fw_r σ 27 2) (h2 : u < 300) : fw_E 18 0 [(2, 27), (0, u)] [] σ = some ((0, 1), σ) := by
  simp (disch := omega) only [fw_b_18_0, fw_b_18_4, fw_b_18_23, fw_b_18_12, fw_b_18_19, ↓if_pos, ↓if_neg]
theorem fs_tHas_f {σ : fw_M} {u : Int} (h1 : ¬u < fw_r σ 27 2) : fw_E 18 0 [(2, 27), (0, u)] [] σ = some ((0, 0), σ) := by
  by_cases h0 : u < 0
  · simp (disch := omega) only [fw_b_18_0, fw_b_18_4, fw_b_18_23, fw_b_18_12, fw_b_18_19, ↓if_pos, ↓if_neg]
  · simp (disch := omega) only [fw_b_18_0, fw_b_18_4, fw_b_18_23, fw_b_18_12, fw_b_18_19, ↓if_pos, ↓if_neg]
theorem fs_startOf_t {σ : fw_M} {u : Int} (hp : fw_ptr σ) (h0 : 0 ≤ u) (h1 : u < fw_r σ 27 2) (h2 : u < 300) : fw_E 20 0 [(2, 27), (0, u)] [] σ = some ((0, fw_r σ 30 u), σ) := by
  rw [fw_b_20_0, fs_tHas_t h0 h1 h2, fw_bs, fw_cn_0, fw_b_20_5, if_neg (by decide), fw_b_20_8 _ _ hp h0 h2]
theorem fs_startOf_f {σ : fw_M} {u : Int} (hp : fw_ptr σ) (h1 : ¬u < fw_r σ 27 2) : fw_E 20 0 [(2, 27), (0, u)] [] σ = some ((0, fw_r σ 28 1), σ) := by
  rw [fw_b_20_0, fs_tHas_f h1, fw_bs, fw_cn_0, fw_b_20_5, if_pos rfl, fw_b_20_17 _ _ hp]
theorem fg_T_bd {M : Int} {c m : fw_M} (h : fg_IN M c m) : 0 ≤ fw_r m 32 25 ∧ fw_r m 32 25 ≤ fw_r c 28 1 ∧ fw_r c 28 1 ≤ 300 := by
  have hF := h.2.1.2.1.2.1
  have g := h.2.2.2.1.2.2.2.2
  have hb := fg_sf_bd (f := fg_sv m 3) (lo := 0) (hi := 1) (fw_r m 32 15).toNat 0 (fun j _ _ => by unfold fg_sv; split <;> omega)
  have := h.2.2.2.2.2.2.2.1.1
  omega
theorem fs_sizeOf {M u : Int} {c m : fw_M} (h : fg_IN M c m) (h0 : 0 ≤ u) (h1 : u < fw_r m 32 25) : fw_E 21 0 [(2, 27), (0, u)] [] c = some ((0, fw_r m 46 u), c) := by
  have hb := fg_T_bd h
  have hp := h.1.1.1.1
  obtain ⟨g1, -, g3, -⟩ := h.2.2.2.2.2.2.2.1
  have g := g3 u h0 h1
  have ha := fs_tHas_t (σ := c) (u := u) h0 (by omega) (by omega)
  have hs := fs_startOf_t hp h0 (by omega : u < fw_r c 27 2) (by omega)
  have hs1 : fw_E 20 0 [(2, 27), (0, u + 1)] [] c = some ((0, fw_r c 30 u + fw_r m 46 u), c) := by
    by_cases hu : u + 1 < fw_r m 32 25
    · rw [fs_startOf_t hp (by omega) (by omega) (by omega), g.2.2.2.2.1 hu]
    · rw [fs_startOf_f hp (by omega), g.2.2.2.2.2 (by omega)]
  rw [fw_b_21_0, ha, fw_bs, fw_cn_0, fw_b_21_5, if_neg (by decide), fw_b_21_8, fw_w_id (by omega) (by omega), hs1, fw_bs, fw_cn_0, fw_b_21_15, hs, fw_bs, fw_cn_0, fw_b_21_20, fw_w_id (by omega) (by omega)]
  congr 3; omega
def fg_pt (c : fw_M) (u i : Int) : Int := fw_r c 29 (fw_r c 30 u + i)
theorem fg_pt_in {M u i : Int} {c m : fw_M} (h : fg_IN M c m) (h0 : 0 ≤ u) (h1 : u < fw_r m 32 25) (i0 : 0 ≤ i) (i1 : i < fw_r m 46 u) : (0 ≤ fg_pt c u i ∧ fg_pt c u i < 300) ∧ fw_r m 39 (fg_pt c u i) = 3 ∧ fw_r m 47 (fg_pt c u i) = u ∧ fw_r m 48 (fg_pt c u i) = i := by
  have hF := h.2.1.2.1.2.1
  obtain ⟨g1, g2, g3, g4, g5⟩ := h.2.2.2.2.2.2.2.1
  have g := g3 u h0 h1
  have g' := g2 (fw_r c 30 u + i) (by omega) (by omega)
  have g'' := g4 u i h0 h1 i0 i1
  exact ⟨⟨g'.1.1, by unfold fg_pt; omega⟩, g'.2, g''⟩
theorem fm_sealOfTruck {M x : Int} {c m : fw_M} (h : fg_IN M c m) (c1 : 0 ≤ x ∧ x < fw_r m 32 25) : fw_E 98 0 [(2, 1), (0, x)] [] c = some ((0, 10000 * (fg_se (fg_pt c x) 0 (fw_r m 46 x).toNat (0, 0)).2 + (fg_se (fg_pt c x) 0 (fw_r m 46 x).toNat (0, 0)).1), c) := by
  obtain ⟨⟨hp, hk, hpk⟩, -⟩ := fg_facts h
  have hT := fg_T_bd h
  obtain ⟨g1, g2, g3, g4, g5⟩ := h.2.2.2.2.2.2.2.1
  have g := g3 x c1.1 c1.2
  have r1 := fs_rTruck_t (r := x) hp (by omega) (by omega : 0 ≤ x ∧ x < fw_r c 27 2)
  have r2 := fs_startOf_t hp c1.1 (by omega : x < fw_r c 27 2) (by omega)
  have r3 := fs_sizeOf h c1.1 c1.2
  have hr28 : fw_rw c 28 := ⟨by decide, by decide, hp (28, 0, 29) (by decide)⟩
  have r4 := fs_sealOf (r := 28) (s := fw_r c 30 x) (e := fw_r c 30 x + fw_r m 46 x) (a3 := (8, 0)) (a4 := (8, 0)) (a5 := (8, 0)) hr28 g.1 (by omega) (by omega) (by show fw_r c 28 1 ≤ 300; omega) (by decide) (fun j j0 j1 => by
    have := g2 j j0 j1
    have hF := h.2.1.2.1.2.1
    show 0 ≤ fw_r c 29 j ∧ fw_r c 29 j ≤ 300
    omega)
  have e1 : fw_r c 30 x + fw_r m 46 x - fw_r c 30 x = fw_r m 46 x := by omega
  have e2 : fg_se (fw_r c (28 + 1)) (fw_r c 30 x) (fw_r m 46 x).toNat (0, 0) = fg_se (fg_pt c x) 0 (fw_r m 46 x).toNat (0, 0) := by
    have s := fg_se_shift (fw_r c (28 + 1)) (fw_r c 30 x) (fw_r m 46 x).toNat 0 (0, 0)
    rw [Int.zero_add] at s
    rw [← s]
    exact fg_se_ext _ _ _ (fun j _ _ => by unfold fg_pt; rw [Int.add_comm j]; rfl)
  rw [e1, e2] at r4
  generalize hv : 10000 * (fg_se (fg_pt c x) 0 (fw_r m 46 x).toNat (0, 0)).2 + (fg_se (fg_pt c x) 0 (fw_r m 46 x).toNat (0, 0)).1 = v at r4
  have w2 : fw_w (fw_r c 30 x + fw_r m 46 x) = fw_r c 30 x + fw_r m 46 x := fw_w_id (by omega) (by omega)
  simp (disch := first | assumption | omega) only [fw_b_98_0, fw_b_98_5, fw_b_98_13, fw_c9_98, fw_b_23_0, fw_b_23_9, fw_b_23_14, fw_b_23_19, fw_b_23_23, r1, r2, r3, r4, w2, ↓if_pos, ↓if_neg, fw_bs, fw_cn_0, fw_cn_5, Nat.reduceAdd]
theorem fm_parcelIn {M x y : Int} {c m : fw_M} (h : fg_IN M c m) (c1 : 0 ≤ x ∧ x < fw_r m 32 25) (c2 : 0 ≤ y ∧ y < fw_r m 46 x) : fw_E 99 0 [(2, 1), (0, x), (0, y)] [] c = some ((0, fg_pt c x y), c) := by
  obtain ⟨⟨hp, hk, hpk⟩, -⟩ := fg_facts h
  have hT := fg_T_bd h
  obtain ⟨g1, g2, g3, g4, g5⟩ := h.2.2.2.2.2.2.2.1
  have g := g3 x c1.1 c1.2
  have r1 := fs_rTruck_t (r := x) hp (by omega) (by omega : 0 ≤ x ∧ x < fw_r c 27 2)
  have r2 := fs_startOf_t hp c1.1 (by omega : x < fw_r c 27 2) (by omega)
  have r3 := fs_sizeOf h c1.1 c1.2
  have hr28 : fw_rw c 28 := ⟨by decide, by decide, hp (28, 0, 29) (by decide)⟩
  have r4 := fs_at (r := 28) (i := fw_r c 30 x + y) hr28 (by omega) (by omega) (by show fw_r c 28 1 ≤ 300; omega)
  have r4' : fw_E 44 0 [(2, 28), (0, fw_r c 30 x + y)] [] c = some ((0, fg_pt c x y), c) := r4
  have w2 : fw_w (fw_r c 30 x + y) = fw_r c 30 x + y := fw_w_id (by omega) (by omega)
  generalize fg_pt c x y = v at *
  simp (disch := first | assumption | omega) only [fw_b_99_0, fw_b_99_5, fw_b_99_9, fw_b_99_18, fw_b_99_21, fw_b_99_29, fw_b_99_38, fw_c9_99, fw_b_22_0, fw_b_22_9, fw_b_22_14, r1, r2, r3, r4', w2, ↓if_pos, ↓if_neg, fw_bs, fw_cn_0, fw_cn_5, Nat.reduceAdd]
theorem fm_truckOf {M p : Int} {c m : fw_M} (h : fg_IN M c m) (c1 : 0 ≤ p ∧ p < fw_r m 32 10) (c2 : fw_r m 39 p = 3) : fw_E 100 0 [(2, 1), (0, p)] [] c = some ((0, fw_r m 47 p), c) := by
  obtain ⟨⟨hp, hk, hpk⟩, -, hN, h82, h113, h25, hP⟩ := fg_facts h
  have g := h.2.2.1.2.2.2.1 p c1.1 c1.2
  have r1 := fs_rParcel_t (r := p) hp hpk (by omega)
  have e116 : fg_code (fw_r m 39 p) = 116 := by rw [c2]; rfl
  have r2 := fs_stateAt hp hpk c1.1 (by omega : p < fw_r c 2 5) (by rw [g.2.2.1, e116]; decide)
  rw [g.2.2.1, e116] at r2
  have r3 := fs_truckAt (p := p) hp hpk c1.1 (by omega)
  rw [g.2.2.2.2.2.1 c2] at r3
  simp (disch := first | assumption | omega) only [fw_b_100_0, fw_b_100_5, fw_b_100_13, fw_b_100_18, fw_b_100_26, fw_b_100_34, fw_c9_100, r1, r2, r3, ↓if_pos, ↓if_neg, fw_bs, fw_cn_0, fw_cn_5, Nat.reduceAdd]
/-! quotients of whole numbers -/
def ff_I (f : FP.Core.Fmt) : Nat := (f.exps - 1) * f.tails
def ff_G (f : FP.Core.Fmt) : Prop := f.qmax - f.qmin + 2 ≤ (f.exps : Int) - 1 ∧ 2 ^ f.p = 2 * f.tails ∧ 0 < f.tails ∧ 2 ≤ f.exps ∧ f.qmin ≤ 0 ∧ 1 ≤ f.qmax
theorem ff_g64 : ff_G FP.Core.b64 := by unfold ff_G; decide
theorem ff_g32 : ff_G FP.Core.b32 := by unfold ff_G; decide
theorem ff_i64 : ff_I FP.Core.b64 = 0x7ff0000000000000 := by decide
theorem ff_i32 : ff_I FP.Core.b32 = 0x7f800000 := by decide
theorem ff_i32v {s : Int} (h0 : 0 ≤ s) (h1 : s < 2147483648) : (Int32.ofInt s).toInt = s := Int32.toInt_ofInt_of_le (by omega) (by omega)
theorem ff_i64v {s : Int} (h0 : 0 ≤ s) (h1 : s < 2147483648) : (Int64.ofInt s).toInt = s := Int64.toInt_ofInt_of_le (by omega) (by omega)
theorem ff_dd (u : UInt64) : fw_dd ((u.toNat : Nat) : Int) = u := by
  unfold fw_dd; rw [Int.toNat_natCast]; exact UInt64.ofNat_toNat
theorem ff_ff (u : UInt32) : fw_ff ((u.toNat : Nat) : Int) = u := by
  unfold fw_ff; rw [Int.toNat_natCast]; exact UInt32.ofNat_toNat
theorem ff_n64 {n : Nat} (h : n ≤ ff_I FP.Core.b64) : fw_n64 (UInt64.ofNat n) = true := by
  rw [ff_i64] at h
  unfold fw_n64
  rw [decide_eq_true_eq, UInt64.le_iff_toNat_le, UInt64.toNat_and, UInt64.toNat_ofNat']
  have e : n % 2 ^ 64 = n := Nat.mod_eq_of_lt (by omega)
  rw [e]
  exact Nat.le_trans Nat.and_le_left h
theorem ff_n32 {n : Nat} (h : n ≤ ff_I FP.Core.b32) : fw_n32 (UInt32.ofNat n) = true := by
  rw [ff_i32] at h
  unfold fw_n32
  rw [decide_eq_true_eq, UInt32.le_iff_toNat_le, UInt32.toNat_and, UInt32.toNat_ofNat']
  have e : n % 2 ^ 32 = n := Nat.mod_eq_of_lt (by omega)
  rw [e]
  exact Nat.le_trans Nat.and_le_left h
theorem ff_t64 {n : Nat} (h : n ≤ ff_I FP.Core.b64) : (UInt64.ofNat n).toNat = n := by
  rw [ff_i64] at h
  rw [UInt64.toNat_ofNat']; exact Nat.mod_eq_of_lt (by omega)
theorem ff_t32 {n : Nat} (h : n ≤ ff_I FP.Core.b32) : (UInt32.ofNat n).toNat = n := by
  rw [ff_i32] at h
  rw [UInt32.toNat_ofNat']; exact Nat.mod_eq_of_lt (by omega)
theorem ff_as (f : FP.Core.Fmt) (e t : Nat) : FP.Core.assemble f false e t = e * f.tails + t := by
  unfold FP.Core.assemble
  have : (false.toNat * f.exps + e) = e := by simp
  rw [this]
theorem ff_inf (f : FP.Core.Fmt) : FP.Core.encode f (.inf false) = ff_I f := by
  show FP.Core.assemble f false (f.exps - 1) 0 = ff_I f
  rw [ff_as]; rfl
theorem ff_fin {f : FP.Core.Fmt} (g : ff_G f) {c : Nat} {q : Int} (hq : q ≤ f.qmax) (hc : c < 2 ^ f.p) : FP.Core.encode f (.fin false c q) < ff_I f ∧ (0 < c → 0 < FP.Core.encode f (.fin false c q)) := by
  obtain ⟨g1, g2, g3, g4, g5, g6⟩ := g
  unfold FP.Core.encode ff_I
  dsimp only
  by_cases h : c < f.tails
  · rw [if_pos h, ff_as]
    have : 1 * f.tails ≤ (f.exps - 1) * f.tails := Nat.mul_le_mul_right _ (by omega)
    omega
  · rw [if_neg h, ff_as]
    have h1 : (((q - f.qmin).toNat + 1) + 1) * f.tails ≤ (f.exps - 1) * f.tails := Nat.mul_le_mul_right _ (by omega)
    have h2 : (((q - f.qmin).toNat + 1) + 1) * f.tails = ((q - f.qmin).toNat + 1) * f.tails + f.tails := by rw [Nat.add_mul, Nat.one_mul]
    have h3 : ((q - f.qmin).toNat + 1) * f.tails = (q - f.qmin).toNat * f.tails + f.tails := by rw [Nat.add_mul, Nat.one_mul]
    omega
theorem ff_set {f : FP.Core.Fmt} (g : ff_G f) (c : Nat) (q : Int) : FP.Core.encode f (FP.Core.settle f false c q) ≤ ff_I f := by
  have bd : ∀ (c : Nat) (q : Int), c < 2 ^ f.p → FP.Core.encode f (FP.Core.bound f false c q) ≤ ff_I f := by
    intro c q hc
    unfold FP.Core.bound
    by_cases h : q ≤ f.qmax
    · rw [if_pos h]; exact Nat.le_of_lt (ff_fin g h hc).1
    · rw [if_neg h, ff_inf]; exact Nat.le_refl _
  unfold FP.Core.settle
  by_cases h : c < 2 ^ f.p
  · rw [if_pos h]; exact bd _ _ h
  · rw [if_neg h]; exact bd _ _ (by have := g.2.1; have := g.2.2.1; omega)
theorem ff_rr {f : FP.Core.Fmt} (g : ff_G f) (a b : Nat) (e : Int) : FP.Core.encode f (FP.Core.roundRatio f false a b e) ≤ ff_I f := by
  unfold FP.Core.roundRatio
  by_cases h : a = 0
  · rw [if_pos h]
    exact Nat.le_of_lt (ff_fin g (by have := g.2.2.2.2; omega) (by have := g.2.1; have := g.2.2.1; omega)).1
  · rw [if_neg h]; exact ff_set g _ _
theorem ff_int {f : FP.Core.Fmt} (g : ff_G f) {a : Nat} (ha : a < 2 ^ (f.p - 1)) (hp : 1 ≤ f.p) : FP.Core.fromInt f (a : Int) < ff_I f ∧ (0 < a → 0 < FP.Core.fromInt f (a : Int)) := by
  have gg := g
  obtain ⟨g1, g2, g3, g4, g5, g6⟩ := g
  unfold FP.Core.fromInt FP.Core.round FP.Core.ofInt
  dsimp only
  have e1 : decide ((a : Int) < 0) = false := decide_eq_false (by omega)
  rw [e1, Int.natAbs_natCast]
  unfold FP.Core.roundRatio
  by_cases h : a = 0
  · rw [if_pos h]
    have z := ff_fin gg (c := 0) (q := f.qmin) (by omega) (by omega)
    exact ⟨z.1, fun hh => by omega⟩
  · rw [if_neg h]
    have hl : a.log2 < f.p - 1 := (Nat.log2_lt h).2 ha
    have hq : FP.Core.quantum f a 1 0 ≤ 0 := by
      unfold FP.Core.quantum FP.Core.leading
      have : (1 : Nat).log2 = 0 := by decide
      dsimp only
      rw [this]
      split <;> omega
    generalize FP.Core.quantum f a 1 0 = q at hq
    have en : FP.Core.nearest (FP.Core.unitsNum a 0 q) (FP.Core.unitsDen 1 0 q) = a * 2 ^ (0 - q).toNat := by
      unfold FP.Core.unitsDen FP.Core.unitsNum FP.Core.nearest
      have e2 : (q - 0).toNat = 0 := by omega
      rw [e2, Nat.pow_zero, Nat.mul_one, Nat.mod_one, if_pos (by decide), Nat.div_one]
    have hN : 0 < a * 2 ^ (0 - q).toNat := Nat.mul_pos (by omega) (Nat.pow_pos (by decide))
    unfold FP.Core.roundAt
    rw [en]
    generalize a * 2 ^ (0 - q).toNat = N at hN
    unfold FP.Core.settle FP.Core.bound
    by_cases h2 : N < 2 ^ f.p
    · rw [if_pos h2, if_pos (by omega)]
      have z := ff_fin gg (c := N) (q := q) (by omega) h2
      exact ⟨z.1, fun _ => z.2 hN⟩
    · rw [if_neg h2, if_pos (by omega)]
      have z := ff_fin gg (c := f.tails) (q := q + 1) (by omega) (by omega)
      exact ⟨z.1, fun _ => z.2 g3⟩
theorem ff_dec {f : FP.Core.Fmt} (g : ff_G f) {n : Nat} (h : n < ff_I f) : ∃ c q, FP.Core.decode f n = .fin false c q ∧ (0 < n → c ≠ 0) := by
  obtain ⟨g1, g2, g3, g4, g5, g6⟩ := g
  have hd : n / f.tails < f.exps - 1 := Nat.div_lt_of_lt_mul (by unfold ff_I at h; rw [Nat.mul_comm]; exact h)
  have hE : FP.Core.fieldE f n = n / f.tails := by unfold FP.Core.fieldE; exact Nat.mod_eq_of_lt (by omega)
  have hS : FP.Core.fieldS f n = false := by
    unfold FP.Core.fieldS
    rw [Nat.div_eq_of_lt (by omega : n / f.tails < f.exps)]; rfl
  unfold FP.Core.decode
  rw [hE, hS, if_neg (by omega)]
  by_cases h0 : n / f.tails = 0
  · rw [if_pos h0]
    refine ⟨_, _, rfl, fun hn => ?_⟩
    unfold FP.Core.fieldT
    have : n < f.tails := by
      rcases Nat.lt_or_ge n f.tails with hh | hh
      · exact hh
      · have := (Nat.div_pos hh g3); omega
    rw [Nat.mod_eq_of_lt this]; omega
  · rw [if_neg h0]
    exact ⟨_, _, rfl, fun _ => by omega⟩
theorem ff_dec2 {f : FP.Core.Fmt} (g : ff_G f) {n : Nat} (h : n ≤ ff_I f) : (∃ c q, FP.Core.decode f n = .fin false c q) ∨ FP.Core.decode f n = .inf false := by
  rcases Nat.lt_or_ge n (ff_I f) with hh | hh
  · obtain ⟨c, q, e, -⟩ := ff_dec g hh
    exact Or.inl ⟨c, q, e⟩
  · right
    obtain ⟨g1, g2, g3, g4, g5, g6⟩ := g
    have e : n = (f.exps - 1) * f.tails := by unfold ff_I at h hh; omega
    have hd : n / f.tails = f.exps - 1 := by rw [e]; exact Nat.mul_div_cancel _ g3
    unfold FP.Core.decode FP.Core.fieldE FP.Core.fieldT FP.Core.fieldS
    have e3 : n % f.tails = 0 := by rw [e]; exact Nat.mul_mod_left _ _
    rw [hd, Nat.mod_eq_of_lt (by omega : f.exps - 1 < f.exps), if_pos rfl, if_pos e3, Nat.div_eq_of_lt (by omega : f.exps - 1 < f.exps)]; rfl
theorem ff_div {f : FP.Core.Fmt} (g : ff_G f) {x y : Nat} (hx : x < ff_I f) (hy : y < ff_I f) (h0 : 0 < y) : FP.Core.div f x y ≤ ff_I f := by
  obtain ⟨c, q, e1, -⟩ := ff_dec g hx
  obtain ⟨d, r, e2, e3⟩ := ff_dec g hy
  unfold FP.Core.div
  rw [e1, e2]
  unfold FP.Core.quotient
  dsimp only
  rw [if_neg (e3 h0)]
  exact ff_rr g _ _ _
theorem ff_conv {f k : FP.Core.Fmt} (g : ff_G f) (gk : ff_G k) {n : Nat} (h : n ≤ ff_I f) : FP.Core.convert f k n ≤ ff_I k := by
  unfold FP.Core.convert
  rcases ff_dec2 g h with ⟨c, q, e⟩ | e
  · rw [e]; unfold FP.Core.round; exact ff_rr gk _ _ _
  · rw [e]; unfold FP.Core.round; rw [ff_inf]; exact Nat.le_refl _
theorem ff_cmp {f : FP.Core.Fmt} (g : ff_G f) {n : Nat} (h : n ≤ ff_I f) : FP.Core.cmp f n n = some .eq := by
  unfold FP.Core.cmp
  rcases ff_dec2 g h with ⟨c, q, e⟩ | e
  · rw [e]; unfold FP.Core.order; simp [compare, compareOfLessAndEq]
  · rw [e]; unfold FP.Core.order; simp [compare, compareOfLessAndEq]
theorem ff_nn {f : FP.Core.Fmt} (g : ff_G f) {n : Nat} (h : n ≤ ff_I f) : FP.Core.isNaN f n = false := by
  unfold FP.Core.isNaN
  rcases ff_dec2 g h with ⟨c, q, e⟩ | e
  · rw [e]; rfl
  · rw [e]; rfl
/-- what the law sees of a double and of a float -/
theorem ff_eq64 {u : UInt64} (h : u.toNat ≤ ff_I FP.Core.b64) : ((Op.cmpValue (FP.dcmp u u) .l).toInt) = 0 := by
  have e : FP.dcmp u u = some .eq := ff_cmp ff_g64 h
  rw [e]; rfl
/-- the mean: class and reference -/
theorem ff_mean {s k : Int} (h0 : 0 ≤ s) (h1 : s < 2147483648) (k0 : 1 ≤ k) (k1 : k ≤ 300) :
    FP.l2d (Int64.ofInt s) = FP.i2d (Int32.ofInt s) ∧ fw_n64 (FP.ddiv (FP.i2d (Int32.ofInt s)) (FP.i2d (Int32.ofInt k))) = true ∧ (FP.ddiv (FP.i2d (Int32.ofInt s)) (FP.i2d (Int32.ofInt k))).toNat ≤ ff_I FP.Core.b64 := by
  have es : FP.i2d (Int32.ofInt s) = UInt64.ofNat (FP.Core.fromInt FP.Core.b64 (s.toNat : Int)) := by
    show UInt64.ofNat (FP.Core.fromInt FP.Core.b64 (Int32.ofInt s).toInt) = _
    rw [ff_i32v h0 h1, Int.toNat_of_nonneg h0]
  have el : FP.l2d (Int64.ofInt s) = UInt64.ofNat (FP.Core.fromInt FP.Core.b64 (s.toNat : Int)) := by
    show UInt64.ofNat (FP.Core.fromInt FP.Core.b64 (Int64.ofInt s).toInt) = _
    rw [ff_i64v h0 h1, Int.toNat_of_nonneg h0]
  have ek : FP.i2d (Int32.ofInt k) = UInt64.ofNat (FP.Core.fromInt FP.Core.b64 (k.toNat : Int)) := by
    show UInt64.ofNat (FP.Core.fromInt FP.Core.b64 (Int32.ofInt k).toInt) = _
    rw [ff_i32v (by omega) (by omega), Int.toNat_of_nonneg (by omega)]
  have p52 : (2 : Nat) ^ (FP.Core.b64.p - 1) = 4503599627370496 := by decide
  have zs := ff_int ff_g64 (a := s.toNat) (by rw [p52]; omega) (by decide)
  have zk := ff_int ff_g64 (a := k.toNat) (by rw [p52]; omega) (by decide)
  have ed : FP.ddiv (FP.i2d (Int32.ofInt s)) (FP.i2d (Int32.ofInt k)) = UInt64.ofNat (FP.Core.div FP.Core.b64 (FP.Core.fromInt FP.Core.b64 (s.toNat : Int)) (FP.Core.fromInt FP.Core.b64 (k.toNat : Int))) := by
    show UInt64.ofNat (FP.Core.div FP.Core.b64 (FP.i2d (Int32.ofInt s)).toNat (FP.i2d (Int32.ofInt k)).toNat) = _
    rw [es, ek, ff_t64 (Nat.le_of_lt zs.1), ff_t64 (Nat.le_of_lt zk.1)]
  have hd := ff_div ff_g64 zs.1 zk.1 (zk.2 (by omega))
  refine ⟨el.trans es.symm, ?_, ?_⟩
  · rw [ed]; exact ff_n64 hd
  · rw [ed, ff_t64 hd]; exact hd
/-- the share: class and reference, as a float and as a double -/
theorem ff_share {s k : Int} (h0 : 0 ≤ s) (h1 : s ≤ 300) (k0 : 1 ≤ k) (k1 : k ≤ 300) :
    fw_n32 (FP.fdiv (FP.i2f (Int32.ofInt s)) (FP.i2f (Int32.ofInt k))) = true ∧ fw_n64 (FP.f2d (FP.fdiv (FP.i2f (Int32.ofInt s)) (FP.i2f (Int32.ofInt k)))) = true ∧ (FP.f2d (FP.fdiv (FP.i2f (Int32.ofInt s)) (FP.i2f (Int32.ofInt k)))).toNat ≤ ff_I FP.Core.b64 := by
  have es : FP.i2f (Int32.ofInt s) = UInt32.ofNat (FP.Core.fromInt FP.Core.b32 (s.toNat : Int)) := by
    show UInt32.ofNat (FP.Core.fromInt FP.Core.b32 (Int32.ofInt s).toInt) = _
    rw [ff_i32v h0 (by omega), Int.toNat_of_nonneg h0]
  have ek : FP.i2f (Int32.ofInt k) = UInt32.ofNat (FP.Core.fromInt FP.Core.b32 (k.toNat : Int)) := by
    show UInt32.ofNat (FP.Core.fromInt FP.Core.b32 (Int32.ofInt k).toInt) = _
    rw [ff_i32v (by omega) (by omega), Int.toNat_of_nonneg (by omega)]
  have p23 : (2 : Nat) ^ (FP.Core.b32.p - 1) = 8388608 := by decide
  have zs := ff_int ff_g32 (a := s.toNat) (by rw [p23]; omega) (by decide)
  have zk := ff_int ff_g32 (a := k.toNat) (by rw [p23]; omega) (by decide)
  have ed : FP.fdiv (FP.i2f (Int32.ofInt s)) (FP.i2f (Int32.ofInt k)) = UInt32.ofNat (FP.Core.div FP.Core.b32 (FP.Core.fromInt FP.Core.b32 (s.toNat : Int)) (FP.Core.fromInt FP.Core.b32 (k.toNat : Int))) := by
    show UInt32.ofNat (FP.Core.div FP.Core.b32 (FP.i2f (Int32.ofInt s)).toNat (FP.i2f (Int32.ofInt k)).toNat) = _
    rw [es, ek, ff_t32 (Nat.le_of_lt zs.1), ff_t32 (Nat.le_of_lt zk.1)]
  have hd := ff_div ff_g32 zs.1 zk.1 (zk.2 (by omega))
  rw [ed]
  generalize FP.Core.div FP.Core.b32 (FP.Core.fromInt FP.Core.b32 (s.toNat : Int)) (FP.Core.fromInt FP.Core.b32 (k.toNat : Int)) = n at hd
  have hn : FP.Core.fIsNaN (UInt32.ofNat n) = false := by
    unfold FP.Core.fIsNaN
    rw [ff_t32 hd]; exact ff_nn ff_g32 hd
  have ef : FP.f2d (UInt32.ofNat n) = UInt64.ofNat (FP.Core.convert FP.Core.b32 FP.Core.b64 n) := by
    unfold FP.f2d
    rw [hn]
    show UInt64.ofNat (FP.Core.convert FP.Core.b32 FP.Core.b64 (UInt32.ofNat n).toNat) = _
    rw [ff_t32 hd]
  have hc := ff_conv ff_g32 ff_g64 hd
  refine ⟨ff_n32 hd, ?_, ?_⟩
  · rw [ef]; exact ff_n64 hc
  · rw [ef, ff_t64 hc]; exact hc
theorem fg_r19 {M : Int} {c m : fw_M} (h : fg_IN M c m) : (0 ≤ fw_r m 32 17 ∧ fw_r m 32 17 ≤ 300) ∧ (0 ≤ fw_r m 32 18 ∧ fw_r m 32 18 ≤ 400000 * fw_r m 32 17) ∧ (0 ≤ fw_r m 32 19 ∧ fw_r m 32 19 ≤ 300) := by
  have hF := h.2.1.2.1.2.1
  obtain ⟨⟨-, g2⟩, ⟨-, g4⟩, ⟨-, g6⟩, -⟩ := h.2.2.2.1
  have b1 := fg_sf_bd (f := fg_s2 m) (lo := 0) (hi := 1) (fw_r m 32 15).toNat 0 (fun j _ _ => by unfold fg_s2; split <;> omega)
  have b2 := fg_sf_bd (f := fg_sv m 4) (lo := 0) (hi := 1) (fw_r m 32 15).toNat 0 (fun j _ _ => by unfold fg_sv; split <;> omega)
  omega
theorem ff_eq32 {u : UInt32} (h : u.toNat ≤ ff_I FP.Core.b32) : ((Op.cmpValue (FP.fcmp u u) .l).toInt) = 0 := by
  have e : FP.fcmp u u = some .eq := ff_cmp ff_g32 h
  rw [e]; rfl
theorem ff_share2 {s k : Int} (h0 : 0 ≤ s) (h1 : s ≤ 300) (k0 : 1 ≤ k) (k1 : k ≤ 300) :
    fw_n32 (FP.fdiv (FP.i2f (Int32.ofInt s)) (FP.i2f (Int32.ofInt k))) = true ∧ (FP.fdiv (FP.i2f (Int32.ofInt s)) (FP.i2f (Int32.ofInt k))).toNat ≤ ff_I FP.Core.b32 := by
  have es : FP.i2f (Int32.ofInt s) = UInt32.ofNat (FP.Core.fromInt FP.Core.b32 (s.toNat : Int)) := by
    show UInt32.ofNat (FP.Core.fromInt FP.Core.b32 (Int32.ofInt s).toInt) = _
    rw [ff_i32v h0 (by omega), Int.toNat_of_nonneg h0]
  have ek : FP.i2f (Int32.ofInt k) = UInt32.ofNat (FP.Core.fromInt FP.Core.b32 (k.toNat : Int)) := by
    show UInt32.ofNat (FP.Core.fromInt FP.Core.b32 (Int32.ofInt k).toInt) = _
    rw [ff_i32v (by omega) (by omega), Int.toNat_of_nonneg (by omega)]
  have p23 : (2 : Nat) ^ (FP.Core.b32.p - 1) = 8388608 := by decide
  have zs := ff_int ff_g32 (a := s.toNat) (by rw [p23]; omega) (by decide)
  have zk := ff_int ff_g32 (a := k.toNat) (by rw [p23]; omega) (by decide)
  have ed : FP.fdiv (FP.i2f (Int32.ofInt s)) (FP.i2f (Int32.ofInt k)) = UInt32.ofNat (FP.Core.div FP.Core.b32 (FP.Core.fromInt FP.Core.b32 (s.toNat : Int)) (FP.Core.fromInt FP.Core.b32 (k.toNat : Int))) := by
    show UInt32.ofNat (FP.Core.div FP.Core.b32 (FP.i2f (Int32.ofInt s)).toNat (FP.i2f (Int32.ofInt k)).toNat) = _
    rw [es, ek, ff_t32 (Nat.le_of_lt zs.1), ff_t32 (Nat.le_of_lt zk.1)]
  have hd := ff_div ff_g32 zs.1 zk.1 (zk.2 (by omega))
  rw [ed]
  exact ⟨ff_n32 hd, by rw [ff_t32 hd]; exact hd⟩
/-- the two quotients, of the ghost -/
def fg_mq (m : fw_M) : UInt64 := FP.ddiv (FP.i2d (Int32.ofInt (fw_r m 32 18))) (FP.i2d (Int32.ofInt (fw_r m 32 17)))
def fg_oq (m : fw_M) : UInt32 := FP.fdiv (FP.i2f (Int32.ofInt (fw_r m 32 19))) (FP.i2f (Int32.ofInt (fw_r m 32 17)))
theorem fm_mean {M : Int} {c m : fw_M} (h : fg_IN M c m) (c1 : fw_r m 32 17 ≠ 0) : fw_E 102 0 [(2, 1)] [] c = some ((3, ((fg_mq m).toNat : Int)), c) ∧ fw_n64 (fg_mq m) = true ∧ ((Op.cmpValue (FP.dcmp (fg_mq m) (fg_mq m)) .l).toInt) = 0 := by
  obtain ⟨⟨hp, hk, hpk⟩, -⟩ := fg_facts h
  have hb := fg_r19 h
  obtain ⟨⟨e27, -⟩, ⟨e28, -⟩, -⟩ := h.2.2.2.1
  obtain ⟨z1, z2, z3⟩ := ff_mean (s := fw_r m 32 18) (k := fw_r m 32 17) (by omega) (by omega) (by omega) (by omega)
  have r0 : fw_E 114 0 [(2, 1)] [] c = some ((5, 0), c) := by
    have : 0 < fw_r c 2 7 := by omega
    simp (disch := first | assumption | first | omega | assumption | (simp (disch := omega) only [fw_w_id, fw_wl_id, fw_r_k, fw_r_j, fw_r_s]; omega) | (simp only [fw_ptr_32_0, fl_ptr_32_0, fw_ptr_32_1, fl_ptr_32_1, fw_ptr_32_2, fw_ptr_32_3, fw_ptr_32_4, fw_ptr_32_5, fl_ptr_32_5, fw_ptr_32_6, fw_ptr_32_7, fw_ptr_32_8, fw_ptr_32_9, fw_ptr_32_10, fl_ptr_32_10, fw_ptr_32_11, fl_ptr_32_11, fw_ptr_32_12, fw_ptr_32_13, fw_ptr_32_14, fw_ptr_32_15, fw_ptr_32_16, fw_ptr_32_17, fl_ptr_32_17, fw_ptr_32_18, fl_ptr_32_18, fw_ptr_32_19, fl_ptr_32_19, fw_ptr_32_20, fl_ptr_32_20, fw_ptr_32_21, fl_ptr_32_21, fw_ptr_32_22, fl_ptr_32_22, fw_ptr_32_23, fw_ptr_32_24, fw_ptr_32_25, fw_ptr_32_26, fw_ptr_32_27, fw_ptr_32_28, fw_ptr_32_29, fw_ptr_32_30, fw_ptr_32_31, fw_ptr_32_32, fw_ptr_32_33, fw_ptr_32_34, fw_ptr_32_35, fw_ptr_1_8, fw_ptr_2_5, fw_ptr_2_6, fw_ptr_2_7, fw_ptr_2_8, fw_ptr_2_9, fw_ptr_8_2, fw_ptr_8_3, fw_ptr_11_2, fw_ptr_11_3, fw_ptr_11_4, fw_ptr_11_5, fw_ptr_11_6, fw_ptr_17_8, fw_ptr_18_2, fw_ptr_18_3, fw_ptr_25_1, fw_ptr_27_2, fw_ptr_28_1, fl_ptr_33, fl_ptr_34, fl_ptr_35, fl_ptr_36, fl_ptr_38, fl_ptr_39, fl_ptr_40, fl_ptr_41, fl_ptr_42, fl_ptr_43, fl_ptr_44, fl_ptr_45, fl_ptr_46, fl_ptr_47, fl_ptr_48, fl_ptr_49, fl_ptr_50, fw_ptr_3, fw_ptr_4, fw_ptr_5, fw_ptr_6, fw_ptr_7, fw_ptr_9, fw_ptr_10, fw_ptr_13, fw_ptr_15, fw_ptr_16, fw_ptr_19, fw_ptr_20, fw_ptr_21, fw_ptr_22, fw_ptr_23, fw_ptr_24, fw_ptr_26, fw_ptr_29, fw_ptr_30, fw_ptr_31, fw_ptr_33, fw_ptr_34, fw_ptr_35, fw_ptr_36, fw_ptr_37, fw_ptr_38, fw_ptr_39, fw_ptr_40, fw_ptr_41, fw_ptr_42, fw_ptr_43, fw_ptr_44, fw_ptr_45, fw_ptr_46, fw_ptr_47, fw_ptr_48, fw_ptr_49, fw_ptr_50, fw_ptr_51, fw_ptr_52, fw_ptr_53, fw_ptr_54, fw_ptr_55, fw_ptr_12, fw_ptr_x, fw_ptr_hi, fw_ptr_b3, fw_ptr_b1, fw_ptr_b2, fw_ptr_b2_, fl_ptr_x, fl_ptr_hi, fl_ptr_lo, fl_ptr_in]; assumption)) only [fw_b_114_0, fw_b_114_10, fw_b_114_18, fw_c9_114, ↓if_pos, ↓if_neg, if_neg, if_pos, fw_bs, fw_cn_0, fw_cn_1, fw_cn_2, fw_cn_3, fw_cn_4, fw_cn_5, Nat.reduceAdd, fw_w_id, fw_wl_id, fw_r_k, fw_r_j, fw_r_s, fw_r_x, if_true, if_false]
  have r1 : fw_E 102 4 [(2, 1)] [] c = some ((3, ((fg_mq m).toNat : Int)), c) := by
    have e := fw_b_102_4 c hp
    rw [e27, e28, z1, ff_dd, ff_dd] at e
    exact e z2
  refine ⟨?_, z2, ff_eq64 z3⟩
  rw [fw_b_102_0, r0, fw_bs, fw_cn_5]
  exact r1
theorem fm_share {M : Int} {c m : fw_M} (h : fg_IN M c m) (c1 : fw_r m 32 17 ≠ 0) : fw_E 103 0 [(2, 1)] [] c = some ((4, ((fg_oq m).toNat : Int)), c) ∧ fw_n32 (fg_oq m) = true ∧ ((Op.cmpValue (FP.fcmp (fg_oq m) (fg_oq m)) .l).toInt) = 0 := by
  obtain ⟨⟨hp, hk, hpk⟩, -⟩ := fg_facts h
  have hb := fg_r19 h
  obtain ⟨⟨e27, -⟩, -, ⟨e251, -⟩, -⟩ := h.2.2.2.1
  obtain ⟨z1, z2⟩ := ff_share2 (s := fw_r m 32 19) (k := fw_r m 32 17) (by omega) (by omega) (by omega) (by omega)
  have r0 : fw_E 114 0 [(2, 1)] [] c = some ((5, 0), c) := by
    have : 0 < fw_r c 2 7 := by omega
    simp (disch := first | assumption | first | omega | assumption | (simp (disch := omega) only [fw_w_id, fw_wl_id, fw_r_k, fw_r_j, fw_r_s]; omega) | (simp only [fw_ptr_32_0, fl_ptr_32_0, fw_ptr_32_1, fl_ptr_32_1, fw_ptr_32_2, fw_ptr_32_3, fw_ptr_32_4, fw_ptr_32_5, fl_ptr_32_5, fw_ptr_32_6, fw_ptr_32_7, fw_ptr_32_8, fw_ptr_32_9, fw_ptr_32_10, fl_ptr_32_10, fw_ptr_32_11, fl_ptr_32_11, fw_ptr_32_12, fw_ptr_32_13, fw_ptr_32_14, fw_ptr_32_15, fw_ptr_32_16, fw_ptr_32_17, fl_ptr_32_17, fw_ptr_32_18, fl_ptr_32_18, fw_ptr_32_19, fl_ptr_32_19, fw_ptr_32_20, fl_ptr_32_20, fw_ptr_32_21, fl_ptr_32_21, fw_ptr_32_22, fl_ptr_32_22, fw_ptr_32_23, fw_ptr_32_24, fw_ptr_32_25, fw_ptr_32_26, fw_ptr_32_27, fw_ptr_32_28, fw_ptr_32_29, fw_ptr_32_30, fw_ptr_32_31, fw_ptr_32_32, fw_ptr_32_33, fw_ptr_32_34, fw_ptr_32_35, fw_ptr_1_8, fw_ptr_2_5, fw_ptr_2_6, fw_ptr_2_7, fw_ptr_2_8, fw_ptr_2_9, fw_ptr_8_2, fw_ptr_8_3, fw_ptr_11_2, fw_ptr_11_3, fw_ptr_11_4, fw_ptr_11_5, fw_ptr_11_6, fw_ptr_17_8, fw_ptr_18_2, fw_ptr_18_3, fw_ptr_25_1, fw_ptr_27_2, fw_ptr_28_1, fl_ptr_33, fl_ptr_34, fl_ptr_35, fl_ptr_36, fl_ptr_38, fl_ptr_39, fl_ptr_40, fl_ptr_41, fl_ptr_42, fl_ptr_43, fl_ptr_44, fl_ptr_45, fl_ptr_46, fl_ptr_47, fl_ptr_48, fl_ptr_49, fl_ptr_50, fw_ptr_3, fw_ptr_4, fw_ptr_5, fw_ptr_6, fw_ptr_7, fw_ptr_9, fw_ptr_10, fw_ptr_13, fw_ptr_15, fw_ptr_16, fw_ptr_19, fw_ptr_20, fw_ptr_21, fw_ptr_22, fw_ptr_23, fw_ptr_24, fw_ptr_26, fw_ptr_29, fw_ptr_30, fw_ptr_31, fw_ptr_33, fw_ptr_34, fw_ptr_35, fw_ptr_36, fw_ptr_37, fw_ptr_38, fw_ptr_39, fw_ptr_40, fw_ptr_41, fw_ptr_42, fw_ptr_43, fw_ptr_44, fw_ptr_45, fw_ptr_46, fw_ptr_47, fw_ptr_48, fw_ptr_49, fw_ptr_50, fw_ptr_51, fw_ptr_52, fw_ptr_53, fw_ptr_54, fw_ptr_55, fw_ptr_12, fw_ptr_x, fw_ptr_hi, fw_ptr_b3, fw_ptr_b1, fw_ptr_b2, fw_ptr_b2_, fl_ptr_x, fl_ptr_hi, fl_ptr_lo, fl_ptr_in]; assumption)) only [fw_b_114_0, fw_b_114_10, fw_b_114_18, fw_c9_114, ↓if_pos, ↓if_neg, if_neg, if_pos, fw_bs, fw_cn_0, fw_cn_1, fw_cn_2, fw_cn_3, fw_cn_4, fw_cn_5, Nat.reduceAdd, fw_w_id, fw_wl_id, fw_r_k, fw_r_j, fw_r_s, fw_r_x, if_true, if_false]
  have r1 : fw_E 103 4 [(2, 1)] [] c = some ((4, ((fg_oq m).toNat : Int)), c) := by
    have e := fw_b_103_4 c hp
    rw [e27, e251, ff_ff, ff_ff] at e
    exact e z1
  refine ⟨?_, z1, ff_eq32 z2⟩
  rw [fw_b_103_0, r0, fw_bs, fw_cn_5]
  exact r1
theorem fg_MN_of {M : Int} {c m : fw_M} (h : fg_IN M c m) : fg_MN M c m :=
  ⟨h.1.1, h.2.1.1, fg_ML_of h, h.2.2.1.1, fun i a b => (h.2.2.2.2.1.1 i a b).1.1⟩
def fg_fl (σ : fw_M) (a lo hi v : Int) : fw_M := fun x j => if x = a ∧ lo ≤ j ∧ j < hi then v else fw_r σ x j
theorem fg_fl_r (σ : fw_M) (a lo hi v x j : Int) : fw_r (fg_fl σ a lo hi v) x j = if x = a ∧ lo ≤ j ∧ j < hi then v else fw_r σ x j := rfl
theorem fg_fl_0 (σ : fw_M) (a lo v : Int) : fg_fl σ a lo lo v = σ := by
  funext x j
  show fw_r (fg_fl σ a lo lo v) x j = fw_r σ x j
  rw [fg_fl_r, if_neg (by omega)]
theorem fg_fl_u (σ : fw_M) {a lo hi v : Int} (h : lo < hi) : fg_fl (fw_u σ a lo v) a (lo + 1) hi v = fg_fl σ a lo hi v := by
  funext x j
  show fw_r (fg_fl (fw_u σ a lo v) a (lo + 1) hi v) x j = fw_r (fg_fl σ a lo hi v) x j
  rw [fg_fl_r, fg_fl_r, fw_r_u]
  repeat' split
  all_goals first | rfl | omega
def fg_w (c : fw_M) (n : Int → Int) : fw_M := fun a j => if a = 31 ∧ 0 ≤ j ∧ j < 300 then n j else fw_r c a j
theorem fg_w_r (c : fw_M) (n : Int → Int) (a j : Int) : fw_r (fg_w c n) a j = if a = 31 ∧ 0 ≤ j ∧ j < 300 then n j else fw_r c a j := rfl
theorem fg_w_o (c : fw_M) (n : Int → Int) {a : Int} (j : Int) (h : a ≠ 31) : fw_r (fg_w c n) a j = fw_r c a j := by rw [fg_w_r, if_neg (fun x => h x.1)]
theorem fg_w_y (c : fw_M) (n : Int → Int) {j : Int} (h0 : 0 ≤ j) (h1 : j < 300) : fw_r (fg_w c n) 31 j = n j := by rw [fg_w_r, if_pos ⟨rfl, h0, h1⟩]
theorem fg_w_ptr {c : fw_M} (n : Int → Int) (hp : fw_ptr c) : fw_ptr (fg_w c n) := fun q hq => by
  have hd : ∀ q ∈ fw_psT, q.1 ≠ 31 := by decide
  rw [fg_w_o _ _ _ (hd q hq)]; exact hp q hq
theorem fg_w_e (c : fw_M) {n n' : Int → Int} (h : ∀ j, 0 ≤ j → j < 300 → n j = n' j) : fg_w c n = fg_w c n' := by
  funext a j
  show fw_r (fg_w c n) a j = fw_r (fg_w c n') a j
  rw [fg_w_r, fg_w_r]
  by_cases c1 : a = 31 ∧ 0 ≤ j ∧ j < 300
  · rw [if_pos c1, if_pos c1, h j c1.2.1 c1.2.2]
  · rw [if_neg c1, if_neg c1]
def fg_nb (n : Int → Int) (K : Int) : Prop := ∀ j, 0 ≤ j → j < 300 → 0 ≤ n j ∧ n j ≤ K
theorem fs_see {c : fw_M} {n : Int → Int} {p K : Int} (hp : fw_ptr c) (hn : fg_nb n K) (hK : K ≤ 100000) : fw_E 120 0 [(2, 1), (0, p)] [] (fg_w c n) = some ((5, 0), fg_w c (fun j => n j + if p = j then 1 else 0)) := by
  have hp' := fg_w_ptr n hp
  rw [fw_b_120_0]
  by_cases c1 : p < 0
  · rw [if_pos c1, fw_b_120_23]
    congr 2
    exact fg_w_e c (fun j a b => by rw [if_neg (by omega), Int.add_zero])
  · rw [if_neg c1, fw_b_120_4 _ _ hp']
    by_cases c2 : p < 300
    · have z := hn p (by omega) c2
      rw [if_pos c2, fw_b_120_13 _ _ hp' (by omega) c2, fg_w_y c n (by omega) c2, fw_w_id (by omega) (by omega), fw_b_120_23]
      congr 2
      funext a j
      show fw_r (fw_u (fg_w c n) 31 p (n p + 1)) a j = fw_r (fg_w c (fun j => n j + if p = j then 1 else 0)) a j
      rw [fw_r_u, fg_w_r, fg_w_r]
      by_cases c3 : a = 31 ∧ j = p
      · obtain ⟨rfl, rfl⟩ := c3
        rw [if_pos ⟨rfl, rfl⟩, if_pos ⟨rfl, by omega, c2⟩, if_pos rfl]
      · rw [if_neg c3]
        by_cases c4 : a = 31 ∧ 0 ≤ j ∧ j < 300
        · rw [if_pos c4, if_pos c4, if_neg (by omega), Int.add_zero]
        · rw [if_neg c4, if_neg c4]
    · rw [if_neg c2, fw_b_120_23]
      congr 2
      exact fg_w_e c (fun j a b => by rw [if_neg (by omega), Int.add_zero])
theorem fg_nb_1 {n : Int → Int} {K : Int} (hn : fg_nb n K) (p : Int) : fg_nb (fun j => n j + if p = j then 1 else 0) (K + 1) := fun j a b => by
  have := hn j a b
  (try dsimp only)
  split <;> omega
theorem fs_seeAll_lp {c : fw_M} {R : Int} (hp : fw_ptr c) (hr : fw_rw c R) (hR : R ≠ 31) (hR1 : R + 1 ≠ 31) (h2 : fw_r c R 1 ≤ fw_ln (R + 1)) (h3 : fw_ln (R + 1) ≤ 300) : ∀ (k : Nat) (i K : Int) (n : Int → Int), fg_nb n K → K + k ≤ 100000 → 0 ≤ i → i + k = fw_r c R 1 → fw_E 119 2 [(2, 1), (2, R), (0, i)] [] (fg_w c n) = some ((5, 0), fg_w c (fun j => n j + fg_sf (fun x => if fw_r c (R + 1) x = j then 1 else 0) i k)) := by
  intro k
  induction k with
  | zero =>
    intro i K n hn hK h0 h1
    have hr' : fw_rw (fg_w c n) R := ⟨hr.1, hr.2.1, by rw [fg_w_o _ _ _ hR]; exact hr.2.2⟩
    rw [fw_b_119_2 _ _ _ hr', fg_w_o _ _ _ hR, if_neg (by omega), fw_b_119_25]
    congr 2
    exact fg_w_e c (fun j a b => by rw [fg_sf, Int.add_zero])
  | succ k ih =>
    intro i K n hn hK h0 h1
    have hr' : fw_rw (fg_w c n) R := ⟨hr.1, hr.2.1, by rw [fg_w_o _ _ _ hR]; exact hr.2.2⟩
    have ea := fs_at (i := i) hr' h0 (by rw [fg_w_o _ _ _ hR]; omega) (by rw [fg_w_o _ _ _ hR]; exact h2)
    rw [fg_w_o _ _ _ hR1] at ea
    rw [fw_b_119_2 _ _ _ hr', fg_w_o _ _ _ hR, if_pos (by omega), fw_b_119_10 _ _ _ hr', ea, fw_bs, fw_cn_0, fw_b_119_16, fs_see hp hn (by omega), fw_bs, fw_cn_5, fw_b_119_19, fw_w_id (by omega) (by omega), ih (i + 1) (K + 1) _ (fg_nb_1 hn _) (by omega) (by omega) (by omega)]
    congr 2
    exact fg_w_e c (fun j a b => by (try dsimp only); rw [fg_sf]; omega)
theorem fs_seeAll {c : fw_M} {R K : Int} {n : Int → Int} {a2 : fw_V} (hp : fw_ptr c) (hr : fw_rw c R) (hR : R ≠ 31) (hR1 : R + 1 ≠ 31) (h0 : 0 ≤ fw_r c R 1) (h2 : fw_r c R 1 ≤ fw_ln (R + 1)) (h3 : fw_ln (R + 1) ≤ 300) (hn : fg_nb n K) (hK : K ≤ 90000) : fw_E 119 0 [(2, 1), (2, R), a2] [] (fg_w c n) = some ((5, 0), fg_w c (fun j => n j + fg_cnt (fw_r c (R + 1)) (fw_r c R 1) j)) ∧ fg_nb (fun j => n j + fg_cnt (fw_r c (R + 1)) (fw_r c R 1) j) (K + fw_r c R 1) := by
  refine ⟨?_, fun j a b => ?_⟩
  · rw [fw_b_119_0]
    exact fs_seeAll_lp hp hr hR hR1 h2 h3 (fw_r c R 1).toNat 0 K n hn (by omega) (by omega) (by omega)
  · have := hn j a b
    have bd := fg_sf_bd (f := fun x => if fw_r c (R + 1) x = j then 1 else 0) (lo := 0) (hi := 1) (fw_r c R 1).toNat 0 (fun x _ _ => by (try dsimp only); split <;> omega)
    (try dsimp only)
    unfold fg_cnt
    omega
theorem fs_o1 {a2 : fw_V} : ∀ (k : Nat) (i : Int) (c : fw_M), fw_ptr c → 0 ≤ i → i + k = 300 → fw_E 118 2 [(2, 1), (0, i), a2] [] c = fw_E 118 24 [(2, 1), (0, 300), a2] [] (fg_fl c 31 i 300 0) := by
  intro k
  induction k with
  | zero =>
    intro i c hp h0 h1
    have e : i = 300 := by omega
    subst e
    rw [fw_b_118_2 _ _ _ hp, if_neg (by decide), fg_fl_0]
  | succ k ih =>
    intro i c hp h0 h1
    rw [fw_b_118_2 _ _ _ hp, if_pos (by omega), fw_b_118_11 _ _ _ hp h0 (by omega), fw_b_118_18, fw_w_id (by omega) (by omega), ih _ _ (by rw [fw_ptr_31]; exact hp) (by omega) (by omega), fg_fl_u _ (by omega)]
theorem fs_o2 {c : fw_M} {a2 : fw_V} (hp : fw_ptr c) (hP : fw_r c 2 5 ≤ 300) : ∀ (k : Nat) (i K : Int) (n : Int → Int), fg_nb n K → K + k ≤ 100000 → 0 ≤ i → i + k = fw_r c 2 5 → fw_E 118 32 [(2, 1), (0, i), a2] [] (fg_w c n) = fw_E 118 54 [(2, 1), (0, fw_r c 2 5), a2] [] (fg_w c (fun j => n j + if i ≤ j ∧ j < fw_r c 2 5 then 1 else 0)) := by
  intro k
  induction k with
  | zero =>
    intro i K n hn hK h0 h1
    have e : fw_r c 2 5 = i := by omega
    rw [fw_b_118_32 _ _ _ (fg_w_ptr n hp), fg_w_o _ _ _ (by decide), if_neg (by omega), e]
    congr 1
    exact fg_w_e c (fun j a b => by rw [if_neg (by omega), Int.add_zero])
  | succ k ih =>
    intro i K n hn hK h0 h1
    rw [fw_b_118_32 _ _ _ (fg_w_ptr n hp), fg_w_o _ _ _ (by decide), if_pos (by omega), fw_b_118_43, fs_see hp hn (by omega), fw_bs, fw_cn_5, fw_b_118_48, fw_w_id (by omega) (by omega), ih (i + 1) (K + 1) _ (fg_nb_1 hn _) (by omega) (by omega) (by omega)]
    congr 1
    exact fg_w_e c (fun j a b => by
      (try dsimp only)
      by_cases hj : i = j
      · rw [if_pos hj, if_neg (by omega), if_pos (by omega)]; omega
      · rw [if_neg hj]
        by_cases hj2 : i + 1 ≤ j ∧ j < fw_r c 2 5
        · rw [if_pos hj2, if_pos (by omega)]; omega
        · rw [if_neg hj2, if_neg (by omega)]; omega)
theorem fs_o3 {c : fw_M} {a2 : fw_V} (hp : fw_ptr c) (hb : fg_bok c 8) : ∀ (k : Nat) (i K : Int) (n : Int → Int), fg_nb n K → K + k ≤ 100000 → 0 ≤ i → i + k = fw_r c 8 2 → fw_E 118 56 [(2, 1), (0, i), a2] [] (fg_w c n) = fw_E 118 85 [(2, 1), (0, fw_r c 8 2), a2] [] (fg_w c (fun j => n j + fg_sf (fun x => if fg_tr c 8 x = j then 1 else 0) i k)) := by
  intro k
  induction k with
  | zero =>
    intro i K n hn hK h0 h1
    have e : fw_r c 8 2 = i := by omega
    rw [fw_b_118_56 _ _ _ (fg_w_ptr n hp), fg_w_o _ _ _ (by decide), if_neg (by omega), e]
    congr 1
    exact fg_w_e c (fun j a b => by rw [fg_sf, Int.add_zero])
  | succ k ih =>
    intro i K n hn hK h0 h1
    have hN := hb.2.1
    have hb' : fg_bok (fg_w c n) 8 := by unfold fg_bok; rw [fg_w_o _ _ _ (by decide), fg_w_o _ _ _ (by decide)]; exact hb
    have ep := fs_parcelAt (p := i) (a2 := (8, 0)) (Or.inl rfl) (fg_w_ptr n hp) hb' h0 (by rw [fg_w_o _ _ _ (by decide)]; omega)
    have et : fg_tr (fg_w c n) 8 i = fg_tr c 8 i := by
      unfold fg_tr fg_slot
      rw [fg_w_o c n 2 (by decide), fg_w_o c n 3 (by decide), fg_w_o _ _ _ (by decide)]
    rw [et] at ep
    rw [fw_b_118_56 _ _ _ (fg_w_ptr n hp), fg_w_o _ _ _ (by decide), if_pos (by omega), fw_b_118_67 _ _ _ (fg_w_ptr n hp), ep, fw_bs, fw_cn_0, fw_b_118_76, fs_see hp hn (by omega), fw_bs, fw_cn_5, fw_b_118_79, fw_w_id (by omega) (by omega), ih (i + 1) (K + 1) _ (fg_nb_1 hn _) (by omega) (by omega) (by omega)]
    congr 1
    exact fg_w_e c (fun j a b => by (try dsimp only); rw [fg_sf]; omega)
theorem fg_w_cok {c : fw_M} (n : Int → Int) (h : fg_cok c) : fg_cok (fg_w c n) :=
  fg_cok_c h (fg_w_o _ _ _ (by decide)) (fun j => fg_w_o _ _ _ (by decide)) (fun i hi => fg_w_o _ _ _ (by omega)) (fun i hi => fg_w_o _ _ _ (by omega))
theorem fs_o4 {c : fw_M} (hp : fw_ptr c) (hk : fg_cok c) (hr : ∀ i, 0 ≤ i → i < fw_r c 11 2 → 0 ≤ fw_r c (51 + 3 * i + 1) 1 ∧ fw_r c (51 + 3 * i + 1) 1 ≤ 30) : ∀ (k : Nat) (i K : Int) (n : Int → Int) (a2 : fw_V), fg_nb n K → K + 30 * k ≤ 50000 → 0 ≤ i → i + k = fw_r c 11 2 → ∃ b2, fw_E 118 87 [(2, 1), (0, i), a2] [] (fg_w c n) = fw_E 118 125 [(2, 1), (0, fw_r c 11 2), b2] [] (fg_w c (fun j => n j + fg_sf (fun x => fg_cnt (fw_r c (51 + 3 * x + 1 + 1)) (fw_r c (51 + 3 * x + 1) 1) j) i k)) ∧ fg_nb (fun j => n j + fg_sf (fun x => fg_cnt (fw_r c (51 + 3 * x + 1 + 1)) (fw_r c (51 + 3 * x + 1) 1) j) i k) (K + 30 * k) := by
  intro k
  induction k with
  | zero =>
    intro i K n a2 hn hK h0 h1
    have e : fw_r c 11 2 = i := by omega
    refine ⟨a2, ?_, fun j a b => by have := hn j a b; (try dsimp only); rw [fg_sf]; omega⟩
    rw [fw_b_118_87 _ _ _ (fg_w_ptr n hp), fg_w_o _ _ _ (by decide), if_neg (by omega), e]
    congr 1
    exact fg_w_e c (fun j a b => by rw [fg_sf, Int.add_zero])
  | succ k ih =>
    intro i K n a2 hn hK h0 h1
    have hn6 := hk.2.1
    obtain ⟨-, hcw, hrw⟩ := hk.2.2 i h0 (by omega)
    have hri := hr i h0 (by omega)
    have hln := fw_ln_ch h0
    have ec := fs_chute (i := i) (fg_w_ptr n hp) (fg_w_cok n hk) h0 (by rw [fg_w_o _ _ _ (by decide)]; omega)
    have hcw' : fw_chw (fg_w c n) (51 + 3 * i) := ⟨hcw.1, by rw [fg_w_o _ _ _ (by omega)]; exact hcw.2⟩
    obtain ⟨es, hn2⟩ := fs_seeAll (R := 51 + 3 * i + 1) (n := n) (K := K) (a2 := (8, 0)) hp hrw (by omega) (by omega) hri.1 (by rw [hln]; exact hri.2) (by rw [hln]; decide) hn (by omega)
    have hn3 : fg_nb (fun j => n j + fg_cnt (fw_r c (51 + 3 * i + 1 + 1)) (fw_r c (51 + 3 * i + 1) 1) j) (K + 30) := fun j a b => by have := hn2 j a b; (try dsimp only at this ⊢); omega
    obtain ⟨b2, r1, r2⟩ := ih (i + 1) (K + 30) _ (2, 51 + 3 * i) hn3 (by omega) (by omega) (by omega)
    have ee : ∀ j, (fun j => n j + fg_cnt (fw_r c (51 + 3 * i + 1 + 1)) (fw_r c (51 + 3 * i + 1) 1) j) j + fg_sf (fun x => fg_cnt (fw_r c (51 + 3 * x + 1 + 1)) (fw_r c (51 + 3 * x + 1) 1) j) (i + 1) k = n j + fg_sf (fun x => fg_cnt (fw_r c (51 + 3 * x + 1 + 1)) (fw_r c (51 + 3 * x + 1) 1) j) i (k + 1) := fun j => by (try dsimp only); rw [fg_sf]; omega
    refine ⟨b2, ?_, fun j a b => ?_⟩
    · rw [fw_b_118_87 _ _ _ (fg_w_ptr n hp), fg_w_o _ _ _ (by decide), if_pos (by omega), fw_b_118_98 _ _ _ (fg_w_ptr n hp), ec, fw_bs, fw_cn_2, fw_b_118_106, if_neg (by omega), fw_b_118_111 _ _ _ hcw', es, fw_bs, fw_cn_5, fw_b_118_119, fw_w_id (by omega) (by omega), r1]
      congr 1
      exact fg_w_e c (fun j _ _ => ee j)
    · have z := r2 j a b
      have e := ee j
      dsimp only at z e ⊢
      omega
theorem fs_o6 {c : fw_M} {a2 : fw_V} {n : Int → Int} (hp : fw_ptr c) (hk : fg_pok c) (hn : ∀ j, 0 ≤ j → j < 300 → n j = if j < fw_r c 2 5 then 1 else 0) : ∀ (k : Nat) (i : Int), 0 ≤ i → i + k = 300 → fw_E 118 146 [(2, 1), (0, i), a2] [] (fg_w c n) = some ((0, 1), fg_w c n) := by
  have hk' : fg_pok (fg_w c n) := by unfold fg_pok; rw [fg_w_o _ _ _ (by decide), fg_w_o _ _ _ (by decide)]; exact hk
  intro k
  induction k with
  | zero =>
    intro i h0 h1
    rw [fw_b_118_146 _ _ _ (fg_w_ptr n hp), if_neg (by omega), fw_b_118_188]
  | succ k ih =>
    intro i h0 h1
    have r := ih (i + 1) (by omega) (by omega)
    have ni := hn i h0 (by omega)
    rw [fw_b_118_146 _ _ _ (fg_w_ptr n hp), if_pos (by omega), fw_b_118_155 _ _ _ (fg_w_ptr n hp) h0 (by omega), fg_w_y c n h0 (by omega)]
    by_cases c1 : i < fw_r c 2 5
    · rw [if_pos c1] at ni
      rw [fs_pHas_t hk' h0 (by rw [fg_w_o _ _ _ (by decide)]; exact c1), fw_bs, fw_cn_0, fw_b_118_169, if_neg (by decide), fw_b_118_172, if_pos ni, fw_b_118_182, fw_w_id (by omega) (by omega), r]
    · rw [if_neg c1] at ni
      rw [fs_pHas_f (by rw [fg_w_o _ _ _ (by decide)]; omega), fw_bs, fw_cn_0, fw_b_118_169, if_pos rfl, fw_b_118_176, if_pos ni, fw_b_118_182, fw_w_id (by omega) (by omega), r]
theorem fs_once {M : Int} {c m : fw_M} {a1 a2 : fw_V} (h : fg_IN M c m) : ∃ n, fw_E 118 0 [(2, 1), a1, a2] [] c = some ((0, 1), fg_w c n) := by
  obtain ⟨⟨hp, hk, h3⟩, ⟨hN, -, -, -, -, h25⟩, ⟨-, -, -, hP⟩, -⟩ := h.1.1
  have hpk := fg_pok_of h
  have hRB := h.2.1.1
  have hTR := h.2.1.2.1
  have gE := h.2.2.2.2.1
  have gH := h.2.2.2.2.2.2.2.1
  have gD := h.2.2.2.1
  have gI := h.2.2.2.2.2.2.2.2
  have hT := fg_T_bd h
  have h19 := (fg_r19 h).2.2
  have cap := h.1.1.2.2.2.1
  have hr : ∀ i, 0 ≤ i → i < fw_r c 11 2 → 0 ≤ fw_r c (51 + 3 * i + 1) 1 ∧ fw_r c (51 + 3 * i + 1) 1 ≤ 30 := fun i a b => by
    have := (gE.1 i a (by omega)).1
    have := cap i a (by omega)
    omega
  have e1 := fs_o1 (a2 := a2) 300 0 c hp (by decide) (by decide)
  have ew : fg_fl c 31 0 300 0 = fg_w c (fun _ => 0) := by
    funext a j
    show fw_r (fg_fl c 31 0 300 0) a j = fw_r (fg_w c (fun _ => 0)) a j
    rw [fg_fl_r, fg_w_r]
  rw [ew] at e1
  have n0 : fg_nb (fun _ => 0) 0 := fun j _ _ => ⟨Int.le_refl _, Int.le_refl _⟩
  have e2 : fw_E 118 32 [(2, 1), (0, fw_r c 2 6), a2] [] (fg_w c (fun _ => 0)) = fw_E 118 54 [(2, 1), (0, fw_r c 2 5), a2] [] (fg_w c (fun (j : Int) => (0 : Int) + if fw_r c 2 6 ≤ j ∧ j < fw_r c 2 5 then 1 else 0)) := fs_o2 (a2 := a2) hp (by omega) (fw_r c 2 5 - fw_r c 2 6).toNat (fw_r c 2 6) 0 _ n0 (by have := hpk.1; omega) hpk.1 (by have := hpk.2.1; omega)
  have n1 : fg_nb (fun (j : Int) => (0 : Int) + if fw_r c 2 6 ≤ j ∧ j < fw_r c 2 5 then 1 else 0) 1 := fun j _ _ => by (try dsimp only); split <;> omega
  generalize hf1 : (fun (j : Int) => (0 : Int) + if fw_r c 2 6 ≤ j ∧ j < fw_r c 2 5 then 1 else 0) = f1 at e2 n1
  have e3 := fs_o3 (a2 := a2) hp hRB.1 (fw_r c 8 2).toNat 0 1 _ n1 (by have := hRB.1.2.1; omega) (by decide) (by have := hRB.1.1; omega)
  have n2 : fg_nb (fun j => f1 j + fg_sf (fun x => if fg_tr c 8 x = j then 1 else 0) 0 (fw_r c 8 2).toNat) 21 := fun j a b => by
    have := n1 j a b
    have bd := fg_sf_bd (f := fun x => if fg_tr c 8 x = j then 1 else 0) (lo := 0) (hi := 1) (fw_r c 8 2).toNat 0 (fun x _ _ => by (try dsimp only); split <;> omega)
    have := hRB.1.2.1
    (try dsimp only)
    omega
  generalize hf2 : (fun j => f1 j + fg_sf (fun x => if fg_tr c 8 x = j then 1 else 0) 0 (fw_r c 8 2).toNat) = f2 at *
  obtain ⟨b2, e4, n3⟩ := fs_o4 hp hk hr (fw_r c 11 2).toNat 0 21 f2 a2 n2 (by have := hk.2.1; omega) (by decide) (by have := hk.1; omega)
  generalize hf3 : (fun j => f2 j + fg_sf (fun x => fg_cnt (fw_r c (51 + 3 * x + 1 + 1)) (fw_r c (51 + 3 * x + 1) 1) j) 0 (fw_r c 11 2).toNat) = f3 at *
  have hr28 : fw_rw c 28 := ⟨by decide, by decide, hp (28, 0, 29) (by decide)⟩
  have hr25 : fw_rw c 25 := ⟨by decide, by decide, hp (25, 0, 26) (by decide)⟩
  obtain ⟨e5, n4⟩ := fs_seeAll (R := 28) (n := f3) (K := 21 + 30 * ((fw_r c 11 2).toNat : Int)) (a2 := (8, 0)) hp hr28 (by decide) (by decide) (by omega) (by show fw_r c 28 1 ≤ 300; omega) (by decide) n3 (by have := hk.2.1; omega)
  generalize hf4 : (fun j => f3 j + fg_cnt (fw_r c (28 + 1)) (fw_r c 28 1) j) = f4 at *
  have h251 := gD.2.2.1.1
  obtain ⟨e6, n5⟩ := fs_seeAll (R := 25) (n := f4) (K := 21 + 30 * ((fw_r c 11 2).toNat : Int) + fw_r c 28 1) (a2 := (8, 0)) hp hr25 (by decide) (by decide) (by omega) (by show fw_r c 25 1 ≤ 300; omega) (by decide) n4 (by have := hk.2.1; omega)
  generalize hf5 : (fun j => f4 j + fg_cnt (fw_r c (25 + 1)) (fw_r c 25 1) j) = f5 at *
  have hfin : ∀ j, 0 ≤ j → j < 300 → f5 j = if j < fw_r c 2 5 then 1 else 0 := fun j a b => by
    have g := gI j a
    rw [← hf5, ← hf4, ← hf3, ← hf2, ← hf1]
    (try dsimp only)
    have t1 : fg_sf (fun x => if fg_tr c 8 x = j then 1 else 0) 0 (fw_r c 8 2).toNat = fg_cnt (fw_r m 33) (fw_r m 32 1) j := by
      unfold fg_cnt
      rw [hRB.2.1]
      exact fg_sf_ext _ _ (fun x x0 x1 => by rw [(hRB.2.2.1 x x0 (by omega)).1])
    have t2 : fg_sf (fun x => fg_cnt (fw_r c (51 + 3 * x + 1 + 1)) (fw_r c (51 + 3 * x + 1) 1) j) 0 (fw_r c 11 2).toNat = fg_chs m j := by
      unfold fg_chs
      rw [h3]
      exact fg_sf_ext _ _ (fun x x0 x1 => by
        have w := gE.1 x x0 (by omega)
        (try dsimp only)
        rw [w.1.1]
        exact fg_cnt_ext (fun k k0 k1 => (w.2.2 k k0 k1).1))
    rw [t1, t2, h25, h.2.2.1.1, h251]
    have t3 : fg_cnt (fw_r c (28 + 1)) (fw_r c 28 1) j = fg_cnt (fw_r c 29) (fw_r c 28 1) j := rfl
    have t4 : fg_cnt (fw_r c (25 + 1)) (fw_r m 32 19) j = fg_cnt (fw_r c 26) (fw_r m 32 19) j := rfl
    rw [t3, t4]
    omega
  have e7 := fs_o6 (a2 := b2) hp hpk hfin 300 0 (by decide) (by decide)
  refine ⟨f5, ?_⟩
  rw [fw_b_118_0, e1, fw_b_118_24 _ _ _ (fg_w_ptr _ hp), fg_w_o _ _ _ (by decide), e2, fw_b_118_54, e3, fw_b_118_85, e4, fw_b_118_125 _ _ _ (fg_w_ptr _ hp), e5, fw_bs, fw_cn_5, fw_b_118_136 _ _ _ (fg_w_ptr _ hp), e6, fw_bs, fw_cn_5, fw_b_118_144, e7]
theorem fm_isOnce {M : Int} {c m : fw_M} (h0 : 0 ≤ M) (hM : M ≤ 400000) (h : fg_IN M c m) : ∃ c', fw_E 104 0 [(2, 1)] [] c = some ((0, 1), c') ∧ (∀ a j, (a < 17 ∨ 24 < a) → a ≠ 31 → fw_r c' a j = fw_r c a j) := by
  obtain ⟨⟨hp, hk, hpk⟩, ⟨h3, h30, h36⟩, -⟩ := fg_facts h
  obtain ⟨n, q1⟩ := fs_once (a1 := (8, 0)) (a2 := (8, 0)) h
  have hp1 := fg_w_ptr n hp
  have hk1 := fg_w_cok n hk
  have hI1 : fg_IN M (fg_w c n) m := fg_IN_eq h (fun a j ha => fg_w_o _ _ _ (by omega)) (fg_AG_refl m) hp1 h.1.2
  have q2 := fs_sealsAgree (a1 := (8, 0)) (a2 := (8, 0)) hp1 hk1 (fun i a b => fg_chok_of hI1 a (by rw [fg_w_o _ _ _ (by decide)] at b; omega))
  obtain ⟨c3, q3, f3, p3⟩ := fs_byOrigin (x := 60) (a2 := (8, 0)) (a3 := (8, 0)) (fg_MN_of hI1) h0 (by omega) (by decide)
  have hI3 : fg_IN M c3 m := fg_IN_eq hI1 (fun a j ha => f3 _ _ (by omega)) (fg_AG_refl m) p3 h.1.2
  obtain ⟨c4, q4, f4, p4⟩ := fs_byTrays (x := 60) (a2 := (8, 0)) (a3 := (8, 0)) (a4 := (8, 0)) (fg_MN_of hI3) h0 (by omega) (by decide)
  refine ⟨c4, ?_, fun a j x y => by rw [f4 _ _ x, f3 _ _ x, fg_w_o _ _ _ y]⟩
  rw [fw_b_104_0, q1, fw_bs, fw_cn_0, fw_b_104_4, if_neg (by decide), fw_b_104_7 _ hp1, q2, fw_bs, fw_cn_0, fw_b_104_14, if_neg (by decide), fw_b_104_17 _ hp1, q3, fw_bs, fw_cn_0, fw_b_104_26 _ _ p3, q4, fw_bs, fw_cn_0, fw_b_104_35, if_pos rfl, fw_b_104_38]
theorem fm_ahead {M x : Int} {c m : fw_M} (h0 : 0 ≤ M) (hM : M ≤ 400000) (h : fg_IN M c m) (c1 : 1 ≤ x ∧ x ≤ 200) : ∃ c', fw_E 86 0 [(2, 1), (0, x)] [] c = some ((0, fg_Cn x.toNat m), c') ∧ fg_FR c c' ∧ fw_ptr c' := by
  have hp := h.1.1.1.1
  obtain ⟨c', q1, q2, q3⟩ := fs_byOrigin (a2 := (8, 0)) (a3 := (8, 0)) (fg_MN_of h) h0 (by omega) c1
  have r1 := fs_rTicks_t (σ := c) c1
  refine ⟨c', ?_, q2, q3⟩
  simp (disch := first | assumption | first | omega | assumption | (simp (disch := omega) only [fw_w_id, fw_wl_id, fw_r_k, fw_r_j, fw_r_s]; omega) | (simp only [fw_ptr_32_0, fl_ptr_32_0, fw_ptr_32_1, fl_ptr_32_1, fw_ptr_32_2, fw_ptr_32_3, fw_ptr_32_4, fw_ptr_32_5, fl_ptr_32_5, fw_ptr_32_6, fw_ptr_32_7, fw_ptr_32_8, fw_ptr_32_9, fw_ptr_32_10, fl_ptr_32_10, fw_ptr_32_11, fl_ptr_32_11, fw_ptr_32_12, fw_ptr_32_13, fw_ptr_32_14, fw_ptr_32_15, fw_ptr_32_16, fw_ptr_32_17, fl_ptr_32_17, fw_ptr_32_18, fl_ptr_32_18, fw_ptr_32_19, fl_ptr_32_19, fw_ptr_32_20, fl_ptr_32_20, fw_ptr_32_21, fl_ptr_32_21, fw_ptr_32_22, fl_ptr_32_22, fw_ptr_32_23, fw_ptr_32_24, fw_ptr_32_25, fw_ptr_32_26, fw_ptr_32_27, fw_ptr_32_28, fw_ptr_32_29, fw_ptr_32_30, fw_ptr_32_31, fw_ptr_32_32, fw_ptr_32_33, fw_ptr_32_34, fw_ptr_32_35, fw_ptr_1_8, fw_ptr_2_5, fw_ptr_2_6, fw_ptr_2_7, fw_ptr_2_8, fw_ptr_2_9, fw_ptr_8_2, fw_ptr_8_3, fw_ptr_11_2, fw_ptr_11_3, fw_ptr_11_4, fw_ptr_11_5, fw_ptr_11_6, fw_ptr_17_8, fw_ptr_18_2, fw_ptr_18_3, fw_ptr_25_1, fw_ptr_27_2, fw_ptr_28_1, fl_ptr_33, fl_ptr_34, fl_ptr_35, fl_ptr_36, fl_ptr_38, fl_ptr_39, fl_ptr_40, fl_ptr_41, fl_ptr_42, fl_ptr_43, fl_ptr_44, fl_ptr_45, fl_ptr_46, fl_ptr_47, fl_ptr_48, fl_ptr_49, fl_ptr_50, fw_ptr_3, fw_ptr_4, fw_ptr_5, fw_ptr_6, fw_ptr_7, fw_ptr_9, fw_ptr_10, fw_ptr_13, fw_ptr_15, fw_ptr_16, fw_ptr_19, fw_ptr_20, fw_ptr_21, fw_ptr_22, fw_ptr_23, fw_ptr_24, fw_ptr_26, fw_ptr_29, fw_ptr_30, fw_ptr_31, fw_ptr_33, fw_ptr_34, fw_ptr_35, fw_ptr_36, fw_ptr_37, fw_ptr_38, fw_ptr_39, fw_ptr_40, fw_ptr_41, fw_ptr_42, fw_ptr_43, fw_ptr_44, fw_ptr_45, fw_ptr_46, fw_ptr_47, fw_ptr_48, fw_ptr_49, fw_ptr_50, fw_ptr_51, fw_ptr_52, fw_ptr_53, fw_ptr_54, fw_ptr_55, fw_ptr_12, fw_ptr_x, fw_ptr_hi, fw_ptr_b3, fw_ptr_b1, fw_ptr_b2, fw_ptr_b2_, fl_ptr_x, fl_ptr_hi, fl_ptr_lo, fl_ptr_in]; assumption)) only [fw_b_86_0, fw_b_86_4, fw_b_86_12, fw_c9_86, r1, q1, ↓if_pos, ↓if_neg, if_neg, if_pos, fw_bs, fw_cn_0, fw_cn_1, fw_cn_2, fw_cn_3, fw_cn_4, fw_cn_5, Nat.reduceAdd, fw_w_id, fw_wl_id, fw_r_k, fw_r_j, fw_r_s, fw_r_x, if_true, if_false]
theorem fm_byTrays {M x : Int} {c m : fw_M} (h0 : 0 ≤ M) (hM : M ≤ 400000) (h : fg_IN M c m) (c1 : 1 ≤ x ∧ x ≤ 200) : ∃ c', fw_E 87 0 [(2, 1), (0, x)] [] c = some ((0, fg_Cn x.toNat m), c') ∧ fg_FR c c' ∧ fw_ptr c' := by
  have hp := h.1.1.1.1
  obtain ⟨c', q1, q2, q3⟩ := fs_byTrays (a2 := (8, 0)) (a3 := (8, 0)) (a4 := (8, 0)) (fg_MN_of h) h0 (by omega) c1
  have r1 := fs_rTicks_t (σ := c) c1
  refine ⟨c', ?_, q2, q3⟩
  simp (disch := first | assumption | first | omega | assumption | (simp (disch := omega) only [fw_w_id, fw_wl_id, fw_r_k, fw_r_j, fw_r_s]; omega) | (simp only [fw_ptr_32_0, fl_ptr_32_0, fw_ptr_32_1, fl_ptr_32_1, fw_ptr_32_2, fw_ptr_32_3, fw_ptr_32_4, fw_ptr_32_5, fl_ptr_32_5, fw_ptr_32_6, fw_ptr_32_7, fw_ptr_32_8, fw_ptr_32_9, fw_ptr_32_10, fl_ptr_32_10, fw_ptr_32_11, fl_ptr_32_11, fw_ptr_32_12, fw_ptr_32_13, fw_ptr_32_14, fw_ptr_32_15, fw_ptr_32_16, fw_ptr_32_17, fl_ptr_32_17, fw_ptr_32_18, fl_ptr_32_18, fw_ptr_32_19, fl_ptr_32_19, fw_ptr_32_20, fl_ptr_32_20, fw_ptr_32_21, fl_ptr_32_21, fw_ptr_32_22, fl_ptr_32_22, fw_ptr_32_23, fw_ptr_32_24, fw_ptr_32_25, fw_ptr_32_26, fw_ptr_32_27, fw_ptr_32_28, fw_ptr_32_29, fw_ptr_32_30, fw_ptr_32_31, fw_ptr_32_32, fw_ptr_32_33, fw_ptr_32_34, fw_ptr_32_35, fw_ptr_1_8, fw_ptr_2_5, fw_ptr_2_6, fw_ptr_2_7, fw_ptr_2_8, fw_ptr_2_9, fw_ptr_8_2, fw_ptr_8_3, fw_ptr_11_2, fw_ptr_11_3, fw_ptr_11_4, fw_ptr_11_5, fw_ptr_11_6, fw_ptr_17_8, fw_ptr_18_2, fw_ptr_18_3, fw_ptr_25_1, fw_ptr_27_2, fw_ptr_28_1, fl_ptr_33, fl_ptr_34, fl_ptr_35, fl_ptr_36, fl_ptr_38, fl_ptr_39, fl_ptr_40, fl_ptr_41, fl_ptr_42, fl_ptr_43, fl_ptr_44, fl_ptr_45, fl_ptr_46, fl_ptr_47, fl_ptr_48, fl_ptr_49, fl_ptr_50, fw_ptr_3, fw_ptr_4, fw_ptr_5, fw_ptr_6, fw_ptr_7, fw_ptr_9, fw_ptr_10, fw_ptr_13, fw_ptr_15, fw_ptr_16, fw_ptr_19, fw_ptr_20, fw_ptr_21, fw_ptr_22, fw_ptr_23, fw_ptr_24, fw_ptr_26, fw_ptr_29, fw_ptr_30, fw_ptr_31, fw_ptr_33, fw_ptr_34, fw_ptr_35, fw_ptr_36, fw_ptr_37, fw_ptr_38, fw_ptr_39, fw_ptr_40, fw_ptr_41, fw_ptr_42, fw_ptr_43, fw_ptr_44, fw_ptr_45, fw_ptr_46, fw_ptr_47, fw_ptr_48, fw_ptr_49, fw_ptr_50, fw_ptr_51, fw_ptr_52, fw_ptr_53, fw_ptr_54, fw_ptr_55, fw_ptr_12, fw_ptr_x, fw_ptr_hi, fw_ptr_b3, fw_ptr_b1, fw_ptr_b2, fw_ptr_b2_, fl_ptr_x, fl_ptr_hi, fl_ptr_lo, fl_ptr_in]; assumption)) only [fw_b_87_0, fw_b_87_4, fw_b_87_12, fw_c9_87, r1, q1, ↓if_pos, ↓if_neg, if_neg, if_pos, fw_bs, fw_cn_0, fw_cn_1, fw_cn_2, fw_cn_3, fw_cn_4, fw_cn_5, Nat.reduceAdd, fw_w_id, fw_wl_id, fw_r_k, fw_r_j, fw_r_s, fw_r_x, if_true, if_false]
theorem fm_pass {M x : Int} {c m : fw_M} {a2 a3 : fw_V} (hM : M + x ≤ 400000) (h : fg_IN M c m) (c1 : 1 ≤ x ∧ x ≤ 200) : ∃ c', fw_E 77 0 [(2, 1), (0, x), a2, a3] [] c = some ((0, fw_r (fg_Pn x.toNat m) 32 17 - fw_r m 32 17), c') ∧ fg_IN (M + x) c' (fg_Pn x.toNat m) ∧ fg_CFr c c' := by
  have r1 := fs_rTicks_t (σ := c) c1
  have hx : ((x.toNat : Nat) : Int) = x := by omega
  obtain ⟨c', q1, q2, q3⟩ := fs_pass_lp (x := x) x.toNat 0 0 M c m (by omega) h (by omega) (by omega) (by omega) (by omega) (by omega)
  rw [hx] at q2
  refine ⟨c', ?_, q2, q3⟩
  rw [fw_b_77_0, r1, fw_bs, fw_cn_5, fw_b_77_4, q1, Int.zero_add]
