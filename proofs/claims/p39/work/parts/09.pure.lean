theorem fw_n64_ok {r : UInt64} (h : fw_n64 r = true) : vf_n64 r := by
  unfold fw_n64 at h
  unfold vf_n64
  exact of_decide_eq_true h
theorem fw_n32_ok {r : UInt32} (h : fw_n32 r = true) : vf_n32 r := by
  unfold fw_n32 at h
  unfold vf_n32
  exact of_decide_eq_true h
theorem fw_toInt_w (a c : Int32) : fw_w (a.toInt + c.toInt) = (a + c).toInt := by rw [Int32.toInt_add]; rfl
theorem fw_toInt_s (a c : Int32) : fw_w (a.toInt - c.toInt) = (a - c).toInt := by rw [Int32.toInt_sub]; rfl
theorem fw_toInt_m (a c : Int32) : fw_w (a.toInt * c.toInt) = (a * c).toInt := by rw [Int32.toInt_mul]; rfl
theorem fw_toInt_l (a c : Int64) : fw_wl (a.toInt + c.toInt) = (a + c).toInt := by rw [Int64.toInt_add]; rfl
theorem fw_dd_of (z : UInt64) : fw_dd (z.toNat : Int) = z := by simp [fw_dd]
theorem fw_ff_of (z : UInt32) : fw_ff (z.toNat : Int) = z := by simp [fw_ff]
theorem fw_tgt_ok {pc : Nat} {off : Int} (h : 0 ≤ (pc : Int) + off) : (pc : Int) + off = ((fw_tgt pc off : Nat) : Int) := by unfold fw_tgt; omega
theorem fw_rem (a d : Int32) (ha : 0 ≤ a.toInt) (hd : 0 < d.toInt) : a.toInt % d.toInt = (a - a / d * d).toInt := by
  obtain ⟨i, hi, rfl⟩ := nI_of (x := a) (by rw [Int32.lt_iff_toInt_lt]; have : (0 : Int32).toInt = 0 := rfl; omega)
  obtain ⟨j, hj, rfl⟩ := nI_of (x := d) (by rw [Int32.lt_iff_toInt_lt]; have : (0 : Int32).toInt = 0 := rfl; omega)
  rw [nI_toInt hj] at hd ⊢
  rw [nI_toInt hi, pk_rem hi (by omega) hj, nI_toInt (Nat.lt_of_le_of_lt (Nat.mod_le _ _) hi)]
  omega
theorem fw_lrem (a d : Int64) (ha : 0 ≤ a.toInt) (hd : 0 < d.toInt) : a.toInt % d.toInt = (a - a / d * d).toInt := by
  have hq : (a / d).toInt = a.toInt / d.toInt := by
    have h1 : a.toInt.tdiv d.toInt = a.toInt / d.toInt := Int.tdiv_eq_ediv_of_nonneg ha
    have h2 : 0 ≤ a.toInt / d.toInt := Int.ediv_nonneg ha (Int.le_of_lt hd)
    have h3 : a.toInt / d.toInt ≤ a.toInt := Int.ediv_le_self _ ha
    have h4 := Int64.toInt_lt a
    rw [Int64.toInt_div, h1, Int.bmod_def]
    split <;> omega
  have hm : a.toInt / d.toInt * d.toInt + a.toInt % d.toInt = a.toInt := Int.ediv_mul_add_emod _ _
  have h5 : 0 ≤ a.toInt % d.toInt := Int.emod_nonneg _ (by omega)
  have h6 : a.toInt % d.toInt < d.toInt := Int.emod_lt_of_pos _ hd
  have h7 := Int64.toInt_lt a
  have h8 := Int64.toInt_lt d
  have h9 : 0 ≤ a.toInt / d.toInt * d.toInt := Int.mul_nonneg (Int.ediv_nonneg ha (Int.le_of_lt hd)) (Int.le_of_lt hd)
  have e1 : (a / d * d).toInt = a.toInt / d.toInt * d.toInt := by
    rw [Int64.toInt_mul, hq]
    generalize a.toInt / d.toInt * d.toInt = z at *
    rw [Int.bmod_def]
    split <;> omega
  rw [Int64.toInt_sub, e1]
  generalize a.toInt / d.toInt * d.toInt = z at *
  rw [Int.bmod_def]
  split <;> omega
theorem fw_j_iadd {k pc : Nat} {ll r : List fw_V} {y x : Int} {σ : fw_M} {out : fw_O} (hd : fw_dec k pc = some (.iadd, 1)) (hJ : fw_J k (pc + 1) ll ((0, fw_w (x + y)) :: r) σ out) : fw_J k pc ll ((0, y) :: (0, x) :: r) σ out := by
  refine fw_jp hJ ?_
  intro base b L xs D p l e R s m args below meth c Q hC tys ws H locs cells slots ls cst hH hS hL hT h1 h2 kk
  obtain ⟨v0, r0, rfl, ⟨z0, rfl, e0⟩, t0⟩ := fw_St_cons hT
  clear hT; have hT := t0; clear t0
  obtain ⟨v1, r1, rfl, ⟨z1, rfl, e1⟩, t1⟩ := fw_St_cons hT
  clear hT; have hT := t1; clear t1
  refine lv_iadd hC.1 hC.2.1 (fw_de' hd) ?_
  have e0 : y = z0.toInt := e0
  have e1 : x = z1.toInt := e1
  exact kk ls _ hL ⟨⟨_, rfl, by rw [e0, e1]; exact fw_toInt_w z1 z0⟩, hT⟩
theorem fw_j_isub {k pc : Nat} {ll r : List fw_V} {y x : Int} {σ : fw_M} {out : fw_O} (hd : fw_dec k pc = some (.isub, 1)) (hJ : fw_J k (pc + 1) ll ((0, fw_w (x - y)) :: r) σ out) : fw_J k pc ll ((0, y) :: (0, x) :: r) σ out := by
  refine fw_jp hJ ?_
  intro base b L xs D p l e R s m args below meth c Q hC tys ws H locs cells slots ls cst hH hS hL hT h1 h2 kk
  obtain ⟨v0, r0, rfl, ⟨z0, rfl, e0⟩, t0⟩ := fw_St_cons hT
  clear hT; have hT := t0; clear t0
  obtain ⟨v1, r1, rfl, ⟨z1, rfl, e1⟩, t1⟩ := fw_St_cons hT
  clear hT; have hT := t1; clear t1
  refine lv_isub hC.1 hC.2.1 (fw_de' hd) ?_
  have e0 : y = z0.toInt := e0
  have e1 : x = z1.toInt := e1
  exact kk ls _ hL ⟨⟨_, rfl, by rw [e0, e1]; exact fw_toInt_s z1 z0⟩, hT⟩
theorem fw_j_imul {k pc : Nat} {ll r : List fw_V} {y x : Int} {σ : fw_M} {out : fw_O} (hd : fw_dec k pc = some (.imul, 1)) (hJ : fw_J k (pc + 1) ll ((0, fw_w (x * y)) :: r) σ out) : fw_J k pc ll ((0, y) :: (0, x) :: r) σ out := by
  refine fw_jp hJ ?_
  intro base b L xs D p l e R s m args below meth c Q hC tys ws H locs cells slots ls cst hH hS hL hT h1 h2 kk
  obtain ⟨v0, r0, rfl, ⟨z0, rfl, e0⟩, t0⟩ := fw_St_cons hT
  clear hT; have hT := t0; clear t0
  obtain ⟨v1, r1, rfl, ⟨z1, rfl, e1⟩, t1⟩ := fw_St_cons hT
  clear hT; have hT := t1; clear t1
  refine lv_imul hC.1 hC.2.1 (fw_de' hd) ?_
  have e0 : y = z0.toInt := e0
  have e1 : x = z1.toInt := e1
  exact kk ls _ hL ⟨⟨_, rfl, by rw [e0, e1]; exact fw_toInt_m z1 z0⟩, hT⟩
theorem fw_j_ladd {k pc : Nat} {ll r : List fw_V} {y x : Int} {σ : fw_M} {out : fw_O} (hd : fw_dec k pc = some (.ladd, 1)) (hJ : fw_J k (pc + 1) ll ((1, fw_wl (x + y)) :: r) σ out) : fw_J k pc ll ((1, y) :: (1, x) :: r) σ out := by
  refine fw_jp hJ ?_
  intro base b L xs D p l e R s m args below meth c Q hC tys ws H locs cells slots ls cst hH hS hL hT h1 h2 kk
  obtain ⟨v0, r0, rfl, ⟨z0, rfl, e0⟩, t0⟩ := fw_St_cons hT
  clear hT; have hT := t0; clear t0
  obtain ⟨v1, r1, rfl, ⟨z1, rfl, e1⟩, t1⟩ := fw_St_cons hT
  clear hT; have hT := t1; clear t1
  refine lv_ladd hC.1 hC.2.1 (fw_de' hd) ?_
  have e0 : y = z0.toInt := e0
  have e1 : x = z1.toInt := e1
  exact kk ls _ hL ⟨⟨_, rfl, by rw [e0, e1]; exact fw_toInt_l z1 z0⟩, hT⟩
theorem fw_j_irem {k pc : Nat} {ll r : List fw_V} {y x : Int} {σ : fw_M} {out : fw_O} (hd : fw_dec k pc = some (.irem, 1)) (hx0 : 0 ≤ x) (hy0 : 0 < y) (hJ : fw_J k (pc + 1) ll ((0, x % y) :: r) σ out) : fw_J k pc ll ((0, y) :: (0, x) :: r) σ out := by
  refine fw_jp hJ ?_
  intro base b L xs D p l e R s m args below meth c Q hC tys ws H locs cells slots ls cst hH hS hL hT h1 h2 kk
  obtain ⟨v0, r0, rfl, ⟨z0, rfl, e0⟩, t0⟩ := fw_St_cons hT
  clear hT; have hT := t0; clear t0
  obtain ⟨v1, r1, rfl, ⟨z1, rfl, e1⟩, t1⟩ := fw_St_cons hT
  clear hT; have hT := t1; clear t1
  have e0 : y = z0.toInt := e0
  have e1 : x = z1.toInt := e1
  refine lv_irem hC.1 hC.2.1 (fw_de' hd) (fun q => ?_) ?_
  · rw [q] at e0; exact absurd e0 (by have : (0 : Int32).toInt = 0 := rfl; omega)
  exact kk ls _ hL ⟨⟨_, rfl, by rw [e0, e1]; exact fw_rem z1 z0 (by omega) (by omega)⟩, hT⟩
theorem fw_j_iand {k pc : Nat} {ll r : List fw_V} {y x : Int} {σ : fw_M} {out : fw_O} (hd : fw_dec k pc = some (.iand, 1)) (hJ : fw_J k (pc + 1) ll ((0, fw_an x y) :: r) σ out) : fw_J k pc ll ((0, y) :: (0, x) :: r) σ out := by
  refine fw_jp hJ ?_
  intro base b L xs D p l e R s m args below meth c Q hC tys ws H locs cells slots ls cst hH hS hL hT h1 h2 kk
  obtain ⟨v0, r0, rfl, ⟨z0, rfl, e0⟩, t0⟩ := fw_St_cons hT
  clear hT; have hT := t0; clear t0
  obtain ⟨v1, r1, rfl, ⟨z1, rfl, e1⟩, t1⟩ := fw_St_cons hT
  clear hT; have hT := t1; clear t1
  refine lv_iand hC.1 hC.2.1 (fw_de' hd) ?_
  have e0 : y = z0.toInt := e0
  have e1 : x = z1.toInt := e1
  exact kk ls _ hL ⟨⟨_, rfl, by rw [e0, e1]; unfold fw_an; rw [Int32.ofInt_toInt, Int32.ofInt_toInt]⟩, hT⟩
theorem fw_j_ishr {k pc : Nat} {ll r : List fw_V} {y x : Int} {σ : fw_M} {out : fw_O} (hd : fw_dec k pc = some (.ishr, 1)) (hJ : fw_J k (pc + 1) ll ((0, fw_sh x y) :: r) σ out) : fw_J k pc ll ((0, y) :: (0, x) :: r) σ out := by
  refine fw_jp hJ ?_
  intro base b L xs D p l e R s m args below meth c Q hC tys ws H locs cells slots ls cst hH hS hL hT h1 h2 kk
  obtain ⟨v0, r0, rfl, ⟨z0, rfl, e0⟩, t0⟩ := fw_St_cons hT
  clear hT; have hT := t0; clear t0
  obtain ⟨v1, r1, rfl, ⟨z1, rfl, e1⟩, t1⟩ := fw_St_cons hT
  clear hT; have hT := t1; clear t1
  refine lv_ishr hC.1 hC.2.1 (fw_de' hd) ?_
  have e0 : y = z0.toInt := e0
  have e1 : x = z1.toInt := e1
  exact kk ls _ hL ⟨⟨_, rfl, by rw [e0, e1]; unfold fw_sh; rw [Int32.ofInt_toInt, Int32.ofInt_toInt]⟩, hT⟩
theorem fw_j_lmul {k pc : Nat} {ll r : List fw_V} {y x : Int} {σ : fw_M} {out : fw_O} (hd : fw_dec k pc = some (.lmul, 1)) (hJ : fw_J k (pc + 1) ll ((1, fw_wl (x * y)) :: r) σ out) : fw_J k pc ll ((1, y) :: (1, x) :: r) σ out := by
  refine fw_jp hJ ?_
  intro base b L xs D p l e R s m args below meth c Q hC tys ws H locs cells slots ls cst hH hS hL hT h1 h2 kk
  obtain ⟨v0, r0, rfl, ⟨z0, rfl, e0⟩, t0⟩ := fw_St_cons hT
  clear hT; have hT := t0; clear t0
  obtain ⟨v1, r1, rfl, ⟨z1, rfl, e1⟩, t1⟩ := fw_St_cons hT
  clear hT; have hT := t1; clear t1
  refine lv_lmul hC.1 hC.2.1 (fw_de' hd) ?_
  have e0 : y = z0.toInt := e0
  have e1 : x = z1.toInt := e1
  exact kk ls _ hL ⟨⟨_, rfl, by rw [e0, e1, Int64.toInt_mul]; rfl⟩, hT⟩
theorem fw_j_lrem {k pc : Nat} {ll r : List fw_V} {y x : Int} {σ : fw_M} {out : fw_O} (hd : fw_dec k pc = some (.lrem, 1)) (hx0 : 0 ≤ x) (hy0 : 0 < y) (hJ : fw_J k (pc + 1) ll ((1, x % y) :: r) σ out) : fw_J k pc ll ((1, y) :: (1, x) :: r) σ out := by
  refine fw_jp hJ ?_
  intro base b L xs D p l e R s m args below meth c Q hC tys ws H locs cells slots ls cst hH hS hL hT h1 h2 kk
  obtain ⟨v0, r0, rfl, ⟨z0, rfl, e0⟩, t0⟩ := fw_St_cons hT
  clear hT; have hT := t0; clear t0
  obtain ⟨v1, r1, rfl, ⟨z1, rfl, e1⟩, t1⟩ := fw_St_cons hT
  clear hT; have hT := t1; clear t1
  have e0 : y = z0.toInt := e0
  have e1 : x = z1.toInt := e1
  refine lv_lrem hC.1 hC.2.1 (fw_de' hd) (fun q => ?_) ?_
  · rw [q] at e0; exact absurd e0 (by have : (0 : Int64).toInt = 0 := rfl; omega)
  exact kk ls _ hL ⟨⟨_, rfl, by rw [e0, e1]; exact fw_lrem z1 z0 (by omega) (by omega)⟩, hT⟩
theorem fw_j_l2i {k pc : Nat} {ll r : List fw_V} {x : Int} {σ : fw_M} {out : fw_O} (hd : fw_dec k pc = some (.l2i, 1)) (hJ : fw_J k (pc + 1) ll ((0, fw_w x) :: r) σ out) : fw_J k pc ll ((1, x) :: r) σ out := by
  refine fw_jp hJ ?_
  intro base b L xs D p l e R s m args below meth c Q hC tys ws H locs cells slots ls cst hH hS hL hT h1 h2 kk
  obtain ⟨v0, r0, rfl, ⟨z0, rfl, e0⟩, t0⟩ := fw_St_cons hT
  clear hT; have hT := t0; clear t0
  refine lv_l2i hC.1 hC.2.1 (fw_de' hd) rfl ?_
  have e0 : x = z0.toInt := e0
  exact kk ls _ hL ⟨⟨_, rfl, by rw [e0, Int64.toInt_toInt32]; rfl⟩, hT⟩
theorem fw_j_lcmp {k pc : Nat} {ll r : List fw_V} {y x : Int} {σ : fw_M} {out : fw_O} (hd : fw_dec k pc = some (.lcmp, 1)) (hJ : fw_J k (pc + 1) ll ((0, if y < x then 1 else if x = y then 0 else -1) :: r) σ out) : fw_J k pc ll ((1, y) :: (1, x) :: r) σ out := by
  refine fw_jp hJ ?_
  intro base b L xs D p l e R s m args below meth c Q hC tys ws H locs cells slots ls cst hH hS hL hT h1 h2 kk
  obtain ⟨v0, r0, rfl, ⟨z0, rfl, e0⟩, t0⟩ := fw_St_cons hT
  clear hT; have hT := t0; clear t0
  obtain ⟨v1, r1, rfl, ⟨z1, rfl, e1⟩, t1⟩ := fw_St_cons hT
  clear hT; have hT := t1; clear t1
  refine W.lcmp hC.1 hC.2.1 (fw_de' hd) ?_
  have e0 : y = z0.toInt := e0
  have e1 : x = z1.toInt := e1
  refine kk ls _ hL ⟨⟨_, rfl, ?_⟩, hT⟩
  show (if y < x then (1 : Int) else if x = y then 0 else -1) = _
  unfold lg_cmp
  simp only [gt_iff_lt, Int64.lt_iff_toInt_lt, ← Int64.toInt_inj, ← e0, ← e1]
  by_cases q1 : y < x
  · rw [if_pos q1, if_pos q1]; rfl
  · rw [if_neg q1, if_neg q1]
    by_cases q2 : x = y
    · rw [if_pos q2, if_pos q2]; rfl
    · rw [if_neg q2, if_neg q2]; rfl
theorem fw_j_i2l {k pc : Nat} {ll r : List fw_V} {x : Int} {σ : fw_M} {out : fw_O} (hd : fw_dec k pc = some (.i2l, 1)) (hJ : fw_J k (pc + 1) ll ((1, x) :: r) σ out) : fw_J k pc ll ((0, x) :: r) σ out := by
  refine fw_jp hJ ?_
  intro base b L xs D p l e R s m args below meth c Q hC tys ws H locs cells slots ls cst hH hS hL hT h1 h2 kk
  obtain ⟨v0, r0, rfl, ⟨z0, rfl, e0⟩, t0⟩ := fw_St_cons hT
  clear hT; have hT := t0; clear t0
  refine lv_i2l hC.1 hC.2.1 (fw_de' hd) rfl ?_
  have e0 : x = z0.toInt := e0
  exact kk ls _ hL ⟨⟨_, rfl, by rw [Int32.toInt_toInt64]; exact e0⟩, hT⟩
theorem fw_j_i2d {k pc : Nat} {ll r : List fw_V} {x : Int} {σ : fw_M} {out : fw_O} (hd : fw_dec k pc = some (.i2d, 1)) (hJ : fw_J k (pc + 1) ll ((3, ((FP.i2d (Int32.ofInt x)).toNat : Int)) :: r) σ out) : fw_J k pc ll ((0, x) :: r) σ out := by
  refine fw_jp hJ ?_
  intro base b L xs D p l e R s m args below meth c Q hC tys ws H locs cells slots ls cst hH hS hL hT h1 h2 kk
  obtain ⟨v0, r0, rfl, ⟨z0, rfl, e0⟩, t0⟩ := fw_St_cons hT
  clear hT; have hT := t0; clear t0
  refine lv_i2d hC.1 hC.2.1 (fw_de' hd) ?_
  have e0 : x = z0.toInt := e0
  exact kk ls _ hL ⟨⟨_, rfl, by rw [e0, Int32.ofInt_toInt]⟩, hT⟩
theorem fw_j_i2f {k pc : Nat} {ll r : List fw_V} {x : Int} {σ : fw_M} {out : fw_O} (hd : fw_dec k pc = some (.i2f, 1)) (hJ : fw_J k (pc + 1) ll ((4, ((FP.i2f (Int32.ofInt x)).toNat : Int)) :: r) σ out) : fw_J k pc ll ((0, x) :: r) σ out := by
  refine fw_jp hJ ?_
  intro base b L xs D p l e R s m args below meth c Q hC tys ws H locs cells slots ls cst hH hS hL hT h1 h2 kk
  obtain ⟨v0, r0, rfl, ⟨z0, rfl, e0⟩, t0⟩ := fw_St_cons hT
  clear hT; have hT := t0; clear t0
  refine lv_i2f hC.1 hC.2.1 (fw_de' hd) ?_
  have e0 : x = z0.toInt := e0
  exact kk ls _ hL ⟨⟨_, rfl, by rw [e0, Int32.ofInt_toInt]⟩, hT⟩
theorem fw_j_l2d {k pc : Nat} {ll r : List fw_V} {x : Int} {σ : fw_M} {out : fw_O} (hd : fw_dec k pc = some (.l2d, 1)) (hJ : fw_J k (pc + 1) ll ((3, ((FP.l2d (Int64.ofInt x)).toNat : Int)) :: r) σ out) : fw_J k pc ll ((1, x) :: r) σ out := by
  refine fw_jp hJ ?_
  intro base b L xs D p l e R s m args below meth c Q hC tys ws H locs cells slots ls cst hH hS hL hT h1 h2 kk
  obtain ⟨v0, r0, rfl, ⟨z0, rfl, e0⟩, t0⟩ := fw_St_cons hT
  clear hT; have hT := t0; clear t0
  refine lv_l2d hC.1 hC.2.1 (fw_de' hd) ?_
  have e0 : x = z0.toInt := e0
  exact kk ls _ hL ⟨⟨_, rfl, by rw [e0, Int64.ofInt_toInt]⟩, hT⟩
theorem fw_j_f2d {k pc : Nat} {ll r : List fw_V} {x : Int} {σ : fw_M} {out : fw_O} (hd : fw_dec k pc = some (.f2d, 1)) (hn : fw_n64 (FP.f2d (fw_ff x)) = true) (hJ : fw_J k (pc + 1) ll ((3, ((FP.f2d (fw_ff x)).toNat : Int)) :: r) σ out) : fw_J k pc ll ((4, x) :: r) σ out := by
  refine fw_jp hJ ?_
  intro base b L xs D p l e R s m args below meth c Q hC tys ws H locs cells slots ls cst hH hS hL hT h1 h2 kk
  obtain ⟨v0, r0, rfl, ⟨z0, rfl, e0⟩, t0⟩ := fw_St_cons hT
  clear hT; have hT := t0; clear t0
  have e0 : x = (z0.toNat : Int) := e0
  subst e0
  rw [fw_ff_of] at hn kk
  refine lv_f2d hC.1 hC.2.1 (fw_de' hd) (fw_n64_ok hn) ?_
  exact kk ls _ hL ⟨⟨_, rfl, rfl⟩, hT⟩
theorem fw_j_ddiv {k pc : Nat} {ll r : List fw_V} {y x : Int} {σ : fw_M} {out : fw_O} (hd : fw_dec k pc = some (.ddiv, 1)) (hn : fw_n64 (FP.ddiv (fw_dd x) (fw_dd y)) = true) (hJ : fw_J k (pc + 1) ll ((3, ((FP.ddiv (fw_dd x) (fw_dd y)).toNat : Int)) :: r) σ out) : fw_J k pc ll ((3, y) :: (3, x) :: r) σ out := by
  refine fw_jp hJ ?_
  intro base b L xs D p l e R s m args below meth c Q hC tys ws H locs cells slots ls cst hH hS hL hT h1 h2 kk
  obtain ⟨v0, r0, rfl, ⟨z0, rfl, e0⟩, t0⟩ := fw_St_cons hT
  clear hT; have hT := t0; clear t0
  obtain ⟨v1, r1, rfl, ⟨z1, rfl, e1⟩, t1⟩ := fw_St_cons hT
  clear hT; have hT := t1; clear t1
  have e0 : y = (z0.toNat : Int) := e0
  have e1 : x = (z1.toNat : Int) := e1
  subst e0
  subst e1
  rw [fw_dd_of, fw_dd_of] at hn kk
  refine lv_ddiv hC.1 hC.2.1 (fw_de' hd) (fw_n64_ok hn) ?_
  exact kk ls _ hL ⟨⟨_, rfl, rfl⟩, hT⟩
theorem fw_j_fdiv {k pc : Nat} {ll r : List fw_V} {y x : Int} {σ : fw_M} {out : fw_O} (hd : fw_dec k pc = some (.fdiv, 1)) (hn : fw_n32 (FP.fdiv (fw_ff x) (fw_ff y)) = true) (hJ : fw_J k (pc + 1) ll ((4, ((FP.fdiv (fw_ff x) (fw_ff y)).toNat : Int)) :: r) σ out) : fw_J k pc ll ((4, y) :: (4, x) :: r) σ out := by
  refine fw_jp hJ ?_
  intro base b L xs D p l e R s m args below meth c Q hC tys ws H locs cells slots ls cst hH hS hL hT h1 h2 kk
  obtain ⟨v0, r0, rfl, ⟨z0, rfl, e0⟩, t0⟩ := fw_St_cons hT
  clear hT; have hT := t0; clear t0
  obtain ⟨v1, r1, rfl, ⟨z1, rfl, e1⟩, t1⟩ := fw_St_cons hT
  clear hT; have hT := t1; clear t1
  have e0 : y = (z0.toNat : Int) := e0
  have e1 : x = (z1.toNat : Int) := e1
  subst e0
  subst e1
  rw [fw_ff_of, fw_ff_of] at hn kk
  refine lv_fdiv hC.1 hC.2.1 (fw_de' hd) (fw_n32_ok hn) ?_
  exact kk ls _ hL ⟨⟨_, rfl, rfl⟩, hT⟩
theorem fw_j_dcmp {k pc : Nat} {ll r : List fw_V} {y x : Int} {σ : fw_M} {out : fw_O} {op : CmpOp} (hd : fw_dec k pc = some (.dcmp op, 1)) (hJ : fw_J k (pc + 1) ll ((0, (Op.cmpValue (FP.dcmp (fw_dd x) (fw_dd y)) op).toInt) :: r) σ out) : fw_J k pc ll ((3, y) :: (3, x) :: r) σ out := by
  refine fw_jp hJ ?_
  intro base b L xs D p l e R s m args below meth c Q hC tys ws H locs cells slots ls cst hH hS hL hT h1 h2 kk
  obtain ⟨v0, r0, rfl, ⟨z0, rfl, e0⟩, t0⟩ := fw_St_cons hT
  clear hT; have hT := t0; clear t0
  obtain ⟨v1, r1, rfl, ⟨z1, rfl, e1⟩, t1⟩ := fw_St_cons hT
  clear hT; have hT := t1; clear t1
  have e0 : y = (z0.toNat : Int) := e0
  have e1 : x = (z1.toNat : Int) := e1
  subst e0
  subst e1
  rw [fw_dd_of, fw_dd_of] at kk
  refine lv_dcmp hC.1 hC.2.1 (fw_de' hd) ?_
  exact kk ls _ hL ⟨⟨_, rfl, rfl⟩, hT⟩
theorem fw_j_fcmp {k pc : Nat} {ll r : List fw_V} {y x : Int} {σ : fw_M} {out : fw_O} {op : CmpOp} (hd : fw_dec k pc = some (.fcmp op, 1)) (hJ : fw_J k (pc + 1) ll ((0, (Op.cmpValue (FP.fcmp (fw_ff x) (fw_ff y)) op).toInt) :: r) σ out) : fw_J k pc ll ((4, y) :: (4, x) :: r) σ out := by
  refine fw_jp hJ ?_
  intro base b L xs D p l e R s m args below meth c Q hC tys ws H locs cells slots ls cst hH hS hL hT h1 h2 kk
  obtain ⟨v0, r0, rfl, ⟨z0, rfl, e0⟩, t0⟩ := fw_St_cons hT
  clear hT; have hT := t0; clear t0
  obtain ⟨v1, r1, rfl, ⟨z1, rfl, e1⟩, t1⟩ := fw_St_cons hT
  clear hT; have hT := t1; clear t1
  have e0 : y = (z0.toNat : Int) := e0
  have e1 : x = (z1.toNat : Int) := e1
  subst e0
  subst e1
  rw [fw_ff_of, fw_ff_of] at kk
  refine lv_fcmp hC.1 hC.2.1 (fw_de' hd) ?_
  exact kk ls _ hL ⟨⟨_, rfl, rfl⟩, hT⟩
theorem fw_j_iconst {k pc : Nat} {ll st : List fw_V} {n : Int} {σ : fw_M} {out : fw_O} (hd : fw_dec k pc = some (.iconst n, 1)) (hJ : fw_J k (pc + 1) ll ((0, (Int32.ofInt n).toInt) :: st) σ out) : fw_J k pc ll st σ out := by
  refine fw_jp hJ ?_
  intro base b L xs D p l e R s m args below meth c Q hC tys ws H locs cells slots ls cst hH hS hL hT h1 h2 kk
  refine lv_iconst hC.1 hC.2.1 (fw_de' hd) rfl ?_
  exact kk ls _ hL ⟨⟨_, rfl, rfl⟩, hT⟩
theorem fw_j_bipush {k pc : Nat} {ll st : List fw_V} {n : Int} {σ : fw_M} {out : fw_O} (hd : fw_dec k pc = some (.bipush n, 2)) (hJ : fw_J k (pc + 2) ll ((0, (Int8.ofInt n).toInt32.toInt) :: st) σ out) : fw_J k pc ll st σ out := by
  refine fw_jp hJ ?_
  intro base b L xs D p l e R s m args below meth c Q hC tys ws H locs cells slots ls cst hH hS hL hT h1 h2 kk
  refine lv_bipush hC.1 hC.2.1 (fw_de' hd) rfl ?_
  exact kk ls _ hL ⟨⟨_, rfl, rfl⟩, hT⟩
theorem fw_j_sipush {k pc : Nat} {ll st : List fw_V} {n : Int} {σ : fw_M} {out : fw_O} (hd : fw_dec k pc = some (.sipush n, 3)) (hJ : fw_J k (pc + 3) ll ((0, (Int16.ofInt n).toInt32.toInt) :: st) σ out) : fw_J k pc ll st σ out := by
  refine fw_jp hJ ?_
  intro base b L xs D p l e R s m args below meth c Q hC tys ws H locs cells slots ls cst hH hS hL hT h1 h2 kk
  refine lv_sipush hC.1 hC.2.1 (fw_de' hd) rfl ?_
  exact kk ls _ hL ⟨⟨_, rfl, rfl⟩, hT⟩
theorem fw_j_lconst {k pc : Nat} {ll st : List fw_V} {n : Fin 2} {σ : fw_M} {out : fw_O} (hd : fw_dec k pc = some (.lconst n, 1)) (hJ : fw_J k (pc + 1) ll ((1, (Int64.ofNat (n : Nat)).toInt) :: st) σ out) : fw_J k pc ll st σ out := by
  refine fw_jp hJ ?_
  intro base b L xs D p l e R s m args below meth c Q hC tys ws H locs cells slots ls cst hH hS hL hT h1 h2 kk
  refine lv_lconst hC.1 hC.2.1 (fw_de' hd) rfl ?_
  exact kk ls _ hL ⟨⟨_, rfl, rfl⟩, hT⟩
theorem fw_j_fconst {k pc : Nat} {ll st : List fw_V} {σ : fw_M} {out : fw_O} (hd : fw_dec k pc = some (.fconst 0, 1)) (hJ : fw_J k (pc + 1) ll ((4, (FP.fconst0.toNat : Int)) :: st) σ out) : fw_J k pc ll st σ out := by
  refine fw_jp hJ ?_
  intro base b L xs D p l e R s m args below meth c Q hC tys ws H locs cells slots ls cst hH hS hL hT h1 h2 kk
  refine lv_fconst0 hC.1 hC.2.1 (fw_de' hd) ?_
  exact kk ls _ hL ⟨⟨_, rfl, rfl⟩, hT⟩
theorem fw_j_dconst {k pc : Nat} {ll st : List fw_V} {σ : fw_M} {out : fw_O} (hd : fw_dec k pc = some (.dconst 0, 1)) (hJ : fw_J k (pc + 1) ll ((3, (FP.dconst0.toNat : Int)) :: st) σ out) : fw_J k pc ll st σ out := by
  refine fw_jp hJ ?_
  intro base b L xs D p l e R s m args below meth c Q hC tys ws H locs cells slots ls cst hH hS hL hT h1 h2 kk
  refine lv_dconst0 hC.1 hC.2.1 (fw_de' hd) ?_
  exact kk ls _ hL ⟨⟨_, rfl, rfl⟩, hT⟩
theorem fw_j_null {k pc : Nat} {ll st : List fw_V} {σ : fw_M} {out : fw_O} (hd : fw_dec k pc = some (.aconst_null, 1)) (hJ : fw_J k (pc + 1) ll ((2, 0) :: st) σ out) : fw_J k pc ll st σ out := by
  refine fw_jp hJ ?_
  intro base b L xs D p l e R s m args below meth c Q hC tys ws H locs cells slots ls cst hH hS hL hT h1 h2 kk
  refine lv_null hC.1 hC.2.1 (fw_de' hd) ?_
  exact kk ls _ hL ⟨Or.inl ⟨rfl, rfl⟩, hT⟩
theorem fw_ck_spec {o n : Nat} {v : Int} (h : fw_ck o n = some v) : ∃ q ∈ fw_kiT, q.1 = o ∧ q.2.1 = n ∧ q.2.2.1 = v := by
  unfold fw_ck at h
  obtain ⟨q, hq1, hq2⟩ := Option.map_eq_some_iff.mp h
  have hp := List.find?_some hq1
  simp only [Bool.and_eq_true, beq_iff_eq] at hp
  exact ⟨q, List.mem_of_find?_eq_some hq1, hp.1, hp.2, hq2⟩
theorem fw_cl_spec {o n : Nat} {v : Int} (h : fw_cl2 o n = some v) : ∃ q ∈ fw_klT, q.1 = o ∧ q.2.1 = n ∧ q.2.2.1 = v := by
  unfold fw_cl2 at h
  obtain ⟨q, hq1, hq2⟩ := Option.map_eq_some_iff.mp h
  have hp := List.find?_some hq1
  simp only [Bool.and_eq_true, beq_iff_eq] at hp
  exact ⟨q, List.mem_of_find?_eq_some hq1, hp.1, hp.2, hq2⟩
theorem fw_j_ldc {k pc n : Nat} {v : Int} {ll st : List fw_V} {σ : fw_M} {out : fw_O} (hv : fw_ck (fw_oc k) n = some v) (hd : fw_dec k pc = some (.ldc n, 2)) (hJ : fw_J k (pc + 2) ll ((0, v) :: st) σ out) : fw_J k pc ll st σ out := by
  refine fw_jp hJ ?_
  intro base b L xs D p l e R s m args below meth c Q hC tys ws H locs cells slots ls cst hH hS hL hT h1 h2 kk
  obtain ⟨q, hq, q1, q2, q3⟩ := fw_ck_spec hv
  obtain ⟨o1, o2⟩ := fw_ki_ok q hq
  rw [q1, q2, q3] at o1
  rw [q3] at o2
  have hown := hC.2.2.2.1
  refine lv_ldc hC.1 hC.2.1 hown (hC.2.2.2.2.1 _ (fw_wd _ _ o1 rfl)) (fw_de' hd) ?_
  exact kk ls _ hL ⟨⟨_, rfl, o2.symm⟩, hT⟩
theorem fw_j_ldc2 {k pc n : Nat} {v : Int} {ll st : List fw_V} {σ : fw_M} {out : fw_O} (hv : fw_cl2 (fw_oc k) n = some v) (hd : fw_dec k pc = some (.ldc2_w n, 3)) (hJ : fw_J k (pc + 3) ll ((1, v) :: st) σ out) : fw_J k pc ll st σ out := by
  refine fw_jp hJ ?_
  intro base b L xs D p l e R s m args below meth c Q hC tys ws H locs cells slots ls cst hH hS hL hT h1 h2 kk
  obtain ⟨q, hq, q1, q2, q3⟩ := fw_cl_spec hv
  obtain ⟨o1, o2⟩ := fw_kl_ok q hq
  rw [q1, q2, q3] at o1
  rw [q3] at o2
  have hown := hC.2.2.2.1
  refine lv_ldc2 hC.1 hC.2.1 hown (hC.2.2.2.2.1 _ (fw_wd _ _ o1 rfl)) (fw_de' hd) ?_
  exact kk ls _ hL ⟨⟨_, rfl, o2.symm⟩, hT⟩
theorem fw_j_iload_n {k pc : Nat} {ll st : List fw_V} {n : Fin 4} {σ : fw_M} {out : fw_O} (hd : fw_dec k pc = some (.iload_n n, 1)) (ht : (fw_g ll n).1 = 0) (hJ : fw_J k (pc + 1) ll (fw_g ll n :: st) σ out) : fw_J k pc ll st σ out := by
  refine fw_jp hJ ?_
  intro base b L xs D p l e R s m args below meth c Q hC tys ws H locs cells slots ls cst hH hS hL hT h1 h2 kk
  obtain ⟨v, hv, hc⟩ := fw_L_at (i := n) hL (by omega)
  have hc0 := hc
  unfold fw_vr at hc
  rw [ht] at hc
  obtain ⟨z, rfl, -⟩ := hc
  refine lv_iload_n hC.1 hC.2.1 (fw_de' hd) rfl hv ?_
  exact kk ls _ hL ⟨hc0, hT⟩
theorem fw_j_iload {k pc : Nat} {ll st : List fw_V} {n : Nat} {σ : fw_M} {out : fw_O} (hd : fw_dec k pc = some (.iload n, 2)) (ht : (fw_g ll n).1 = 0) (hJ : fw_J k (pc + 2) ll (fw_g ll n :: st) σ out) : fw_J k pc ll st σ out := by
  refine fw_jp hJ ?_
  intro base b L xs D p l e R s m args below meth c Q hC tys ws H locs cells slots ls cst hH hS hL hT h1 h2 kk
  obtain ⟨v, hv, hc⟩ := fw_L_at (i := n) hL (by omega)
  have hc0 := hc
  unfold fw_vr at hc
  rw [ht] at hc
  obtain ⟨z, rfl, -⟩ := hc
  refine lv_iload hC.1 hC.2.1 (fw_de' hd) hv ?_
  exact kk ls _ hL ⟨hc0, hT⟩
theorem fw_j_lload_n {k pc : Nat} {ll st : List fw_V} {n : Fin 4} {σ : fw_M} {out : fw_O} (hd : fw_dec k pc = some (.lload_n n, 1)) (ht : (fw_g ll n).1 = 1) (hJ : fw_J k (pc + 1) ll (fw_g ll n :: st) σ out) : fw_J k pc ll st σ out := by
  refine fw_jp hJ ?_
  intro base b L xs D p l e R s m args below meth c Q hC tys ws H locs cells slots ls cst hH hS hL hT h1 h2 kk
  obtain ⟨v, hv, hc⟩ := fw_L_at (i := n) hL (by omega)
  have hc0 := hc
  unfold fw_vr at hc
  rw [ht] at hc
  obtain ⟨z, rfl, -⟩ := hc
  refine lv_lload_n hC.1 hC.2.1 (fw_de' hd) rfl hv ?_
  exact kk ls _ hL ⟨hc0, hT⟩
theorem fw_j_lload {k pc : Nat} {ll st : List fw_V} {n : Nat} {σ : fw_M} {out : fw_O} (hd : fw_dec k pc = some (.lload n, 2)) (ht : (fw_g ll n).1 = 1) (hJ : fw_J k (pc + 2) ll (fw_g ll n :: st) σ out) : fw_J k pc ll st σ out := by
  refine fw_jp hJ ?_
  intro base b L xs D p l e R s m args below meth c Q hC tys ws H locs cells slots ls cst hH hS hL hT h1 h2 kk
  obtain ⟨v, hv, hc⟩ := fw_L_at (i := n) hL (by omega)
  have hc0 := hc
  unfold fw_vr at hc
  rw [ht] at hc
  obtain ⟨z, rfl, -⟩ := hc
  refine lv_lload hC.1 hC.2.1 (fw_de' hd) hv ?_
  exact kk ls _ hL ⟨hc0, hT⟩
theorem fw_j_fload {k pc : Nat} {ll st : List fw_V} {n : Nat} {σ : fw_M} {out : fw_O} (hd : fw_dec k pc = some (.fload n, 2)) (ht : (fw_g ll n).1 = 4) (hJ : fw_J k (pc + 2) ll (fw_g ll n :: st) σ out) : fw_J k pc ll st σ out := by
  refine fw_jp hJ ?_
  intro base b L xs D p l e R s m args below meth c Q hC tys ws H locs cells slots ls cst hH hS hL hT h1 h2 kk
  obtain ⟨v, hv, hc⟩ := fw_L_at (i := n) hL (by omega)
  have hc0 := hc
  unfold fw_vr at hc
  rw [ht] at hc
  obtain ⟨z, rfl, -⟩ := hc
  refine lv_fload hC.1 hC.2.1 (fw_de' hd) hv ?_
  exact kk ls _ hL ⟨hc0, hT⟩
theorem fw_j_aload_n {k pc : Nat} {ll st : List fw_V} {n : Fin 4} {σ : fw_M} {out : fw_O} (hd : fw_dec k pc = some (.aload_n n, 1)) (ht : (fw_g ll n).1 = 2 ∨ (fw_g ll n).1 = 6) (hJ : fw_J k (pc + 1) ll (fw_g ll n :: st) σ out) : fw_J k pc ll st σ out := by
  refine fw_jp hJ ?_
  intro base b L xs D p l e R s m args below meth c Q hC tys ws H locs cells slots ls cst hH hS hL hT h1 h2 kk
  obtain ⟨v, hv, hc⟩ := fw_L_at (i := n) hL (by omega)
  have hc0 := hc
  unfold fw_vr at hc
  rcases ht with ht | ht
  · rw [ht] at hc
    rcases hc with ⟨-, rfl⟩ | ⟨i, a, -, -, rfl⟩
    · refine lv_aload_nN hC.1 hC.2.1 (fw_de' hd) rfl hv ?_
      exact kk ls _ hL ⟨hc0, hT⟩
    · refine lv_aload_n hC.1 hC.2.1 (fw_de' hd) rfl hv ?_
      exact kk ls _ hL ⟨hc0, hT⟩
  · rw [ht] at hc
    cases hc
    refine lv_aload_n hC.1 hC.2.1 (fw_de' hd) rfl hv ?_
    exact kk ls _ hL ⟨hc0, hT⟩
theorem fw_j_aload {k pc : Nat} {ll st : List fw_V} {n : Nat} {σ : fw_M} {out : fw_O} (hd : fw_dec k pc = some (.aload n, 2)) (ht : (fw_g ll n).1 = 2 ∨ (fw_g ll n).1 = 6) (hJ : fw_J k (pc + 2) ll (fw_g ll n :: st) σ out) : fw_J k pc ll st σ out := by
  refine fw_jp hJ ?_
  intro base b L xs D p l e R s m args below meth c Q hC tys ws H locs cells slots ls cst hH hS hL hT h1 h2 kk
  obtain ⟨v, hv, hc⟩ := fw_L_at (i := n) hL (by omega)
  have hc0 := hc
  unfold fw_vr at hc
  rcases ht with ht | ht
  · rw [ht] at hc
    rcases hc with ⟨-, rfl⟩ | ⟨i, a, -, -, rfl⟩
    · refine lv_aloadN hC.1 hC.2.1 (fw_de' hd) hv ?_
      exact kk ls _ hL ⟨hc0, hT⟩
    · refine lv_aload hC.1 hC.2.1 (fw_de' hd) hv ?_
      exact kk ls _ hL ⟨hc0, hT⟩
  · rw [ht] at hc
    cases hc
    refine lv_aload hC.1 hC.2.1 (fw_de' hd) hv ?_
    exact kk ls _ hL ⟨hc0, hT⟩
theorem fw_j_istore_n {k pc : Nat} {ll r : List fw_V} {x : Int} {n : Fin 4} {σ : fw_M} {out : fw_O} (hd : fw_dec k pc = some (.istore_n n, 1)) (hs : fw_so k ll n = true) (hJ : fw_J k (pc + 1) (ll.set n (0, x)) r σ out) : fw_J k pc ll ((0, x) :: r) σ out := by
  refine fw_jp hJ ?_
  intro base b L xs D p l e R s m args below meth c Q hC tys ws H locs cells slots ls cst hH hS hL hT h1 h2 kk
  obtain ⟨l9, g1, g2, g3, g4, g5, g6⟩ := hL
  have hn : (n : Nat) < fw_mL k := by
    simp only [fw_so, Bool.and_eq_true, decide_eq_true_eq] at hs
    exact hs.1
  obtain ⟨v, r0, rfl, hv, t9⟩ := fw_St_cons hT
  clear hT; have hT := t9; clear t9
  have hv0 := hv
  obtain ⟨z, rfl, -⟩ := hv
  refine lv_istore_n hC.1 hC.2.1 (fw_de' hd) rfl g1 hn rfl (fun ls' hl' => ?_)
  exact kk ls' _ (fw_L_set g2 g3 g4 g5 g6 hs hv0 (show (0 : Nat) ≠ 1 by decide) (show (0 : Nat) ≠ 3 by decide) hl') hT
theorem fw_j_istore {k pc : Nat} {ll r : List fw_V} {x : Int} {n : Nat} {σ : fw_M} {out : fw_O} (hd : fw_dec k pc = some (.istore n, 2)) (hs : fw_so k ll n = true) (hJ : fw_J k (pc + 2) (ll.set n (0, x)) r σ out) : fw_J k pc ll ((0, x) :: r) σ out := by
  refine fw_jp hJ ?_
  intro base b L xs D p l e R s m args below meth c Q hC tys ws H locs cells slots ls cst hH hS hL hT h1 h2 kk
  obtain ⟨l9, g1, g2, g3, g4, g5, g6⟩ := hL
  have hn : (n : Nat) < fw_mL k := by
    simp only [fw_so, Bool.and_eq_true, decide_eq_true_eq] at hs
    exact hs.1
  obtain ⟨v, r0, rfl, hv, t9⟩ := fw_St_cons hT
  clear hT; have hT := t9; clear t9
  have hv0 := hv
  obtain ⟨z, rfl, -⟩ := hv
  refine lv_istore hC.1 hC.2.1 (fw_de' hd) g1 hn rfl (fun ls' hl' => ?_)
  exact kk ls' _ (fw_L_set g2 g3 g4 g5 g6 hs hv0 (show (0 : Nat) ≠ 1 by decide) (show (0 : Nat) ≠ 3 by decide) hl') hT
theorem fw_j_astore_n {k pc : Nat} {ll r : List fw_V} {x : Int} {n : Fin 4} {σ : fw_M} {out : fw_O} (hd : fw_dec k pc = some (.astore_n n, 1)) (hs : fw_so k ll n = true) (hJ : fw_J k (pc + 1) (ll.set n (2, x)) r σ out) : fw_J k pc ll ((2, x) :: r) σ out := by
  refine fw_jp hJ ?_
  intro base b L xs D p l e R s m args below meth c Q hC tys ws H locs cells slots ls cst hH hS hL hT h1 h2 kk
  obtain ⟨l9, g1, g2, g3, g4, g5, g6⟩ := hL
  have hn : (n : Nat) < fw_mL k := by
    simp only [fw_so, Bool.and_eq_true, decide_eq_true_eq] at hs
    exact hs.1
  obtain ⟨v, r0, rfl, hv, t9⟩ := fw_St_cons hT
  clear hT; have hT := t9; clear t9
  have hv0 := hv
  rcases hv with ⟨-, rfl⟩ | ⟨i, a, -, -, rfl⟩
  · refine lv_astore_nN hC.1 hC.2.1 (fw_de' hd) rfl g1 hn rfl (fun ls' hl' => ?_)
    exact kk ls' _ (fw_L_set g2 g3 g4 g5 g6 hs hv0 (show (2 : Nat) ≠ 1 by decide) (show (2 : Nat) ≠ 3 by decide) hl') hT
  · refine lv_astore_n hC.1 hC.2.1 (fw_de' hd) rfl g1 hn rfl (fun ls' hl' => ?_)
    exact kk ls' _ (fw_L_set g2 g3 g4 g5 g6 hs hv0 (show (2 : Nat) ≠ 1 by decide) (show (2 : Nat) ≠ 3 by decide) hl') hT
theorem fw_j_astore_n7 {k pc : Nat} {ll r : List fw_V} {x : Int} {n : Fin 4} {σ : fw_M} {out : fw_O} (hd : fw_dec k pc = some (.astore_n n, 1)) (hs : fw_so k ll n = true) (hJ : fw_J k (pc + 1) (ll.set n (7, x)) r σ out) : fw_J k pc ll ((7, x) :: r) σ out := by
  refine fw_jp hJ ?_
  intro base b L xs D p l e R s m args below meth c Q hC tys ws H locs cells slots ls cst hH hS hL hT h1 h2 kk
  obtain ⟨l9, g1, g2, g3, g4, g5, g6⟩ := hL
  have hn : (n : Nat) < fw_mL k := by
    simp only [fw_so, Bool.and_eq_true, decide_eq_true_eq] at hs
    exact hs.1
  obtain ⟨v, r0, rfl, hv, t9⟩ := fw_St_cons hT
  clear hT; have hT := t9; clear t9
  have hv0 := hv
  obtain ⟨z, rfl⟩ := hv
  refine lv_astore_n hC.1 hC.2.1 (fw_de' hd) rfl g1 hn rfl (fun ls' hl' => ?_)
  exact kk ls' _ (fw_L_set g2 g3 g4 g5 g6 hs hv0 (show (7 : Nat) ≠ 1 by decide) (show (7 : Nat) ≠ 3 by decide) hl') hT
theorem fw_j_astore {k pc : Nat} {ll r : List fw_V} {x : Int} {n : Nat} {σ : fw_M} {out : fw_O} (hd : fw_dec k pc = some (.astore n, 2)) (hs : fw_so k ll n = true) (hJ : fw_J k (pc + 2) (ll.set n (2, x)) r σ out) : fw_J k pc ll ((2, x) :: r) σ out := by
  refine fw_jp hJ ?_
  intro base b L xs D p l e R s m args below meth c Q hC tys ws H locs cells slots ls cst hH hS hL hT h1 h2 kk
  obtain ⟨l9, g1, g2, g3, g4, g5, g6⟩ := hL
  have hn : (n : Nat) < fw_mL k := by
    simp only [fw_so, Bool.and_eq_true, decide_eq_true_eq] at hs
    exact hs.1
  obtain ⟨v, r0, rfl, hv, t9⟩ := fw_St_cons hT
  clear hT; have hT := t9; clear t9
  have hv0 := hv
  rcases hv with ⟨-, rfl⟩ | ⟨i, a, -, -, rfl⟩
  · refine lv_astoreN hC.1 hC.2.1 (fw_de' hd) g1 hn rfl (fun ls' hl' => ?_)
    exact kk ls' _ (fw_L_set g2 g3 g4 g5 g6 hs hv0 (show (2 : Nat) ≠ 1 by decide) (show (2 : Nat) ≠ 3 by decide) hl') hT
  · refine lv_astore hC.1 hC.2.1 (fw_de' hd) g1 hn rfl (fun ls' hl' => ?_)
    exact kk ls' _ (fw_L_set g2 g3 g4 g5 g6 hs hv0 (show (2 : Nat) ≠ 1 by decide) (show (2 : Nat) ≠ 3 by decide) hl') hT
theorem fw_j_astore7 {k pc : Nat} {ll r : List fw_V} {x : Int} {n : Nat} {σ : fw_M} {out : fw_O} (hd : fw_dec k pc = some (.astore n, 2)) (hs : fw_so k ll n = true) (hJ : fw_J k (pc + 2) (ll.set n (7, x)) r σ out) : fw_J k pc ll ((7, x) :: r) σ out := by
  refine fw_jp hJ ?_
  intro base b L xs D p l e R s m args below meth c Q hC tys ws H locs cells slots ls cst hH hS hL hT h1 h2 kk
  obtain ⟨l9, g1, g2, g3, g4, g5, g6⟩ := hL
  have hn : (n : Nat) < fw_mL k := by
    simp only [fw_so, Bool.and_eq_true, decide_eq_true_eq] at hs
    exact hs.1
  obtain ⟨v, r0, rfl, hv, t9⟩ := fw_St_cons hT
  clear hT; have hT := t9; clear t9
  have hv0 := hv
  obtain ⟨z, rfl⟩ := hv
  refine lv_astore hC.1 hC.2.1 (fw_de' hd) g1 hn rfl (fun ls' hl' => ?_)
  exact kk ls' _ (fw_L_set g2 g3 g4 g5 g6 hs hv0 (show (7 : Nat) ≠ 1 by decide) (show (7 : Nat) ≠ 3 by decide) hl') hT
theorem fw_j_fstore {k pc : Nat} {ll r : List fw_V} {x : Int} {n : Nat} {σ : fw_M} {out : fw_O} (hd : fw_dec k pc = some (.fstore n, 2)) (hs : fw_so k ll n = true) (hJ : fw_J k (pc + 2) (ll.set n (4, x)) r σ out) : fw_J k pc ll ((4, x) :: r) σ out := by
  refine fw_jp hJ ?_
  intro base b L xs D p l e R s m args below meth c Q hC tys ws H locs cells slots ls cst hH hS hL hT h1 h2 kk
  obtain ⟨l9, g1, g2, g3, g4, g5, g6⟩ := hL
  have hn : (n : Nat) < fw_mL k := by
    simp only [fw_so, Bool.and_eq_true, decide_eq_true_eq] at hs
    exact hs.1
  obtain ⟨v, r0, rfl, hv, t9⟩ := fw_St_cons hT
  clear hT; have hT := t9; clear t9
  have hv0 := hv
  obtain ⟨z, rfl, -⟩ := hv
  refine lv_fstore hC.1 hC.2.1 (fw_de' hd) g1 hn rfl (fun ls' hl' => ?_)
  exact kk ls' _ (fw_L_set g2 g3 g4 g5 g6 hs hv0 (show (4 : Nat) ≠ 1 by decide) (show (4 : Nat) ≠ 3 by decide) hl') hT
theorem fw_L_setD {al : List Nat} {b : Nat} {ls' : Array Slot} {ll : List fw_V} {i : Nat} {av : fw_V} {v : Value} {l : List (Nat × Value)} (hl : ll.length = fw_mL fw_KS) (h3 : ∀ (i : Nat) (av : fw_V), ll[i]? = some av → av.1 ≠ 8 → ∃ v, (i, v) ∈ l ∧ fw_vr al b av v)
    (h4 : ∀ q ∈ l, q.2.category = 2 → ∃ av : fw_V, ll[q.1]? = some av ∧ av.1 = 1) (h5 : ∀ av ∈ ll, av.1 ≠ 3)
    (hs : fw_so fw_KS ll i = true) (hi : i + 1 < fw_mL fw_KS) (hc : fw_vr al b av v) (ha3 : av.1 = 1)
    (h : lv_has ls' (fw_mL fw_KS) ((i, v) :: l.filter (fun q => !(q.1 == i) && (!(q.1 == i + 1) && !(q.1 + 1 == i && q.2.category == 2))))) : fw_L fw_KS al b ls' ((ll.set i av).set (i + 1) (8, 0)) := by
  simp only [fw_so, Bool.and_eq_true, decide_eq_true_eq, Bool.or_eq_true] at hs
  refine ⟨_, h, by rw [List.length_set, List.length_set]; exact hl, fun j aw hj hw => ?_, fun q hq hq2 => ?_, fun aw haw => ?_, fun hk => absurd rfl hk⟩
  · by_cases hji1 : j = i + 1
    · subst hji1
      rw [List.getElem?_set_self (by rw [List.length_set]; omega)] at hj
      cases hj
      exact absurd rfl hw
    · rw [List.getElem?_set_ne (Ne.symm hji1)] at hj
      by_cases hji : j = i
      · subst hji
        rw [List.getElem?_set_self (by omega)] at hj
        cases hj
        exact ⟨v, List.mem_cons_self, hc⟩
      · rw [List.getElem?_set_ne (Ne.symm hji)] at hj
        obtain ⟨w, hw1, hw2⟩ := h3 j aw hj hw
        refine ⟨w, List.mem_cons_of_mem _ (List.mem_filter.mpr ⟨hw1, ?_⟩), hw2⟩
        have e1 : (j == i) = false := by simpa using hji
        have e2 : (j == i + 1) = false := by simpa using hji1
        by_cases hj1 : j + 1 = i
        · have hw3 : ¬ w.category = 2 := by
            intro hw3
            obtain ⟨ax, hx1, hx2⟩ := h4 _ hw1 hw3
            rcases hs.2 with (hs2 | hs2) | hs2
            · exact absurd rfl hs2
            · omega
            · have e9 : i - 1 = j := by omega
              rw [e9, fw_at_g hx1] at hs2
              exact hs2 hx2
          simp [e1, e2, hw3]
        · simp [e1, e2, hj1]
  · rcases List.mem_cons.mp hq with rfl | hq
    · refine ⟨av, ?_, ha3⟩
      show ((ll.set i av).set (i + 1) (8, 0))[i]? = some av
      rw [List.getElem?_set_ne (by omega), List.getElem?_set_self (by omega)]
    · obtain ⟨hq1, hq3⟩ := List.mem_filter.mp hq
      obtain ⟨aw, hw1, hw2⟩ := h4 q hq1 hq2
      have hne : q.1 ≠ i := by
        intro hh
        simp [hh] at hq3
      have hne1 : q.1 ≠ i + 1 := by
        intro hh
        simp [hh] at hq3
      exact ⟨aw, by rw [List.getElem?_set_ne (Ne.symm hne1), List.getElem?_set_ne (Ne.symm hne)]; exact hw1, hw2⟩
  · rcases List.mem_or_eq_of_mem_set haw with h | h
    · rcases List.mem_or_eq_of_mem_set h with h | h
      · exact h5 aw h
      · rw [h, ha3]; decide
    · rw [h]; exact (by decide : (8 : Nat) ≠ 3)
theorem fw_j_lstore_n {pc : Nat} {ll r : List fw_V} {x : Int} {n : Fin 4} {σ : fw_M} {out : fw_O} (hd : fw_dec fw_KS pc = some (.lstore_n n, 1)) (hs : fw_so fw_KS ll n = true) (hn : (n : Nat) + 1 < fw_mL fw_KS) (hJ : fw_J fw_KS (pc + 1) ((ll.set n (1, x)).set ((n : Nat) + 1) (8, 0)) r σ out) : fw_J fw_KS pc ll ((1, x) :: r) σ out := by
  refine fw_jp hJ ?_
  intro base b L xs D p l e R s m args below meth c Q hC tys ws H locs cells slots ls cst hH hS hL hT h1 h2 kk
  obtain ⟨l9, g1, g2, g3, g4, g5, g6⟩ := hL
  obtain ⟨v, r0, rfl, hv, t9⟩ := fw_St_cons hT
  clear hT; have hT := t9; clear t9
  have hv0 := hv
  obtain ⟨z, rfl, -⟩ := hv
  refine lv_lstore_n hC.1 hC.2.1 (fw_de' hd) rfl g1 hn rfl (fun ls' hl' => ?_)
  exact kk ls' _ (fw_L_setD g2 g3 g4 g5 hs hn hv0 rfl hl') hT
theorem fw_j_lstore {pc : Nat} {ll r : List fw_V} {x : Int} {n : Nat} {σ : fw_M} {out : fw_O} (hd : fw_dec fw_KS pc = some (.lstore n, 2)) (hs : fw_so fw_KS ll n = true) (hn : (n : Nat) + 1 < fw_mL fw_KS) (hJ : fw_J fw_KS (pc + 2) ((ll.set n (1, x)).set ((n : Nat) + 1) (8, 0)) r σ out) : fw_J fw_KS pc ll ((1, x) :: r) σ out := by
  refine fw_jp hJ ?_
  intro base b L xs D p l e R s m args below meth c Q hC tys ws H locs cells slots ls cst hH hS hL hT h1 h2 kk
  obtain ⟨l9, g1, g2, g3, g4, g5, g6⟩ := hL
  obtain ⟨v, r0, rfl, hv, t9⟩ := fw_St_cons hT
  clear hT; have hT := t9; clear t9
  have hv0 := hv
  obtain ⟨z, rfl, -⟩ := hv
  refine lv_lstore hC.1 hC.2.1 (fw_de' hd) g1 hn rfl (fun ls' hl' => ?_)
  exact kk ls' _ (fw_L_setD g2 g3 g4 g5 hs hn hv0 rfl hl') hT
theorem fw_j_dup_x2 {k pc : Nat} {ll r : List fw_V} {x y z : Int} {σ : fw_M} {out : fw_O} (hd : fw_dec k pc = some (.dup_x2, 1)) (hJ : fw_J k (pc + 1) ll ((0, x) :: (0, y) :: (2, z) :: (0, x) :: r) σ out) : fw_J k pc ll ((0, x) :: (0, y) :: (2, z) :: r) σ out := by
  refine fw_jp hJ ?_
  intro base b L xs D p l e R s m args below meth c Q hC tys ws H locs cells slots ls cst hH hS hL hT h1 h2 kk
  obtain ⟨v, r0, rfl, hv, t9⟩ := fw_St_cons hT
  clear hT; have hT := t9; clear t9
  obtain ⟨v1, r1, rfl, hv1, t9⟩ := fw_St_cons hT
  clear hT; have hT := t9; clear t9
  obtain ⟨v2, r2, rfl, hv2, t9⟩ := fw_St_cons hT
  clear hT; have hT := t9; clear t9
  refine lv_dup_x2 hC.1 hC.2.1 (fw_de' hd) (fw_cat hv (show (0 : Nat) ≠ 1 by decide) (show (0 : Nat) ≠ 3 by decide)) (fw_cat hv1 (show (0 : Nat) ≠ 1 by decide) (show (0 : Nat) ≠ 3 by decide)) (fw_cat hv2 (show (2 : Nat) ≠ 1 by decide) (show (2 : Nat) ≠ 3 by decide)) ?_
  exact kk ls _ hL ⟨hv, hv1, hv2, hv, hT⟩
theorem fw_j_iinc {k pc : Nat} {ll st : List fw_V} {n : Nat} {c0 : Int} {σ : fw_M} {out : fw_O} (hd : fw_dec k pc = some (.iinc n c0, 3)) (ht : (fw_g ll n).1 = 0) (hs : fw_so k ll n = true) (hJ : fw_J k (pc + 3) (ll.set n (0, fw_w ((fw_g ll n).2 + c0))) st σ out) : fw_J k pc ll st σ out := by
  refine fw_jp hJ ?_
  intro base b L xs D p l e R s m args below meth c Q hC tys ws H locs cells slots ls cst hH hS hL hT h1 h2 kk
  obtain ⟨l9, g1, g2, g3, g4, g5, g6⟩ := hL
  have hn : n < fw_mL k := by
    simp only [fw_so, Bool.and_eq_true, decide_eq_true_eq] at hs
    exact hs.1
  obtain ⟨v, hv, hc⟩ := g3 n _ (fw_g_at ll n (by omega)) (by omega)
  unfold fw_vr at hc
  rw [ht] at hc
  obtain ⟨z, rfl, ez⟩ := hc
  obtain ⟨j, hj⟩ := List.getElem?_of_mem hv
  refine lv_iinc hC.1 hC.2.1 (fw_de' hd) g1 hj rfl hn rfl (fun ls' hl' => ?_)
  refine kk ls' _ (fw_L_set g2 g3 g4 g5 g6 hs ⟨_, rfl, ?_⟩ (show (0 : Nat) ≠ 1 by decide) (show (0 : Nat) ≠ 3 by decide) hl') hT
  show fw_w ((fw_g ll n).2 + c0) = _
  rw [ez, Int32.toInt_add, Int32.toInt_ofInt]
  show Int.bmod _ _ = Int.bmod (z.toInt + Int.bmod c0 4294967296) 4294967296
  rw [Int.add_bmod_bmod]
theorem fw_j_dup {k pc : Nat} {ll r : List fw_V} {t : Nat} {x : Int} {σ : fw_M} {out : fw_O} (hd : fw_dec k pc = some (.dup, 1)) (ht : t = 0 ∨ t = 2) (hJ : fw_J k (pc + 1) ll ((t, x) :: (t, x) :: r) σ out) : fw_J k pc ll ((t, x) :: r) σ out := by
  refine fw_jp hJ ?_
  intro base b L xs D p l e R s m args below meth c Q hC tys ws H locs cells slots ls cst hH hS hL hT h1 h2 kk
  obtain ⟨v, r0, rfl, hv, t9⟩ := fw_St_cons hT
  clear hT; have hT := t9; clear t9
  refine lv_dup hC.1 hC.2.1 (fw_de' hd) (fw_cat hv (by show t ≠ 1; omega) (by show t ≠ 3; omega)) ?_
  exact kk ls _ hL ⟨hv, hv, hT⟩
theorem fw_j_pop {k pc : Nat} {ll r : List fw_V} {t : Nat} {x : Int} {σ : fw_M} {out : fw_O} (hd : fw_dec k pc = some (.pop, 1)) (ht : t = 0 ∨ t = 2) (hJ : fw_J k (pc + 1) ll r σ out) : fw_J k pc ll ((t, x) :: r) σ out := by
  refine fw_jp hJ ?_
  intro base b L xs D p l e R s m args below meth c Q hC tys ws H locs cells slots ls cst hH hS hL hT h1 h2 kk
  obtain ⟨v, r0, rfl, hv, t9⟩ := fw_St_cons hT
  clear hT; have hT := t9; clear t9
  refine lv_pop hC.1 hC.2.1 (fw_de' hd) (fw_cat hv (by show t ≠ 1; omega) (by show t ≠ 3; omega)) ?_
  exact kk ls _ hL hT
theorem fw_j_dup2 {k pc : Nat} {ll r : List fw_V} {x y : Int} {σ : fw_M} {out : fw_O} (hd : fw_dec k pc = some (.dup2, 1)) (hJ : fw_J k (pc + 1) ll ((0, x) :: (2, y) :: (0, x) :: (2, y) :: r) σ out) : fw_J k pc ll ((0, x) :: (2, y) :: r) σ out := by
  refine fw_jp hJ ?_
  intro base b L xs D p l e R s m args below meth c Q hC tys ws H locs cells slots ls cst hH hS hL hT h1 h2 kk
  obtain ⟨v, r0, rfl, hv, t9⟩ := fw_St_cons hT
  clear hT; have hT := t9; clear t9
  obtain ⟨v1, r1, rfl, hv1, t9⟩ := fw_St_cons hT
  clear hT; have hT := t9; clear t9
  refine lv_dup2_11 hC.1 hC.2.1 (fw_de' hd) (fw_cat hv (show (0 : Nat) ≠ 1 by decide) (show (0 : Nat) ≠ 3 by decide)) (fw_cat hv1 (show (2 : Nat) ≠ 1 by decide) (show (2 : Nat) ≠ 3 by decide)) ?_
  exact kk ls _ hL ⟨hv, hv1, hv, hv1, hT⟩
theorem fw_j_goto {k pc : Nat} {ll st : List fw_V} {off : Int} {σ : fw_M} {out : fw_O} (hd : fw_dec k pc = some (.goto off, 3)) (h0 : 0 ≤ (pc : Int) + off) (hJ : fw_J k (fw_tgt pc off) ll st σ out) : fw_J k pc ll st σ out := by
  refine fw_jp hJ ?_
  intro base b L xs D p l e R s m args below meth c Q hC tys ws H locs cells slots ls cst hH hS hL hT h1 h2 kk
  exact lv_goto hC.1 hC.2.1 (fw_de' hd) (fw_tgt_ok h0) (kk ls _ hL hT)
theorem fw_j_icmp {k pc : Nat} {ll r : List fw_V} {x y off : Int} {cc : ClassFile.Cond} {σ : fw_M} {out : fw_O} (hd : fw_dec k pc = some (.if_icmp cc off, 3)) (h0 : 0 ≤ (pc : Int) + off) (hJ : fw_J k (if fw_ifc cc x y = true then fw_tgt pc off else pc + 3) ll r σ out) : fw_J k pc ll ((0, y) :: (0, x) :: r) σ out := by
  refine fw_jp hJ ?_
  intro base b L xs D p l e R s m args below meth c Q hC tys ws H locs cells slots ls cst hH hS hL hT h1 h2 kk
  obtain ⟨v0, r0, rfl, ⟨z0, rfl, e0⟩, t0⟩ := fw_St_cons hT
  clear hT; have hT := t0; clear t0
  obtain ⟨v1, r1, rfl, ⟨z1, rfl, e1⟩, t1⟩ := fw_St_cons hT
  clear hT; have hT := t1; clear t1
  have e0 : y = z0.toInt := e0
  have e1 : x = z1.toInt := e1
  have kk := kk ls _ hL hT
  match cc, hd, kk with
  | .eq, hd, kk =>
    refine lv_icmp_eq hC.1 hC.2.1 (fw_de' hd) (fw_tgt_ok h0) (fun q => ?_) (fun q => ?_)
    · rw [if_pos (show fw_ifc .eq x y = true from decide_eq_true (by rw [e0, e1, q]))] at kk; exact kk
    · rw [if_neg (show ¬ fw_ifc .eq x y = true from fun z => absurd (of_decide_eq_true z) (by intro z; exact q (Int32.toInt_inj.mp (by omega))))] at kk; exact kk
  | .ne, hd, kk =>
    refine lv_icmp_ne hC.1 hC.2.1 (fw_de' hd) (fw_tgt_ok h0) (fun q => ?_) (fun q => ?_)
    · rw [if_pos (show fw_ifc .ne x y = true from decide_eq_true (by intro z; exact q (Int32.toInt_inj.mp (by omega))))] at kk; exact kk
    · rw [if_neg (show ¬ fw_ifc .ne x y = true from fun z => absurd (of_decide_eq_true z) (by intro z; exact z (by rw [e0, e1, q])))] at kk; exact kk
  | .lt, hd, kk =>
    refine lv_icmp_lt hC.1 hC.2.1 (fw_de' hd) (fw_tgt_ok h0) (fun q => ?_) (fun q => ?_)
    · rw [if_pos (show fw_ifc .lt x y = true from decide_eq_true (by rw [Int32.lt_iff_toInt_lt] at q; omega))] at kk; exact kk
    · rw [if_neg (show ¬ fw_ifc .lt x y = true from fun z => absurd (of_decide_eq_true z) (by rw [Int32.lt_iff_toInt_lt] at q; omega))] at kk; exact kk
  | .ge, hd, kk =>
    refine lv_icmp_ge hC.1 hC.2.1 (fw_de' hd) (fw_tgt_ok h0) (fun q => ?_) (fun q => ?_)
    · rw [if_pos (show fw_ifc .ge x y = true from decide_eq_true (by rw [Int32.le_iff_toInt_le] at q; omega))] at kk; exact kk
    · rw [if_neg (show ¬ fw_ifc .ge x y = true from fun z => absurd (of_decide_eq_true z) (by rw [Int32.le_iff_toInt_le] at q; omega))] at kk; exact kk
  | .gt, hd, kk =>
    refine lv_icmp_gt hC.1 hC.2.1 (fw_de' hd) (fw_tgt_ok h0) (fun q => ?_) (fun q => ?_)
    · rw [if_pos (show fw_ifc .gt x y = true from decide_eq_true (by rw [Int32.lt_iff_toInt_lt] at q; omega))] at kk; exact kk
    · rw [if_neg (show ¬ fw_ifc .gt x y = true from fun z => absurd (of_decide_eq_true z) (by rw [Int32.lt_iff_toInt_lt] at q; omega))] at kk; exact kk
  | .le, hd, kk =>
    refine lv_icmp_le hC.1 hC.2.1 (fw_de' hd) (fw_tgt_ok h0) (fun q => ?_) (fun q => ?_)
    · rw [if_pos (show fw_ifc .le x y = true from decide_eq_true (by rw [Int32.le_iff_toInt_le] at q; omega))] at kk; exact kk
    · rw [if_neg (show ¬ fw_ifc .le x y = true from fun z => absurd (of_decide_eq_true z) (by rw [Int32.le_iff_toInt_le] at q; omega))] at kk; exact kk
theorem fw_j_ifc {k pc : Nat} {ll r : List fw_V} {x off : Int} {cc : ClassFile.Cond} {σ : fw_M} {out : fw_O} (hd : fw_dec k pc = some (.ifCond cc off, 3)) (h0 : 0 ≤ (pc : Int) + off) (hJ : fw_J k (if fw_ifc cc x 0 = true then fw_tgt pc off else pc + 3) ll r σ out) : fw_J k pc ll ((0, x) :: r) σ out := by
  refine fw_jp hJ ?_
  intro base b L xs D p l e R s m args below meth c Q hC tys ws H locs cells slots ls cst hH hS hL hT h1 h2 kk
  obtain ⟨v0, r0, rfl, ⟨z0, rfl, e0⟩, t0⟩ := fw_St_cons hT
  clear hT; have hT := t0; clear t0
  have e0 : x = z0.toInt := e0
  have kk := kk ls _ hL hT
  have z9 : (0 : Int32).toInt = 0 := rfl
  match cc, hd, kk with
  | .eq, hd, kk =>
    refine lv_if_eq hC.1 hC.2.1 (fw_de' hd) (fw_tgt_ok h0) (fun q => ?_) (fun q => ?_)
    · rw [if_pos (show fw_ifc .eq x 0 = true from decide_eq_true (by rw [e0, q]; rfl))] at kk; exact kk
    · rw [if_neg (show ¬ fw_ifc .eq x 0 = true from fun z => absurd (of_decide_eq_true z) (by intro z; exact q (Int32.toInt_inj.mp (by omega))))] at kk; exact kk
  | .ne, hd, kk =>
    refine lv_if_ne hC.1 hC.2.1 (fw_de' hd) (fw_tgt_ok h0) (fun q => ?_) (fun q => ?_)
    · rw [if_pos (show fw_ifc .ne x 0 = true from decide_eq_true (by intro z; exact q (Int32.toInt_inj.mp (by omega))))] at kk; exact kk
    · rw [if_neg (show ¬ fw_ifc .ne x 0 = true from fun z => absurd (of_decide_eq_true z) (by intro z; exact z (by rw [e0, q]; rfl)))] at kk; exact kk
  | .lt, hd, kk =>
    refine lv_if_lt hC.1 hC.2.1 (fw_de' hd) (fw_tgt_ok h0) (fun q => ?_) (fun q => ?_)
    · rw [if_pos (show fw_ifc .lt x 0 = true from decide_eq_true (by rw [Int32.lt_iff_toInt_lt] at q; omega))] at kk; exact kk
    · rw [if_neg (show ¬ fw_ifc .lt x 0 = true from fun z => absurd (of_decide_eq_true z) (by rw [Int32.lt_iff_toInt_lt] at q; omega))] at kk; exact kk
  | .ge, hd, kk =>
    refine lv_if_ge hC.1 hC.2.1 (fw_de' hd) (fw_tgt_ok h0) (fun q => ?_) (fun q => ?_)
    · rw [if_pos (show fw_ifc .ge x 0 = true from decide_eq_true (by rw [Int32.le_iff_toInt_le] at q; omega))] at kk; exact kk
    · rw [if_neg (show ¬ fw_ifc .ge x 0 = true from fun z => absurd (of_decide_eq_true z) (by rw [Int32.le_iff_toInt_le] at q; omega))] at kk; exact kk
  | .gt, hd, kk =>
    refine lv_if_gt hC.1 hC.2.1 (fw_de' hd) (fw_tgt_ok h0) (fun q => ?_) (fun q => ?_)
    · rw [if_pos (show fw_ifc .gt x 0 = true from decide_eq_true (by rw [Int32.lt_iff_toInt_lt] at q; omega))] at kk; exact kk
    · rw [if_neg (show ¬ fw_ifc .gt x 0 = true from fun z => absurd (of_decide_eq_true z) (by rw [Int32.lt_iff_toInt_lt] at q; omega))] at kk; exact kk
  | .le, hd, kk =>
    refine lv_if_le hC.1 hC.2.1 (fw_de' hd) (fw_tgt_ok h0) (fun q => ?_) (fun q => ?_)
    · rw [if_pos (show fw_ifc .le x 0 = true from decide_eq_true (by rw [Int32.le_iff_toInt_le] at q; omega))] at kk; exact kk
    · rw [if_neg (show ¬ fw_ifc .le x 0 = true from fun z => absurd (of_decide_eq_true z) (by rw [Int32.le_iff_toInt_le] at q; omega))] at kk; exact kk
theorem fw_j_ifnull {k pc : Nat} {ll r : List fw_V} {x off : Int} {σ : fw_M} {out : fw_O} (hd : fw_dec k pc = some (.ifnull off, 3)) (h0 : 0 ≤ (pc : Int) + off) (hJ : fw_J k (if x = 0 then fw_tgt pc off else pc + 3) ll r σ out) : fw_J k pc ll ((2, x) :: r) σ out := by
  refine fw_jp hJ ?_
  intro base b L xs D p l e R s m args below meth c Q hC tys ws H locs cells slots ls cst hH hS hL hT h1 h2 kk
  obtain ⟨v, r0, rfl, hv, t9⟩ := fw_St_cons hT
  clear hT; have hT := t9; clear t9
  have kk := kk ls _ hL hT
  rcases hv with ⟨q, rfl⟩ | ⟨i, a, -, q, rfl⟩
  · have q : x = 0 := q
    refine lv_ifnullN hC.1 hC.2.1 (fw_de' hd) (fw_tgt_ok h0) ?_
    rw [if_pos q] at kk; exact kk
  · have q : x = (i : Int) + 1 := q
    refine lv_ifnull hC.1 hC.2.1 (fw_de' hd) ?_
    rw [if_neg (by omega)] at kk; exact kk
theorem fw_j_ifnonnull {k pc : Nat} {ll r : List fw_V} {x off : Int} {σ : fw_M} {out : fw_O} (hd : fw_dec k pc = some (.ifnonnull off, 3)) (h0 : 0 ≤ (pc : Int) + off) (hJ : fw_J k (if x ≠ 0 then fw_tgt pc off else pc + 3) ll r σ out) : fw_J k pc ll ((2, x) :: r) σ out := by
  refine fw_jp hJ ?_
  intro base b L xs D p l e R s m args below meth c Q hC tys ws H locs cells slots ls cst hH hS hL hT h1 h2 kk
  obtain ⟨v, r0, rfl, hv, t9⟩ := fw_St_cons hT
  clear hT; have hT := t9; clear t9
  have kk := kk ls _ hL hT
  rcases hv with ⟨q, rfl⟩ | ⟨i, a, -, q, rfl⟩
  · have q : x = 0 := q
    refine lv_ifnonnullN hC.1 hC.2.1 (fw_de' hd) ?_
    rw [if_neg (fun z => z q)] at kk; exact kk
  · have q : x = (i : Int) + 1 := q
    refine lv_ifnonnull hC.1 hC.2.1 (fw_de' hd) (fw_tgt_ok h0) ?_
    rw [if_pos (by omega)] at kk; exact kk
theorem fw_j_tswO {k pc len : Nat} {ll r : List fw_V} {x d lo hi : Int} {offs : Array Int} {σ : fw_M} {out : fw_O} (hd : fw_dec k pc = some (.tableswitch d lo hi offs, len)) (h0 : 0 ≤ (pc : Int) + d) (hx : x < lo ∨ hi < x) (hJ : fw_J k (fw_tgt pc d) ll r σ out) : fw_J k pc ll ((0, x) :: r) σ out := by
  refine fw_jp hJ ?_
  intro base b L xs D p l e R s m args below meth c Q hC tys ws H locs cells slots ls cst hH hS hL hT h1 h2 kk
  obtain ⟨v0, r0, rfl, ⟨z0, rfl, e0⟩, t0⟩ := fw_St_cons hT
  clear hT; have hT := t0; clear t0
  have e0 : x = z0.toInt := e0
  exact lv_tableOut hC.1 hC.2.1 (fw_de' hd) (by rw [← e0]; exact hx) (fw_tgt_ok h0) (kk ls _ hL hT)
theorem fw_j_tswI {k pc len : Nat} {ll r : List fw_V} {x d lo hi off : Int} {offs : Array Int} {σ : fw_M} {out : fw_O} (hd : fw_dec k pc = some (.tableswitch d lo hi offs, len)) (h0 : 0 ≤ (pc : Int) + off) (hx : ¬ (x < lo ∨ hi < x)) (ho : offs[(x - lo).toNat]? = some off) (hJ : fw_J k (fw_tgt pc off) ll r σ out) : fw_J k pc ll ((0, x) :: r) σ out := by
  refine fw_jp hJ ?_
  intro base b L xs D p l e R s m args below meth c Q hC tys ws H locs cells slots ls cst hH hS hL hT h1 h2 kk
  obtain ⟨v0, r0, rfl, ⟨z0, rfl, e0⟩, t0⟩ := fw_St_cons hT
  clear hT; have hT := t0; clear t0
  have e0 : x = z0.toInt := e0
  exact lv_tableIn hC.1 hC.2.1 (fw_de' hd) (by rw [← e0]; omega) (by rw [← e0]; omega) (by rw [← e0]; exact ho) (fw_tgt_ok h0) (kk ls _ hL hT)
