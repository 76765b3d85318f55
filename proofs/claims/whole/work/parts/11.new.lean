theorem fw_cr_spec {o n c : Nat} (h : fw_cr o n = some c) : Cond.classLink (fw_CN o) n (fw_CN c) ∈ fw_ws ∧ c < 10 := by
  unfold fw_cr at h
  obtain ⟨q, hq1, hq2⟩ := Option.map_eq_some_iff.mp h
  have hm := List.mem_of_find?_eq_some hq1
  have hp := List.find?_some hq1
  simp only [Bool.and_eq_true, beq_iff_eq] at hp
  obtain ⟨g1, g2⟩ := fw_cr_ok q hm
  obtain ⟨hp1, hp2⟩ := hp
  rw [hp1, hp2, hq2] at g1
  rw [hq2] at g2
  exact ⟨fw_wd _ _ g1 rfl, g2⟩
theorem fw_nw1 {σ : fw_M} {n : Int} (h : 1 ≤ σ (-1) 0) : fw_nw σ n (-1) 1 = σ (-1) 1 + 1 := by
  unfold fw_nw
  rw [if_neg (by omega), if_pos rfl, if_neg (by decide), if_pos rfl]
theorem fw_nw2 {σ : fw_M} {n : Int} (h : 1 ≤ σ (-1) 0) : fw_nw σ n (-1) 2 = σ (-1) 2 + n := by
  unfold fw_nw
  rw [if_neg (by omega), if_pos rfl, if_neg (by decide), if_neg (by decide), if_pos rfl]
theorem fw_vr_new {ws : va_W} {a : Nat} {e : va_E} {b : Nat} {x : Int} (h : x = (ws.length : Int) + 1) : fw_vr (fw_al (ws ++ [(a, e)])) b (2, x) (.ref a) := by
  refine Or.inr ⟨ws.length, a, ?_, h, rfl⟩
  unfold fw_al
  rw [List.getElem?_map, List.getElem?_append_right (Nat.le_refl _), Nat.sub_self]
  rfl
theorem fw_al_push {ws : va_W} {q : Nat × va_E} : fw_al ws <+: fw_al (ws ++ [q]) := by unfold fw_al; rw [List.map_append]; exact List.prefix_append _ _
theorem fw_j_new {k pc n c : Nat} {ll st : List fw_V} {σ : fw_M} {out : fw_O} (hd : fw_dec k pc = some (.new n, 3)) (hf : fw_cr (fw_oc k) n = some c) (hk : fw_kd (σ (-1) 0) = (c : Int) + 3) (hJ : fw_J k (pc + 3) ll ((2, σ (-1) 0) :: st) (fw_nw σ (fw_nf c)) out) : fw_J k pc ll st σ out := by
  have h9 := fw_kd_lt _ (show fw_kd (σ (-1) 0) ≠ 0 by omega)
  refine fw_jg hJ 1 (fw_nf c) (fw_nw1 (by omega)) (fw_nw2 (by omega)) ?_
  intro base b L xs D p l e R s m args below meth c0 Q hC tys ws H locs cells slots ls cst hH hS hL hT h1 h2 kk
  obtain ⟨hw, hc⟩ := fw_cr_spec hf
  refine va_new (ci := c + 2) (fs := (List.range (fw_nf c)).map (fun j => defaultValue (fw_ty c j))) (C := fw_CN c) (T := fw_CT c) (N := fw_nf c) hC.1 hC.2.1 hC.2.2.2.2.1 (fw_uw c hc) (fw_ty c) (fw_tyok c hc) hC.2.2.2.1 (hC.2.2.2.2.1 _ hw) (hC.2.2.2.2.1 _ (fw_ins c hc)) (hC.2.2.2.2.1 _ (fw_ini c (by omega))) hH.1 hH.2.1 hH.2.2.1 hS (fun q hq => Nat.le_trans hC.2.2.2.2.2.2.2.2.2.2.2.2.1 hq) (fw_cl c hc) (fun j hj => ?_) h1 h2 (fw_de' hd) (fun q H1 hP1 hD1 hS1 => ?_)
  · unfold vp_V
    simp [List.getD, hj]
  · refine kk tys _ H1 locs ls _ (fw_H_push hH (List.prefix_refl _) hH.1 hP1 hD1 ⟨c, rfl, hc, by rw [← hk, hH.2.2.2.1], by simp, fun j hj => ?_⟩) hS1 fw_al_push (fw_L_mono fw_al_push hL) ⟨fw_vr_new hH.2.2.2.1, fw_St_mono fw_al_push hT⟩
    obtain ⟨k1, k2⟩ := fw_tk_ok c (List.mem_range.mpr hc) j (List.mem_range.mpr hj)
    refine ⟨defaultValue (fw_ty c j), by simp [hj], ?_⟩
    rw [← k1]
    exact fw_dflt k2
theorem fw_j_newa_int {k pc : Nat} {ll r : List fw_V} {n : Int} {σ : fw_M} {out : fw_O} (hd : fw_dec k pc = some (.newarray .int, 2)) (hn0 : 0 ≤ n) (hn1 : n ≤ 300) (hk : fw_kd (σ (-1) 0) = 100) (hn : fw_ln (σ (-1) 0) = n) (hJ : fw_J k (pc + 2) ll ((2, σ (-1) 0) :: r) (fw_nw σ n) out) : fw_J k pc ll ((0, n) :: r) σ out := by
  have h9 := fw_kd_lt _ (show fw_kd (σ (-1) 0) ≠ 0 by omega)
  refine fw_jg hJ 1 n.toNat (fw_nw1 (by omega)) (by rw [fw_nw2 (by omega)]; omega) ?_
  intro base b L xs D p l e R s m args below meth c0 Q hC tys ws H locs cells slots ls cst hH hS hL hT h1 h2 kk
  obtain ⟨v, r_v, rfl, ⟨z, rfl, ez⟩, t9⟩ := fw_St_cons hT
  clear hT; have hT := t9; clear t9
  have ez : n = z.toInt := ez
  have hz := fw_clamp z (by omega)
  refine va_newa (atype := .int) (ty := .int) (N' := n.toNat) (a0 := (n.toNat, .inl (fun _ => (0 : Int32)))) hC.1 hC.2.1 (hC.2.2.2.2.1 _ (fw_wd 1 75 rfl rfl)) rfl hH.1 hH.2.1 hH.2.2.1 hS (fun q hq => Nat.le_trans hC.2.2.2.2.2.2.2.2.2.2.2.2.1 hq) (fun cA => rfl) ?_ (by omega) ?_ h1 h2 (fw_de' hd) (fun q cA H1 hK1 hP1 hD1 hS1 => ?_)
  · rw [Int32.lt_iff_toInt_lt]
    have : (0 : Int32).toInt = 0 := rfl
    omega
  · show n.toNat * 4 ≤ 536870912
    omega
  · exact kk (tys ++ [(cA, .int)]) _ H1 locs ls _ (fw_H_push hH (List.prefix_append _ _) hK1 hP1 hD1 ⟨tys.length, .int, by simp, Or.inl ⟨by rw [← hH.2.2.2.1]; exact hk, rfl⟩, by rw [← hH.2.2.2.1, hn]; omega, by omega, fun j hj => rfl⟩) hS1 fw_al_push (fw_L_mono fw_al_push hL) ⟨fw_vr_new hH.2.2.2.1, fw_St_mono fw_al_push hT⟩
theorem fw_j_newa_char {k pc : Nat} {ll r : List fw_V} {n : Int} {σ : fw_M} {out : fw_O} (hd : fw_dec k pc = some (.newarray .char, 2)) (hn0 : 0 ≤ n) (hn1 : n ≤ 300) (hk : fw_kd (σ (-1) 0) = 101) (hn : fw_ln (σ (-1) 0) = n) (hJ : fw_J k (pc + 2) ll ((2, σ (-1) 0) :: r) (fw_nw σ n) out) : fw_J k pc ll ((0, n) :: r) σ out := by
  have h9 := fw_kd_lt _ (show fw_kd (σ (-1) 0) ≠ 0 by omega)
  refine fw_jg hJ 1 n.toNat (fw_nw1 (by omega)) (by rw [fw_nw2 (by omega)]; omega) ?_
  intro base b L xs D p l e R s m args below meth c0 Q hC tys ws H locs cells slots ls cst hH hS hL hT h1 h2 kk
  obtain ⟨v, r_v, rfl, ⟨z, rfl, ez⟩, t9⟩ := fw_St_cons hT
  clear hT; have hT := t9; clear t9
  have ez : n = z.toInt := ez
  have hz := fw_clamp z (by omega)
  refine va_newa (atype := .char) (ty := .char) (N' := n.toNat) (a0 := (n.toNat, .inl (fun _ => (0 : Int32)))) hC.1 hC.2.1 (hC.2.2.2.2.1 _ (fw_wd 1 76 rfl rfl)) rfl hH.1 hH.2.1 hH.2.2.1 hS (fun q hq => Nat.le_trans hC.2.2.2.2.2.2.2.2.2.2.2.2.1 hq) (fun cA => rfl) ?_ (by omega) ?_ h1 h2 (fw_de' hd) (fun q cA H1 hK1 hP1 hD1 hS1 => ?_)
  · rw [Int32.lt_iff_toInt_lt]
    have : (0 : Int32).toInt = 0 := rfl
    omega
  · show n.toNat * 2 ≤ 536870912
    omega
  · exact kk (tys ++ [(cA, .char)]) _ H1 locs ls _ (fw_H_push hH (List.prefix_append _ _) hK1 hP1 hD1 ⟨tys.length, .char, by simp, Or.inr (Or.inl ⟨by rw [← hH.2.2.2.1]; exact hk, rfl⟩), by rw [← hH.2.2.2.1, hn]; omega, by omega, fun j hj => rfl⟩) hS1 fw_al_push (fw_L_mono fw_al_push hL) ⟨fw_vr_new hH.2.2.2.1, fw_St_mono fw_al_push hT⟩
theorem fw_j_newa_boolean {k pc : Nat} {ll r : List fw_V} {n : Int} {σ : fw_M} {out : fw_O} (hd : fw_dec k pc = some (.newarray .boolean, 2)) (hn0 : 0 ≤ n) (hn1 : n ≤ 300) (hk : fw_kd (σ (-1) 0) = 102) (hn : fw_ln (σ (-1) 0) = n) (hJ : fw_J k (pc + 2) ll ((2, σ (-1) 0) :: r) (fw_nw σ n) out) : fw_J k pc ll ((0, n) :: r) σ out := by
  have h9 := fw_kd_lt _ (show fw_kd (σ (-1) 0) ≠ 0 by omega)
  refine fw_jg hJ 1 n.toNat (fw_nw1 (by omega)) (by rw [fw_nw2 (by omega)]; omega) ?_
  intro base b L xs D p l e R s m args below meth c0 Q hC tys ws H locs cells slots ls cst hH hS hL hT h1 h2 kk
  obtain ⟨v, r_v, rfl, ⟨z, rfl, ez⟩, t9⟩ := fw_St_cons hT
  clear hT; have hT := t9; clear t9
  have ez : n = z.toInt := ez
  have hz := fw_clamp z (by omega)
  refine va_newa (atype := .boolean) (ty := .boolean) (N' := n.toNat) (a0 := (n.toNat, .inl (fun _ => (0 : Int32)))) hC.1 hC.2.1 (hC.2.2.2.2.1 _ (fw_wd 5 189 rfl rfl)) rfl hH.1 hH.2.1 hH.2.2.1 hS (fun q hq => Nat.le_trans hC.2.2.2.2.2.2.2.2.2.2.2.2.1 hq) (fun cA => rfl) ?_ (by omega) ?_ h1 h2 (fw_de' hd) (fun q cA H1 hK1 hP1 hD1 hS1 => ?_)
  · rw [Int32.lt_iff_toInt_lt]
    have : (0 : Int32).toInt = 0 := rfl
    omega
  · show n.toNat * 1 ≤ 536870912
    omega
  · exact kk (tys ++ [(cA, .boolean)]) _ H1 locs ls _ (fw_H_push hH (List.prefix_append _ _) hK1 hP1 hD1 ⟨tys.length, .boolean, by simp, Or.inr (Or.inr ⟨by rw [← hH.2.2.2.1]; exact hk, rfl⟩), by rw [← hH.2.2.2.1, hn]; omega, by omega, fun j hj => rfl⟩) hS1 fw_al_push (fw_L_mono fw_al_push hL) ⟨fw_vr_new hH.2.2.2.1, fw_St_mono fw_al_push hT⟩
theorem fw_j_newa_long {k pc : Nat} {ll r : List fw_V} {n : Int} {σ : fw_M} {out : fw_O} (hd : fw_dec k pc = some (.newarray .long, 2)) (hn0 : 0 ≤ n) (hn1 : n ≤ 300) (hk : fw_kd (σ (-1) 0) = 103) (hn : fw_ln (σ (-1) 0) = n) (hJ : fw_J k (pc + 2) ll ((2, σ (-1) 0) :: r) (fw_nw σ n) out) : fw_J k pc ll ((0, n) :: r) σ out := by
  have h9 := fw_kd_lt _ (show fw_kd (σ (-1) 0) ≠ 0 by omega)
  refine fw_jg hJ 1 n.toNat (fw_nw1 (by omega)) (by rw [fw_nw2 (by omega)]; omega) ?_
  intro base b L xs D p l e R s m args below meth c0 Q hC tys ws H locs cells slots ls cst hH hS hL hT h1 h2 kk
  obtain ⟨v, r_v, rfl, ⟨z, rfl, ez⟩, t9⟩ := fw_St_cons hT
  clear hT; have hT := t9; clear t9
  have ez : n = z.toInt := ez
  have hz := fw_clamp z (by omega)
  refine va_newa (atype := .long) (ty := .long) (N' := n.toNat) (a0 := (n.toNat, .inr (.inl (fun _ => (0 : Int64))))) hC.1 hC.2.1 (hC.2.2.2.2.1 _ (fw_wd 6 194 rfl rfl)) rfl hH.1 hH.2.1 hH.2.2.1 hS (fun q hq => Nat.le_trans hC.2.2.2.2.2.2.2.2.2.2.2.2.1 hq) (fun cA => rfl) ?_ (by omega) ?_ h1 h2 (fw_de' hd) (fun q cA H1 hK1 hP1 hD1 hS1 => ?_)
  · rw [Int32.lt_iff_toInt_lt]
    have : (0 : Int32).toInt = 0 := rfl
    omega
  · show n.toNat * 8 ≤ 536870912
    omega
  · exact kk (tys ++ [(cA, .long)]) _ H1 locs ls _ (fw_H_push hH (List.prefix_append _ _) hK1 hP1 hD1 ⟨tys.length, by simp, by rw [← hH.2.2.2.1]; exact hk, by rw [← hH.2.2.2.1, hn]; omega, by omega, fun j hj => rfl⟩) hS1 fw_al_push (fw_L_mono fw_al_push hL) ⟨fw_vr_new hH.2.2.2.1, fw_St_mono fw_al_push hT⟩
theorem fw_j_newa_double {k pc : Nat} {ll r : List fw_V} {n : Int} {σ : fw_M} {out : fw_O} (hd : fw_dec k pc = some (.newarray .double, 2)) (hn0 : 0 ≤ n) (hn1 : n ≤ 300) (hk : fw_kd (σ (-1) 0) = 104) (hn : fw_ln (σ (-1) 0) = n) (hJ : fw_J k (pc + 2) ll ((2, σ (-1) 0) :: r) (fw_nw σ n) out) : fw_J k pc ll ((0, n) :: r) σ out := by
  have h9 := fw_kd_lt _ (show fw_kd (σ (-1) 0) ≠ 0 by omega)
  refine fw_jg hJ 1 n.toNat (fw_nw1 (by omega)) (by rw [fw_nw2 (by omega)]; omega) ?_
  intro base b L xs D p l e R s m args below meth c0 Q hC tys ws H locs cells slots ls cst hH hS hL hT h1 h2 kk
  obtain ⟨v, r_v, rfl, ⟨z, rfl, ez⟩, t9⟩ := fw_St_cons hT
  clear hT; have hT := t9; clear t9
  have ez : n = z.toInt := ez
  have hz := fw_clamp z (by omega)
  refine va_newa (atype := .double) (ty := .double) (N' := n.toNat) (a0 := (n.toNat, .inr (.inr (.inr (.inl (fun _ => (0 : UInt64))))))) hC.1 hC.2.1 (hC.2.2.2.2.1 _ (fw_wd 6 195 rfl rfl)) rfl hH.1 hH.2.1 hH.2.2.1 hS (fun q hq => Nat.le_trans hC.2.2.2.2.2.2.2.2.2.2.2.2.1 hq) (fun cA => rfl) ?_ (by omega) ?_ h1 h2 (fw_de' hd) (fun q cA H1 hK1 hP1 hD1 hS1 => ?_)
  · rw [Int32.lt_iff_toInt_lt]
    have : (0 : Int32).toInt = 0 := rfl
    omega
  · show n.toNat * 8 ≤ 536870912
    omega
  · exact kk (tys ++ [(cA, .double)]) _ H1 locs ls _ (fw_H_push hH (List.prefix_append _ _) hK1 hP1 hD1 ⟨tys.length, by simp, by rw [← hH.2.2.2.1]; exact hk, by rw [← hH.2.2.2.1, hn]; omega, by omega, fun j hj => rfl⟩) hS1 fw_al_push (fw_L_mono fw_al_push hL) ⟨fw_vr_new hH.2.2.2.1, fw_St_mono fw_al_push hT⟩
theorem fw_j_newq {k pc : Nat} {ll r : List fw_V} {n : Int} {σ : fw_M} {out : fw_O} (hd : fw_dec k pc = some (.anewarray 9, 3)) (ho : fw_oc k = 6) (hn0 : 0 ≤ n) (hn1 : n ≤ 300) (hk : fw_kd (σ (-1) 0) = 105) (hn : fw_ln (σ (-1) 0) = n) (hJ : fw_J k (pc + 3) ll ((2, σ (-1) 0) :: r) (fw_nw σ n) out) : fw_J k pc ll ((0, n) :: r) σ out := by
  have h9 := fw_kd_lt _ (show fw_kd (σ (-1) 0) ≠ 0 by omega)
  refine fw_jg hJ 1 n.toNat (fw_nw1 (by omega)) (by rw [fw_nw2 (by omega)]; omega) ?_
  intro base b L xs D p l e R s m args below meth c0 Q hC tys ws H locs cells slots ls cst hH hS hL hT h1 h2 kk
  obtain ⟨v, r_v, rfl, ⟨z, rfl, ez⟩, t9⟩ := fw_St_cons hT
  clear hT; have hT := t9; clear t9
  have ez : n = z.toInt := ez
  have hz := fw_clamp z (by omega)
  have hown := hC.2.2.2.1
  rw [ho] at hown
  refine va_newq (C := RX1) (N' := n.toNat) hC.1 hC.2.1 hown (hC.2.2.2.2.1 _ (fw_wd 1 113 rfl rfl)) hC.2.2.2.2.2.2.2.2.2.2.2.1.2.2.2.2 hH.1 hH.2.1 hH.2.2.1 hS (fun q hq => Nat.le_trans hC.2.2.2.2.2.2.2.2.2.2.2.2.1 hq) ?_ (by omega) (by omega) h1 h2 (fw_de' hd) (fun q cA H1 hK1 hP1 hD1 hS1 => ?_)
  · rw [Int32.lt_iff_toInt_lt]
    have : (0 : Int32).toInt = 0 := rfl
    omega
  · exact kk (tys ++ [(cA, .object RX1)]) _ H1 locs ls _ (fw_H_push hH (List.prefix_append _ _) hK1 hP1 hD1 ⟨tys.length, by simp, by rw [← hH.2.2.2.1]; exact hk, by rw [← hH.2.2.2.1, hn]; omega, by omega, fun j hj => Or.inl ⟨rfl, rfl⟩⟩) hS1 fw_al_push (fw_L_mono fw_al_push hL) ⟨fw_vr_new hH.2.2.2.1, fw_St_mono fw_al_push hT⟩
theorem fw_mr_find {o n cal ne : Nat} (h : fw_mr o n = some (cal, ne)) : ∃ q ∈ fw_mrT, q.1 = o ∧ q.2.1 = n ∧ q.2.2.1 = cal ∧ q.2.2.2.1 = ne := by
  unfold fw_mr at h
  obtain ⟨q, hq1, hq2⟩ := Option.map_eq_some_iff.mp h
  have hp := List.find?_some hq1
  simp only [Bool.and_eq_true, beq_iff_eq] at hp
  exact ⟨q, List.mem_of_find?_eq_some hq1, hp.1, hp.2, congrArg Prod.fst hq2, congrArg Prod.snd hq2⟩
theorem fw_mr_m : ∀ q ∈ fw_mrT, (q.2.2.1 = 1000 → (fw_t q.2.2.2.2.1)[q.2.2.2.2.2]? = some (.methodLink (fw_CN q.1) q.2.1 Lib.Math.max.name)) ∧ (q.2.2.1 = 1001 → (fw_t q.2.2.2.2.1)[q.2.2.2.2.2]? = some (.methodLink (fw_CN q.1) q.2.1 Lib.Math.min.name)) ∧ (q.2.2.1 = 1002 → (fw_t q.2.2.2.2.1)[q.2.2.2.2.2]? = some (.methodLink (fw_CN q.1) q.2.1 objectInit)) := by decide +kernel
theorem fw_sum4 {al : List Nat} {b : Nat} {st : List fw_V} {cst : List Value} (h : fw_St al b st cst) (h4 : st.length ≤ 4) : (cst.map fun v => v.category).sum ≤ 8 := by
  have := fw_St_cat h
  omega
theorem fw_j_max {k pc n : Nat} {ll r : List fw_V} {x y : Int} {σ : fw_M} {out : fw_O} (hd : fw_dec k pc = some (.invokestatic n, 3)) (hm : fw_mr (fw_oc k) n = some (1000, 0)) (hr : r.length ≤ 4) (hJ : fw_J k (pc + 3) ll ((0, if x < y then y else x) :: r) σ out) : fw_J k pc ll ((0, y) :: (0, x) :: r) σ out := by
  refine fw_jp hJ ?_
  intro base b L xs D p l e R s m args below meth c0 Q hC tys ws H locs cells slots ls cst hH hS hL hT h1 h2 kk
  obtain ⟨v, r_v, rfl, ⟨z0, rfl, e0⟩, t9⟩ := fw_St_cons hT
  clear hT; have hT := t9; clear t9
  obtain ⟨v1, r_v1, rfl, ⟨z1, rfl, e1⟩, t9⟩ := fw_St_cons hT
  clear hT; have hT := t9; clear t9
  have e0 : y = z0.toInt := e0
  have e1 : x = z1.toInt := e1
  obtain ⟨q, hq, q1, q2, q3, q4⟩ := fw_mr_find hm
  have hl := (fw_mr_m q hq).1 q3
  rw [q1, q2] at hl
  have hsm := fw_sum4 hT hr
  have hfr := hC.2.2.2.2.2.2.2.2.2.1
  have hlo := hC.2.2.2.2.2.2.2.2.2.2.1
  obtain ⟨l9, g1, g2, -⟩ := id hL
  refine va_mmax hC.1 hC.2.1 (by rw [hC.2.2.1]; exact g1.1.symm) hC.2.2.2.1 (hC.2.2.2.2.1 _ (fw_wd _ _ hl rfl)) (hC.2.2.2.2.1 _ (fw_wd 1 91 rfl rfl)) (hC.2.2.2.2.1 _ (fw_wd 1 4 rfl rfl)) (hC.2.2.2.2.1 _ (fw_wd 1 92 rfl rfl)) (by omega) (by omega) h1 h2 (fw_de' hd) ?_
  refine kk ls _ hL ⟨⟨_, rfl, ?_⟩, hT⟩
  show (if x < y then y else x) = _
  rw [e0, e1]
  by_cases q9 : z1 < z0
  · rw [if_pos q9, if_pos (Int32.lt_iff_toInt_lt.mp q9)]
  · rw [if_neg q9, if_neg (fun z => q9 (Int32.lt_iff_toInt_lt.mpr z))]
theorem fw_j_min {k pc n : Nat} {ll r : List fw_V} {x y : Int} {σ : fw_M} {out : fw_O} (hd : fw_dec k pc = some (.invokestatic n, 3)) (hm : fw_mr (fw_oc k) n = some (1001, 0)) (hr : r.length ≤ 4) (hJ : fw_J k (pc + 3) ll ((0, if y < x then y else x) :: r) σ out) : fw_J k pc ll ((0, y) :: (0, x) :: r) σ out := by
  refine fw_jp hJ ?_
  intro base b L xs D p l e R s m args below meth c0 Q hC tys ws H locs cells slots ls cst hH hS hL hT h1 h2 kk
  obtain ⟨v, r_v, rfl, ⟨z0, rfl, e0⟩, t9⟩ := fw_St_cons hT
  clear hT; have hT := t9; clear t9
  obtain ⟨v1, r_v1, rfl, ⟨z1, rfl, e1⟩, t9⟩ := fw_St_cons hT
  clear hT; have hT := t9; clear t9
  have e0 : y = z0.toInt := e0
  have e1 : x = z1.toInt := e1
  obtain ⟨q, hq, q1, q2, q3, q4⟩ := fw_mr_find hm
  have hl := (fw_mr_m q hq).2.1 q3
  rw [q1, q2] at hl
  have hsm := fw_sum4 hT hr
  have hfr := hC.2.2.2.2.2.2.2.2.2.1
  have hlo := hC.2.2.2.2.2.2.2.2.2.2.1
  obtain ⟨l9, g1, g2, -⟩ := id hL
  refine va_mmin hC.1 hC.2.1 (by rw [hC.2.2.1]; exact g1.1.symm) hC.2.2.2.1 (hC.2.2.2.2.1 _ (fw_wd _ _ hl rfl)) (hC.2.2.2.2.1 _ (fw_wd 1 88 rfl rfl)) (hC.2.2.2.2.1 _ (fw_wd 1 4 rfl rfl)) (hC.2.2.2.2.1 _ (fw_wd 1 89 rfl rfl)) (by omega) (by omega) h1 h2 (fw_de' hd) ?_
  refine kk ls _ hL ⟨⟨_, rfl, ?_⟩, hT⟩
  show (if y < x then y else x) = _
  rw [e0, e1]
  by_cases q9 : z0 < z1
  · rw [if_pos q9, if_pos (Int32.lt_iff_toInt_lt.mp q9)]
  · rw [if_neg q9, if_neg (fun z => q9 (Int32.lt_iff_toInt_lt.mpr z))]
theorem fw_j_obj {k pc n : Nat} {ll r : List fw_V} {x : Int} {σ : fw_M} {out : fw_O} (hd : fw_dec k pc = some (.invokespecial n, 3)) (hm : fw_mr (fw_oc k) n = some (1002, 0)) (hx0 : x ≠ 0) (hr : r.length ≤ 4) (hJ : fw_J k (pc + 3) ll r σ out) : fw_J k pc ll ((2, x) :: r) σ out := by
  refine fw_jp hJ ?_
  intro base b L xs D p l e R s m args below meth c0 Q hC tys ws H locs cells slots ls cst hH hS hL hT h1 h2 kk
  obtain ⟨v, r_v, rfl, hv, t9⟩ := fw_St_cons hT
  clear hT; have hT := t9; clear t9
  obtain ⟨q, hq, q1, q2, q3, q4⟩ := fw_mr_find hm
  have hl := (fw_mr_m q hq).2.2 q3
  rw [q1, q2] at hl
  have hsm := fw_sum4 hT hr
  have hfr := hC.2.2.2.2.2.2.2.2.2.1
  have hlo := hC.2.2.2.2.2.2.2.2.2.2.1
  obtain ⟨l9, g1, g2, -⟩ := id hL
  rcases hv with ⟨q9, -⟩ | ⟨i, a, -, -, rfl⟩
  · exact absurd q9 hx0
  · refine W.objInit (rest := r_v) hC.1 hC.2.1 hC.2.2.2.1 (hC.2.2.2.2.1 _ (fw_wd _ _ hl rfl)) (hC.2.2.2.2.1 _ (fw_wd 1 29 rfl rfl)) (hC.2.2.2.2.1 _ (fw_wd 1 30 rfl rfl)) rfl (by rw [hC.2.2.1]; exact g1.1) rfl (fw_de' hd) (by omega) (by show 2 * 0 + _ + 12 ≤ _; omega) ?_
    exact kk ls _ hL hT
