theorem fw_cr_spec {o n c : Nat} (h : fw_cr o n = some c) : Cond.classLink (fw_CN o) n (fw_CN c) ∈ fw_ws ∧ c < 10 := by
  unfold fw_cr at h
  obtain ⟨q, hq1, hq2⟩ := Option.map_eq_some_iff.mp h
  have hm := List.mem_of_find?_eq_some hq1
  have hp := List.find?_some hq1
  simp only [Bool.and_eq_true, beq_iff_eq] at hp
  obtain ⟨g1, g2⟩ := fw_cr_ok q hm
  obtain ⟨hp1, hp2⟩ := hp
  rw [hp1, hp2, hq2] at g1
  rw [hq2] at g2
  exact ⟨fw_wd _ _ g1 rfl, g2⟩
theorem fw_nw1 {σ : fw_M} {n : Int} (h : 1 ≤ σ (-1) 0) : fw_nw σ n (-1) 1 = σ (-1) 1 + 1 := by
  unfold fw_nw
  rw [if_neg (by omega), if_pos rfl, if_neg (by decide), if_pos rfl]
theorem fw_nw2 {σ : fw_M} {n : Int} (h : 1 ≤ σ (-1) 0) : fw_nw σ n (-1) 2 = σ (-1) 2 + n := by
  unfold fw_nw
  rw [if_neg (by omega), if_pos rfl, if_neg (by decide), if_neg (by decide), if_pos rfl]
theorem fw_vr_new {ws : va_W} {a : Nat} {e : va_E} {b : Nat} {x : Int} (h : x = (ws.length : Int) + 1) : fw_vr (fw_al (ws ++ [(a, e)])) b (2, x) (.ref a) := by
  refine Or.inr ⟨ws.length, a, ?_, h, rfl⟩
  unfold fw_al
  rw [List.getElem?_map, List.getElem?_append_right (Nat.le_refl _), Nat.sub_self]
  rfl
theorem fw_al_push {ws : va_W} {q : Nat × va_E} : fw_al ws <+: fw_al (ws ++ [q]) := by unfold fw_al; rw [List.map_append]; exact List.prefix_append _ _
theorem fw_j_new {k pc n c : Nat} {ll st : List fw_V} {σ : fw_M} {out : fw_O} (hd : fw_dec k pc = some (.new n, 3)) (hf : fw_cr (fw_oc k) n = some c) (hk : fw_kd (σ (-1) 0) = (c : Int) + 3) (hJ : fw_J k (pc + 3) ll ((2, σ (-1) 0) :: st) (fw_nw σ (fw_nf c)) out) : fw_J k pc ll st σ out := by
  have h9 := fw_kd_lt _ (show fw_kd (σ (-1) 0) ≠ 0 by omega)
  refine fw_jg hJ 1 (fw_nf c) (fw_nw1 (by omega)) (fw_nw2 (by omega)) ?_
  intro base b L xs D p l e R s m args below meth c0 Q hC tys ws H locs cells slots ls cst hH hS hL hT h1 h2 kk
  obtain ⟨hw, hc⟩ := fw_cr_spec hf
  refine va_new (ci := c + 2) (fs := (List.range (fw_nf c)).map (fun j => defaultValue (fw_ty c j))) (C := fw_CN c) (T := fw_CT c) (N := fw_nf c) hC.1 hC.2.1 hC.2.2.2.2.1 (fw_uw c hc) (fw_ty c) (fw_tyok c hc) hC.2.2.2.1 (hC.2.2.2.2.1 _ hw) (hC.2.2.2.2.1 _ (fw_ins c hc)) (hC.2.2.2.2.1 _ (fw_ini c (by omega))) hH.1 hH.2.1 hH.2.2.1 hS (fun q hq => Nat.le_trans hC.2.2.2.2.2.2.2.2.2.2.2.2.1 hq) (fw_cl c hc) (fun j hj => ?_) h1 h2 (fw_de' hd) (fun q H1 hP1 hD1 hS1 => ?_)
  · unfold vp_V
    simp [List.getD, hj]
  · refine kk tys _ H1 locs ls _ (fw_H_push hH (List.prefix_refl _) hH.1 hP1 hD1 ⟨c, rfl, hc, by rw [← hk, hH.2.2.2.1], by simp, fun j hj => ?_⟩) hS1 fw_al_push (fw_L_mono fw_al_push hL) ⟨fw_vr_new hH.2.2.2.1, fw_St_mono fw_al_push hT⟩
    obtain ⟨k1, k2⟩ := fw_tk_ok c (List.mem_range.mpr hc) j (List.mem_range.mpr hj)
    refine ⟨defaultValue (fw_ty c j), by simp [hj], ?_⟩
    rw [← k1]
    exact fw_dflt k2
theorem fw_j_newa_int {k pc : Nat} {ll r : List fw_V} {n : Int} {σ : fw_M} {out : fw_O} (hd : fw_dec k pc = some (.newarray .int, 2)) (hn0 : 0 ≤ n) (hn1 : n ≤ 300) (hk : fw_kd (σ (-1) 0) = 100) (hn : fw_ln (σ (-1) 0) = n) (hJ : fw_J k (pc + 2) ll ((2, σ (-1) 0) :: r) (fw_nw σ n) out) : fw_J k pc ll ((0, n) :: r) σ out := by
  have h9 := fw_kd_lt _ (show fw_kd (σ (-1) 0) ≠ 0 by omega)
  refine fw_jg hJ 1 n.toNat (fw_nw1 (by omega)) (by rw [fw_nw2 (by omega)]; omega) ?_
  intro base b L xs D p l e R s m args below meth c0 Q hC tys ws H locs cells slots ls cst hH hS hL hT h1 h2 kk
  obtain ⟨v, r_v, rfl, ⟨z, rfl, ez⟩, t9⟩ := fw_St_cons hT
  clear hT; have hT := t9; clear t9
  have ez : n = z.toInt := ez
  have hz := fw_clamp z (by omega)
  refine va_newa (atype := .int) (ty := .int) (N' := n.toNat) (a0 := (n.toNat, .inl (fun _ => (0 : Int32)))) hC.1 hC.2.1 (hC.2.2.2.2.1 _ (fw_wd 1 73 rfl rfl)) rfl hH.1 hH.2.1 hH.2.2.1 hS (fun q hq => Nat.le_trans hC.2.2.2.2.2.2.2.2.2.2.2.2.1 hq) (fun cA => rfl) ?_ (by omega) ?_ h1 h2 (fw_de' hd) (fun q cA H1 hK1 hP1 hD1 hS1 => ?_)
  · rw [Int32.lt_iff_toInt_lt]
    have : (0 : Int32).toInt = 0 := rfl
    omega
  · show n.toNat * 4 ≤ 536870912
    omega
  · exact kk (tys ++ [(cA, .int)]) _ H1 locs ls _ (fw_H_push hH (List.prefix_append _ _) hK1 hP1 hD1 ⟨tys.length, .int, by simp, Or.inl ⟨by rw [← hH.2.2.2.1]; exact hk, rfl⟩, by rw [← hH.2.2.2.1, hn]; omega, by omega, fun j hj => rfl⟩) hS1 fw_al_push (fw_L_mono fw_al_push hL) ⟨fw_vr_new hH.2.2.2.1, fw_St_mono fw_al_push hT⟩
theorem fw_j_newa_char {k pc : Nat} {ll r : List fw_V} {n : Int} {σ : fw_M} {out : fw_O} (hd : fw_dec k pc = some (.newarray .char, 2)) (hn0 : 0 ≤ n) (hn1 : n ≤ 300) (hk : fw_kd (σ (-1) 0) = 101) (hn : fw_ln (σ (-1) 0) = n) (hJ : fw_J k (pc + 2) ll ((2, σ (-1) 0) :: r) (fw_nw σ n) out) : fw_J k pc ll ((0, n) :: r) σ out := by
  have h9 := fw_kd_lt _ (show fw_kd (σ (-1) 0) ≠ 0 by omega)
  refine fw_jg hJ 1 n.toNat (fw_nw1 (by omega)) (by rw [fw_nw2 (by omega)]; omega) ?_
  intro base b L xs D p l e R s m args below meth c0 Q hC tys ws H locs cells slots ls cst hH hS hL hT h1 h2 kk
  obtain ⟨v, r_v, rfl, ⟨z, rfl, ez⟩, t9⟩ := fw_St_cons hT
  clear hT; have hT := t9; clear t9
  have ez : n = z.toInt := ez
  have hz := fw_clamp z (by omega)
  refine va_newa (atype := .char) (ty := .char) (N' := n.toNat) (a0 := (n.toNat, .inl (fun _ => (0 : Int32)))) hC.1 hC.2.1 (hC.2.2.2.2.1 _ (fw_wd 1 74 rfl rfl)) rfl hH.1 hH.2.1 hH.2.2.1 hS (fun q hq => Nat.le_trans hC.2.2.2.2.2.2.2.2.2.2.2.2.1 hq) (fun cA => rfl) ?_ (by omega) ?_ h1 h2 (fw_de' hd) (fun q cA H1 hK1 hP1 hD1 hS1 => ?_)
  · rw [Int32.lt_iff_toInt_lt]
    have : (0 : Int32).toInt = 0 := rfl
    omega
  · show n.toNat * 2 ≤ 536870912
    omega
  · exact kk (tys ++ [(cA, .char)]) _ H1 locs ls _ (fw_H_push hH (List.prefix_append _ _) hK1 hP1 hD1 ⟨tys.length, .char, by simp, Or.inr (Or.inl ⟨by rw [← hH.2.2.2.1]; exact hk, rfl⟩), by rw [← hH.2.2.2.1, hn]; omega, by omega, fun j hj => rfl⟩) hS1 fw_al_push (fw_L_mono fw_al_push hL) ⟨fw_vr_new hH.2.2.2.1, fw_St_mono fw_al_push hT⟩
theorem fw_j_newa_boolean {k pc : Nat} {ll r : List fw_V} {n : Int} {σ : fw_M} {out : fw_O} (hd : fw_dec k pc = some (.newarray .boolean, 2)) (hn0 : 0 ≤ n) (hn1 : n ≤ 300) (hk : fw_kd (σ (-1) 0) = 102) (hn : fw_ln (σ (-1) 0) = n) (hJ : fw_J k (pc + 2) ll ((2, σ (-1) 0) :: r) (fw_nw σ n) out) : fw_J k pc ll ((0, n) :: r) σ out := by
  have h9 := fw_kd_lt _ (show fw_kd (σ (-1) 0) ≠ 0 by omega)
  refine fw_jg hJ 1 n.toNat (fw_nw1 (by omega)) (by rw [fw_nw2 (by omega)]; omega) ?_
  intro base b L xs D p l e R s m args below meth c0 Q hC tys ws H locs cells slots ls cst hH hS hL hT h1 h2 kk
  obtain ⟨v, r_v, rfl, ⟨z, rfl, ez⟩, t9⟩ := fw_St_cons hT
  clear hT; have hT := t9; clear t9
  have ez : n = z.toInt := ez
  have hz := fw_clamp z (by omega)
  refine va_newa (atype := .boolean) (ty := .boolean) (N' := n.toNat) (a0 := (n.toNat, .inl (fun _ => (0 : Int32)))) hC.1 hC.2.1 (hC.2.2.2.2.1 _ (fw_wd 3 196 rfl rfl)) rfl hH.1 hH.2.1 hH.2.2.1 hS (fun q hq => Nat.le_trans hC.2.2.2.2.2.2.2.2.2.2.2.2.1 hq) (fun cA => rfl) ?_ (by omega) ?_ h1 h2 (fw_de' hd) (fun q cA H1 hK1 hP1 hD1 hS1 => ?_)
  · rw [Int32.lt_iff_toInt_lt]
    have : (0 : Int32).toInt = 0 := rfl
    omega
  · show n.toNat * 1 ≤ 536870912
    omega
  · exact kk (tys ++ [(cA, .boolean)]) _ H1 locs ls _ (fw_H_push hH (List.prefix_append _ _) hK1 hP1 hD1 ⟨tys.length, .boolean, by simp, Or.inr (Or.inr ⟨by rw [← hH.2.2.2.1]; exact hk, rfl⟩), by rw [← hH.2.2.2.1, hn]; omega, by omega, fun j hj => rfl⟩) hS1 fw_al_push (fw_L_mono fw_al_push hL) ⟨fw_vr_new hH.2.2.2.1, fw_St_mono fw_al_push hT⟩
theorem fw_j_newq {k pc : Nat} {ll r : List fw_V} {n : Int} {σ : fw_M} {out : fw_O} (hd : fw_dec k pc = some (.anewarray 9, 3)) (ho : fw_oc k = 6) (hn0 : 0 ≤ n) (hn1 : n ≤ 300) (hk : fw_kd (σ (-1) 0) = 105) (hn : fw_ln (σ (-1) 0) = n) (hJ : fw_J k (pc + 3) ll ((2, σ (-1) 0) :: r) (fw_nw σ n) out) : fw_J k pc ll ((0, n) :: r) σ out := by
  have h9 := fw_kd_lt _ (show fw_kd (σ (-1) 0) ≠ 0 by omega)
  refine fw_jg hJ 1 n.toNat (fw_nw1 (by omega)) (by rw [fw_nw2 (by omega)]; omega) ?_
  intro base b L xs D p l e R s m args below meth c0 Q hC tys ws H locs cells slots ls cst hH hS hL hT h1 h2 kk
  obtain ⟨v, r_v, rfl, ⟨z, rfl, ez⟩, t9⟩ := fw_St_cons hT
  clear hT; have hT := t9; clear t9
  have ez : n = z.toInt := ez
  have hz := fw_clamp z (by omega)
  have hown := hC.2.2.2.1
  rw [ho] at hown
  refine va_newq (C := RX1) (N' := n.toNat) hC.1 hC.2.1 hown (hC.2.2.2.2.1 _ (fw_wd 1 111 rfl rfl)) hC.2.2.2.2.2.2.2.2.2.2.2.1.2.2.2.2.1 hH.1 hH.2.1 hH.2.2.1 hS (fun q hq => Nat.le_trans hC.2.2.2.2.2.2.2.2.2.2.2.2.1 hq) ?_ (by omega) (by omega) h1 h2 (fw_de' hd) (fun q cA H1 hK1 hP1 hD1 hS1 => ?_)
  · rw [Int32.lt_iff_toInt_lt]
    have : (0 : Int32).toInt = 0 := rfl
    omega
  · exact kk (tys ++ [(cA, .object RX1)]) _ H1 locs ls _ (fw_H_push hH (List.prefix_append _ _) hK1 hP1 hD1 ⟨tys.length, .object RX1, by simp, Or.inl ⟨by rw [← hH.2.2.2.1]; exact hk, rfl⟩, by rw [← hH.2.2.2.1, hn]; omega, by omega, fun j hj => Or.inl ⟨rfl, rfl⟩⟩) hS1 fw_al_push (fw_L_mono fw_al_push hL) ⟨fw_vr_new hH.2.2.2.1, fw_St_mono fw_al_push hT⟩
/-- the cells as they lie behind new int[6][30] -/
theorem fw_mn_lo (σ : fw_M) {a : Int} (j : Int) (h : (0 ≤ a ∧ a < 37) ∨ 43 < a) : fw_mn σ a j = σ a j := by
  unfold fw_mn
  rw [if_neg (by omega), if_neg (by omega), if_neg (by omega)]
theorem fw_mn_sc (σ : fw_M) {a : Int} (j : Int) (h : a < -1) : fw_mn σ a j = σ a j := by
  unfold fw_mn
  rw [if_neg (by omega), if_neg (by omega), if_neg (by omega)]
theorem fw_j_mna {k pc : Nat} {ll : List fw_V} {z : Int} {σ : fw_M} {out : fw_O} (hd : fw_dec k pc = some (.multianewarray 23 2, 4)) (ho : fw_oc k = 9) (h37 : σ (-1) 0 = 37) (hJ : fw_J k (pc + 4) ll [(2, 37), (2, z)] (fw_mn σ) out) : fw_J k pc ll [(0, 30), (0, 6), (2, z)] σ out := by
  refine fw_jg hJ 7 186 (by show fw_mn σ (-1) 1 = _; unfold fw_mn; rw [if_neg (by decide), if_neg (by decide), if_pos rfl, if_neg (by decide), if_pos rfl]; rfl) (by show fw_mn σ (-1) 2 = _; unfold fw_mn; rw [if_neg (by decide), if_neg (by decide), if_pos rfl, if_neg (by decide), if_neg (by decide), if_pos rfl]; rfl) ?_
  intro base b L xs D p l e R s m args below meth c0 Q hC tys ws H locs cells slots ls cst hH hS hL hT h1 h2 kk
  obtain ⟨v, r_v, rfl, ⟨z0, rfl, ez⟩, t9⟩ := fw_St_cons hT
  clear hT; have hT := t9; clear t9
  obtain ⟨v1, r_v1, rfl, ⟨z1, rfl, ez1⟩, t9⟩ := fw_St_cons hT
  clear hT; have hT := t9; clear t9
  obtain ⟨v2, r_v2, rfl, hv2, t9⟩ := fw_St_cons hT
  clear hT; have hT := t9; clear t9
  have ez : (30 : Int) = z0.toInt := ez
  have ez1 : (6 : Int) = z1.toInt := ez1
  have e0 : z0 = 30 := Int32.toInt_inj.mp (by rw [← ez]; rfl)
  have e1 : z1 = 6 := Int32.toInt_inj.mp (by rw [← ez1]; rfl)
  subst e0
  subst e1
  have hr0 := fw_St_nil hT
  subst hr0
  have hown := hC.2.2.2.1
  rw [ho] at hown
  have hlen : ws.length = 36 := by have := hH.2.2.2.1; omega
  obtain ⟨t3, cI, t4, -⟩ : ∃ (t0 : Nat) (cI : ClassId), tys[t0]? = some (cI, FieldType.int) ∧ True := by
    have h2 : (2 : Nat) < ws.length := by omega
    obtain ⟨q, hq⟩ : ∃ q, ws[2]? = some q := ⟨ws[2], List.getElem?_eq_getElem h2⟩
    have he := hH.2.2.2.2.1 2 q hq
    obtain ⟨cA, n, f, t0, ty, -, g1, g2, -⟩ := fw_arI (a := ((2 : Nat) : Int) + 1) he (Or.inl rfl)
    rcases g2 with ⟨-, rfl⟩ | ⟨q9, -⟩ | ⟨q9, -⟩
    · exact ⟨t0, cA, g1, trivial⟩
    · exact absurd q9 (by decide)
    · exact absurd q9 (by decide)
  have hcy : s.vm.findClass (FieldType.array .int).toString = some cI := (hH.1.2 t3 _ t4).2
  have hPw : va_P D fw_Cl (ws ++ va_pl [] (fun _ => .inl (cI, 0, .inl (fun _ => 0)))) H := by
    show va_P D fw_Cl (ws ++ []) H
    rw [List.append_nil]
    exact hH.2.1
  have hDw : va_D (fun q => base ≤ q) (ws ++ va_pl [] (fun _ => .inl (cI, 0, .inl (fun _ => 0)))) := by
    show va_D _ (ws ++ [])
    rw [List.append_nil]
    exact hH.2.2.1
  refine va_mna (n := 6) (k := 30) (N' := 6) (K' := 30) (ty := .int) (cy := cI) (z := (30, .inl (fun _ => (0 : Int32)))) hC.1 hC.2.1 hown (hC.2.2.2.2.1 _ (fw_wd 3 105 rfl rfl)) hC.2.2.2.2.2.2.2.2.2.2.2.1.2.2.2.2.2 (hC.2.2.2.2.1 _ (fw_wd 1 73 rfl rfl)) hcy hH.1 hPw hDw hS (fun q hq => Nat.le_trans hC.2.2.2.2.2.2.2.2.2.2.2.2.1 hq) (by decide) (by decide) (by decide) (by decide) (by decide) (by decide) (by decide) rfl rfl (by omega) (by omega) (fun c9 => ?_) (fw_de' hd) (fun q r cA H1 hinj hrn hK1 hP1 hD1 hS1 => ?_)
  · rw [vp_cell_i, ← arrV_new]; rfl
  · have hws : (ws ++ [(q, (.inl (cA, 6, .inr (.inr (.inr (.inr (fun i => if i < 6 then some (r i) else none))))) : va_E))]) ++ va_pl ([] ++ (List.range 6).map r) (vr_up (fun _ => .inl (cI, 0, .inl (fun _ => 0))) ((List.range 6).map r) (.inl (cI, (30, .inl (fun _ => (0 : Int32)))))) = (ws ++ [(q, (.inl (cA, 6, .inr (.inr (.inr (.inr (fun i => if i < 6 then some (r i) else none))))) : va_E))]) ++ (List.range 6).map (fun i => (r i, (.inl (cI, (30, .inl (fun _ => (0 : Int32)))) : va_E))) := by
      congr 1
      unfold va_pl
      rw [List.nil_append, List.map_map]
      refine List.map_congr_left (fun i hi => ?_)
      show (r i, vr_up _ _ _ (r i)) = _
      rw [vr_up_in (List.mem_map_of_mem hi)]
    rw [hws] at hP1 hD1
    clear hws
    generalize hrows : (List.range 6).map (fun i => (r i, (.inl (cI, (30, .inl (fun _ => (0 : Int32)))) : va_E))) = rows at hP1 hD1
    have hrl : rows.length = 6 := by rw [← hrows, List.length_map, List.length_range]
    have hra : ∀ i : Nat, i < 6 → rows[i]? = some (r i, (.inl (cI, (30, .inl (fun _ => (0 : Int32)))) : va_E)) := fun i hi => by
      rw [← hrows, List.getElem?_map, List.getElem?_range hi]; rfl
    have hpre : fw_al ws <+: fw_al ((ws ++ [(q, (.inl (cA, 6, .inr (.inr (.inr (.inr (fun i => if i < 6 then some (r i) else none))))) : va_E))]) ++ rows) := by
      unfold fw_al
      rw [List.map_append, List.map_append, List.append_assoc]
      exact List.prefix_append _ _
    have hal36 : (fw_al ((ws ++ [(q, (.inl (cA, 6, .inr (.inr (.inr (.inr (fun i => if i < 6 then some (r i) else none))))) : va_E))]) ++ rows))[36]? = some q := by
      unfold fw_al
      rw [List.map_append, List.map_append, List.append_assoc, List.getElem?_append_right (by rw [List.length_map]; omega), List.length_map, hlen]
      rfl
    have hali : ∀ i : Nat, i < 6 → (fw_al ((ws ++ [(q, (.inl (cA, 6, .inr (.inr (.inr (.inr (fun i => if i < 6 then some (r i) else none))))) : va_E))]) ++ rows))[37 + i]? = some (r i) := fun i hi => by
      unfold fw_al
      rw [List.map_append, List.getElem?_append_right (by rw [List.length_map, List.length_append, List.length_singleton]; omega), List.length_map, List.length_append, List.length_singleton, hlen, show 37 + i - (36 + 1) = i by omega, List.getElem?_map, hra i hi]
      rfl
    obtain ⟨b1, b2, b3, b4, b5, b6, b7⟩ := hH
    have hHn : fw_H base b L xs D (fw_mn σ) (tys ++ [(cA, .array .int)]) ((ws ++ [(q, (.inl (cA, 6, .inr (.inr (.inr (.inr (fun i => if i < 6 then some (r i) else none))))) : va_E))]) ++ rows) s H1 := by
      refine ⟨hK1, hP1, hD1, ?_, fun k9 q9 hq9 => ?_, by rw [fw_mn_sc _ _ (by decide)]; exact b6, fun i hi => by rw [fw_mn_sc _ _ (by decide)]; exact b7 i hi⟩
      · rw [List.length_append, List.length_append, List.length_singleton, hlen, hrl]
        unfold fw_mn
        rw [if_neg (by decide), if_neg (by decide), if_pos rfl, if_pos rfl]
        rfl
      · by_cases h1 : k9 < 36
        · rw [List.append_assoc, List.getElem?_append_left (by omega)] at hq9
          exact fw_er_mono hpre (List.prefix_append _ _) (fun j => fw_mn_lo σ j (Or.inl ⟨by omega, by omega⟩)) (b5 k9 q9 hq9)
        · by_cases h2 : k9 = 36
          · subst h2
            rw [List.append_assoc, List.getElem?_append_right (by omega), hlen] at hq9
            cases hq9
            refine ⟨tys.length, .array .int, by simp, Or.inr ⟨rfl, rfl⟩, rfl, by decide, fun j hj => ?_⟩
            show fw_vr _ _ _ (va_rf (if j < 6 then some (r j) else none))
            rw [if_pos hj]
            refine Or.inr ⟨37 + j, r j, hali j hj, ?_, rfl⟩
            show fw_mn σ 37 (j : Int) = _
            unfold fw_mn
            rw [if_pos rfl, if_pos ⟨by omega, by omega⟩]
            omega
          · have h3 : k9 - 37 < 6 := by
              have := (List.getElem?_eq_some_iff.mp hq9).1
              rw [List.length_append, List.length_append, List.length_singleton, hlen, hrl] at this
              omega
            rw [List.getElem?_append_right (by rw [List.length_append, List.length_singleton]; omega), List.length_append, List.length_singleton, hlen, hra _ h3] at hq9
            cases hq9
            have kd9 : fw_kd ((k9 : Int) + 1) = 100 := by
              obtain ⟨i, hi, rfl⟩ : ∃ i, i < 6 ∧ k9 = 37 + i := ⟨k9 - 37, h3, by omega⟩
              match i, hi with
              | 0, _ => rfl
              | 1, _ => rfl
              | 2, _ => rfl
              | 3, _ => rfl
              | 4, _ => rfl
              | 5, _ => rfl
            have ln9 : fw_ln ((k9 : Int) + 1) = 30 := by
              obtain ⟨i, hi, rfl⟩ : ∃ i, i < 6 ∧ k9 = 37 + i := ⟨k9 - 37, h3, by omega⟩
              match i, hi with
              | 0, _ => rfl
              | 1, _ => rfl
              | 2, _ => rfl
              | 3, _ => rfl
              | 4, _ => rfl
              | 5, _ => rfl
            refine ⟨t3, .int, by rw [List.getElem?_append_left (List.getElem?_eq_some_iff.mp t4).1]; exact t4, Or.inl ⟨kd9, rfl⟩, ln9, by decide, fun j hj => ?_⟩
            show fw_mn σ _ _ = _
            unfold fw_mn
            rw [if_neg (by omega), if_pos ⟨by omega, by omega⟩]
            rfl
    exact kk (tys ++ [(cA, .array .int)]) _ H1 locs ls _ hHn hS1 hpre (fw_L_mono hpre hL) ⟨Or.inr ⟨36, q, hal36, rfl, rfl⟩, fw_vr_mono hpre hv2, trivial⟩
theorem fw_mr_find {o n cal ne : Nat} (h : fw_mr o n = some (cal, ne)) : ∃ q ∈ fw_mrT, q.1 = o ∧ q.2.1 = n ∧ q.2.2.1 = cal ∧ q.2.2.2.1 = ne := by
  unfold fw_mr at h
  obtain ⟨q, hq1, hq2⟩ := Option.map_eq_some_iff.mp h
  have hp := List.find?_some hq1
  simp only [Bool.and_eq_true, beq_iff_eq] at hp
  exact ⟨q, List.mem_of_find?_eq_some hq1, hp.1, hp.2, congrArg Prod.fst hq2, congrArg Prod.snd hq2⟩
theorem fw_mr_m : ∀ q ∈ fw_mrT, (q.2.2.1 = 1000 → (fw_t q.2.2.2.2.1)[q.2.2.2.2.2]? = some (.methodLink (fw_CN q.1) q.2.1 Lib.Math.max.name)) ∧ (q.2.2.1 = 1001 → (fw_t q.2.2.2.2.1)[q.2.2.2.2.2]? = some (.methodLink (fw_CN q.1) q.2.1 Lib.Math.min.name)) ∧ (q.2.2.1 = 1002 → (fw_t q.2.2.2.2.1)[q.2.2.2.2.2]? = some (.methodLink (fw_CN q.1) q.2.1 objectInit)) := by decide +kernel
theorem fw_sum4 {al : List Nat} {b : Nat} {st : List fw_V} {cst : List Value} (h : fw_St al b st cst) (h4 : st.length ≤ 4) : (cst.map fun v => v.category).sum ≤ 8 := by
  have := fw_St_cat h
  omega
theorem fw_j_max {k pc n : Nat} {ll r : List fw_V} {x y : Int} {σ : fw_M} {out : fw_O} (hd : fw_dec k pc = some (.invokestatic n, 3)) (hm : fw_mr (fw_oc k) n = some (1000, 0)) (hr : r.length ≤ 4) (hJ : fw_J k (pc + 3) ll ((0, if x < y then y else x) :: r) σ out) : fw_J k pc ll ((0, y) :: (0, x) :: r) σ out := by
  refine fw_jp hJ ?_
  intro base b L xs D p l e R s m args below meth c0 Q hC tys ws H locs cells slots ls cst hH hS hL hT h1 h2 kk
  obtain ⟨v, r_v, rfl, ⟨z0, rfl, e0⟩, t9⟩ := fw_St_cons hT
  clear hT; have hT := t9; clear t9
  obtain ⟨v1, r_v1, rfl, ⟨z1, rfl, e1⟩, t9⟩ := fw_St_cons hT
  clear hT; have hT := t9; clear t9
  have e0 : y = z0.toInt := e0
  have e1 : x = z1.toInt := e1
  obtain ⟨q, hq, q1, q2, q3, q4⟩ := fw_mr_find hm
  have hl := (fw_mr_m q hq).1 q3
  rw [q1, q2] at hl
  have hsm := fw_sum4 hT hr
  have hfr := hC.2.2.2.2.2.2.2.2.2.1
  have hlo := hC.2.2.2.2.2.2.2.2.2.2.1
  obtain ⟨l9, g1, g2, -⟩ := id hL
  refine va_mmax hC.1 hC.2.1 (by rw [hC.2.2.1]; exact g1.1.symm) hC.2.2.2.1 (hC.2.2.2.2.1 _ (fw_wd _ _ hl rfl)) (hC.2.2.2.2.1 _ (fw_wd 1 89 rfl rfl)) (hC.2.2.2.2.1 _ (fw_wd 1 4 rfl rfl)) (hC.2.2.2.2.1 _ (fw_wd 1 90 rfl rfl)) (by omega) (by omega) h1 h2 (fw_de' hd) ?_
  refine kk ls _ hL ⟨⟨_, rfl, ?_⟩, hT⟩
  show (if x < y then y else x) = _
  rw [e0, e1]
  by_cases q9 : z1 < z0
  · rw [if_pos q9, if_pos (Int32.lt_iff_toInt_lt.mp q9)]
  · rw [if_neg q9, if_neg (fun z => q9 (Int32.lt_iff_toInt_lt.mpr z))]
theorem fw_j_min {k pc n : Nat} {ll r : List fw_V} {x y : Int} {σ : fw_M} {out : fw_O} (hd : fw_dec k pc = some (.invokestatic n, 3)) (hm : fw_mr (fw_oc k) n = some (1001, 0)) (hr : r.length ≤ 4) (hJ : fw_J k (pc + 3) ll ((0, if y < x then y else x) :: r) σ out) : fw_J k pc ll ((0, y) :: (0, x) :: r) σ out := by
  refine fw_jp hJ ?_
  intro base b L xs D p l e R s m args below meth c0 Q hC tys ws H locs cells slots ls cst hH hS hL hT h1 h2 kk
  obtain ⟨v, r_v, rfl, ⟨z0, rfl, e0⟩, t9⟩ := fw_St_cons hT
  clear hT; have hT := t9; clear t9
  obtain ⟨v1, r_v1, rfl, ⟨z1, rfl, e1⟩, t9⟩ := fw_St_cons hT
  clear hT; have hT := t9; clear t9
  have e0 : y = z0.toInt := e0
  have e1 : x = z1.toInt := e1
  obtain ⟨q, hq, q1, q2, q3, q4⟩ := fw_mr_find hm
  have hl := (fw_mr_m q hq).2.1 q3
  rw [q1, q2] at hl
  have hsm := fw_sum4 hT hr
  have hfr := hC.2.2.2.2.2.2.2.2.2.1
  have hlo := hC.2.2.2.2.2.2.2.2.2.2.1
  obtain ⟨l9, g1, g2, -⟩ := id hL
  refine va_mmin hC.1 hC.2.1 (by rw [hC.2.2.1]; exact g1.1.symm) hC.2.2.2.1 (hC.2.2.2.2.1 _ (fw_wd _ _ hl rfl)) (hC.2.2.2.2.1 _ (fw_wd 1 86 rfl rfl)) (hC.2.2.2.2.1 _ (fw_wd 1 4 rfl rfl)) (hC.2.2.2.2.1 _ (fw_wd 1 87 rfl rfl)) (by omega) (by omega) h1 h2 (fw_de' hd) ?_
  refine kk ls _ hL ⟨⟨_, rfl, ?_⟩, hT⟩
  show (if y < x then y else x) = _
  rw [e0, e1]
  by_cases q9 : z0 < z1
  · rw [if_pos q9, if_pos (Int32.lt_iff_toInt_lt.mp q9)]
  · rw [if_neg q9, if_neg (fun z => q9 (Int32.lt_iff_toInt_lt.mpr z))]
theorem fw_j_obj {k pc n : Nat} {ll r : List fw_V} {x : Int} {σ : fw_M} {out : fw_O} (hd : fw_dec k pc = some (.invokespecial n, 3)) (hm : fw_mr (fw_oc k) n = some (1002, 0)) (hx0 : x ≠ 0) (hr : r.length ≤ 4) (hJ : fw_J k (pc + 3) ll r σ out) : fw_J k pc ll ((2, x) :: r) σ out := by
  refine fw_jp hJ ?_
  intro base b L xs D p l e R s m args below meth c0 Q hC tys ws H locs cells slots ls cst hH hS hL hT h1 h2 kk
  obtain ⟨v, r_v, rfl, hv, t9⟩ := fw_St_cons hT
  clear hT; have hT := t9; clear t9
  obtain ⟨q, hq, q1, q2, q3, q4⟩ := fw_mr_find hm
  have hl := (fw_mr_m q hq).2.2 q3
  rw [q1, q2] at hl
  have hsm := fw_sum4 hT hr
  have hfr := hC.2.2.2.2.2.2.2.2.2.1
  have hlo := hC.2.2.2.2.2.2.2.2.2.2.1
  obtain ⟨l9, g1, g2, -⟩ := id hL
  rcases hv with ⟨q9, -⟩ | ⟨i, a, -, -, rfl⟩
  · exact absurd q9 hx0
  · refine W.objInit (rest := r_v) hC.1 hC.2.1 hC.2.2.2.1 (hC.2.2.2.2.1 _ (fw_wd _ _ hl rfl)) (hC.2.2.2.2.1 _ (fw_wd 1 27 rfl rfl)) (hC.2.2.2.2.1 _ (fw_wd 1 28 rfl rfl)) rfl (by rw [hC.2.2.1]; exact g1.1) rfl (fw_de' hd) (by omega) (by show 2 * 0 + _ + 12 ≤ _; omega) ?_
    exact kk ls _ hL hT
