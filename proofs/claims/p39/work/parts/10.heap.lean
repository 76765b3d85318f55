theorem fw_fn_10 : ∀ q ∈ fw_fnT, q.1 = 10 := by decide +kernel
theorem fw_fr_spec {o n c j : Nat} (h : fw_fr o n = some (c, j)) : (Cond.fieldLink (fw_CN o) n (fw_CN c) (fw_CT c j).2.1 (fw_CT c j).2.2.1 ∈ fw_ws ∨ (o = 10 ∧ Cond.fieldLinkNest (fw_CN o) n (fw_CN c) (fw_CT c j).2.1 (fw_CT c j).2.2.1 (fw_CN 10) ∈ fw_nz)) ∧ j < fw_nf c ∧ c < 10 ∧ (fw_CT c j).1 = fw_CN c := by
  unfold fw_fr at h
  obtain ⟨q, hq1, hq2⟩ := Option.map_eq_some_iff.mp h
  have hm := List.mem_of_find?_eq_some hq1
  have hp := List.find?_some hq1
  simp only [Bool.and_eq_true, beq_iff_eq] at hp
  obtain ⟨hp1, hp2⟩ := hp
  have e1 : q.2.2.1 = c := congrArg Prod.fst hq2
  have e2 : q.2.2.2.1 = j := congrArg Prod.snd hq2
  rcases List.mem_append.mp hm with hm | hm
  · obtain ⟨g1, g2, g3, g4⟩ := fw_fr_ok q hm
    rw [hp1, hp2, e1, e2] at g1
    rw [e1, e2] at g2
    rw [e1] at g3
    rw [e1, e2] at g4
    exact ⟨Or.inl (fw_wd _ _ g1 rfl), g2, g3, g4⟩
  · obtain ⟨g1, g2, g3, g4⟩ := fw_fn_ok q hm
    have g5 := fw_fn_10 q hm
    rw [e1, e2] at g2
    rw [e1] at g3
    rw [e1, e2] at g4
    refine ⟨Or.inr ⟨by rw [← hp1]; exact g5, List.mem_append_right _ (List.mem_map.mpr ⟨q, hm, ?_⟩)⟩, g2, g3, g4⟩
    rw [hp1, hp2, e1, e2]
def fw_tk (t : FieldType) : Nat := match t with
  | .int => 0
  | .long => 1
  | .object _ => 2
  | .array _ => 2
  | .boolean => 10
  | _ => 99
theorem fw_tk_ok : ∀ c ∈ List.range 10, ∀ j ∈ List.range (fw_nf c), fw_tk (fw_ty c j) = fw_fk c j ∧ fw_tk (fw_ty c j) ≠ 99 := by decide +kernel
theorem fw_nar {ty : FieldType} {al : List Nat} {b : Nat} {x : Int} {v : Value} (h : fw_vr al b (fw_tg (fw_tk ty), x) v) (hb : fw_tk ty = 10 → x = 0 ∨ x = 1) (h9 : fw_tk ty ≠ 99) : narrow ty v = v ∧ fits ty v = true := by
  cases ty with
  | int => obtain ⟨z, rfl, -⟩ := h; exact ⟨rfl, rfl⟩
  | long => obtain ⟨z, rfl, -⟩ := h; exact ⟨rfl, rfl⟩
  | object C => rcases h with ⟨-, rfl⟩ | ⟨i, a, -, -, rfl⟩ <;> exact ⟨rfl, rfl⟩
  | array t => rcases h with ⟨-, rfl⟩ | ⟨i, a, -, -, rfl⟩ <;> exact ⟨rfl, rfl⟩
  | boolean =>
    obtain ⟨z, rfl, ez⟩ := h
    have ez : x = z.toInt := ez
    rcases hb rfl with q | q
    · have : z = 0 := Int32.toInt_inj.mp (by rw [← ez, q]; rfl)
      subst this
      exact ⟨by decide, by decide⟩
    · have : z = 1 := Int32.toInt_inj.mp (by rw [← ez, q]; rfl)
      subst this
      exact ⟨by decide, by decide⟩
  | byte => exact absurd rfl h9
  | char => exact absurd rfl h9
  | short => exact absurd rfl h9
  | float => exact absurd rfl h9
  | double => exact absurd rfl h9
theorem fw_dflt {ty : FieldType} {al : List Nat} {b : Nat} (h9 : fw_tk ty ≠ 99) : fw_vr al b (fw_tg (fw_tk ty), 0) (defaultValue ty) := by
  cases ty with
  | int => exact ⟨0, rfl, rfl⟩
  | long => exact ⟨0, rfl, rfl⟩
  | object C => exact Or.inl ⟨rfl, rfl⟩
  | array t => exact Or.inl ⟨rfl, rfl⟩
  | boolean => exact ⟨0, rfl, rfl⟩
  | byte => exact absurd rfl h9
  | char => exact absurd rfl h9
  | short => exact absurd rfl h9
  | float => exact absurd rfl h9
  | double => exact absurd rfl h9
/-- the object behind a reference of a known class -/
theorem fw_obj {al : List Nat} {b : Nat} {tys : List (ClassId × FieldType)} {σ : fw_M} {a : Int} {e : va_E} {c : Nat} (h : fw_er al b tys σ a e) (hk : fw_kd a = (c : Int) + 3) (hc : c < 10) : ∃ fs : List Value, e = .inr (c + 2, fs) ∧ fs.length = fw_nf c ∧ ∀ j : Nat, j < fw_nf c → ∃ v, fs[j]? = some v ∧ fw_vr al b (fw_tg (fw_fk c j), σ a (j : Int)) v := by
  match e, h with
  | .inr (ci, fs), ⟨c', h1, h2, h3, h4, h5⟩ =>
    have : c' = c := by omega
    subst this
    exact ⟨fs, by rw [h1], h4, h5⟩
  | .inl (cA, n, .inl f), ⟨t0, ty, g1, g2, g3⟩ => omega
  | .inl (cA, n, .inr (.inl f)), ⟨t0, g1, g2, g3⟩ => omega
  | .inl (cA, n, .inr (.inr (.inr (.inl f)))), ⟨t0, g1, g2, g3⟩ => omega
  | .inl (cA, n, .inr (.inr (.inr (.inr f)))), ⟨t0, ty, g1, g2, g3⟩ => omega
theorem fw_kd_lt (a : Int) (h : fw_kd a ≠ 0) : 0 < a := by
  unfold fw_kd at h
  split at h
  · exact absurd rfl h
  · omega
theorem fw_clamp (z : Int32) (h : 0 ≤ z.toInt) : ((z.toNatClampNeg : Nat) : Int) = z.toInt := by
  show ((z.toInt.toNat : Nat) : Int) = z.toInt
  omega
theorem fw_j_get {k pc n c j : Nat} {ll r : List fw_V} {a : Int} {σ : fw_M} {out : fw_O} (hd : fw_dec k pc = some (.getfield n, 3)) (hf : fw_fr (fw_oc k) n = some (c, j)) (hk : fw_kd a = (c : Int) + 3) (hJ : fw_J k (pc + 3) ll ((fw_tg (fw_fk c j), σ a (j : Int)) :: r) σ out) : fw_J k pc ll ((2, a) :: r) σ out := by
  refine fw_jp hJ ?_
  intro base b L xs D p l e R s m args below meth c0 Q hC tys ws H locs cells slots ls cst hH hS hL hT h1 h2 kk
  obtain ⟨hw, hj, hc, hdecl⟩ := fw_fr_spec hf
  obtain ⟨v, r_v, rfl, hv, t9⟩ := fw_St_cons hT
  clear hT; have hT := t9; clear t9
  obtain ⟨q0, a0, ent, hp, ea, rfl, he⟩ := fw_H_at hH hv (by omega)
  obtain ⟨fs, rfl, hlen, hfs⟩ := fw_obj he hk hc
  obtain ⟨v, hv1, hv2⟩ := hfs j hj
  rcases hw with hw | ⟨-, hw⟩
  · refine va_get (D := D) (ci := c + 2) (v := v) (C := fw_CN c) (T := fw_CT c) (N := fw_nf c) hC.1 hC.2.1 hC.2.2.2.2.1 (fw_uw c hc) hC.2.2.2.1 hH.1 hH.2.1 q0 hp (fw_cl c hc) j hj (hC.2.2.2.2.1 _ hw) (fun x hx => by rw [← hdecl]; exact hx) hv1 (fw_de' hd) ?_
    exact kk ls _ hL ⟨hv2, hT⟩
  · refine va_getN (D := D) (ci := c + 2) (v := v) (C := fw_CN c) (T := fw_CT c) (N := fw_nf c) hC.1 hC.2.1 hC.2.2.2.2.1 (fw_uw c hc) hC.2.2.2.1 hH.1 hH.2.1 q0 hp (fw_cl c hc) j hj (va_Nw.use rfl (hC.2.2.2.2.2.2.2.2.2.2.2.1.2.2.1 _ hw)) (fun x hx => by rw [← hdecl]; exact hx) hv1 (fw_de' hd) ?_
    exact kk ls _ hL ⟨hv2, hT⟩
theorem fw_j_put {k pc n c j t : Nat} {ll r : List fw_V} {a v : Int} {σ : fw_M} {out : fw_O} (hd : fw_dec k pc = some (.putfield n, 3)) (hf : fw_fr (fw_oc k) n = some (c, j)) (hk : fw_kd a = (c : Int) + 3) (ht : t = fw_tg (fw_fk c j)) (hb : fw_fk c j = 10 → v = 0 ∨ v = 1)
    (hfin : (fw_CT c j).2.2.2 = true → fw_ki k = 2 ∧ fw_oc k = c) (hJ : fw_J k (pc + 3) ll r (fw_u σ a (j : Int) v) out) : fw_J k pc ll ((t, v) :: (2, a) :: r) σ out := by
  subst ht
  have ha9 := fw_kd_lt a (by omega)
  refine fw_jg hJ 0 0 (by rw [fw_u_ne (by omega)]; exact (Int.add_zero _).symm) (by rw [fw_u_ne (by omega)]; exact (Int.add_zero _).symm) ?_
  intro base b L xs D p l e R s m args below meth c0 Q hC tys ws H locs cells slots ls cst hH hS hL hT h1 h2 kk
  obtain ⟨hw, hj, hc, hdecl⟩ := fw_fr_spec hf
  obtain ⟨w, r_w, rfl, hw1, t9⟩ := fw_St_cons hT
  clear hT; have hT := t9; clear t9
  obtain ⟨v1, r_v1, rfl, hv, t9⟩ := fw_St_cons hT
  clear hT; have hT := t9; clear t9
  obtain ⟨q0, a0, ent, hp, ea, rfl, he⟩ := fw_H_at hH hv (by omega)
  obtain ⟨fs, rfl, hlen, hfs⟩ := fw_obj he hk hc
  have hal := fw_al_set (e := .inr (c + 2, fs.set j w)) hp
  obtain ⟨k1, k2⟩ := fw_tk_ok c (List.mem_range.mpr hc) j (List.mem_range.mpr hj)
  obtain ⟨n1, n2⟩ := fw_nar (ty := fw_ty c j) (v := w) (by rw [k1]; exact hw1) (by rw [k1]; exact hb) k2
  have hend : ∀ (H1 : Heap) (locs1 : List Loc), va_P D fw_Cl (ws.set q0 (a0, .inr (c + 2, fs.set j w))) H1 → va_D (fun q => base ≤ q) (ws.set q0 (a0, .inr (c + 2, fs.set j w))) → va_S (fun q => base ≤ q) s.heap H1 locs1 → W p l e R s m args below meth c0 H1 locs1 cells slots Q (F0 m (pc + 3) ls r_v1) := by
    intro H1 locs1 hP1 hD1 hS1
    refine kk tys _ H1 locs1 ls r_v1 ?_ hS1 (by rw [hal]; exact List.prefix_refl _) (by rw [hal]; exact hL) (by rw [hal]; exact hT)
    rw [ea]
    refine fw_H_set hH hp ⟨c, rfl, hc, by rw [← ea]; exact hk, by rw [List.length_set]; exact hlen, fun i hi => ?_⟩ hP1 hD1
    by_cases hij : i = j
    · subst hij
      refine ⟨w, List.getElem?_set_self (by omega), ?_⟩
      rw [fw_u_s]
      exact hw1
    · obtain ⟨v2, g1, g2⟩ := hfs i hi
      refine ⟨v2, by rw [List.getElem?_set_ne (Ne.symm hij)]; exact g1, ?_⟩
      rw [fw_u_nj (by omega), ← ea]
      exact g2
  rcases hw with hw | ⟨ho10, hw⟩
  rotate_left
  · have hfn : (fw_CT c j).2.2.2 = false := by
      cases hfn : (fw_CT c j).2.2.2 with
      | false => rfl
      | true =>
        have := (hfin hfn).2
        omega
    exact va_putN (D := D) (ci := c + 2) (v := w) (ty := fw_ty c j) (C := fw_CN c) (T := fw_CT c) (N := fw_nf c) hC.1 hC.2.1 hC.2.2.2.2.1 (fw_uw c hc) (fw_ty c) (fw_tyok c hc) (fw_nmok c hc) hC.2.2.2.1 hH.1 hH.2.1 hH.2.2.1 hS q0 hp (fw_cl c hc) j hj (va_Nw.use rfl (hC.2.2.2.2.2.2.2.2.2.2.2.1.2.2.1 _ hw)) (fun x hx => by rw [← hdecl]; exact hx) hfn (fw_tyok c hc j hj) n1 n2 (by omega) (fw_de' hd) hend
  cases hfn : (fw_CT c j).2.2.2 with
  | false => exact va_put (D := D) (ci := c + 2) (v := w) (ty := fw_ty c j) (C := fw_CN c) (T := fw_CT c) (N := fw_nf c) hC.1 hC.2.1 hC.2.2.2.2.1 (fw_uw c hc) (fw_ty c) (fw_tyok c hc) (fw_nmok c hc) hC.2.2.2.1 hH.1 hH.2.1 hH.2.2.1 hS q0 hp (fw_cl c hc) j hj (hC.2.2.2.2.1 _ hw) (fun x hx => by rw [← hdecl]; exact hx) hfn (fw_tyok c hc j hj) n1 n2 (by omega) (fw_de' hd) hend
  | true =>
    obtain ⟨f1, f2⟩ := hfin hfn
    exact va_putF (D := D) (ci := c + 2) (v := w) (ty := fw_ty c j) (C := fw_CN c) (T := fw_CT c) (N := fw_nf c) hC.1 hC.2.1 hC.2.2.2.2.1 (fw_uw c hc) (fw_ty c) (fw_tyok c hc) (fw_nmok c hc) hC.2.2.2.1 hH.1 hH.2.1 hH.2.2.1 hS q0 hp (fw_cl c hc) j hj (hC.2.2.2.2.1 _ hw) (fun x hx => by rw [← hdecl]; exact hx) hfn (hC.2.2.2.2.2.2.2.1 f1) (by rw [hdecl, f2]) (fw_tyok c hc j hj) n1 n2 (by omega) (fw_de' hd) hend
theorem fw_arI {al : List Nat} {b : Nat} {tys : List (ClassId × FieldType)} {σ : fw_M} {a : Int} {e : va_E} (h : fw_er al b tys σ a e) (hk : fw_kd a = 100 ∨ fw_kd a = 101 ∨ fw_kd a = 102) : ∃ (cA : ClassId) (n : Nat) (f : Nat → Int32) (t0 : Nat) (ty : FieldType), e = .inl (cA, n, .inl f) ∧ tys[t0]? = some (cA, ty) ∧ ((fw_kd a = 100 ∧ ty = .int) ∨ (fw_kd a = 101 ∧ ty = .char) ∨ (fw_kd a = 102 ∧ ty = .boolean)) ∧ fw_ln a = (n : Int) ∧ n ≤ 300 ∧ ∀ j : Nat, j < n → σ a (j : Int) = (f j).toInt := by
  match e, h with
  | .inr (ci, fs), ⟨c', h1, h2, h3, h4, h5⟩ => omega
  | .inl (cA, n, .inl f), ⟨t0, ty, g1, g2, g3⟩ => exact ⟨cA, n, f, t0, ty, rfl, g1, g2, g3⟩
  | .inl (cA, n, .inr (.inl f)), ⟨t0, g1, g2, g3⟩ => omega
  | .inl (cA, n, .inr (.inr (.inr (.inl f)))), ⟨t0, g1, g2, g3⟩ => omega
  | .inl (cA, n, .inr (.inr (.inr (.inr f)))), ⟨t0, ty, g1, g2, g3⟩ => omega
theorem fw_arL {al : List Nat} {b : Nat} {tys : List (ClassId × FieldType)} {σ : fw_M} {a : Int} {e : va_E} (h : fw_er al b tys σ a e) (hk : fw_kd a = 103) : ∃ (cA : ClassId) (n : Nat) (f : Nat → Int64) (t0 : Nat), e = .inl (cA, n, .inr (.inl f)) ∧ tys[t0]? = some (cA, .long) ∧ fw_ln a = (n : Int) ∧ n ≤ 300 ∧ ∀ j : Nat, j < n → σ a (j : Int) = (f j).toInt := by
  match e, h with
  | .inr (ci, fs), ⟨c', h1, h2, h3, h4, h5⟩ => omega
  | .inl (cA, n, .inl f), ⟨t0, ty, g1, g2, g3⟩ => omega
  | .inl (cA, n, .inr (.inl f)), ⟨t0, g1, g2, g3⟩ => exact ⟨cA, n, f, t0, rfl, g1, g3⟩
  | .inl (cA, n, .inr (.inr (.inr (.inl f)))), ⟨t0, g1, g2, g3⟩ => omega
  | .inl (cA, n, .inr (.inr (.inr (.inr f)))), ⟨t0, ty, g1, g2, g3⟩ => omega
theorem fw_arD {al : List Nat} {b : Nat} {tys : List (ClassId × FieldType)} {σ : fw_M} {a : Int} {e : va_E} (h : fw_er al b tys σ a e) (hk : fw_kd a = 104) : ∃ (cA : ClassId) (n : Nat) (f : Nat → UInt64) (t0 : Nat), e = .inl (cA, n, .inr (.inr (.inr (.inl f)))) ∧ tys[t0]? = some (cA, .double) ∧ fw_ln a = (n : Int) ∧ n ≤ 300 ∧ ∀ j : Nat, j < n → σ a (j : Int) = ((f j).toNat : Int) := by
  match e, h with
  | .inr (ci, fs), ⟨c', h1, h2, h3, h4, h5⟩ => omega
  | .inl (cA, n, .inl f), ⟨t0, ty, g1, g2, g3⟩ => omega
  | .inl (cA, n, .inr (.inl f)), ⟨t0, g1, g2, g3⟩ => omega
  | .inl (cA, n, .inr (.inr (.inr (.inl f)))), ⟨t0, g1, g2, g3⟩ => exact ⟨cA, n, f, t0, rfl, g1, g3⟩
  | .inl (cA, n, .inr (.inr (.inr (.inr f)))), ⟨t0, ty, g1, g2, g3⟩ => omega
theorem fw_arQ {al : List Nat} {b : Nat} {tys : List (ClassId × FieldType)} {σ : fw_M} {a : Int} {e : va_E} (h : fw_er al b tys σ a e) (hk : fw_kd a = 105 ∨ fw_kd a = 106) : ∃ (cA : ClassId) (n : Nat) (f : Nat → Option Nat) (t0 : Nat) (ty : FieldType), e = .inl (cA, n, .inr (.inr (.inr (.inr f)))) ∧ tys[t0]? = some (cA, ty) ∧ ((fw_kd a = 105 ∧ ty = .object RX1) ∨ (fw_kd a = 106 ∧ ty = .array .int)) ∧ fw_ln a = (n : Int) ∧ n ≤ 300 ∧ ∀ j : Nat, j < n → fw_vr al b (2, σ a (j : Int)) (va_rf (f j)) := by
  match e, h with
  | .inr (ci, fs), ⟨c', h1, h2, h3, h4, h5⟩ => omega
  | .inl (cA, n, .inl f), ⟨t0, ty, g1, g2, g3⟩ => omega
  | .inl (cA, n, .inr (.inl f)), ⟨t0, g1, g2, g3⟩ => omega
  | .inl (cA, n, .inr (.inr (.inr (.inl f)))), ⟨t0, g1, g2, g3⟩ => omega
  | .inl (cA, n, .inr (.inr (.inr (.inr f)))), ⟨t0, ty, g1, g2, g3⟩ => exact ⟨cA, n, f, t0, ty, rfl, g1, g2, g3⟩
theorem fw_j_iald {k pc : Nat} {ll r : List fw_V} {i a : Int} {σ : fw_M} {out : fw_O} (hd : fw_dec k pc = some (.iaload, 1)) (hk : fw_kd a = 100) (hi0 : 0 ≤ i) (hi1 : i < fw_ln a) (hJ : fw_J k (pc + 1) ll ((0, σ a i) :: r) σ out) : fw_J k pc ll ((0, i) :: (2, a) :: r) σ out := by
  refine fw_jp hJ ?_
  intro base b L xs D p l e R s m args below meth c0 Q hC tys ws H locs cells slots ls cst hH hS hL hT h1 h2 kk
  obtain ⟨v, r_v, rfl, ⟨z, rfl, ez⟩, t9⟩ := fw_St_cons hT
  clear hT; have hT := t9; clear t9
  obtain ⟨v1, r_v1, rfl, hv, t9⟩ := fw_St_cons hT
  clear hT; have hT := t9; clear t9
  have ez : i = z.toInt := ez
  obtain ⟨q0, a0, ent, hp, ea, rfl, he⟩ := fw_H_at hH hv (by omega)
  obtain ⟨cA, n0, f, t0, ty, rfl, g1, g2, g3, g4, g5⟩ := fw_arI he (by omega)
  have ety : ty = .int := by
    rcases g2 with ⟨q, e9⟩ | ⟨q, e9⟩ | ⟨q, e9⟩
    · first | exact e9 | (exfalso; omega)
    · first | exact e9 | (exfalso; omega)
    · first | exact e9 | (exfalso; omega)
  subst ety
  have hz := fw_clamp z (by omega)
  have hin : vp_in z n0 := vp_in_iff.mpr ⟨by omega, by omega⟩
  have g9 := g5 z.toNatClampNeg (by omega)
  rw [hz, ← ez] at g9
  refine va_iald hC.1 hC.2.1 hH.1 hH.2.1 q0 t0 hp g1 hin (fw_de' hd) ?_
  exact kk ls _ hL ⟨⟨_, rfl, g9⟩, hT⟩
theorem fw_j_cald {k pc : Nat} {ll r : List fw_V} {i a : Int} {σ : fw_M} {out : fw_O} (hd : fw_dec k pc = some (.caload, 1)) (hk : fw_kd a = 101) (hi0 : 0 ≤ i) (hi1 : i < fw_ln a) (hJ : fw_J k (pc + 1) ll ((0, σ a i) :: r) σ out) : fw_J k pc ll ((0, i) :: (2, a) :: r) σ out := by
  refine fw_jp hJ ?_
  intro base b L xs D p l e R s m args below meth c0 Q hC tys ws H locs cells slots ls cst hH hS hL hT h1 h2 kk
  obtain ⟨v, r_v, rfl, ⟨z, rfl, ez⟩, t9⟩ := fw_St_cons hT
  clear hT; have hT := t9; clear t9
  obtain ⟨v1, r_v1, rfl, hv, t9⟩ := fw_St_cons hT
  clear hT; have hT := t9; clear t9
  have ez : i = z.toInt := ez
  obtain ⟨q0, a0, ent, hp, ea, rfl, he⟩ := fw_H_at hH hv (by omega)
  obtain ⟨cA, n0, f, t0, ty, rfl, g1, g2, g3, g4, g5⟩ := fw_arI he (by omega)
  have ety : ty = .char := by
    rcases g2 with ⟨q, e9⟩ | ⟨q, e9⟩ | ⟨q, e9⟩
    · first | exact e9 | (exfalso; omega)
    · first | exact e9 | (exfalso; omega)
    · first | exact e9 | (exfalso; omega)
  subst ety
  have hz := fw_clamp z (by omega)
  have hin : vp_in z n0 := vp_in_iff.mpr ⟨by omega, by omega⟩
  have g9 := g5 z.toNatClampNeg (by omega)
  rw [hz, ← ez] at g9
  refine va_cald hC.1 hC.2.1 hH.1 hH.2.1 q0 t0 hp g1 hin (fw_de' hd) ?_
  exact kk ls _ hL ⟨⟨_, rfl, g9⟩, hT⟩
theorem fw_j_zald {k pc : Nat} {ll r : List fw_V} {i a : Int} {σ : fw_M} {out : fw_O} (hd : fw_dec k pc = some (.baload, 1)) (hk : fw_kd a = 102) (hi0 : 0 ≤ i) (hi1 : i < fw_ln a) (hJ : fw_J k (pc + 1) ll ((0, σ a i) :: r) σ out) : fw_J k pc ll ((0, i) :: (2, a) :: r) σ out := by
  refine fw_jp hJ ?_
  intro base b L xs D p l e R s m args below meth c0 Q hC tys ws H locs cells slots ls cst hH hS hL hT h1 h2 kk
  obtain ⟨v, r_v, rfl, ⟨z, rfl, ez⟩, t9⟩ := fw_St_cons hT
  clear hT; have hT := t9; clear t9
  obtain ⟨v1, r_v1, rfl, hv, t9⟩ := fw_St_cons hT
  clear hT; have hT := t9; clear t9
  have ez : i = z.toInt := ez
  obtain ⟨q0, a0, ent, hp, ea, rfl, he⟩ := fw_H_at hH hv (by omega)
  obtain ⟨cA, n0, f, t0, ty, rfl, g1, g2, g3, g4, g5⟩ := fw_arI he (by omega)
  have ety : ty = .boolean := by
    rcases g2 with ⟨q, e9⟩ | ⟨q, e9⟩ | ⟨q, e9⟩
    · first | exact e9 | (exfalso; omega)
    · first | exact e9 | (exfalso; omega)
    · first | exact e9 | (exfalso; omega)
  subst ety
  have hz := fw_clamp z (by omega)
  have hin : vp_in z n0 := vp_in_iff.mpr ⟨by omega, by omega⟩
  have g9 := g5 z.toNatClampNeg (by omega)
  rw [hz, ← ez] at g9
  refine va_zald hC.1 hC.2.1 hH.1 hH.2.1 q0 t0 hp g1 hin (fw_de' hd) ?_
  exact kk ls _ hL ⟨⟨_, rfl, g9⟩, hT⟩
theorem fw_j_lald {k pc : Nat} {ll r : List fw_V} {i a : Int} {σ : fw_M} {out : fw_O} (hd : fw_dec k pc = some (.laload, 1)) (hk : fw_kd a = 103) (hi0 : 0 ≤ i) (hi1 : i < fw_ln a) (hJ : fw_J k (pc + 1) ll ((1, σ a i) :: r) σ out) : fw_J k pc ll ((0, i) :: (2, a) :: r) σ out := by
  refine fw_jp hJ ?_
  intro base b L xs D p l e R s m args below meth c0 Q hC tys ws H locs cells slots ls cst hH hS hL hT h1 h2 kk
  obtain ⟨v, r_v, rfl, ⟨z, rfl, ez⟩, t9⟩ := fw_St_cons hT
  clear hT; have hT := t9; clear t9
  obtain ⟨v1, r_v1, rfl, hv, t9⟩ := fw_St_cons hT
  clear hT; have hT := t9; clear t9
  have ez : i = z.toInt := ez
  obtain ⟨q0, a0, ent, hp, ea, rfl, he⟩ := fw_H_at hH hv (by omega)
  obtain ⟨cA, n0, f, t0, rfl, g1, g3, g4, g5⟩ := fw_arL he hk
  have hz := fw_clamp z (by omega)
  have hin : vp_in z n0 := vp_in_iff.mpr ⟨by omega, by omega⟩
  have g9 := g5 z.toNatClampNeg (by omega)
  rw [hz, ← ez] at g9
  refine va_lald hC.1 hC.2.1 hH.1 hH.2.1 q0 t0 hp g1 hin (fw_de' hd) ?_
  exact kk ls _ hL ⟨⟨_, rfl, g9⟩, hT⟩
theorem fw_j_dald {k pc : Nat} {ll r : List fw_V} {i a : Int} {σ : fw_M} {out : fw_O} (hd : fw_dec k pc = some (.daload, 1)) (hk : fw_kd a = 104) (hi0 : 0 ≤ i) (hi1 : i < fw_ln a) (hJ : fw_J k (pc + 1) ll ((3, σ a i) :: r) σ out) : fw_J k pc ll ((0, i) :: (2, a) :: r) σ out := by
  refine fw_jp hJ ?_
  intro base b L xs D p l e R s m args below meth c0 Q hC tys ws H locs cells slots ls cst hH hS hL hT h1 h2 kk
  obtain ⟨v, r_v, rfl, ⟨z, rfl, ez⟩, t9⟩ := fw_St_cons hT
  clear hT; have hT := t9; clear t9
  obtain ⟨v1, r_v1, rfl, hv, t9⟩ := fw_St_cons hT
  clear hT; have hT := t9; clear t9
  have ez : i = z.toInt := ez
  obtain ⟨q0, a0, ent, hp, ea, rfl, he⟩ := fw_H_at hH hv (by omega)
  obtain ⟨cA, n0, f, t0, rfl, g1, g3, g4, g5⟩ := fw_arD he hk
  have hz := fw_clamp z (by omega)
  have hin : vp_in z n0 := vp_in_iff.mpr ⟨by omega, by omega⟩
  have g9 := g5 z.toNatClampNeg (by omega)
  rw [hz, ← ez] at g9
  refine va_dald hC.1 hC.2.1 hH.1 hH.2.1 q0 t0 hp g1 hin (fw_de' hd) ?_
  exact kk ls _ hL ⟨⟨_, rfl, g9⟩, hT⟩
theorem fw_j_aald {k pc : Nat} {ll r : List fw_V} {i a : Int} {σ : fw_M} {out : fw_O} (hd : fw_dec k pc = some (.aaload, 1)) (hk : fw_kd a = 105 ∨ fw_kd a = 106) (hi0 : 0 ≤ i) (hi1 : i < fw_ln a) (hJ : fw_J k (pc + 1) ll ((2, σ a i) :: r) σ out) : fw_J k pc ll ((0, i) :: (2, a) :: r) σ out := by
  refine fw_jp hJ ?_
  intro base b L xs D p l e R s m args below meth c0 Q hC tys ws H locs cells slots ls cst hH hS hL hT h1 h2 kk
  obtain ⟨v, r_v, rfl, ⟨z, rfl, ez⟩, t9⟩ := fw_St_cons hT
  clear hT; have hT := t9; clear t9
  obtain ⟨v1, r_v1, rfl, hv, t9⟩ := fw_St_cons hT
  clear hT; have hT := t9; clear t9
  have ez : i = z.toInt := ez
  obtain ⟨q0, a0, ent, hp, ea, rfl, he⟩ := fw_H_at hH hv (by omega)
  obtain ⟨cA, n0, f, t0, ty, rfl, g1, g2, g3, g4, g5⟩ := fw_arQ he hk
  have hz := fw_clamp z (by omega)
  have hin : vp_in z n0 := vp_in_iff.mpr ⟨by omega, by omega⟩
  have hlt : z.toNatClampNeg < n0 := by omega
  have g9 := g5 z.toNatClampNeg (by omega)
  rw [hz, ← ez] at g9
  rcases g2 with ⟨-, rfl⟩ | ⟨-, rfl⟩
  · refine va_aldq hC.1 hC.2.1 hH.1 hH.2.1 q0 t0 hp g1 hin (fw_de' hd) ?_
    exact kk ls _ hL ⟨g9, hT⟩
  · refine W.aald (v := va_rf (f z.toNatClampNeg)) (ty := .array .int) hC.1 hC.2.1 (hH.2.1 q0 _ hp) ((hH.1.2 t0 _ g1).1 n0 (fun j => va_rf (f j))) rfl (fun q => by cases q) (by show ¬ (z < 0 ∨ (arrV _ _ _).slots.size ≤ _); rw [arrV_size]; exact hin) (by show (arrV _ _ _).slots[_]? = _; rw [arrV_read _ _ hlt]) rfl rfl (fw_de' hd) ?_
    exact kk ls _ hL ⟨g9, hT⟩
theorem fw_j_iast {k pc : Nat} {ll r : List fw_V} {i a v : Int} {σ : fw_M} {out : fw_O} (hd : fw_dec k pc = some (.iastore, 1)) (hk : fw_kd a = 100) (hi0 : 0 ≤ i) (hi1 : i < fw_ln a) (hJ : fw_J k (pc + 1) ll r (fw_u σ a i v) out) : fw_J k pc ll ((0, v) :: (0, i) :: (2, a) :: r) σ out := by
  have ha9 := fw_kd_lt a (by omega)
  refine fw_jg hJ 0 0 (by rw [fw_u_ne (by omega)]; exact (Int.add_zero _).symm) (by rw [fw_u_ne (by omega)]; exact (Int.add_zero _).symm) ?_
  intro base b L xs D p l e R s m args below meth c0 Q hC tys ws H locs cells slots ls cst hH hS hL hT h1 h2 kk
  obtain ⟨w, r_w, rfl, ⟨zw, rfl, ew⟩, t9⟩ := fw_St_cons hT
  clear hT; have hT := t9; clear t9
  obtain ⟨v0, r_v0, rfl, ⟨z, rfl, ez⟩, t9⟩ := fw_St_cons hT
  clear hT; have hT := t9; clear t9
  obtain ⟨v1, r_v1, rfl, hv, t9⟩ := fw_St_cons hT
  clear hT; have hT := t9; clear t9
  have ez : i = z.toInt := ez
  obtain ⟨q0, a0, ent, hp, ea, rfl, he⟩ := fw_H_at hH hv (by omega)
  obtain ⟨cA, n0, f, t0, ty, rfl, g1, g2, g3, g4, g5⟩ := fw_arI he (by omega)
  have ety : ty = .int := by
    rcases g2 with ⟨q, e9⟩ | ⟨q, e9⟩ | ⟨q, e9⟩
    · first | exact e9 | (exfalso; omega)
    · first | exact e9 | (exfalso; omega)
    · first | exact e9 | (exfalso; omega)
  subst ety
  have hz := fw_clamp z (by omega)
  have hin : vp_in z n0 := vp_in_iff.mpr ⟨by omega, by omega⟩

  have hal := fw_al_set (e := .inl (cA, n0, .inl (upd f z.toNatClampNeg zw))) hp
  refine va_iast hC.1 hC.2.1 hH.1 hH.2.1 hH.2.2.1 hS q0 t0 hp g1 hin (fw_de' hd) (fun H1 locs1 hP1 hD1 hS1 => ?_)
  refine kk tys _ H1 locs1 ls r_v1 ?_ hS1 (by rw [hal]; exact List.prefix_refl _) (by rw [hal]; exact hL) (by rw [hal]; exact hT)
  rw [ea]
  refine fw_H_set hH hp ⟨t0, .int, g1, by rw [← ea]; exact g2, by rw [← ea]; exact g3, g4, fun j hj => ?_⟩ hP1 hD1
  by_cases hj9 : j = z.toNatClampNeg
  · subst hj9
    rw [hz, ← ez, fw_u_s]
    rw [pk_us]; exact ew
  · rw [fw_u_nj (by omega), ← ea]
    rw [pk_un hj9]; exact g5 j hj
theorem fw_j_cast {k pc : Nat} {ll r : List fw_V} {i a v : Int} {σ : fw_M} {out : fw_O} (hd : fw_dec k pc = some (.castore, 1)) (hk : fw_kd a = 101) (hi0 : 0 ≤ i) (hi1 : i < fw_ln a) (hv0 : 0 ≤ v) (hv1 : v < 65536) (hJ : fw_J k (pc + 1) ll r (fw_u σ a i v) out) : fw_J k pc ll ((0, v) :: (0, i) :: (2, a) :: r) σ out := by
  have ha9 := fw_kd_lt a (by omega)
  refine fw_jg hJ 0 0 (by rw [fw_u_ne (by omega)]; exact (Int.add_zero _).symm) (by rw [fw_u_ne (by omega)]; exact (Int.add_zero _).symm) ?_
  intro base b L xs D p l e R s m args below meth c0 Q hC tys ws H locs cells slots ls cst hH hS hL hT h1 h2 kk
  obtain ⟨w, r_w, rfl, ⟨zw, rfl, ew⟩, t9⟩ := fw_St_cons hT
  clear hT; have hT := t9; clear t9
  obtain ⟨v0, r_v0, rfl, ⟨z, rfl, ez⟩, t9⟩ := fw_St_cons hT
  clear hT; have hT := t9; clear t9
  obtain ⟨v1, r_v1, rfl, hv, t9⟩ := fw_St_cons hT
  clear hT; have hT := t9; clear t9
  have ez : i = z.toInt := ez
  obtain ⟨q0, a0, ent, hp, ea, rfl, he⟩ := fw_H_at hH hv (by omega)
  obtain ⟨cA, n0, f, t0, ty, rfl, g1, g2, g3, g4, g5⟩ := fw_arI he (by omega)
  have ety : ty = .char := by
    rcases g2 with ⟨q, e9⟩ | ⟨q, e9⟩ | ⟨q, e9⟩
    · first | exact e9 | (exfalso; omega)
    · first | exact e9 | (exfalso; omega)
    · first | exact e9 | (exfalso; omega)
  subst ety
  have hz := fw_clamp z (by omega)
  have hin : vp_in z n0 := vp_in_iff.mpr ⟨by omega, by omega⟩
  have ew : v = zw.toInt := ew
  have ech : vp_nar .char zw = zw := by
    obtain ⟨q9, hq9, rfl⟩ := nI_of (x := zw) (by rw [Int32.lt_iff_toInt_lt]; have : (0 : Int32).toInt = 0 := rfl; omega)
    rw [nI_toInt hq9] at ew
    unfold vp_nar
    rw [(pk_charN (q := q9) (by omega)).1]
  have hal := fw_al_set (e := .inl (cA, n0, .inl (upd f z.toNatClampNeg (vp_nar .char zw)))) hp
  refine va_cast hC.1 hC.2.1 hH.1 hH.2.1 hH.2.2.1 hS q0 t0 hp g1 hin (fw_de' hd) (fun H1 locs1 hP1 hD1 hS1 => ?_)
  refine kk tys _ H1 locs1 ls r_v1 ?_ hS1 (by rw [hal]; exact List.prefix_refl _) (by rw [hal]; exact hL) (by rw [hal]; exact hT)
  rw [ea]
  refine fw_H_set hH hp ⟨t0, .char, g1, by rw [← ea]; exact g2, by rw [← ea]; exact g3, g4, fun j hj => ?_⟩ hP1 hD1
  by_cases hj9 : j = z.toNatClampNeg
  · subst hj9
    rw [hz, ← ez, fw_u_s]
    rw [pk_us, ech]; exact ew
  · rw [fw_u_nj (by omega), ← ea]
    rw [pk_un hj9]; exact g5 j hj
theorem fw_j_zast {k pc : Nat} {ll r : List fw_V} {i a v : Int} {σ : fw_M} {out : fw_O} (hd : fw_dec k pc = some (.bastore, 1)) (hk : fw_kd a = 102) (hi0 : 0 ≤ i) (hi1 : i < fw_ln a) (hv0 : v = 0 ∨ v = 1) (hJ : fw_J k (pc + 1) ll r (fw_u σ a i v) out) : fw_J k pc ll ((0, v) :: (0, i) :: (2, a) :: r) σ out := by
  have ha9 := fw_kd_lt a (by omega)
  refine fw_jg hJ 0 0 (by rw [fw_u_ne (by omega)]; exact (Int.add_zero _).symm) (by rw [fw_u_ne (by omega)]; exact (Int.add_zero _).symm) ?_
  intro base b L xs D p l e R s m args below meth c0 Q hC tys ws H locs cells slots ls cst hH hS hL hT h1 h2 kk
  obtain ⟨w, r_w, rfl, ⟨zw, rfl, ew⟩, t9⟩ := fw_St_cons hT
  clear hT; have hT := t9; clear t9
  obtain ⟨v0, r_v0, rfl, ⟨z, rfl, ez⟩, t9⟩ := fw_St_cons hT
  clear hT; have hT := t9; clear t9
  obtain ⟨v1, r_v1, rfl, hv, t9⟩ := fw_St_cons hT
  clear hT; have hT := t9; clear t9
  have ez : i = z.toInt := ez
  obtain ⟨q0, a0, ent, hp, ea, rfl, he⟩ := fw_H_at hH hv (by omega)
  obtain ⟨cA, n0, f, t0, ty, rfl, g1, g2, g3, g4, g5⟩ := fw_arI he (by omega)
  have ety : ty = .boolean := by
    rcases g2 with ⟨q, e9⟩ | ⟨q, e9⟩ | ⟨q, e9⟩
    · first | exact e9 | (exfalso; omega)
    · first | exact e9 | (exfalso; omega)
    · first | exact e9 | (exfalso; omega)
  subst ety
  have hz := fw_clamp z (by omega)
  have hin : vp_in z n0 := vp_in_iff.mpr ⟨by omega, by omega⟩
  have ew : v = zw.toInt := ew
  have ech : vp_nar .boolean zw = zw := by
    rcases hv0 with q | q
    · have : zw = 0 := Int32.toInt_inj.mp (by rw [← ew, q]; rfl)
      subst this
      decide
    · have : zw = 1 := Int32.toInt_inj.mp (by rw [← ew, q]; rfl)
      subst this
      decide
  have hal := fw_al_set (e := .inl (cA, n0, .inl (upd f z.toNatClampNeg (vp_nar .boolean zw)))) hp
  refine va_zast hC.1 hC.2.1 hH.1 hH.2.1 hH.2.2.1 hS q0 t0 hp g1 hin (fw_de' hd) (fun H1 locs1 hP1 hD1 hS1 => ?_)
  refine kk tys _ H1 locs1 ls r_v1 ?_ hS1 (by rw [hal]; exact List.prefix_refl _) (by rw [hal]; exact hL) (by rw [hal]; exact hT)
  rw [ea]
  refine fw_H_set hH hp ⟨t0, .boolean, g1, by rw [← ea]; exact g2, by rw [← ea]; exact g3, g4, fun j hj => ?_⟩ hP1 hD1
  by_cases hj9 : j = z.toNatClampNeg
  · subst hj9
    rw [hz, ← ez, fw_u_s]
    rw [pk_us, ech]; exact ew
  · rw [fw_u_nj (by omega), ← ea]
    rw [pk_un hj9]; exact g5 j hj
theorem fw_j_last {k pc : Nat} {ll r : List fw_V} {i a v : Int} {σ : fw_M} {out : fw_O} (hd : fw_dec k pc = some (.lastore, 1)) (hk : fw_kd a = 103) (hi0 : 0 ≤ i) (hi1 : i < fw_ln a) (hJ : fw_J k (pc + 1) ll r (fw_u σ a i v) out) : fw_J k pc ll ((1, v) :: (0, i) :: (2, a) :: r) σ out := by
  have ha9 := fw_kd_lt a (by omega)
  refine fw_jg hJ 0 0 (by rw [fw_u_ne (by omega)]; exact (Int.add_zero _).symm) (by rw [fw_u_ne (by omega)]; exact (Int.add_zero _).symm) ?_
  intro base b L xs D p l e R s m args below meth c0 Q hC tys ws H locs cells slots ls cst hH hS hL hT h1 h2 kk
  obtain ⟨w, r_w, rfl, ⟨zw, rfl, ew⟩, t9⟩ := fw_St_cons hT
  clear hT; have hT := t9; clear t9
  obtain ⟨v0, r_v0, rfl, ⟨z, rfl, ez⟩, t9⟩ := fw_St_cons hT
  clear hT; have hT := t9; clear t9
  obtain ⟨v1, r_v1, rfl, hv, t9⟩ := fw_St_cons hT
  clear hT; have hT := t9; clear t9
  have ez : i = z.toInt := ez
  obtain ⟨q0, a0, ent, hp, ea, rfl, he⟩ := fw_H_at hH hv (by omega)
  obtain ⟨cA, n0, f, t0, rfl, g1, g3, g4, g5⟩ := fw_arL he hk
  have hz := fw_clamp z (by omega)
  have hin : vp_in z n0 := vp_in_iff.mpr ⟨by omega, by omega⟩

  have hal := fw_al_set (e := .inl (cA, n0, .inr (.inl (vp_updL f z.toNatClampNeg zw)))) hp
  refine va_last hC.1 hC.2.1 hH.1 hH.2.1 hH.2.2.1 hS q0 t0 hp g1 hin (fw_de' hd) (fun H1 locs1 hP1 hD1 hS1 => ?_)
  refine kk tys _ H1 locs1 ls r_v1 ?_ hS1 (by rw [hal]; exact List.prefix_refl _) (by rw [hal]; exact hL) (by rw [hal]; exact hT)
  rw [ea]
  refine fw_H_set hH hp ⟨t0, g1, by rw [← ea]; exact hk, by rw [← ea]; exact g3, g4, fun j hj => ?_⟩ hP1 hD1
  by_cases hj9 : j = z.toNatClampNeg
  · subst hj9
    rw [hz, ← ez, fw_u_s]
    rw [pk_uLs]; exact ew
  · rw [fw_u_nj (by omega), ← ea]
    rw [pk_uLn hj9]; exact g5 j hj
theorem fw_j_dast {k pc : Nat} {ll r : List fw_V} {i a v : Int} {σ : fw_M} {out : fw_O} (hd : fw_dec k pc = some (.dastore, 1)) (hk : fw_kd a = 104) (hi0 : 0 ≤ i) (hi1 : i < fw_ln a) (hJ : fw_J k (pc + 1) ll r (fw_u σ a i v) out) : fw_J k pc ll ((3, v) :: (0, i) :: (2, a) :: r) σ out := by
  have ha9 := fw_kd_lt a (by omega)
  refine fw_jg hJ 0 0 (by rw [fw_u_ne (by omega)]; exact (Int.add_zero _).symm) (by rw [fw_u_ne (by omega)]; exact (Int.add_zero _).symm) ?_
  intro base b L xs D p l e R s m args below meth c0 Q hC tys ws H locs cells slots ls cst hH hS hL hT h1 h2 kk
  obtain ⟨w, r_w, rfl, ⟨zw, rfl, ew⟩, t9⟩ := fw_St_cons hT
  clear hT; have hT := t9; clear t9
  obtain ⟨v0, r_v0, rfl, ⟨z, rfl, ez⟩, t9⟩ := fw_St_cons hT
  clear hT; have hT := t9; clear t9
  obtain ⟨v1, r_v1, rfl, hv, t9⟩ := fw_St_cons hT
  clear hT; have hT := t9; clear t9
  have ez : i = z.toInt := ez
  obtain ⟨q0, a0, ent, hp, ea, rfl, he⟩ := fw_H_at hH hv (by omega)
  obtain ⟨cA, n0, f, t0, rfl, g1, g3, g4, g5⟩ := fw_arD he hk
  have hz := fw_clamp z (by omega)
  have hin : vp_in z n0 := vp_in_iff.mpr ⟨by omega, by omega⟩

  have hal := fw_al_set (e := .inl (cA, n0, .inr (.inr (.inr (.inl (vf_upd f z.toNatClampNeg zw)))))) hp
  refine va_dast hC.1 hC.2.1 hH.1 hH.2.1 hH.2.2.1 hS q0 t0 hp g1 hin (fw_de' hd) (fun H1 locs1 hP1 hD1 hS1 => ?_)
  refine kk tys _ H1 locs1 ls r_v1 ?_ hS1 (by rw [hal]; exact List.prefix_refl _) (by rw [hal]; exact hL) (by rw [hal]; exact hT)
  rw [ea]
  refine fw_H_set hH hp ⟨t0, g1, by rw [← ea]; exact hk, by rw [← ea]; exact g3, g4, fun j hj => ?_⟩ hP1 hD1
  by_cases hj9 : j = z.toNatClampNeg
  · subst hj9
    rw [hz, ← ez, fw_u_s]
    unfold vf_upd; rw [if_pos rfl]; exact ew
  · rw [fw_u_nj (by omega), ← ea]
    unfold vf_upd; rw [if_neg hj9]; exact g5 j hj
theorem fw_j_aast {k pc : Nat} {ll r : List fw_V} {i a v : Int} {σ : fw_M} {out : fw_O} (hd : fw_dec k pc = some (.aastore, 1)) (hk : fw_kd a = 105) (hi0 : 0 ≤ i) (hi1 : i < fw_ln a) (hk4 : fw_kd v = 4) (hJ : fw_J k (pc + 1) ll r (fw_u σ a i v) out) : fw_J k pc ll ((2, v) :: (0, i) :: (2, a) :: r) σ out := by
  have ha9 := fw_kd_lt a (by omega)
  refine fw_jg hJ 0 0 (by rw [fw_u_ne (by omega)]; exact (Int.add_zero _).symm) (by rw [fw_u_ne (by omega)]; exact (Int.add_zero _).symm) ?_
  intro base b L xs D p l e R s m args below meth c0 Q hC tys ws H locs cells slots ls cst hH hS hL hT h1 h2 kk
  obtain ⟨w, r_w, rfl, hw1, t9⟩ := fw_St_cons hT
  clear hT; have hT := t9; clear t9
  obtain ⟨v0, r_v0, rfl, ⟨z, rfl, ez⟩, t9⟩ := fw_St_cons hT
  clear hT; have hT := t9; clear t9
  obtain ⟨v1, r_v1, rfl, hv, t9⟩ := fw_St_cons hT
  clear hT; have hT := t9; clear t9
  have ez : i = z.toInt := ez
  obtain ⟨q0, a0, ent, hp, ea, rfl, he⟩ := fw_H_at hH hv (by omega)
  obtain ⟨cA, n0, f, t0, ty, rfl, g1, g2, g3, g4, g5⟩ := fw_arQ he (Or.inl hk)
  have ety : ty = .object RX1 := by
    rcases g2 with ⟨q, e9⟩ | ⟨q, e9⟩
    · exact e9
    · exfalso; omega
  subst ety
  have hz := fw_clamp z (by omega)
  have hin : vp_in z n0 := vp_in_iff.mpr ⟨by omega, by omega⟩
  obtain ⟨qw, aw, entw, hpw, ew, rfl, hew⟩ := fw_H_at hH hw1 (by omega)
  obtain ⟨fsw, rfl, -, -⟩ := fw_obj (c := 1) hew (by omega) (by decide)
  have hal := fw_al_set (e := .inl (cA, n0, .inr (.inr (.inr (.inr (va_up f z.toNatClampNeg (some aw))))))) hp
  refine va_astq hC.1 hC.2.1 hH.1 hH.2.1 hH.2.2.1 hS q0 t0 qw 3 hp g1 hpw (fw_cl 1 (by decide)) hin (fw_de' hd) (fun H1 locs1 hP1 hD1 hS1 => ?_)
  refine kk tys _ H1 locs1 ls r_v1 ?_ hS1 (by rw [hal]; exact List.prefix_refl _) (by rw [hal]; exact hL) (by rw [hal]; exact hT)
  rw [ea]
  refine fw_H_set hH hp ⟨t0, .object RX1, g1, by rw [← ea]; exact g2, by rw [← ea]; exact g3, g4, fun j hj => ?_⟩ hP1 hD1
  by_cases hj9 : j = z.toNatClampNeg
  · subst hj9
    rw [hz, ← ez, fw_u_s]
    unfold va_up; rw [if_pos rfl]; exact hw1
  · rw [fw_u_nj (by omega), ← ea]
    unfold va_up; rw [if_neg hj9]; exact g5 j hj
theorem fw_j_alen {k pc : Nat} {ll r : List fw_V} {a : Int} {σ : fw_M} {out : fw_O} (hd : fw_dec k pc = some (.arraylength, 1)) (hk : 100 ≤ fw_kd a) (hJ : fw_J k (pc + 1) ll ((0, fw_ln a) :: r) σ out) : fw_J k pc ll ((2, a) :: r) σ out := by
  refine fw_jp hJ ?_
  intro base b L xs D p l e R s m args below meth c0 Q hC tys ws H locs cells slots ls cst hH hS hL hT h1 h2 kk
  obtain ⟨v1, r_v1, rfl, hv, t9⟩ := fw_St_cons hT
  clear hT; have hT := t9; clear t9
  obtain ⟨q0, a0, ent, hp, ea, rfl, he⟩ := fw_H_at hH hv (by omega)
  have key : ∀ (cA : ClassId) (x : vp_A) (t0 : Nat) (ty : FieldType), ent = .inl (cA, x) → tys[t0]? = some (cA, ty) → fw_ln a = (x.1 : Int) → x.1 ≤ 300 → W p l e R s m args below meth c0 H locs cells slots Q (F0 m pc ls (.ref a0 :: r_v1)) := by
    intro cA x t0 ty e1 e2 e3 e4
    subst e1
    refine va_alen hC.1 hC.2.1 hH.1 hH.2.1 q0 t0 hp e2 rfl (fw_de' hd) ?_
    exact kk ls _ hL ⟨⟨_, rfl, by rw [e3]; exact (nI_toInt (by omega)).symm⟩, hT⟩
  match ent, he, key with
  | .inr (ci, fs), ⟨c', g1, g2, g3, g4, g5⟩, _ => omega
  | .inl (cA, n, .inl f), ⟨t0, ty, g1, g2, g3, g4, g5⟩, key => exact key cA _ t0 ty rfl g1 g3 g4
  | .inl (cA, n, .inr (.inl f)), ⟨t0, g1, g2, g3, g4, g5⟩, key => exact key cA _ t0 _ rfl g1 g3 g4
  | .inl (cA, n, .inr (.inr (.inr (.inl f)))), ⟨t0, g1, g2, g3, g4, g5⟩, key => exact key cA _ t0 _ rfl g1 g3 g4
  | .inl (cA, n, .inr (.inr (.inr (.inr f)))), ⟨t0, ty, g1, g2, g3, g4, g5⟩, key => exact key cA _ t0 ty rfl g1 g3 g4
theorem fw_j_sald {k pc : Nat} {ll r : List fw_V} {i y : Int} {σ : fw_M} {out : fw_O} (hd : fw_dec k pc = some (.iaload, 1)) (hi0 : 0 ≤ i) (hi1 : i < σ (-3) 0) (hJ : fw_J k (pc + 1) ll ((0, σ (-2) i) :: r) σ out) : fw_J k pc ll ((0, i) :: (6, y) :: r) σ out := by
  refine fw_jp hJ ?_
  intro base b L xs D p l e R s m args below meth c0 Q hC tys ws H locs cells slots ls cst hH hS hL hT h1 h2 kk
  obtain ⟨v, r_v, rfl, ⟨z, rfl, ez⟩, t9⟩ := fw_St_cons hT
  clear hT; have hT := t9; clear t9
  obtain ⟨v1, r_v1, rfl, hv, t9⟩ := fw_St_cons hT
  clear hT; have hT := t9; clear t9
  have ez : i = z.toInt := ez
  cases hv
  obtain ⟨x1, x2, x3⟩ := hC.2.2.2.2.2.2.2.2.2.2.2.2.2.1
  have hz := fw_clamp z (by omega)
  have hn := hH.2.2.2.2.2.1
  refine va_sld hC.1 hC.2.1 x1 x2 (Nat.not_le.mpr x3) hS (vp_in_iff.mpr ⟨by omega, by omega⟩) (fw_de' hd) ?_
  have g9 := hH.2.2.2.2.2.2 z.toNatClampNeg (by omega)
  rw [hz, ← ez] at g9
  exact kk ls _ hL ⟨⟨_, rfl, g9⟩, hT⟩
theorem fw_j_slen {k pc : Nat} {ll r : List fw_V} {y : Int} {σ : fw_M} {out : fw_O} (hd : fw_dec k pc = some (.arraylength, 1)) (hb9 : σ (-3) 0 < 2147483648) (hJ : fw_J k (pc + 1) ll ((0, σ (-3) 0) :: r) σ out) : fw_J k pc ll ((6, y) :: r) σ out := by
  refine fw_jp hJ ?_
  intro base b L xs D p l e R s m args below meth c0 Q hC tys ws H locs cells slots ls cst hH hS hL hT h1 h2 kk
  obtain ⟨v1, r_v1, rfl, hv, t9⟩ := fw_St_cons hT
  clear hT; have hT := t9; clear t9
  cases hv
  obtain ⟨x1, x2, x3⟩ := hC.2.2.2.2.2.2.2.2.2.2.2.2.2.1
  have hn := hH.2.2.2.2.2.1
  refine va_slen hC.1 hC.2.1 x1 x2 (Nat.not_le.mpr x3) hS (fw_de' hd) ?_
  exact kk ls _ hL ⟨⟨_, rfl, by rw [hn]; exact (nI_toInt (by omega)).symm⟩, hT⟩
