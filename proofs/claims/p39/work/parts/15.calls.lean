theorem fw_oc_ok : ∀ k ∈ List.range 137, (fw_ki k = 0 ∨ fw_ki k = 2 → fw_oc k < 10) ∧ fw_oc k < 11 := by decide +kernel
theorem fw_blind {base b L : Nat} {xs : Nat → Int32} {D : va_G} {σ : fw_M} {tys : List (ClassId × FieldType)} {ws : va_W} {vs : List Value} : FrameBlind (va_Pc vs (fw_P base b L xs D σ tys ws)) := by
  intro a U g mk q
  obtain ⟨q1, q2, q3, q4, q5, q6, q7⟩ := q
  exact ⟨q1, fw_H_moved (s := U) (t := U.calling g mk a) (Vm.Alike.refl U.vm) q2, fw_Z_go (s := U) (U := U.calling g mk a) (State.WarmedH.refl U) va_S.rf q3, q4, va_X.moved (u := U) (U := U.calling g mk a) (Vm.Alike.refl U.vm) q5, q6, q7⟩
theorem fw_pre {base b L : Nat} {xs : Nat → Int32} {D : va_G} {σ : fw_M} {tys : List (ClassId × FieldType)} {ws : va_W} {vs : List Value} {s : State} {H : Heap} {locs : List Loc} (hH : fw_H base b L xs D σ tys ws s H) (hS : va_S (fun q => base ≤ q) s.heap H locs) (hZ : fw_Z base s s.heap) (hb : base ≤ s.heap.size) (hX : va_X b L xs s s.heap ∧ b < s.heap.size ∧ b < base) :
    ∀ U : State, U.heap = H → s.WarmedH U.vm → va_Pc vs (fw_P base b L xs D σ tys ws) vs.toArray U := by
  intro U hU hW
  exact ⟨rfl, by rw [hU]; exact fw_H_moved hW.alike hH, by rw [hU]; exact fw_Z_go hW hS hZ, by rw [hU]; exact Nat.le_trans hb hS.1, by rw [hU]; exact va_X.moved hW.alike (hX.1.kept (hS.2.1 b hX.2.1 (Nat.not_le.mpr hX.2.2))), by rw [hU]; exact Nat.lt_of_lt_of_le hX.2.1 hS.1, hX.2.2⟩
theorem fw_tags {as : List fw_V} {cal : Nat} (hk : cal < 137) (h : as.map Prod.fst = fw_pt cal) : ∀ a ∈ as, a.1 ≠ 1 ∧ a.1 ≠ 3 := by
  intro a ha
  have h1 := (fw_mL_ok cal (List.mem_range.mpr hk)).2.2.2.1
  have h2 := List.all_eq_true.mp h1 a.1 (by rw [← h]; exact List.mem_map_of_mem ha)
  simp only [Bool.and_eq_true, decide_eq_true_eq] at h2
  exact h2
theorem fw_good1 {w : Cond} (h : w ∈ fw_ws) : GoodIn fw_ws (w :: fw_ws) := fw_goodIn fun x hx => (List.mem_cons.mp hx).elim (fun e => e ▸ h) id
theorem fw_cwc {k : Nat} (hk : k < 137) (h0 : k ≠ 0) (h3 : fw_ki k ≠ 3) : Cond.code (fw_y k) (fw_B k) (fw_mL k) (fw_rt k) ∈ fw_ws := by
  have := fw_cwi k hk (by omega)
  unfold fw_cw at this
  rw [if_neg h3] at this
  exact this
theorem fw_cwh {k : Nat} (hk : k < 137) (h0 : k ≠ 0) (h3 : fw_ki k = 3) : Cond.codeWith (fw_y k) (fw_B k) (fw_mL k) (fw_rt k) ((fw_hs k).map (fun h => (h.1, h.2.1, h.2.2.1, h.2.2.2.1))) ∈ fw_ws := by
  have := fw_cwi k hk (by omega)
  unfold fw_cw at this
  rw [if_pos h3] at this
  exact this
theorem fw_j_callV {k pc n cal : Nat} {ll rest as : List fw_V} {r : Int} {σ : fw_M} {o out : fw_O} (hd : fw_dec k pc = some (.invokevirtual n, 3)) (hm : fw_mr (fw_oc k) n = some (cal, 0)) (hki : fw_ki cal = 0) (hrk : fw_rk cal < fw_rk k) (hlt : cal < 137) (h0 : cal ≠ 0) (htag : as.map Prod.fst = fw_pt cal) (hrcv : fw_kd r = (fw_oc cal : Int) + 3) (h4 : rest.length ≤ 4) (hcal : fw_J cal 0 (fw_en cal ((2, r) :: as)) [] σ o) (hAF : fw_AF k pc ll rest o out) : fw_J k pc ll (as.reverse ++ (2, r) :: rest) σ out := by
  obtain ⟨m1, m2⟩ := fw_AF_mono hAF
  have c1 := hcal.1.1
  have c2 := hcal.1.2
  refine ⟨⟨by omega, by omega⟩, ?_⟩
  intro base b L xs D p l e R s m args below meth c Q al0 C0 S0 hC hF hR1 hR2 tys ws H locs cells slots ls cst hH hS hal hc1 hc2 hL hT
  obtain ⟨y1, y2, y3, y4, y5, y6, y7, y8⟩ := fw_y_ok cal (List.mem_range.mpr hlt)
  obtain ⟨z1, z2, z3, z4, z5⟩ := fw_mL_ok cal (List.mem_range.mpr hlt)
  obtain ⟨q, hq, q1, q2, q3, q4⟩ := fw_mr_find hm
  have htr := hC.2.2.2.2.2.2.2.2.1
  have hfr := hC.2.2.2.2.2.2.2.2.2.1
  have hlo := hC.2.2.2.2.2.2.2.2.2.2.1
  have hlen : as.length = (fw_pt cal).length := by rw [← htag, List.length_map]
  obtain ⟨mc, hmc⟩ : ∃ mc : Nat, (mc : Int) = o.2 (-1) 1 - σ (-1) 1 := ⟨(o.2 (-1) 1 - σ (-1) 1).toNat, by omega⟩
  obtain ⟨ms, hms⟩ : ∃ ms : Nat, (ms : Int) = o.2 (-1) 2 - σ (-1) 2 := ⟨(o.2 (-1) 2 - σ (-1) 2).toNat, by omega⟩
  have hl := fw_mr_ok q hq (by rw [q3]; exact hlt) q4
  rw [q1, q2, q3] at hl
  obtain ⟨cas, crest0, rfl, hT1, hT2⟩ := fw_St_app hT
  obtain ⟨v, crest, rfl, hv, hT3⟩ := fw_St_cons hT2
  have has := fw_St_rev hT1
  rw [List.reverse_reverse] at has
  have hsm := fw_sum4 hT3 h4
  have hoc := (fw_oc_ok cal (List.mem_range.mpr hlt)).1 (by omega)
  obtain ⟨p0, a0, ent, hp, ea, rfl, he⟩ := fw_H_at hH hv (by omega)
  obtain ⟨fs, rfl, hfl, hfs⟩ := fw_obj he hrcv hoc
  have hM := fw_met (l := l) (as := (2, r) :: as) (vs := .ref a0 :: cas.reverse) (base := base) (b := b) (L := L) (xs := xs) (D := D) (tys := tys) (ws := ws) hlt h0 (by omega) htr hcal ⟨hv, has⟩ (fun a ha => (List.mem_cons.mp ha).elim (fun e => by rw [e]; exact ⟨show (2 : Nat) ≠ 1 by decide, show (2 : Nat) ≠ 3 by decide⟩) (fw_tags hlt htag a)) (by rw [List.length_cons]; omega) hmc hms
  have hsz : ls.size = fw_mL k := by obtain ⟨l9, g1, -⟩ := hL; exact g1.1
  have hcl : cas.length = as.length := by have := fw_St_len hT1; rw [List.length_reverse] at this; exact this
  refine fw_core (tys := tys) (a := (Value.ref a0 :: cas.reverse).toArray) (mc := mc) (ms := ms) hAF hC hF hR1 hR2 hS hal (by omega) (by omega) hL hT3 ?_
  refine vx_runV (As := cas.reverse) (rest := crest) (b := a0) ⟨hC.1, hC.2.1, hC.2.2.1, hC.2.2.2.1, hC.2.2.2.2.1⟩ hM (cwV (C := fw_CN (fw_oc cal)) (fw_pt cal).length hC.2.2.2.2.1 (fw_goodIn fun w hw => ?_) rfl rfl rfl ⟨y1, y3, y4, y5⟩ ⟨by show fw_rk cal + 2 + 1 ≤ R.frames; omega, by show 8 + (fw_mL cal + 11) + (30 * fw_rk cal + 100) ≤ R.locals; omega⟩) ⟨fw_blind, va_recv hH.1 hH.2.1 (fw_cl _ hoc) hp, fw_pre hH hS hC.2.2.2.2.2.2.2.2.2.2.2.1 hC.2.2.2.2.2.2.2.2.2.2.2.2.1 hC.2.2.2.2.2.2.2.2.2.2.2.2.2.1⟩ rfl (by rw [List.length_reverse]; omega) hsz (by rw [List.reverse_reverse]) (lv_room hsm) (fw_de' hd) ⟨by omega, by omega⟩
  unfold wsV at hw
  rcases List.mem_append.mp hw with hw | hw
  · simp only [List.mem_cons, List.not_mem_nil, or_false] at hw
    rcases hw with rfl | rfl | rfl | rfl
    · exact fw_wd _ _ hl rfl
    · exact fw_in hlt (by omega) (Or.inl hki)
    · exact fw_sel hlt (by omega) hki
    · exact fw_ini _ (by omega)
  · exact (fw_good1 (fw_cwc hlt h0 (by omega)) w hw).1
theorem fw_j_callI {k pc n cal : Nat} {ll rest as : List fw_V} {r : Int} {σ : fw_M} {o out : fw_O} (hd : fw_dec k pc = some (.invokespecial n, 3)) (hm : fw_mr (fw_oc k) n = some (cal, 0)) (hki : fw_ki cal = 2) (hrk : fw_rk cal < fw_rk k) (hlt : cal < 137) (h0 : cal ≠ 0) (htag : as.map Prod.fst = fw_pt cal) (hrcv : fw_kd r = (fw_oc cal : Int) + 3) (h4 : rest.length ≤ 4) (hcal : fw_J cal 0 (fw_en cal ((2, r) :: as)) [] σ o) (hAF : fw_AF k pc ll rest o out) : fw_J k pc ll (as.reverse ++ (2, r) :: rest) σ out := by
  obtain ⟨m1, m2⟩ := fw_AF_mono hAF
  have c1 := hcal.1.1
  have c2 := hcal.1.2
  refine ⟨⟨by omega, by omega⟩, ?_⟩
  intro base b L xs D p l e R s m args below meth c Q al0 C0 S0 hC hF hR1 hR2 tys ws H locs cells slots ls cst hH hS hal hc1 hc2 hL hT
  obtain ⟨y1, y2, y3, y4, y5, y6, y7, y8⟩ := fw_y_ok cal (List.mem_range.mpr hlt)
  obtain ⟨z1, z2, z3, z4, z5⟩ := fw_mL_ok cal (List.mem_range.mpr hlt)
  obtain ⟨q, hq, q1, q2, q3, q4⟩ := fw_mr_find hm
  have htr := hC.2.2.2.2.2.2.2.2.1
  have hfr := hC.2.2.2.2.2.2.2.2.2.1
  have hlo := hC.2.2.2.2.2.2.2.2.2.2.1
  have hlen : as.length = (fw_pt cal).length := by rw [← htag, List.length_map]
  obtain ⟨mc, hmc⟩ : ∃ mc : Nat, (mc : Int) = o.2 (-1) 1 - σ (-1) 1 := ⟨(o.2 (-1) 1 - σ (-1) 1).toNat, by omega⟩
  obtain ⟨ms, hms⟩ : ∃ ms : Nat, (ms : Int) = o.2 (-1) 2 - σ (-1) 2 := ⟨(o.2 (-1) 2 - σ (-1) 2).toNat, by omega⟩
  have hl := fw_mr_ok q hq (by rw [q3]; exact hlt) q4
  rw [q1, q2, q3] at hl
  obtain ⟨cas, crest0, rfl, hT1, hT2⟩ := fw_St_app hT
  obtain ⟨v, crest, rfl, hv, hT3⟩ := fw_St_cons hT2
  have has := fw_St_rev hT1
  rw [List.reverse_reverse] at has
  have hsm := fw_sum4 hT3 h4
  have hoc := (fw_oc_ok cal (List.mem_range.mpr hlt)).1 (by omega)
  obtain ⟨p0, a0, ent, hp, ea, rfl, he⟩ := fw_H_at hH hv (by omega)
  obtain ⟨fs, rfl, hfl, hfs⟩ := fw_obj he hrcv hoc
  have hM := fw_met (l := l) (as := (2, r) :: as) (vs := .ref a0 :: cas.reverse) (base := base) (b := b) (L := L) (xs := xs) (D := D) (tys := tys) (ws := ws) hlt h0 (by omega) htr hcal ⟨hv, has⟩ (fun a ha => (List.mem_cons.mp ha).elim (fun e => by rw [e]; exact ⟨show (2 : Nat) ≠ 1 by decide, show (2 : Nat) ≠ 3 by decide⟩) (fw_tags hlt htag a)) (by rw [List.length_cons]; omega) hmc hms
  have hsz : ls.size = fw_mL k := by obtain ⟨l9, g1, -⟩ := hL; exact g1.1
  have hcl : cas.length = as.length := by have := fw_St_len hT1; rw [List.length_reverse] at this; exact this
  refine fw_core (tys := tys) (a := (Value.ref a0 :: cas.reverse).toArray) (mc := mc) (ms := ms) hAF hC hF hR1 hR2 hS hal (by omega) (by omega) hL hT3 ?_
  obtain ⟨yi1, yi2⟩ := y7 hki
  rw [yi2] at hM
  exact vx_runI (As := cas.reverse) (rest := crest) (b := a0) ⟨hC.1, hC.2.1, hC.2.2.1, hC.2.2.2.1, hC.2.2.2.2.1⟩ hM (cwI (fw_pt cal).length hC.2.2.2.2.1 (fw_good1 (by rw [← yi2]; exact fw_cwc hlt h0 (by omega))) rfl rfl rfl (by rw [y1]; exact hC.2.2.2.2.1 _ (fw_ini _ (by omega))) (hC.2.2.2.2.1 _ (fw_wd _ _ hl rfl)) (hC.2.2.2.2.1 _ (fw_in hlt (by omega) (Or.inr hki))) yi1 ⟨y3, y4, y5⟩ ⟨by show fw_rk cal + 2 + 1 ≤ R.frames; omega, by show 8 + (fw_mL cal + 11) + (30 * fw_rk cal + 100) ≤ R.locals; omega⟩) ⟨fw_blind, fw_pre hH hS hC.2.2.2.2.2.2.2.2.2.2.2.1 hC.2.2.2.2.2.2.2.2.2.2.2.2.1 hC.2.2.2.2.2.2.2.2.2.2.2.2.2.1⟩ rfl (by rw [List.length_reverse]; omega) hsz (by rw [List.reverse_reverse]) (lv_room hsm) (fw_de' hd) ⟨by omega, by omega⟩
theorem fw_j_callIN {k pc n cal : Nat} {ll rest as : List fw_V} {r : Int} {σ : fw_M} {o out : fw_O} (hd : fw_dec k pc = some (.invokespecial n, 3)) (hm : fw_mr (fw_oc k) n = some (cal, 1)) (hki : fw_ki cal = 2) (hrk : fw_rk cal < fw_rk k) (hlt : cal < 137) (h0 : cal ≠ 0) (htag : as.map Prod.fst = fw_pt cal) (hrcv : fw_kd r = (fw_oc cal : Int) + 3) (h4 : rest.length ≤ 4) (hcal : fw_J cal 0 (fw_en cal ((2, r) :: as)) [] σ o) (hAF : fw_AF k pc ll rest o out) : fw_J k pc ll (as.reverse ++ (2, r) :: rest) σ out := by
  obtain ⟨m1, m2⟩ := fw_AF_mono hAF
  have c1 := hcal.1.1
  have c2 := hcal.1.2
  refine ⟨⟨by omega, by omega⟩, ?_⟩
  intro base b L xs D p l e R s m args below meth c Q al0 C0 S0 hC hF hR1 hR2 tys ws H locs cells slots ls cst hH hS hal hc1 hc2 hL hT
  obtain ⟨y1, y2, y3, y4, y5, y6, y7, y8⟩ := fw_y_ok cal (List.mem_range.mpr hlt)
  obtain ⟨z1, z2, z3, z4, z5⟩ := fw_mL_ok cal (List.mem_range.mpr hlt)
  obtain ⟨q, hq, q1, q2, q3, q4⟩ := fw_mr_find hm
  have htr := hC.2.2.2.2.2.2.2.2.1
  have hfr := hC.2.2.2.2.2.2.2.2.2.1
  have hlo := hC.2.2.2.2.2.2.2.2.2.2.1
  have hlen : as.length = (fw_pt cal).length := by rw [← htag, List.length_map]
  obtain ⟨mc, hmc⟩ : ∃ mc : Nat, (mc : Int) = o.2 (-1) 1 - σ (-1) 1 := ⟨(o.2 (-1) 1 - σ (-1) 1).toNat, by omega⟩
  obtain ⟨ms, hms⟩ : ∃ ms : Nat, (ms : Int) = o.2 (-1) 2 - σ (-1) 2 := ⟨(o.2 (-1) 2 - σ (-1) 2).toNat, by omega⟩
  have hl := (fw_nest_ok q hq q4).1
  rw [q1, q2, q3] at hl
  obtain ⟨cas, crest0, rfl, hT1, hT2⟩ := fw_St_app hT
  obtain ⟨v, crest, rfl, hv, hT3⟩ := fw_St_cons hT2
  have has := fw_St_rev hT1
  rw [List.reverse_reverse] at has
  have hsm := fw_sum4 hT3 h4
  have hoc := (fw_oc_ok cal (List.mem_range.mpr hlt)).1 (by omega)
  obtain ⟨p0, a0, ent, hp, ea, rfl, he⟩ := fw_H_at hH hv (by omega)
  obtain ⟨fs, rfl, hfl, hfs⟩ := fw_obj he hrcv hoc
  have hM := fw_met (l := l) (as := (2, r) :: as) (vs := .ref a0 :: cas.reverse) (base := base) (b := b) (L := L) (xs := xs) (D := D) (tys := tys) (ws := ws) hlt h0 (by omega) htr hcal ⟨hv, has⟩ (fun a ha => (List.mem_cons.mp ha).elim (fun e => by rw [e]; exact ⟨show (2 : Nat) ≠ 1 by decide, show (2 : Nat) ≠ 3 by decide⟩) (fw_tags hlt htag a)) (by rw [List.length_cons]; omega) hmc hms
  have hsz : ls.size = fw_mL k := by obtain ⟨l9, g1, -⟩ := hL; exact g1.1
  have hcl : cas.length = as.length := by have := fw_St_len hT1; rw [List.length_reverse] at this; exact this
  refine fw_core (tys := tys) (a := (Value.ref a0 :: cas.reverse).toArray) (mc := mc) (ms := ms) hAF hC hF hR1 hR2 hS hal (by omega) (by omega) hL hT3 ?_
  obtain ⟨yi1, yi2⟩ := y7 hki
  rw [yi2] at hM
  exact vx_runIN (As := cas.reverse) (rest := crest) (b := a0) ⟨hC.1, hC.2.1, hC.2.2.1, hC.2.2.2.1, hC.2.2.2.2.1⟩ hM ⟨va_cnB (fw_pt cal).length hC.2.2.2.2.1 (fw_good1 (by rw [← yi2]; exact fw_cwc hlt h0 (by omega))) rfl rfl rfl (hC.2.2.2.2.2.2.2.2.2.2.2.1.2.2.1 _ hl) (by rw [y1]; exact hC.2.2.2.2.1 _ (fw_ini _ (by omega))) ⟨y3, y4, y5⟩ ⟨by show fw_rk cal + 2 + 1 ≤ R.frames; omega, by show 8 + (fw_mL cal + 11) + (30 * fw_rk cal + 100) ≤ R.locals; omega⟩, yi1, hC.2.2.2.2.1 _ (fw_in hlt (by omega) (Or.inr hki))⟩ ⟨fw_blind, fw_pre hH hS hC.2.2.2.2.2.2.2.2.2.2.2.1 hC.2.2.2.2.2.2.2.2.2.2.2.2.1 hC.2.2.2.2.2.2.2.2.2.2.2.2.2.1⟩ rfl (by rw [List.length_reverse]; omega) hsz (by rw [List.reverse_reverse]) (lv_room hsm) (fw_de' hd) ⟨by omega, by omega⟩
theorem fw_j_callS {k pc n cal : Nat} {ll rest as : List fw_V} {σ : fw_M} {o out : fw_O} (hd : fw_dec k pc = some (.invokestatic n, 3)) (hm : fw_mr (fw_oc k) n = some (cal, 0)) (hki : fw_ki cal = 1) (hrk : fw_rk cal < fw_rk k) (hlt : cal < 137) (h0 : cal ≠ 0) (htag : as.map Prod.fst = fw_pt cal) (h4 : rest.length ≤ 4) (hcal : fw_J cal 0 (fw_en cal (as)) [] σ o) (hAF : fw_AF k pc ll rest o out) : fw_J k pc ll (as.reverse ++ rest) σ out := by
  obtain ⟨m1, m2⟩ := fw_AF_mono hAF
  have c1 := hcal.1.1
  have c2 := hcal.1.2
  refine ⟨⟨by omega, by omega⟩, ?_⟩
  intro base b L xs D p l e R s m args below meth c Q al0 C0 S0 hC hF hR1 hR2 tys ws H locs cells slots ls cst hH hS hal hc1 hc2 hL hT
  obtain ⟨y1, y2, y3, y4, y5, y6, y7, y8⟩ := fw_y_ok cal (List.mem_range.mpr hlt)
  obtain ⟨z1, z2, z3, z4, z5⟩ := fw_mL_ok cal (List.mem_range.mpr hlt)
  obtain ⟨q, hq, q1, q2, q3, q4⟩ := fw_mr_find hm
  have htr := hC.2.2.2.2.2.2.2.2.1
  have hfr := hC.2.2.2.2.2.2.2.2.2.1
  have hlo := hC.2.2.2.2.2.2.2.2.2.2.1
  have hlen : as.length = (fw_pt cal).length := by rw [← htag, List.length_map]
  obtain ⟨mc, hmc⟩ : ∃ mc : Nat, (mc : Int) = o.2 (-1) 1 - σ (-1) 1 := ⟨(o.2 (-1) 1 - σ (-1) 1).toNat, by omega⟩
  obtain ⟨ms, hms⟩ : ∃ ms : Nat, (ms : Int) = o.2 (-1) 2 - σ (-1) 2 := ⟨(o.2 (-1) 2 - σ (-1) 2).toNat, by omega⟩
  have hl := fw_mr_ok q hq (by rw [q3]; exact hlt) q4
  rw [q1, q2, q3] at hl
  obtain ⟨cas, crest, rfl, hT1, hT3⟩ := fw_St_app hT
  have has := fw_St_rev hT1
  rw [List.reverse_reverse] at has
  have hsm := fw_sum4 hT3 h4
  have hsz : ls.size = fw_mL k := by obtain ⟨l9, g1, -⟩ := hL; exact g1.1
  have hcl : cas.length = as.length := by have := fw_St_len hT1; rw [List.length_reverse] at this; exact this
  have hM := fw_met (l := l) (as := as) (vs := cas.reverse) (base := base) (b := b) (L := L) (xs := xs) (D := D) (tys := tys) (ws := ws) hlt h0 (by omega) htr hcal has (fw_tags hlt htag) (by omega) hmc hms
  refine fw_core (tys := tys) (a := cas.reverse.toArray) (mc := mc) (ms := ms) hAF hC hF hR1 hR2 hS hal (by omega) (by omega) hL hT3 ?_
  refine vx_runS (As := cas.reverse) (rest := crest) ⟨hC.1, hC.2.1, hC.2.2.1, hC.2.2.2.1, hC.2.2.2.2.1⟩ hM (va_cwS (fw_pt cal).length hC.2.2.2.2.1 (fw_goodIn fun w hw => ?_) rfl rfl rfl ⟨y3, y4, y5⟩ ⟨by show fw_rk cal + 2 + 1 ≤ R.frames; omega, by show 8 + (fw_mL cal + 11) + (30 * fw_rk cal + 100) ≤ R.locals; omega⟩) ⟨fw_blind, fw_pre hH hS hC.2.2.2.2.2.2.2.2.2.2.2.1 hC.2.2.2.2.2.2.2.2.2.2.2.2.1 hC.2.2.2.2.2.2.2.2.2.2.2.2.2.1⟩ rfl (by rw [List.length_reverse]; omega) hsz (by rw [List.reverse_reverse]) (lv_room hsm) (fw_de' hd) ⟨by omega, by omega⟩
  unfold va_wsS at hw
  rcases List.mem_append.mp hw with hw | hw
  · simp only [List.mem_cons, List.not_mem_nil, or_false] at hw
    rcases hw with rfl | rfl | rfl
    · exact fw_wd _ _ hl rfl
    · exact fw_stt hlt (by omega) (Or.inl hki)
    · rw [y1]; exact fw_ini _ y2
  · exact (fw_good1 (fw_cwc hlt h0 (by omega)) w hw).1
theorem fw_j_callSN {k pc n cal : Nat} {ll rest as : List fw_V} {σ : fw_M} {o out : fw_O} (hd : fw_dec k pc = some (.invokestatic n, 3)) (hm : fw_mr (fw_oc k) n = some (cal, 1)) (hki : fw_ki cal = 1) (hrk : fw_rk cal < fw_rk k) (hlt : cal < 137) (h0 : cal ≠ 0) (htag : as.map Prod.fst = fw_pt cal) (h4 : rest.length ≤ 4) (hcal : fw_J cal 0 (fw_en cal (as)) [] σ o) (hAF : fw_AF k pc ll rest o out) : fw_J k pc ll (as.reverse ++ rest) σ out := by
  obtain ⟨m1, m2⟩ := fw_AF_mono hAF
  have c1 := hcal.1.1
  have c2 := hcal.1.2
  refine ⟨⟨by omega, by omega⟩, ?_⟩
  intro base b L xs D p l e R s m args below meth c Q al0 C0 S0 hC hF hR1 hR2 tys ws H locs cells slots ls cst hH hS hal hc1 hc2 hL hT
  obtain ⟨y1, y2, y3, y4, y5, y6, y7, y8⟩ := fw_y_ok cal (List.mem_range.mpr hlt)
  obtain ⟨z1, z2, z3, z4, z5⟩ := fw_mL_ok cal (List.mem_range.mpr hlt)
  obtain ⟨q, hq, q1, q2, q3, q4⟩ := fw_mr_find hm
  have htr := hC.2.2.2.2.2.2.2.2.1
  have hfr := hC.2.2.2.2.2.2.2.2.2.1
  have hlo := hC.2.2.2.2.2.2.2.2.2.2.1
  have hlen : as.length = (fw_pt cal).length := by rw [← htag, List.length_map]
  obtain ⟨mc, hmc⟩ : ∃ mc : Nat, (mc : Int) = o.2 (-1) 1 - σ (-1) 1 := ⟨(o.2 (-1) 1 - σ (-1) 1).toNat, by omega⟩
  obtain ⟨ms, hms⟩ : ∃ ms : Nat, (ms : Int) = o.2 (-1) 2 - σ (-1) 2 := ⟨(o.2 (-1) 2 - σ (-1) 2).toNat, by omega⟩
  have hl := (fw_nest_ok q hq q4).1
  rw [q1, q2, q3] at hl
  obtain ⟨cas, crest, rfl, hT1, hT3⟩ := fw_St_app hT
  have has := fw_St_rev hT1
  rw [List.reverse_reverse] at has
  have hsm := fw_sum4 hT3 h4
  have hsz : ls.size = fw_mL k := by obtain ⟨l9, g1, -⟩ := hL; exact g1.1
  have hcl : cas.length = as.length := by have := fw_St_len hT1; rw [List.length_reverse] at this; exact this
  have hM := fw_met (l := l) (as := as) (vs := cas.reverse) (base := base) (b := b) (L := L) (xs := xs) (D := D) (tys := tys) (ws := ws) hlt h0 (by omega) htr hcal has (fw_tags hlt htag) (by omega) hmc hms
  refine fw_core (tys := tys) (a := cas.reverse.toArray) (mc := mc) (ms := ms) hAF hC hF hR1 hR2 hS hal (by omega) (by omega) hL hT3 ?_
  exact vx_runSN (As := cas.reverse) (rest := crest) ⟨hC.1, hC.2.1, hC.2.2.1, hC.2.2.2.1, hC.2.2.2.2.1⟩ hM ⟨va_cnB (fw_pt cal).length hC.2.2.2.2.1 (fw_good1 (fw_cwc hlt h0 (by omega))) rfl rfl rfl (hC.2.2.2.2.2.2.2.2.2.2.2.1.2.2.1 _ hl) (by rw [y1]; exact hC.2.2.2.2.1 _ (fw_ini _ y2)) ⟨y3, y4, y5⟩ ⟨by show fw_rk cal + 2 + 1 ≤ R.frames; omega, by show 8 + (fw_mL cal + 11) + (30 * fw_rk cal + 100) ≤ R.locals; omega⟩, hC.2.2.2.2.1 _ (fw_stt hlt (by omega) (Or.inl hki)), trivial⟩ ⟨fw_blind, fw_pre hH hS hC.2.2.2.2.2.2.2.2.2.2.2.1 hC.2.2.2.2.2.2.2.2.2.2.2.2.1 hC.2.2.2.2.2.2.2.2.2.2.2.2.2.1⟩ rfl (by rw [List.length_reverse]; omega) hsz (by rw [List.reverse_reverse]) (lv_room hsm) (fw_de' hd) ⟨by omega, by omega⟩
theorem fw_j_callSX {k pc n cal : Nat} {ll rest as : List fw_V} {σ : fw_M} {o out : fw_O} (hd : fw_dec k pc = some (.invokestatic n, 3)) (hm : fw_mr (fw_oc k) n = some (cal, 0)) (hki : fw_ki cal = 3) (hrk : fw_rk cal < fw_rk k) (hlt : cal < 137) (h0 : cal ≠ 0) (htag : as.map Prod.fst = fw_pt cal) (h4 : rest.length ≤ 4) (hcal : fw_J cal 0 (fw_en cal (as)) [] σ o) (hAF : fw_AF k pc ll rest o out) : fw_J k pc ll (as.reverse ++ rest) σ out := by
  obtain ⟨m1, m2⟩ := fw_AF_mono hAF
  have c1 := hcal.1.1
  have c2 := hcal.1.2
  refine ⟨⟨by omega, by omega⟩, ?_⟩
  intro base b L xs D p l e R s m args below meth c Q al0 C0 S0 hC hF hR1 hR2 tys ws H locs cells slots ls cst hH hS hal hc1 hc2 hL hT
  obtain ⟨y1, y2, y3, y4, y5, y6, y7, y8⟩ := fw_y_ok cal (List.mem_range.mpr hlt)
  obtain ⟨z1, z2, z3, z4, z5⟩ := fw_mL_ok cal (List.mem_range.mpr hlt)
  obtain ⟨q, hq, q1, q2, q3, q4⟩ := fw_mr_find hm
  have htr := hC.2.2.2.2.2.2.2.2.1
  have hfr := hC.2.2.2.2.2.2.2.2.2.1
  have hlo := hC.2.2.2.2.2.2.2.2.2.2.1
  have hlen : as.length = (fw_pt cal).length := by rw [← htag, List.length_map]
  obtain ⟨mc, hmc⟩ : ∃ mc : Nat, (mc : Int) = o.2 (-1) 1 - σ (-1) 1 := ⟨(o.2 (-1) 1 - σ (-1) 1).toNat, by omega⟩
  obtain ⟨ms, hms⟩ : ∃ ms : Nat, (ms : Int) = o.2 (-1) 2 - σ (-1) 2 := ⟨(o.2 (-1) 2 - σ (-1) 2).toNat, by omega⟩
  have hl := fw_mr_ok q hq (by rw [q3]; exact hlt) q4
  rw [q1, q2, q3] at hl
  obtain ⟨cas, crest, rfl, hT1, hT3⟩ := fw_St_app hT
  have has := fw_St_rev hT1
  rw [List.reverse_reverse] at has
  have hsm := fw_sum4 hT3 h4
  have hsz : ls.size = fw_mL k := by obtain ⟨l9, g1, -⟩ := hL; exact g1.1
  have hcl : cas.length = as.length := by have := fw_St_len hT1; rw [List.length_reverse] at this; exact this
  obtain ⟨hh, hhe⟩ : ∃ hh, hh = (fw_hs cal).map (fun h => (h.1, h.2.1, h.2.2.1, h.2.2.2.1)) := ⟨_, rfl⟩
  have hcw := fw_cwh hlt h0 hki
  rw [← hhe] at hcw
  have hM := fw_metH (l := l) (as := as) (vs := cas.reverse) (base := base) (b := b) (L := L) (xs := xs) (D := D) (tys := tys) (ws := ws) hlt h0 hki htr hhe hcal has (fw_tags hlt htag) (by omega) hmc hms
  refine fw_core (tys := tys) (a := cas.reverse.toArray) (mc := mc) (ms := ms) hAF hC hF hR1 hR2 hS hal (by omega) (by omega) hL hT3 ?_
  refine vx_runSX (hh := hh) (As := cas.reverse) (rest := crest) ⟨hC.1, hC.2.1, hC.2.2.1, hC.2.2.2.1, hC.2.2.2.2.1⟩ hM (vx_cwSW (fw_pt cal).length hC.2.2.2.2.1 (fw_goodIn fun w hw => ?_) rfl rfl rfl ⟨y3, y4, y5⟩ ⟨by show fw_rk cal + 2 + 1 ≤ R.frames; omega, by show 8 + (fw_mL cal + 11) + (30 * fw_rk cal + 100) ≤ R.locals; omega⟩) ⟨fw_blind, fw_pre hH hS hC.2.2.2.2.2.2.2.2.2.2.2.1 hC.2.2.2.2.2.2.2.2.2.2.2.2.1 hC.2.2.2.2.2.2.2.2.2.2.2.2.2.1⟩ rfl (by rw [List.length_reverse]; omega) hsz (by rw [List.reverse_reverse]) (lv_room hsm) (fw_de' hd) ⟨by omega, by omega⟩
  unfold va_wsS at hw
  rcases List.mem_append.mp hw with hw | hw
  · simp only [List.mem_cons, List.not_mem_nil, or_false] at hw
    rcases hw with rfl | rfl | rfl
    · exact fw_wd _ _ hl rfl
    · exact fw_stt hlt (by omega) (Or.inr hki)
    · rw [y1]; exact fw_ini _ y2
  · exact (fw_good1 hcw w hw).1
theorem fw_j_throw {k pc n ic x : Nat} {ll : List fw_V} {σ : fw_M} (hd : fw_dec k pc = some (.new n, 3)) (hx : fw_xr n = some (ic, x)) (ho : fw_oc k = 8) (hhs : fw_hs k = []) (h4r : 4 ≤ fw_rk k) (d3 : fw_dec k (pc + 3) = some (.dup, 1)) (d4 : fw_dec k (pc + 4) = some (.invokespecial ic, 3)) (d7 : fw_dec k (pc + 7) = some (.athrow, 1)) : fw_J k pc ll [] σ ((9, (x : Int)), fw_ex σ) := by
  have e1 : fw_ex σ (-1) 1 = σ (-1) 1 + 1 := rfl
  have e2 : fw_ex σ (-1) 2 = σ (-1) 2 + 6 := rfl
  refine ⟨⟨by show σ (-1) 1 ≤ fw_ex σ (-1) 1; omega, by show σ (-1) 2 ≤ fw_ex σ (-1) 2; omega⟩, ?_⟩
  intro base b L xs D p l e R s m args below meth c Q al0 C0 S0 hC hF hR1 hR2 tys ws H locs cells slots ls cst hH hS hal hc1 hc2 hL hT
  have hR1 : fw_ex σ (-1) 1 - C0 ≤ R.cells := hR1
  have hR2 : fw_ex σ (-1) 2 - S0 ≤ R.slots := hR2
  have := fw_St_nil hT
  subst this
  have hk0 : k ≠ 0 := by
    intro h
    subst h
    have : fw_oc 0 = 10 := by decide +kernel
    omega
  have hsz : ls.size = fw_mL k := by obtain ⟨l9, g1, -⟩ := hL; exact g1.1
  unfold fw_xr at hx
  obtain ⟨q, hq1, hq2⟩ := Option.map_eq_some_iff.mp hx
  have hp := List.find?_some hq1
  simp only [beq_iff_eq] at hp
  exact hF.2.2 σ n ic x rfl rfl ho hhs hk0 h4r ⟨q, List.mem_of_find?_eq_some hq1, hp, congrArg Prod.fst hq2, congrArg Prod.snd hq2⟩ tys ws H locs cells slots pc ls hsz (fw_de' hd) (fw_de' d3) (fw_de' d4) (fw_de' d7) hH hS hal hc1 hc2 (by omega) (by omega)
theorem fw_j_ret {k pc : Nat} {ll st : List fw_V} {σ : fw_M} {v : fw_V} {i : Instr} (hd : fw_dec k pc = some (i, 1)) (hv : ∀ (al : List Nat) (b : Nat) (cst : List Value), fw_St al b st cst → fw_rv k al b v i cst) : fw_J k pc ll st σ (v, σ) := by
  refine ⟨⟨Int.le_refl _, Int.le_refl _⟩, ?_⟩
  intro base b L xs D p l e R s m args below meth c Q al0 C0 S0 hC hF hR1 hR2 tys ws H locs cells slots ls cst hH hS hal hc1 hc2 hL hT
  exact hF.1 tys ws H locs cells slots pc ls cst i (fw_de' hd) hH hS hal hc1 hc2 (hv _ _ _ hT)
