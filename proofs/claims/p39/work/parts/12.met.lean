/-! a method's contract, out of its run on the small machine -/
def fw_ov (al : List Nat) (b : Nat) (av : fw_V) (v : Option Value) : Prop := (av = (5, 0) ∧ v = none) ∨ (av.1 ≠ 5 ∧ av.1 ≠ 9 ∧ ∃ z, v = some z ∧ fw_vr al b av z)
def fw_Q (base b L : Nat) (xs : Nat → Int32) (D : va_G) (al0 : List Nat) (out : fw_O) : Array Value → State → Outcome → State → Prop := fun _ st o t =>
  ∃ v : Option Value, o = .returned v ∧ (∃ (tys : List (ClassId × FieldType)) (ws : va_W), fw_H base b L xs D out.2 tys ws t t.heap ∧ al0 <+: fw_al ws ∧ fw_ov (fw_al ws) b out.1 v) ∧ va_F (fun q => base ≤ q) st t
def fw_XQ (base b L : Nat) (xs : Nat → Int32) (D : va_G) (al0 : List Nat) (out : fw_O) : String → State → State → Prop := fun E st t =>
  out.1.1 = 9 ∧ E = fw_xn out.1.2.toNat ∧ (∃ (tys : List (ClassId × FieldType)) (ws : va_W), fw_H base b L xs D out.2 tys ws t t.heap ∧ al0 <+: fw_al ws) ∧ va_F (fun q => base ≤ q) st t
theorem fw_args_mem : ∀ (vs : List Value) (n i : Nat) (v : Value), (∀ w ∈ vs, w.category = 1) → vs[i]? = some v → (n + i, v) ∈ lv_args n vs
  | [], _, _, _, _, h => by simp at h
  | w :: vs, n, 0, v, hc, h => by
    rw [List.getElem?_cons_zero] at h
    cases h
    exact List.mem_cons_self
  | w :: vs, n, i + 1, v, hc, h => by
    rw [List.getElem?_cons_succ] at h
    have h1 : ¬ w.category = 2 := by rw [hc w List.mem_cons_self]; decide
    have h2 := fw_args_mem vs (n + 1) i v (fun x hx => hc x (List.mem_cons_of_mem _ hx)) h
    unfold lv_args
    rw [if_neg h1]
    refine List.mem_cons_of_mem _ ?_
    have e : n + (i + 1) = n + 1 + i := by omega
    rw [e]
    exact h2
theorem fw_args_cat : ∀ (vs : List Value) (n : Nat), (∀ w ∈ vs, w.category = 1) → ∀ q ∈ lv_args n vs, q.2.category = 1
  | [], _, _, _, h => by cases h
  | w :: vs, n, hc, q, h => by
    unfold lv_args at h
    rcases List.mem_cons.mp h with rfl | h
    · exact hc w List.mem_cons_self
    · exact fw_args_cat vs _ (fun x hx => hc x (List.mem_cons_of_mem _ hx)) q h
theorem fw_sl_len : ∀ (vs : List Value), (∀ w ∈ vs, w.category = 1) → (lg_sl vs).length = vs.length
  | [], _ => rfl
  | w :: vs, hc => by
    have h1 : ¬ w.category = 2 := by rw [hc w List.mem_cons_self]; decide
    have h2 := fw_sl_len vs (fun x hx => hc x (List.mem_cons_of_mem _ hx))
    have h3 : lg_sl (w :: vs) = .val w :: lg_sl vs := by
      unfold lg_sl
      rw [List.flatMap_cons, if_neg h1]
      rfl
    rw [h3, List.length_cons, h2, List.length_cons]
theorem fw_St_mem {al : List Nat} {b : Nat} : ∀ {st : List fw_V} {cst : List Value}, fw_St al b st cst → ∀ w ∈ cst, ∃ a ∈ st, fw_vr al b a w
  | [], [], _, _, h => by cases h
  | a :: st, v :: cst, hs, w, h => by
    rcases List.mem_cons.mp h with rfl | h
    · exact ⟨a, List.mem_cons_self, hs.1⟩
    · obtain ⟨a', h1, h2⟩ := fw_St_mem hs.2 w h
      exact ⟨a', List.mem_cons_of_mem _ h1, h2⟩
/-- a method's locals at its entry -/
theorem fw_L_entry {k : Nat} {al : List Nat} {b : Nat} {as : List fw_V} {vs : List Value} (hT : fw_St al b as vs) (ht : ∀ a ∈ as, a.1 ≠ 1 ∧ a.1 ≠ 3) (hn : as.length ≤ fw_mL k) :
    fw_L k al b ((lg_sl vs ++ List.replicate (fw_mL k - (lg_sl vs).length) Slot.unset).toArray) (fw_en k as) := by
  have hc : ∀ w ∈ vs, w.category = 1 := by
    intro w hw
    obtain ⟨a, h1, h2⟩ := fw_St_mem hT w hw
    exact fw_cat h2 (ht a h1).1 (ht a h1).2
  have hlen := fw_St_len hT
  have hsl := fw_sl_len vs hc
  refine ⟨lv_args 0 vs, lv_entry vs (by omega), ?_, fun i av hi ha => ?_, fun q hq h2 => ?_, fun av hav => ?_, fun _ av hav => ?_⟩
  · unfold fw_en
    rw [List.length_append, List.length_replicate]
    omega
  · unfold fw_en at hi
    by_cases hl : i < as.length
    · rw [List.getElem?_append_left hl] at hi
      obtain ⟨v, h1, h2⟩ := fw_St_at hT hi
      have h3 := fw_args_mem vs 0 i v hc h1
      rw [Nat.zero_add] at h3
      exact ⟨v, h3, h2⟩
    · rw [List.getElem?_append_right (by omega)] at hi
      have := (List.mem_replicate.mp (List.mem_of_getElem? hi)).2
      rw [this] at ha
      exact absurd rfl ha
  · have := fw_args_cat vs 0 hc q hq
    omega
  · unfold fw_en at hav
    rcases List.mem_append.mp hav with h | h
    · exact (ht av h).2
    · rw [(List.mem_replicate.mp h).2]; exact (by decide : (8 : Nat) ≠ 3)
  · unfold fw_en at hav
    rcases List.mem_append.mp hav with h | h
    · exact (ht av h).1
    · rw [(List.mem_replicate.mp h).2]; exact (by decide : (8 : Nat) ≠ 1)
def fw_rm (k mc ms : Nat) : Room := { frames := fw_rk k + 2, locals := 30 * fw_rk k + 100, cells := mc, slots := ms }
def fw_P (base b L : Nat) (xs : Nat → Int32) (D : va_G) (σ : fw_M) (tys : List (ClassId × FieldType)) (ws : va_W) (U : State) : Prop := fw_H base b L xs D σ tys ws U U.heap ∧ fw_Z base U U.heap ∧ base ≤ U.heap.size ∧ va_X b L xs U U.heap ∧ b < U.heap.size ∧ b < base
/-- the ends of a method other than the law -/
theorem fw_fin {k base b L : Nat} {xs : Nat → Int32} {D : va_G} {p : Program} {l : Launch} {e : Env} {R : Room} {s : State} {m : MethodId} {args : Array Value} {below : List Frame} {meth : Method} {c : Code} {al0 : List Nat} {C0 S0 : Int} {out : fw_O} {mc ms : Nat}
    (hC : fw_C k base b L xs p l R s m args meth c) (h0 : k ≠ 0) (hmc : (mc : Int) = out.2 (-1) 1 - C0) (hms : (ms : Int) = out.2 (-1) 2 - S0) :
    fw_F k base b L xs D p l e R s m args below meth c (vx_MQ below (fw_Q base b L xs D al0 out) (fw_XQ base b L xs D al0 out) args s mc ms (fun q => base ≤ q)) al0 C0 S0 out := by
  obtain ⟨hx, hb, hml, hown, hws, hlocks, htab, hini, htr, hfr, hlo, hZ, hbase, hscr, hr, hk⟩ := hC
  refine ⟨?_, ?_, ?_⟩
  · intro tys ws H locs cells slots pc ls cst i hd hH hS hal hc1 hc2 hv
    obtain rfl : cells = mc := by omega
    obtain rfl : slots = ms := by omega
    refine vx_ret ?_
    have key : ∀ (v : Option Value), fw_ov (fw_al ws) b out.1 v → ∀ t : State, t.heap = H → s.WarmedH t.vm → fw_Q base b L xs D al0 out args s (.returned v) t := by
      intro v hv t ht hW
      exact ⟨v, rfl, ⟨tys, ws, by rw [ht]; exact fw_H_moved hW.alike hH, hal, hv⟩, hS.F ht⟩
    rcases hv with ⟨h1, rfl, h3, rfl⟩ | ⟨h1, rfl, h3, z, h4, rfl⟩ | ⟨h1, rfl, h3, z, h4, rfl⟩ | ⟨h1, rfl, h3, z, h4, rfl⟩ | ⟨h1, rfl, h3, z, h4, rfl⟩ | ⟨h1, rfl, h3, z, h4, rfl⟩
    · exact W.vret hx hb (by rw [hr, h3]) (key none (Or.inl ⟨h1, rfl⟩)) hS.2.2 hd
    · have kz := key (some (.int z)) (Or.inr ⟨by omega, by omega, _, rfl, by unfold fw_vr; rw [h1]; exact ⟨z, rfl, h4⟩⟩)
      unfold fw_ri at h3
      split at h3
      · rename_i hq
        exact W.zret (ty := .int) hx hb (by rw [hr, hq]) rfl kz hS.2.2 hd
      · rename_i hq
        have h3 := of_decide_eq_true h3
        refine W.zret (ty := .boolean) hx hb (by rw [hr, hq]) ?_ kz hS.2.2 hd
        rcases h3 with q | q
        · have : z = 0 := Int32.toInt_inj.mp (by rw [← h4, q]; rfl)
          subst this
          decide
        · have : z = 1 := Int32.toInt_inj.mp (by rw [← h4, q]; rfl)
          subst this
          decide
      · rename_i hq
        have h3 := of_decide_eq_true h3
        refine W.zret (ty := .char) hx hb (by rw [hr, hq]) ?_ kz hS.2.2 hd
        obtain ⟨q9, hq9, rfl⟩ := nI_of (x := z) (by rw [Int32.lt_iff_toInt_lt]; have : (0 : Int32).toInt = 0 := rfl; omega)
        rw [nI_toInt hq9] at h4
        exact (pk_charN (by omega)).1
      · cases h3
    · exact W.lret hx hb (by rw [hr, h3]) (key (some (.long z)) (Or.inr ⟨by omega, by omega, _, rfl, by unfold fw_vr; rw [h1]; exact ⟨z, rfl, h4⟩⟩)) hS.2.2 hd
    · have h5 := h4
      unfold fw_vr at h5
      rw [h1] at h5
      exact W.aret (rt := .object RX1) hx hb (by rw [hr, h3]) (Or.inl ⟨_, rfl⟩) (by
        rcases h5 with ⟨-, rfl⟩ | ⟨i, a, -, -, rfl⟩
        · exact Or.inl rfl
        · exact Or.inr ⟨_, rfl⟩) (key (some z) (Or.inr ⟨by omega, by omega, _, rfl, h4⟩)) hS.2.2 hd
    · exact W.dret hx hb (by rw [hr, h3]) (key (some (.double z)) (Or.inr ⟨by omega, by omega, _, rfl, by unfold fw_vr; rw [h1]; exact ⟨z, rfl, h4⟩⟩)) hS.2.2 hd
    · exact W.fret hx hb (by rw [hr, h3]) (key (some (.float z)) (Or.inr ⟨by omega, by omega, _, rfl, by unfold fw_vr; rw [h1]; exact ⟨z, rfl, h4⟩⟩)) hS.2.2 hd
  · intro h9 _ hhs tys ws H locs cells slots pc ls rest q ce hH hS hal hc1 hc2 hq hv hcl
    have ht := htab h0
    rw [hhs] at ht
    exact vx_out (fun x hx => by rw [ht] at hx; cases hx) hlocks hq hv hcl (fun t ht hvm => ⟨h9, rfl, ⟨tys, ws, by rw [ht]; exact fw_H_moved hvm hH, hal⟩, hS.F ht⟩) hS.2.2 (by omega) (by omega)
  · intro σ ik ic x h9 hσ ho hhs _ h4r hex tys ws H locs cells slots pc ls hls d0 d3 d4 d7 hH hS hal hc1 hc2 hr1 hr2
    obtain ⟨q, hq, rfl, rfl, rfl⟩ := hex
    have ht := htab h0
    rw [hhs] at ht
    obtain ⟨g1, g2⟩ := fw_xr_ok q hq
    have g3 := fw_at_ok q hq
    have g4 := fw_at_tbl q hq
    have hx1 : out.2 (-1) 1 = σ (-1) 1 + 1 := by rw [hσ]; rfl
    have hx2 : out.2 (-1) 2 = σ (-1) 2 + 6 := by rw [hσ]; rfl
    rw [ho] at hown
    have hini9 : Cond.initialized (fw_xn q.2.2.1) ∈ fw_ws := fw_xini q.2.2.1 g2
    refine vx_throw0 (own := fw_CN 8) (cls := fw_xn q.2.2.1) (names := fw_nm) (ik := q.1) (ic := q.2.1) (A := fun z => base ≤ z) hx hb htr hown (fw_xfit q.2.2.1 g2).1 (by decide +kernel) (hws _ (fw_wd _ _ g1 rfl)) (hws _ hini9) (fun w hw => ?_) (fw_at_ot q hq) hZ.1 hZ.2.1 hS (by rw [hml]; exact hls) d0 d3 d4 d7 (fun x hx => by rw [ht] at hx; cases hx) ?_ ?_ hr1 hr2 hlocks (fun t hvm hz hk9 => ?_) hS.2.2 (by omega) (by omega)
    · rcases g3 w hw with hg | hg
      · exact hws w (List.mem_filter.mpr ⟨g4 w (List.mem_filter.mpr ⟨hw, hg⟩), hg⟩)
      · exact va_Nw.use (fw_nz_tbl w hg).2 (hZ.2.2.1 w hg)
    · show 2 + 3 < R.frames
      omega
    · show 0 + (13 * (2 + 1) + 42) ≤ R.locals
      omega
    · have hP9 : va_P D fw_Cl ws t.heap := hH.2.1.kept (fun k9 q9 hq9 => hk9 q9.1 ((hH.2.1 k9 q9 hq9).lt))
      refine ⟨by rw [h9], by rw [h9]; rfl, ⟨tys, ws, ?_, hal⟩, Nat.le_trans hS.1 hz, fun z h1 h2 => by rw [hk9 z (Nat.lt_of_lt_of_le h1 hS.1)]; exact hS.2.1 z h1 h2⟩
      rw [hσ]
      obtain ⟨a1, a2, a3, a4, a5, a6, a7⟩ := hH
      refine ⟨a1.moved hvm, hP9, a3, a4, fun k9 q9 hq9 => fw_er_mono (List.prefix_refl _) (List.prefix_refl _) (fun j => ?_) (a5 k9 q9 hq9), a6, a7⟩
      unfold fw_ex
      rw [if_neg (by omega)]
