/-- (entry of an exception's class in the law, its number, and where the tables say so) -/
def fw_hlT : List (Nat × Nat × Nat × Nat) := [(15, 4, 4, 48)]
theorem fw_hl_ok : ∀ q ∈ fw_hlT, (fw_t q.2.2.1)[q.2.2.2]? = some (.classLink (fw_CN 10) q.1 (fw_xn q.2.1)) ∧ q.1 ≠ 0 ∧ q.2.1 < 6 := by decide +kernel
theorem fw_hs_ok : ∀ k ∈ List.range 137, (fw_hs k).all (fun h => fw_hlT.any (fun q => q.1 == h.2.2.2.1 && q.2.1 == h.2.2.2.2)) = true ∧ (fw_hs k).Pairwise (fun a c => (c.2.2.2.2, a.2.2.2.2) ∈ fw_nc) ∧ (fw_hs k = [] ∨ fw_oc k = 10) := by decide +kernel
theorem fw_mL_ok : ∀ k ∈ List.range 137, fw_mL k ≤ 11 ∧ (fw_ki k = 0 ∨ fw_ki k = 2 → (fw_pt k).length + 1 ≤ fw_mL k) ∧ (fw_pt k).length ≤ fw_mL k ∧ (fw_pt k).all (fun t => decide (t ≠ 1) && decide (t ≠ 3)) = true ∧ (k = 0 ∨ fw_ki k < 4) := by decide +kernel
theorem fw_cast_ok : ∀ x ∈ List.range 6, Cond.castable (fw_xn x) (fw_xn x) ∈ fw_nz := by decide +kernel
theorem fw_nest_ok : ∀ q ∈ fw_mrT, q.2.2.2.1 = 1 → Cond.methodLinkNest (fw_CN q.1) q.2.1 (fw_y q.2.2.1) (fw_CN 8) ∈ fw_nz ∧ (fw_ki q.2.2.1 = 1 ∨ fw_ki q.2.2.1 = 2) := by decide +kernel
section FW13
variable {k base b L : Nat} {xs : Nat → Int32} {D : va_G} {p : Program} {l : Launch} {e : Env} {R : Room} {s : State} {m : MethodId} {args : Array Value} {below : List Frame} {meth : Method} {c : Code} {Q : State → Prop} {H : Heap} {locs : List Loc} {cells slots mc ms : Nat} {out o : fw_O} {σ : fw_M}
/-- a body, from its entry -/
theorem fw_body {as : List fw_V} {vs : List Value} {tys : List (ClassId × FieldType)} {ws : va_W} {c1 s1 : Nat} (hJ : fw_J k 0 (fw_en k as) [] σ out) (h0 : k ≠ 0) (hT : fw_St (fw_al ws) b as vs) (ht : ∀ a ∈ as, a.1 ≠ 1 ∧ a.1 ≠ 3) (hn : as.length ≤ fw_mL k)
    (hmc : (mc : Int) = out.2 (-1) 1 - σ (-1) 1) (hms : (ms : Int) = out.2 (-1) 2 - σ (-1) 2) (hc1 : c1 = mc) (hs1 : s1 = ms) (ha : args = vs.toArray) (hC : fw_C k base b L xs p l (fw_rm k c1 s1) s m args meth c) (hH : fw_H base b L xs D σ tys ws s s.heap) :
    W p l e (fw_rm k c1 s1) s m args below meth c s.heap [] 0 0 (vx_MQ below (fw_Q base b L xs D (fw_al ws) out) (fw_XQ base b L xs D (fw_al ws) out) args s mc ms (fun q => base ≤ q)) (entryFrame m args (fw_mL k)) := by
  subst ha
  subst hc1
  subst hs1
  rw [lg_entry_eq]
  exact hJ.2 base b L xs D p l e _ s m _ below meth c _ (fw_al ws) (σ (-1) 1) (σ (-1) 2) hC (fw_fin hC h0 hmc hms) (by show _ ≤ ((c1 : Nat) : Int); omega) (by show _ ≤ ((s1 : Nat) : Int); omega) tys ws s.heap [] 0 0 _ [] hH va_S.rf (List.prefix_refl _) (by omega) (by omega) (fw_L_entry hT ht hn) trivial
theorem fw_met {as : List fw_V} {vs : List Value} {tys : List (ClassId × FieldType)} {ws : va_W} (hk : k < 137) (h0 : k ≠ 0) (hki : fw_ki k ≠ 3) (htr : l.stackTraces = false) (hJ : fw_J k 0 (fw_en k as) [] σ out) (hT : fw_St (fw_al ws) b as vs) (ht : ∀ a ∈ as, a.1 ≠ 1 ∧ a.1 ≠ 3) (hn : as.length ≤ fw_mL k)
    (hmc : (mc : Int) = out.2 (-1) 1 - σ (-1) 1) (hms : (ms : Int) = out.2 (-1) 2 - σ (-1) 2) :
    vx_Met l (fw_y k) (Cond.code (fw_y k) (fw_B k) (fw_mL k) (fw_rt k) :: fw_ws) (fw_rm k mc ms) (va_Pc vs (fw_P base b L xs D σ tys ws)) (fw_Q base b L xs D (fw_al ws) out) (fw_XQ base b L xs D (fw_al ws) out) mc ms (fun q => base ≤ q) := by
  obtain ⟨y1, y2, y3, y4, y5, y6, y7, y8⟩ := fw_y_ok k (List.mem_range.mpr hk)
  refine vx_ofW (cc := fw_B k) (maxL := fw_mL k) (ret := fw_rt k) y6 rfl ?_
  intro p e s m args below meth c s₁ B hml htab hv
  obtain ⟨ha, hH, hZ, hbase, hscr⟩ := hv
  have hts := atoms_spec (ws := Cond.code (fw_y k) (fw_B k) (fw_mL k) (fw_rt k) :: fw_ws) B.pre
  have hown : s.vm.findClass (fw_CN (fw_oc k)) = some m.cls := by rw [← y1]; exact findClass_of_methodNamed B.named
  refine fw_body hJ h0 hT ht hn hmc hms rfl rfl ha ⟨B.exec, B.bytes, hml, hown, fun w hw => hts w (List.mem_cons_of_mem _ hw), B.notSynchronized, fun _ => ?_, fun h2 => ?_, htr, Nat.le_refl _, Nat.le_refl _, hZ, hbase, hscr, B.returns, hk⟩ hH
  · rw [y8.mpr hki]
    exact List.eq_nil_iff_forall_not_mem.mpr htab
  · rw [(name_of_methodNamed B.named B.method).1]
    exact (y7 h2).1
/-- a call's two ends -/
theorem fw_go {al0 : List Nat} {pc : Nat} {ls : Array Slot} {st0 rest : List Value} {a : Array Value} (hr : vx_Run p l e R s m args below meth c H locs cells slots mc ms (F0 m pc ls st0) rest (fw_Q base b L xs D al0 o a) (fw_XQ base b L xs D al0 o) (fun q => base ≤ q)) (hS : va_S (fun q => base ≤ q) s.heap H locs)
    (kx : o.1.1 = 9 → ∀ (q : Addr) (ce : Cell) (tys : List (ClassId × FieldType)) (ws : va_W) (H1 : Heap) (locs1 : List Loc), fw_H base b L xs D o.2 tys ws s H1 → va_S (fun q => base ≤ q) s.heap H1 locs1 → al0 <+: fw_al ws → H1[q]? = some ce → ce.vm = .none → s.vm.findClass (fw_xn o.1.2.toNat) = some ce.cls → vx_W p l e R s m args below meth c H1 locs1 (cells + mc) (slots + ms) Q (F0 m pc ls rest) q)
    (kk : ∀ (v : Option Value) (tys : List (ClassId × FieldType)) (ws : va_W) (H1 : Heap) (locs1 : List Loc), fw_H base b L xs D o.2 tys ws s H1 → va_S (fun q => base ≤ q) s.heap H1 locs1 → al0 <+: fw_al ws → fw_ov (fw_al ws) b o.1 v → W p l e R s m args below meth c H1 locs1 (cells + mc) (slots + ms) Q (F0 m (pc + 3) ls (v.toList ++ rest))) :
    W p l e R s m args below meth c H locs cells slots Q (F0 m pc ls st0) := by
  intro T hT X
  rcases hr T hT X with ⟨v, st₀, t, T', L9, h0, X', hL, e1, e2, ⟨v', hv', ⟨tys, ws, hH, hal, hov⟩, hF⟩, st⟩ | ⟨q, st₀, t, T', L9, E, ce, h0, X', hL, e1, e2, ⟨h9, rfl, ⟨tys, ws, hH, hal⟩, hF⟩, hce, hcv, hcl, st⟩
  · cases hv'
    obtain ⟨k1, k2, k3⟩ := vx_keep h0 e1 hS (fun _ _ h => h) (fun _ h => h) hL hF
    have hvm : s.vm.Alike t.vm := by rw [← e2]; exact X'.warmed.alike
    obtain ⟨t2, a1, b1⟩ := kk v tys ws T'.heap (locs ++ L9) (by rw [e1]; exact fw_H_moved hvm.symm hH) k3 hal hov T' rfl X'
    exact ⟨t2, st t2 a1, b1⟩
  · obtain ⟨k1, k2, k3⟩ := vx_keep h0 e1 hS (fun _ _ h => h) (fun _ h => h) hL hF
    have hvm : s.vm.Alike t.vm := by rw [← e2]; exact X'.warmed.alike
    obtain ⟨t2, a1, b1⟩ := kx h9 q ce tys ws T'.heap (locs ++ L9) (by rw [e1]; exact fw_H_moved hvm.symm hH) k3 hal (by rw [e1]; exact hce) hcv hcl T' rfl X'
    exact ⟨t2, st.trans a1, b1⟩
/-- behind a call: on, caught, or out -/
def fw_AF (k pc : Nat) (ll rest : List fw_V) (o out : fw_O) : Prop := (∃ (pc' : Nat) (ll' st' : List fw_V), fw_af k pc ll rest o = some (.inl (pc', ll', st', o.2)) ∧ fw_J k pc' ll' st' o.2 out) ∨ (fw_af k pc ll rest o = some (.inr out) ∧ out = o)
theorem fw_core {al0 : List Nat} {C0 S0 : Int} {pc : Nat} {ll rest : List fw_V} {ls : Array Slot} {st0 crest : List Value} {a : Array Value} {tys : List (ClassId × FieldType)} {ws : va_W}
    (hAF : fw_AF k pc ll rest o out) (hC : fw_C k base b L xs p l R s m args meth c) (hF : fw_F k base b L xs D p l e R s m args below meth c Q al0 C0 S0 out) (hR1 : out.2 (-1) 1 - C0 ≤ R.cells) (hR2 : out.2 (-1) 2 - S0 ≤ R.slots)
    (hS : va_S (fun q => base ≤ q) s.heap H locs) (hal : al0 <+: fw_al ws) (hc1 : ((cells + mc : Nat) : Int) = o.2 (-1) 1 - C0) (hc2 : ((slots + ms : Nat) : Int) = o.2 (-1) 2 - S0) (hL : fw_L k (fw_al ws) b ls ll) (hT : fw_St (fw_al ws) b rest crest)
    (hr : vx_Run p l e R s m args below meth c H locs cells slots mc ms (F0 m pc ls st0) crest (fw_Q base b L xs D (fw_al ws) o a) (fw_XQ base b L xs D (fw_al ws) o) (fun q => base ≤ q)) :
    W p l e R s m args below meth c H locs cells slots Q (F0 m pc ls st0) := by
  refine fw_go hr hS ?_ ?_
  · intro h9 q ce tys1 ws1 H1 locs1 hH1 hS1 hal1 hq hv hcl
    rcases hAF with ⟨pc', ll', st', h1, hJ⟩ | ⟨h1, rfl⟩
    · unfold fw_af at h1
      rw [if_pos h9] at h1
      split at h1
      · rename_i hd hhd
        cases h1
        unfold fw_hd at hhd
        obtain ⟨x, hx1, hx2⟩ := Option.map_eq_some_iff.mp hhd
        obtain ⟨px, pre, suf, hsp, hpre⟩ := List.find?_eq_some_iff_append.mp hx1
        have hk := hC.2.2.2.2.2.2.2.2.2.2.2.2.2.2.2
        obtain ⟨o1, o2, o3⟩ := fw_hs_ok k (List.mem_range.mpr hk)
        have ho10 : fw_oc k = 10 := by
          rcases o3 with q9 | q9
          · rw [q9] at hsp; simp at hsp
          · exact q9
        have hk0 : k ≠ 0 := by
          intro hk0
          subst hk0
          have : fw_hs 0 = [] := by decide +kernel
          rw [this] at hsp; simp at hsp
        have htab := hC.2.2.2.2.2.2.1 hk0
        have hown := hC.2.2.2.1
        rw [ho10] at hown
        have link : ∀ h ∈ fw_hs k, ∃ q ∈ fw_hlT, q.1 = h.2.2.2.1 ∧ q.2.1 = h.2.2.2.2 := by
          intro h hh
          have := List.all_eq_true.mp o1 h hh
          obtain ⟨q, hq1, hq2⟩ := List.any_eq_true.mp this
          simp only [Bool.and_eq_true, beq_iff_eq] at hq2
          exact ⟨q, hq1, hq2⟩
        have hxm : x ∈ fw_hs k := by rw [hsp]; simp
        obtain ⟨qx, hqx, ex1, ex2⟩ := link x hxm
        obtain ⟨gx1, gx2, gx3⟩ := fw_hl_ok qx hqx
        simp only [Bool.and_eq_true, beq_iff_eq, decide_eq_true_eq] at px
        rw [ex1, ex2] at gx1
        rw [ex1] at gx2
        rw [ex2] at gx3
        have hexc : x.2.2.2.2 = o.1.2.toNat := px.1
        have hpw := o2
        rw [hsp] at hpw
        rw [List.pairwise_append] at hpw
        refine vx_catch (own := fw_CN 10) (name := fw_xn x.2.2.2.2) (E := fw_xn o.1.2.toNat) hown (pre.map (fun h => ⟨h.1, h.2.1, h.2.2.1, h.2.2.2.1⟩)) ⟨x.1, x.2.1, x.2.2.1, x.2.2.2.1⟩ (suf.map (fun h => ⟨h.1, h.2.1, h.2.2.1, h.2.2.2.1⟩)) ?_ ?_ ?_ gx2 (hC.2.2.2.2.1 _ (fw_wd _ _ gx1 rfl)) ?_ hq hv hcl ?_
        · rw [htab, hsp]
          unfold tableOf
          rw [List.map_append, List.map_append, List.map_cons, List.map_cons, List.map_map, List.map_map]
          rfl
        · intro z hz
          obtain ⟨h, hh, rfl⟩ := List.mem_map.mp hz
          have hm : h ∈ fw_hs k := by rw [hsp]; simp [hh]
          have hnp := hpre h hh
          by_cases hcov : decide (h.1 ≤ pc) && decide (pc < h.2.1)
          · have hne : h.2.2.2.2 ≠ o.1.2.toNat := by
              intro heq
              rw [heq] at hnp
              rw [hcov] at hnp
              simp at hnp
            obtain ⟨qh, hqh, eh1, eh2⟩ := link h hm
            obtain ⟨gh1, gh2, gh3⟩ := fw_hl_ok qh hqh
            rw [eh1, eh2] at gh1
            rw [eh1] at gh2
            refine Or.inr ⟨gh2, fw_xn h.2.2.2.2, hC.2.2.2.2.1 _ (fw_wd _ _ gh1 rfl), ?_⟩
            have hnc := hpw.2.2 h hh x List.mem_cons_self
            rw [← hexc]
            exact hC.2.2.2.2.2.2.2.2.2.2.2.1.2.2.2.1 _ hnc
          · refine Or.inl ?_
            simpa [covers] using hcov
        · simpa [covers] using px.2
        · rw [hexc]
          rw [hexc] at gx3
          exact va_Nw.use rfl (hC.2.2.2.2.2.2.2.2.2.2.2.1.2.2.1 _ (fw_cast_ok _ (List.mem_range.mpr gx3)))
        · have hx2 : x.2.2.1 = pc' := hx2
          show W p l e R s m args below meth c H1 locs1 (cells + mc) (slots + ms) Q (F0 m x.2.2.1 ls [.ref q])
          rw [hx2]
          exact hJ.2 base b L xs D p l e R s m args below meth c Q al0 C0 S0 hC hF hR1 hR2 tys1 ws1 H1 locs1 (cells + mc) (slots + ms) ls _ hH1 hS1 (hal.trans hal1) hc1 hc2 (fw_L_mono hal1 hL) ⟨⟨q, rfl⟩, trivial⟩
      · split at h1
        · cases h1
        · cases h1
    · unfold fw_af at h1
      rw [if_pos h9] at h1
      split at h1
      · cases h1
      · split at h1
        · rename_i hk9
          exact hF.2.1 h9 hk9.1 hk9.2 tys1 ws1 H1 locs1 (cells + mc) (slots + ms) pc ls crest q ce hH1 hS1 (hal.trans hal1) hc1 hc2 hq hv hcl
        · cases h1
  · intro v tys1 ws1 H1 locs1 hH1 hS1 hal1 hov
    have h9 : o.1.1 ≠ 9 := by
      rcases hov with ⟨h, -⟩ | ⟨-, h, -⟩
      · rw [h]; exact (by decide : (5 : Nat) ≠ 9)
      · exact h
    rcases hAF with ⟨pc', ll', st', h1, hJ⟩ | ⟨h1, rfl⟩
    · unfold fw_af at h1
      rw [if_neg h9] at h1
      split at h1
      · rename_i h5
        cases h1
        rcases hov with ⟨-, rfl⟩ | ⟨h, -, -⟩
        · exact hJ.2 base b L xs D p l e R s m args below meth c Q al0 C0 S0 hC hF hR1 hR2 tys1 ws1 H1 locs1 (cells + mc) (slots + ms) ls crest hH1 hS1 (hal.trans hal1) hc1 hc2 (fw_L_mono hal1 hL) (fw_St_mono hal1 hT)
        · exact absurd h5 h
      · rename_i h5
        cases h1
        rcases hov with ⟨h, -⟩ | ⟨-, -, z, rfl, hz⟩
        · exact absurd (by rw [h]) h5
        · exact hJ.2 base b L xs D p l e R s m args below meth c Q al0 C0 S0 hC hF hR1 hR2 tys1 ws1 H1 locs1 (cells + mc) (slots + ms) ls (z :: crest) hH1 hS1 (hal.trans hal1) hc1 hc2 (fw_L_mono hal1 hL) ⟨hz, fw_St_mono hal1 hT⟩
    · unfold fw_af at h1
      rw [if_neg h9] at h1
      split at h1 <;> cases h1
theorem fw_AF_mono {pc : Nat} {ll rest : List fw_V} (h : fw_AF k pc ll rest o out) : o.2 (-1) 1 ≤ out.2 (-1) 1 ∧ o.2 (-1) 2 ≤ out.2 (-1) 2 := by
  rcases h with ⟨pc', ll', st', h1, hJ⟩ | ⟨-, rfl⟩
  · exact hJ.1
  · exact ⟨Int.le_refl _, Int.le_refl _⟩
end FW13
