section FW14
variable {k base b L : Nat} {xs : Nat → Int32} {D : va_G} {p : Program} {l : Launch} {e : Env} {R : Room} {s : State} {m : MethodId} {args : Array Value} {below : List Frame} {meth : Method} {c : Code} {Q : State → Prop} {H : Heap} {locs : List Loc} {cells slots mc ms : Nat} {out o : fw_O} {σ : fw_M}
set_option maxHeartbeats 200000 in
theorem fw_metH {hh : List (Nat × Nat × Nat × Nat)} {as : List fw_V} {vs : List Value} {tys : List (ClassId × FieldType)} {ws : va_W} (hk : k < 137) (h0 : k ≠ 0) (hki : fw_ki k = 3) (htr : l.stackTraces = false) (hhe : hh = (fw_hs k).map (fun h => (h.1, h.2.1, h.2.2.1, h.2.2.2.1))) (hJ : fw_J k 0 (fw_en k as) [] σ out) (hT : fw_St (fw_al ws) b as vs) (ht : ∀ a ∈ as, a.1 ≠ 1 ∧ a.1 ≠ 3) (hn : as.length ≤ fw_mL k)
    (hmc : (mc : Int) = out.2 (-1) 1 - σ (-1) 1) (hms : (ms : Int) = out.2 (-1) 2 - σ (-1) 2) :
    vx_Met l (fw_y k) (Cond.codeWith (fw_y k) (fw_B k) (fw_mL k) (fw_rt k) hh :: fw_ws) (fw_rm k mc ms) (va_Pc vs (fw_P base b L xs D σ tys ws)) (fw_Q base b L xs D (fw_al ws) out) (fw_XQ base b L xs D (fw_al ws) out) mc ms (fun q => base ≤ q) := by
  obtain ⟨y1, y2, y3, y4, y5, y6, y7, y8⟩ := fw_y_ok k (List.mem_range.mpr hk)
  refine vx_ofWH (cc := fw_B k) (maxL := fw_mL k) (ret := fw_rt k) (hh := hh) y6 rfl ?_
  intro p e s m args below meth c s₁ B hml hv
  obtain ⟨ha, hH, hZ, hbase, hscr⟩ := hv
  have hts := atoms_spec (ws := Cond.codeWith (fw_y k) (fw_B k) (fw_mL k) (fw_rt k) hh :: fw_ws) B.pre
  have hown : s.vm.findClass (fw_CN (fw_oc k)) = some m.cls := by rw [← y1]; exact findClass_of_methodNamed B.named
  have htab : c.exceptionTable.toList = tableOf hh := vx_table (x := fw_y k) B (hts _ List.mem_cons_self)
  have hki2 : fw_ki k ≠ 2 := by rw [hki]; decide
  refine fw_body hJ h0 hT ht hn hmc hms rfl rfl ha ⟨B.exec, B.bytes, hml, hown, fun w hw => hts w (List.mem_cons_of_mem _ hw), B.notSynchronized, fun _ => ?_, fun h2 => absurd h2 hki2, htr, Nat.le_refl _, Nat.le_refl _, hZ, hbase, hscr, B.returns, hk⟩ hH
  rw [htab, hhe]
end FW14
