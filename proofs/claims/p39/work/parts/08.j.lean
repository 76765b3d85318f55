/-- (an exception, one that it is not) -/
def fw_nc : List (Nat × Nat) := []
def fw_Z (base : Nat) (s : State) (H : Heap) : Prop := vx_Zq Bundle.tN "UNASSIGNED_STACK" Bundle.steD (fun q => base ≤ q) s H ∧ vx_Zq Bundle.tN "SUPPRESSED_SENTINEL" Bundle.listD (fun q => base ≤ q) s H ∧ (∀ w ∈ fw_nz, va_Nw w s) ∧ (∀ q ∈ fw_nc, va_Nc (fw_xn q.1) (fw_xn q.2) s) ∧ va_AO RX1 s ∧ va_AOA .int s
theorem fw_nz_warm {s U : State} (hW : s.WarmedH U.vm) (h : ∀ w ∈ fw_nz, va_Nw w s) : ∀ w ∈ fw_nz, va_Nw w U := by
  intro w hw
  have h1 := h w hw
  rcases List.mem_append.mp hw with hw | hw
  rotate_left
  · obtain ⟨q, -, rfl⟩ := List.mem_map.mp hw
    exact va_Nw.warmF hW h1
  simp only [List.mem_cons, List.not_mem_nil, or_false] at hw
  rcases hw with rfl | rfl | rfl | rfl | rfl | rfl | rfl | rfl | rfl | rfl | rfl | rfl
  · exact va_Nw.warmC hW h1
  · exact va_Nw.warmC hW h1
  · exact va_Nw.warmC hW h1
  · exact va_Nw.warmC hW h1
  · exact va_Nw.warmC hW h1
  · exact va_Nw.warmC hW h1
  · exact va_Nw.warmD hW h1
  · exact va_Nw.warmD hW h1
  · exact va_Nw.warmD hW h1
  · exact va_Nw.warmM hW h1
  · exact va_Nw.warmM hW h1
  · exact va_Nw.warmM hW h1
theorem fw_Z_go {base : Nat} {s U : State} {H : Heap} {locs : List Loc} (hW : s.WarmedH U.vm) (hS : va_S (fun q => base ≤ q) s.heap H locs) (h : fw_Z base s s.heap) : fw_Z base U H := by
  obtain ⟨h1, h2, h3, h4, h5⟩ := h
  exact ⟨vx_Zq.moved hW.alike (h1.kept hS.2.1), vx_Zq.moved hW.alike (h2.kept hS.2.1), fw_nz_warm hW h3, fun q hq => (h4 q hq).moved hW.alike, va_AO.moved hW.alike h5.1, va_AOA.moved hW.alike h5.2⟩
/-- a method at work: the machine, its code, the tables' words, the room -/
def fw_C (k base b L : Nat) (xs : Nat → Int32) (p : Program) (l : Launch) (R : Room) (s : State) (m : MethodId) (args : Array Value) (meth : Method) (c : Code) : Prop :=
  p.tables.exec = Jvm.exec ∧ c.code = fw_B k ∧ c.maxLocals = fw_mL k ∧ s.vm.findClass (fw_CN (fw_oc k)) = some m.cls ∧ (∀ w ∈ fw_ws, w.before args s = true) ∧ meth.locks = false ∧
    (k ≠ 0 → c.exceptionTable.toList = tableOf ((fw_hs k).map (fun h => (h.1, h.2.1, h.2.2.1, h.2.2.2.1)))) ∧ (fw_ki k = 2 → meth.name = "<init>") ∧ l.stackTraces = false ∧ fw_rk k + 2 ≤ R.frames ∧ 30 * fw_rk k + 100 ≤ R.locals ∧
    fw_Z base s s.heap ∧ base ≤ s.heap.size ∧ (va_X b L xs s s.heap ∧ b < s.heap.size ∧ b < base) ∧ meth.sig.returnType = fw_rt k ∧ k < 137
/-- the answer on the stack at a return -/
def fw_rv (k : Nat) (al : List Nat) (b : Nat) (v : fw_V) (i : Instr) (cst : List Value) : Prop :=
  (v = (5, 0) ∧ i = .return_ ∧ fw_rt k = none ∧ cst = []) ∨ (v.1 = 0 ∧ i = .ireturn ∧ fw_ri k v.2 = true ∧ ∃ z : Int32, v.2 = z.toInt ∧ cst = [.int z]) ∨ (v.1 = 1 ∧ i = .lreturn ∧ fw_rt k = some .long ∧ ∃ z : Int64, v.2 = z.toInt ∧ cst = [.long z]) ∨
  (v.1 = 2 ∧ i = .areturn ∧ fw_rt k = some (.object RX1) ∧ ∃ z : Value, fw_vr al b v z ∧ cst = [z]) ∨ (v.1 = 3 ∧ i = .dreturn ∧ fw_rt k = some .double ∧ ∃ z : UInt64, v.2 = (z.toNat : Int) ∧ cst = [.double z]) ∨ (v.1 = 4 ∧ i = .freturn ∧ fw_rt k = some .float ∧ ∃ z : UInt32, v.2 = (z.toNat : Int) ∧ cst = [.float z])
/-- what a method's ends come to: a return, a throw from a callee, a throw of its own -/
def fw_F (k base b L : Nat) (xs : Nat → Int32) (D : va_G) (p : Program) (l : Launch) (e : Env) (R : Room) (s : State) (m : MethodId) (args : Array Value) (below : List Frame) (meth : Method) (c : Code) (Q : State → Prop) (al0 : List Nat) (C0 S0 : Int) (out : fw_O) : Prop :=
  (∀ (tys : List (ClassId × FieldType)) (ws : va_W) (H : Heap) (locs : List Loc) (cells slots pc : Nat) (ls : Array Slot) (cst : List Value) (i : Instr), decode (fw_B k) pc = .ok (i, 1) → fw_H base b L xs D out.2 tys ws s H → va_S (fun q => base ≤ q) s.heap H locs → al0 <+: fw_al ws → (cells : Int) = out.2 (-1) 1 - C0 → (slots : Int) = out.2 (-1) 2 - S0 → fw_rv k (fw_al ws) b out.1 i cst →
    W p l e R s m args below meth c H locs cells slots Q (F0 m pc ls cst)) ∧
  (out.1.1 = 9 → k ≠ 0 → fw_hs k = [] → ∀ (tys : List (ClassId × FieldType)) (ws : va_W) (H : Heap) (locs : List Loc) (cells slots pc : Nat) (ls : Array Slot) (rest : List Value) (q : Addr) (ce : Cell), fw_H base b L xs D out.2 tys ws s H → va_S (fun q => base ≤ q) s.heap H locs → al0 <+: fw_al ws → (cells : Int) = out.2 (-1) 1 - C0 → (slots : Int) = out.2 (-1) 2 - S0 →
    H[q]? = some ce → ce.vm = .none → s.vm.findClass (fw_xn out.1.2.toNat) = some ce.cls → vx_W p l e R s m args below meth c H locs cells slots Q (F0 m pc ls rest) q) ∧
  (∀ (σ : fw_M) (ik ic x : Nat), out.1 = (9, (x : Int)) → out.2 = fw_ex σ → fw_oc k = 8 → fw_hs k = [] → k ≠ 0 → 4 ≤ fw_rk k → (∃ q ∈ fw_xrT, q.1 = ik ∧ q.2.1 = ic ∧ q.2.2.1 = x) → ∀ (tys : List (ClassId × FieldType)) (ws : va_W) (H : Heap) (locs : List Loc) (cells slots pc : Nat) (ls : Array Slot), ls.size = fw_mL k → decode (fw_B k) pc = .ok (.new ik, 3) → decode (fw_B k) (pc + 3) = .ok (.dup, 1) → decode (fw_B k) (pc + 4) = .ok (.invokespecial ic, 3) → decode (fw_B k) (pc + 7) = .ok (.athrow, 1) →
    fw_H base b L xs D σ tys ws s H → va_S (fun q => base ≤ q) s.heap H locs → al0 <+: fw_al ws → (cells : Int) = σ (-1) 1 - C0 → (slots : Int) = σ (-1) 2 - S0 → cells + 1 ≤ R.cells → slots + 6 ≤ R.slots → W p l e R s m args below meth c H locs cells slots Q (F0 m pc ls []))
/-- from here the small machine comes to out: and the real one with it -/
def fw_J (k pc : Nat) (ll st : List fw_V) (σ : fw_M) (out : fw_O) : Prop :=
  (σ (-1) 1 ≤ out.2 (-1) 1 ∧ σ (-1) 2 ≤ out.2 (-1) 2) ∧
  ∀ (base b L : Nat) (xs : Nat → Int32) (D : va_G) (p : Program) (l : Launch) (e : Env) (R : Room) (s : State) (m : MethodId) (args : Array Value) (below : List Frame) (meth : Method) (c : Code) (Q : State → Prop) (al0 : List Nat) (C0 S0 : Int),
    fw_C k base b L xs p l R s m args meth c → fw_F k base b L xs D p l e R s m args below meth c Q al0 C0 S0 out → out.2 (-1) 1 - C0 ≤ R.cells → out.2 (-1) 2 - S0 ≤ R.slots →
    ∀ (tys : List (ClassId × FieldType)) (ws : va_W) (H : Heap) (locs : List Loc) (cells slots : Nat) (ls : Array Slot) (cst : List Value), fw_H base b L xs D σ tys ws s H → va_S (fun q => base ≤ q) s.heap H locs → al0 <+: fw_al ws → (cells : Int) = σ (-1) 1 - C0 → (slots : Int) = σ (-1) 2 - S0 →
      fw_L k (fw_al ws) b ls ll → fw_St (fw_al ws) b st cst → W p l e R s m args below meth c H locs cells slots Q (F0 m pc ls cst)
/-- an instruction that may change cells, or make one -/
theorem fw_jg {k pc pc' : Nat} {ll ll' st st' : List fw_V} {σ σ' : fw_M} {out : fw_O} (hJ : fw_J k pc' ll' st' σ' out) (n1 n2 : Nat) (hm1 : σ' (-1) 1 = σ (-1) 1 + n1) (hm2 : σ' (-1) 2 = σ (-1) 2 + n2)
    (hs : ∀ (base b L : Nat) (xs : Nat → Int32) (D : va_G) (p : Program) (l : Launch) (e : Env) (R : Room) (s : State) (m : MethodId) (args : Array Value) (below : List Frame) (meth : Method) (c : Code) (Q : State → Prop), fw_C k base b L xs p l R s m args meth c →
      ∀ (tys : List (ClassId × FieldType)) (ws : va_W) (H : Heap) (locs : List Loc) (cells slots : Nat) (ls : Array Slot) (cst : List Value), fw_H base b L xs D σ tys ws s H → va_S (fun q => base ≤ q) s.heap H locs → fw_L k (fw_al ws) b ls ll → fw_St (fw_al ws) b st cst → cells + n1 ≤ R.cells → slots + n2 ≤ R.slots →
      (∀ (tys' : List (ClassId × FieldType)) (ws' : va_W) (H' : Heap) (locs' : List Loc) (ls' : Array Slot) (cst' : List Value), fw_H base b L xs D σ' tys' ws' s H' → va_S (fun q => base ≤ q) s.heap H' locs' → fw_al ws <+: fw_al ws' → fw_L k (fw_al ws') b ls' ll' → fw_St (fw_al ws') b st' cst' → W p l e R s m args below meth c H' locs' (cells + n1) (slots + n2) Q (F0 m pc' ls' cst')) →
      W p l e R s m args below meth c H locs cells slots Q (F0 m pc ls cst)) : fw_J k pc ll st σ out := by
  refine ⟨⟨by have := hJ.1.1; omega, by have := hJ.1.2; omega⟩, ?_⟩
  intro base b L xs D p l e R s m args below meth c Q al0 C0 S0 hC hF hR1 hR2 tys ws H locs cells slots ls cst hH hS hal hc1 hc2 hL hT
  refine hs base b L xs D p l e R s m args below meth c Q hC tys ws H locs cells slots ls cst hH hS hL hT (by have := hJ.1.1; omega) (by have := hJ.1.2; omega) ?_
  intro tys' ws' H' locs' ls' cst' hH' hS' hal' hL' hT'
  exact hJ.2 base b L xs D p l e R s m args below meth c Q al0 C0 S0 hC hF hR1 hR2 tys' ws' H' locs' (cells + n1) (slots + n2) ls' cst' hH' hS' (hal.trans hal') (by omega) (by omega) hL' hT'
/-- an instruction that changes no cell -/
theorem fw_jp {k pc pc' : Nat} {ll ll' st st' : List fw_V} {σ : fw_M} {out : fw_O} (hJ : fw_J k pc' ll' st' σ out)
    (hs : ∀ (base b L : Nat) (xs : Nat → Int32) (D : va_G) (p : Program) (l : Launch) (e : Env) (R : Room) (s : State) (m : MethodId) (args : Array Value) (below : List Frame) (meth : Method) (c : Code) (Q : State → Prop), fw_C k base b L xs p l R s m args meth c →
      ∀ (tys : List (ClassId × FieldType)) (ws : va_W) (H : Heap) (locs : List Loc) (cells slots : Nat) (ls : Array Slot) (cst : List Value), fw_H base b L xs D σ tys ws s H → va_S (fun q => base ≤ q) s.heap H locs → fw_L k (fw_al ws) b ls ll → fw_St (fw_al ws) b st cst → cells ≤ R.cells → slots ≤ R.slots →
      (∀ (ls' : Array Slot) (cst' : List Value), fw_L k (fw_al ws) b ls' ll' → fw_St (fw_al ws) b st' cst' → W p l e R s m args below meth c H locs cells slots Q (F0 m pc' ls' cst')) →
      W p l e R s m args below meth c H locs cells slots Q (F0 m pc ls cst)) : fw_J k pc ll st σ out :=
  fw_jg hJ 0 0 (Int.add_zero _).symm (Int.add_zero _).symm fun base b L xs D p l e R s m args below meth c Q hC tys ws H locs cells slots ls cst hH hS hL hT h1 h2 kk =>
    hs base b L xs D p l e R s m args below meth c Q hC tys ws H locs cells slots ls cst hH hS hL hT h1 h2 fun ls' cst' hL' hT' => kk tys ws H locs ls' cst' hH hS (List.prefix_refl _) hL' hT'
