section
-- ===== PART A: goes FIRST, ahead of the names: the tables' words, and 'selects' of the private methods out of them =====
/-- a private method of a class that the tables say can be made, by its rows of tables_1 -/
def lw_okq (q : MethodName × Nat) : Prop := (q.1.cls ≠ "java/lang/invoke/MethodHandle" ∧ q.1.cls ≠ "java/lang/invoke/VarHandle") ∧ Cond.instantiable q.1.cls q.2 ∈ tables_1 ∧ Cond.privateMethod q.1 ∈ tables_1 ∧ Cond.instanceMethod q.1 ∈ tables_1
theorem lw_p0 : lw_okq (⟨"java/lang/Throwable", "fillInStackTrace", "(I)Ljava/lang/Throwable;"⟩, 6) := ⟨⟨by decide +kernel, by decide +kernel⟩, List.mem_of_getElem? (i := 306) (by decide +kernel), List.mem_of_getElem? (i := 304) (by decide +kernel), List.mem_of_getElem? (i := 305) (by decide +kernel)⟩
theorem lw_p1 : lw_okq (⟨"CrossdockSorter", "requireChute", "(I)LCrossdockSorter$Chute;"⟩, 9) := ⟨⟨by decide +kernel, by decide +kernel⟩, List.mem_of_getElem? (i := 22) (by decide +kernel), List.mem_of_getElem? (i := 428) (by decide +kernel), List.mem_of_getElem? (i := 429) (by decide +kernel)⟩
theorem lw_p2 : lw_okq (⟨"CrossdockSorter", "eachParcelIsOnce", "()Z"⟩, 9) := ⟨⟨by decide +kernel, by decide +kernel⟩, List.mem_of_getElem? (i := 22) (by decide +kernel), List.mem_of_getElem? (i := 461) (by decide +kernel), List.mem_of_getElem? (i := 462) (by decide +kernel)⟩
theorem lw_p3 : lw_okq (⟨"CrossdockSorter", "see", "(I)V"⟩, 9) := ⟨⟨by decide +kernel, by decide +kernel⟩, List.mem_of_getElem? (i := 22) (by decide +kernel), List.mem_of_getElem? (i := 465) (by decide +kernel), List.mem_of_getElem? (i := 466) (by decide +kernel)⟩
theorem lw_p4 : lw_okq (⟨"CrossdockSorter", "seeAll", "(LCrossdockSorter$Row;)V"⟩, 9) := ⟨⟨by decide +kernel, by decide +kernel⟩, List.mem_of_getElem? (i := 22) (by decide +kernel), List.mem_of_getElem? (i := 481) (by decide +kernel), List.mem_of_getElem? (i := 482) (by decide +kernel)⟩
theorem lw_p5 : lw_okq (⟨"CrossdockSorter", "requireParcel", "(I)V"⟩, 9) := ⟨⟨by decide +kernel, by decide +kernel⟩, List.mem_of_getElem? (i := 22) (by decide +kernel), List.mem_of_getElem? (i := 693) (by decide +kernel), List.mem_of_getElem? (i := 694) (by decide +kernel)⟩
theorem lw_p6 : lw_okq (⟨"CrossdockSorter", "requirePosition", "(I)V"⟩, 9) := ⟨⟨by decide +kernel, by decide +kernel⟩, List.mem_of_getElem? (i := 22) (by decide +kernel), List.mem_of_getElem? (i := 774) (by decide +kernel), List.mem_of_getElem? (i := 775) (by decide +kernel)⟩
theorem lw_p7 : lw_okq (⟨"CrossdockSorter", "requireSomeLeft", "()V"⟩, 9) := ⟨⟨by decide +kernel, by decide +kernel⟩, List.mem_of_getElem? (i := 22) (by decide +kernel), List.mem_of_getElem? (i := 826) (by decide +kernel), List.mem_of_getElem? (i := 827) (by decide +kernel)⟩
theorem lw_p8 : lw_okq (⟨"CrossdockSorterLaw$Loop", "serve", "(I)V"⟩, 23) := ⟨⟨by decide +kernel, by decide +kernel⟩, List.mem_of_getElem? (i := 580) (by decide +kernel), List.mem_of_getElem? (i := 878) (by decide +kernel), List.mem_of_getElem? (i := 879) (by decide +kernel)⟩
theorem lw_p9 : lw_okq (⟨"CrossdockSorterLaw$Loop", "leave", "(IC)V"⟩, 23) := ⟨⟨by decide +kernel, by decide +kernel⟩, List.mem_of_getElem? (i := 580) (by decide +kernel), List.mem_of_getElem? (i := 882) (by decide +kernel), List.mem_of_getElem? (i := 883) (by decide +kernel)⟩
theorem lw_p10 : lw_okq (⟨"CrossdockSorter", "passOneTick", "()I"⟩, 9) := ⟨⟨by decide +kernel, by decide +kernel⟩, List.mem_of_getElem? (i := 22) (by decide +kernel), List.mem_of_getElem? (i := 890) (by decide +kernel), List.mem_of_getElem? (i := 891) (by decide +kernel)⟩
theorem lw_p11 : lw_okq (⟨"CrossdockSorter", "dropInto", "(I)I"⟩, 9) := ⟨⟨by decide +kernel, by decide +kernel⟩, List.mem_of_getElem? (i := 22) (by decide +kernel), List.mem_of_getElem? (i := 901) (by decide +kernel), List.mem_of_getElem? (i := 902) (by decide +kernel)⟩
theorem lw_p12 : lw_okq (⟨"CrossdockSorter", "dropIntoOverflow", "()I"⟩, 9) := ⟨⟨by decide +kernel, by decide +kernel⟩, List.mem_of_getElem? (i := 22) (by decide +kernel), List.mem_of_getElem? (i := 920) (by decide +kernel), List.mem_of_getElem? (i := 921) (by decide +kernel)⟩
theorem lw_p13 : lw_okq (⟨"CrossdockSorter", "requireStation", "(I)V"⟩, 9) := ⟨⟨by decide +kernel, by decide +kernel⟩, List.mem_of_getElem? (i := 22) (by decide +kernel), List.mem_of_getElem? (i := 946) (by decide +kernel), List.mem_of_getElem? (i := 947) (by decide +kernel)⟩
theorem lw_p14 : lw_okq (⟨"CrossdockSorter", "requireTruck", "(I)V"⟩, 9) := ⟨⟨by decide +kernel, by decide +kernel⟩, List.mem_of_getElem? (i := 22) (by decide +kernel), List.mem_of_getElem? (i := 1003) (by decide +kernel), List.mem_of_getElem? (i := 1004) (by decide +kernel)⟩
def lw_privs_1 : List (MethodName × Nat) := [(⟨"java/lang/Throwable", "fillInStackTrace", "(I)Ljava/lang/Throwable;"⟩, 6), (⟨"CrossdockSorter", "requireChute", "(I)LCrossdockSorter$Chute;"⟩, 9), (⟨"CrossdockSorter", "eachParcelIsOnce", "()Z"⟩, 9), (⟨"CrossdockSorter", "see", "(I)V"⟩, 9), (⟨"CrossdockSorter", "seeAll", "(LCrossdockSorter$Row;)V"⟩, 9), (⟨"CrossdockSorter", "requireParcel", "(I)V"⟩, 9), (⟨"CrossdockSorter", "requirePosition", "(I)V"⟩, 9), (⟨"CrossdockSorter", "requireSomeLeft", "()V"⟩, 9), (⟨"CrossdockSorterLaw$Loop", "serve", "(I)V"⟩, 23), (⟨"CrossdockSorterLaw$Loop", "leave", "(IC)V"⟩, 23), (⟨"CrossdockSorter", "passOneTick", "()I"⟩, 9), (⟨"CrossdockSorter", "dropInto", "(I)I"⟩, 9), (⟨"CrossdockSorter", "dropIntoOverflow", "()I"⟩, 9), (⟨"CrossdockSorter", "requireStation", "(I)V"⟩, 9), (⟨"CrossdockSorter", "requireTruck", "(I)V"⟩, 9)]
theorem lw_r1 : ∀ q ∈ lw_privs_1, lw_okq q := List.forall_mem_cons.mpr ⟨lw_p0, List.forall_mem_cons.mpr ⟨lw_p1, List.forall_mem_cons.mpr ⟨lw_p2, List.forall_mem_cons.mpr ⟨lw_p3, List.forall_mem_cons.mpr ⟨lw_p4, List.forall_mem_cons.mpr ⟨lw_p5, List.forall_mem_cons.mpr ⟨lw_p6, List.forall_mem_cons.mpr ⟨lw_p7, List.forall_mem_cons.mpr ⟨lw_p8, List.forall_mem_cons.mpr ⟨lw_p9, List.forall_mem_cons.mpr ⟨lw_p10, List.forall_mem_cons.mpr ⟨lw_p11, List.forall_mem_cons.mpr ⟨lw_p12, List.forall_mem_cons.mpr ⟨lw_p13, List.forall_mem_cons.mpr ⟨lw_p14, fun _ h => absurd h List.not_mem_nil⟩⟩⟩⟩⟩⟩⟩⟩⟩⟩⟩⟩⟩⟩⟩
def lw_privs : List (MethodName × Nat) := lw_privs_1
def lw_tbl : List Cond := k2_sels lw_privs ++ tables_1
theorem lw_privs_ok : ∀ q ∈ lw_privs, lw_okq q := lw_r1
/-- the streams that the claim lets the run draw from -/
abbrev lw_cs : List Choice := [Jvm.Choice.named "NaN.bits"]
theorem lw_bits : nanBits ∈ lw_cs := by first | decide | exact List.mem_cons_self | simp [lw_cs, nanBits]
-- ===== end of PART A
/-- an array of arrays of this kind has been made before -/
def va_AOA (t : FieldType) (U : State) : Prop := (Cond.arrayOver (.array t)).before #[] U = true
theorem va_AOA.of {t : FieldType} {A : Array Value} {U : State} (h : (Cond.arrayOver (.array t)).before A U = true) : va_AOA t U := h
theorem va_AOA.use {t : FieldType} {A : Array Value} {U : State} (h : va_AOA t U) : (Cond.arrayOver (.array t)).before A U = true := h
theorem va_AOA.moved {t : FieldType} {u U : State} (hvm : u.vm.Alike U.vm) (h : va_AOA t u) : va_AOA t U := by
  obtain ⟨comp, c, k, h1, h2, h3, h4, h5⟩ := arrayOverA_spec h
  obtain ⟨k', hk', he⟩ := hvm.2.2 _ _ h3
  have hi : (U.vm.classes.findIdx? fun (x : Class) => match x.kind with | .array component _ => component == comp | _ => false) = some c := by
    rw [hvm.findIdx?_eq _ (fun _ => rfl)]
    exact h2
  have hkind : k'.kind = .array comp (.array t) := by rw [he]; exact h4
  have f1 : U.vm.findClass (FieldType.array t).toString = some comp := by rw [hvm.findClass]; exact h1
  have f2 : U.vm.findClass ("[" ++ (FieldType.array t).toString) = some c := by rw [hvm.findClass]; exact h5
  unfold va_AOA Cond.before Cond.holds
  simp only [Cond.value]
  rw [f1, Option.bind_some]
  refine (congrArg (fun o : Option Nat => (o.bind (fun c => (U.vm.classes[c]?).map fun (k : Class) => match k.kind with | .array _ ty => decide (ty = FieldType.array t) && decide (U.vm.findClass ("[" ++ (FieldType.array t).toString) = some c) | _ => false) == some true)) hi).trans ?_
  simp [hk', hkind, f2]
/-! ===== BEGIN words of one list among another's, by their places ===== -/
theorem goodIn_r {big : List Cond} (ws : List Cond) (ps : List Nat) (hp : ws = ps.filterMap (fun i => big[i]?)) (h : ws.all goodWord = true) : GoodIn big ws := by
  intro w hw
  have h1 := List.all_eq_true.mp h w hw
  rw [hp] at hw
  obtain ⟨i, -, hi⟩ := List.mem_filterMap.mp hw
  have hm : w ∈ big := by first | exact List.mem_of_getElem? hi | exact List.getElem?_mem hi
  exact ⟨hm, good_of_word h1⟩
theorem goodIn_app {big a b : List Cond} (ha : GoodIn big a) (hb : GoodIn big b) : GoodIn big (a ++ b) := fun w h => (List.mem_append.mp h).elim (ha w) (hb w)
theorem goodIn_ca {big a b : List Cond} {c : Cond} (ha : GoodIn big (c :: a)) (hb : GoodIn big b) : GoodIn big (c :: (a ++ b)) := fun w h => (List.mem_cons.mp h).elim (fun e => ha w (List.mem_cons.mpr (Or.inl e))) (fun h => (List.mem_append.mp h).elim (fun h => ha w (List.mem_cons.mpr (Or.inr h))) (hb w))
theorem goodIn_sub {big ws : List Cond} (hm : ∀ w ∈ ws, w ∈ big) (h : ws.all goodWord = true) : GoodIn big ws := fun w hw => ⟨hm w hw, good_of_word (List.all_eq_true.mp h w hw)⟩
/-! ===== END ===== -/

/-! ===== BEGIN new T[n][m]: the outer array a place, the inner ones among the pooled ===== -/
/-- f, but v at every address of l -/
def vr_up {α : Type} (f : Nat → α) (l : List Nat) (v : α) : Nat → α := fun a => if a ∈ l then v else f a
theorem vr_up_in {α : Type} {f : Nat → α} {l : List Nat} {v : α} {a : Nat} (h : a ∈ l) : vr_up f l v a = v := if_pos h
theorem vr_up_ne {α : Type} {f : Nat → α} {l : List Nat} {v : α} {a : Nat} (h : a ∉ l) : vr_up f l v a = f a := if_neg h
theorem vr_rows {L l : List Nat} {f : Nat → va_E} {e : va_E} (h : ∀ a, a ∈ l → a ∉ L) : va_pl L f ++ l.map (fun a => (a, e)) = va_pl (L ++ l) (vr_up f l e) := by
  unfold va_pl
  rw [List.map_append]
  congr 1
  · apply List.map_congr_left
    intro a ha
    rw [vr_up_ne (fun q => h a q ha)]
  · apply List.map_congr_left
    intro a ha
    rw [vr_up_in ha]
theorem vr_lay {X rows : va_W} {x : Nat × va_E} {pl : va_W} {D : va_G} {cl : List vw_C} {H : Heap} (hP : va_P D cl (((X ++ pl) ++ [x]) ++ rows) H) : va_P D cl ((X ++ [x]) ++ (pl ++ rows)) H := by
  rw [List.append_assoc (X ++ pl)] at hP
  have h := va_P.swap hP
  rw [← List.append_assoc X] at h
  have h2 := va_P.swap h
  rw [List.append_assoc (X ++ [x])] at h2
  exact h2
theorem vr_layD {X rows : va_W} {x : Nat × va_E} {pl : va_W} {A : Nat → Prop} (hD : va_D A (((X ++ pl) ++ [x]) ++ rows)) : va_D A ((X ++ [x]) ++ (pl ++ rows)) := by
  rw [List.append_assoc (X ++ pl)] at hD
  have h := va_D.swap hD
  rw [← List.append_assoc X] at h
  have h2 := va_D.swap h
  rw [List.append_assoc (X ++ [x])] at h2
  exact h2
theorem vr_outer (c : ClassId) (N h0 : Nat) : ∀ i : Nat, Jvm.Free.Multi.outerC c N h0 i = arrV c N (fun j => va_rf (if j < i then some (h0 + 1 + j) else none))
  | 0 => by
    show ({ cls := c, slots := Array.replicate N .null, vm := .none } : Cell) = _
    rw [arrV_new]
    refine congrArg (arrV c N) (funext fun j => ?_)
    simp [va_rf]
  | i + 1 => by
    show (Jvm.Free.Multi.outerC c N h0 i).setSlot i (.ref (h0 + 1 + i)) = _
    rw [vr_outer c N h0 i, arrV_store]
    refine congrArg (arrV c N) (funext fun j => ?_)
    by_cases e : j = i
    · subst e
      simp [updV, va_rf]
    · by_cases h : j < i
      · simp [updV, e, h, Nat.lt_succ_of_lt h]
      · simp [updV, e, h, show ¬ j < i + 1 by omega]
section VGM
variable {p : Program} {l : Launch} {e : Env} {R : Room} {s : State} {m : MethodId} {args : Array Value} {below : List Frame} {meth : Method} {c : Code} {H : Heap} {locs : List Loc} {cells slots : Nat} {Q : State → Prop}
variable {cc : ByteArray} {pc : Nat} {ls : Array Slot} {rest : List Value} {D : va_G} {cl : List vw_C} {A : Nat → Prop} {a : Nat} {tys : List (ClassId × FieldType)} {ws : va_W} {H0 : Heap}
theorem va_mna {X : va_W} {L : List Nat} {f : Nat → va_E} {cc : ByteArray} (hexec : p.tables.exec = Jvm.exec) (hb : c.code = cc) {own : String} {index : Nat} {ty : FieldType} {cy : ClassId} (hown : s.vm.findClass own = some m.cls) (hclink : (Cond.classLink own index ("[" ++ (FieldType.array ty).toString)).before args s = true) (hover : va_AOA ty s) (harr : (Cond.arrayClass ty).before args s = true) (hcy : s.vm.findClass (FieldType.array ty).toString = some cy)
    (hK : va_K D cl tys s) (hP : va_P D cl (X ++ va_pl L f) H) (hD : va_D A (X ++ va_pl L f)) (hS : va_S A H0 H locs) (hA : ∀ q, H0.size ≤ q → A q) {n k : Int32} {N' K' : Nat} {z : vp_A} (hn : ¬ n < 0) (hk : ¬ k < 0) (hN : n.toNatClampNeg = N') (hM : k.toNatClampNeg = K')
    (hb1 : N' * 4 ≤ 536870912) (hb2 : K' * componentBytes ty ≤ 536870912) (hb3 : K' ≤ 536870912) (hdf : fits ty (defaultValue ty) = true) (hdd : (defaultValue ty).isDefault = true) (hcells : cells + (1 + N') ≤ R.cells) (hslots : slots + (N' + N' * K') ≤ R.slots) (hz : ∀ c : ClassId, Jvm.Free.Multi.innerC c K' (defaultValue ty) = vp_cell c z) (hdg : decode cc pc = .ok (.multianewarray index 2, 4))
    (kk : ∀ (q : Nat) (r : Nat → Nat) (cA : ClassId) (H1 : Heap), (∀ i j : Nat, i < N' → j < N' → r i = r j → i = j) → (∀ i : Nat, i < N' → r i ∉ L) → va_K D cl (tys ++ [(cA, .array ty)]) s →
      va_P D cl ((X ++ [(q, .inl (cA, N', .inr (.inr (.inr (.inr (fun i => if i < N' then some (r i) else none))))))]) ++ va_pl (L ++ (List.range N').map r) (vr_up f ((List.range N').map r) (.inl (cy, z)))) H1 → va_D A ((X ++ [(q, .inl (cA, N', .inr (.inr (.inr (.inr (fun i => if i < N' then some (r i) else none))))))]) ++ va_pl (L ++ (List.range N').map r) (vr_up f ((List.range N').map r) (.inl (cy, z)))) → va_S A H0 H1 locs →
      W p l e R s m args below meth c H1 locs (cells + 1 + N') (slots + N' + N' * K') Q (F0 m (pc + 4) ls (.ref q :: rest))) : W p l e R s m args below meth c H locs cells slots Q (F0 m pc ls (.int k :: .int n :: rest)) := by
  subst hN
  subst hM
  intro T hT Xs
  obtain ⟨vm₁, cA, comp, -, fA, fC, hO, -, X', step⟩ := Xs.multianewarray2F hexec hown hclink (va_AOA.use hover) harr (g := F0 m pc ls (.int k :: .int n :: rest)) rfl (by rw [hb]; exact hdg) rfl hn hk hb1 hb2 hb3 hdf hdd hcells hslots
  have ec : some cy = some comp := hcy.symm.trans fC
  cases ec
  generalize hF : Jvm.Free.Multi.fill (T.setVm vm₁) cA cy n.toNatClampNeg k.toNatClampNeg (defaultValue ty) n.toNatClampNeg = F at X' step
  have hTh : (T.setVm vm₁).heap = H := hT
  obtain ⟨f1, f2, -, -⟩ := Jvm.Free.Multi.fill_facts (T.setVm vm₁) cA cy n.toNatClampNeg k.toNatClampNeg (defaultValue ty) n.toNatClampNeg
  rw [hF, hTh] at f1 f2
  have hold : ∀ x : Nat, x < H.size → F.heap[x]? = H[x]? := fun x hx => by
    have := Jvm.Free.Multi.fill_old (T.setVm vm₁) cA cy n.toNatClampNeg k.toNatClampNeg (defaultValue ty) (a := x) (by rw [hTh]; exact hx) n.toNatClampNeg
    rw [hF, hTh] at this
    exact this
  have hrow : ∀ j : Nat, j < n.toNatClampNeg → F.heap[H.size + 1 + j]? = some (vp_cell cy z) := fun j hj => by
    have := Jvm.Free.Multi.fill_inner (T.setVm vm₁) cA cy n.toNatClampNeg k.toNatClampNeg (defaultValue ty) n.toNatClampNeg j hj
    rw [hF, hTh, hz] at this
    exact this
  have hout : Jvm.Free.Multi.outerC cA n.toNatClampNeg H.size n.toNatClampNeg = vp_cell cA (n.toNatClampNeg, .inr (.inr (.inr (.inr (fun i => if i < n.toNatClampNeg then some (H.size + 1 + i) else none))))) := by
    rw [vp_cell_q]
    exact vr_outer cA n.toNatClampNeg H.size n.toNatClampNeg
  rw [hout] at f2
  have hlt : ∀ a, a ∈ L → a < H.size := fun a ha => by
    obtain ⟨k9, hk9⟩ := va_pl_get (X := X) (f := f) ha
    exact (hP k9 _ hk9).lt
  have hnl : ∀ i : Nat, i < n.toNatClampNeg → H.size + 1 + i ∉ L := fun i _ h => by
    have := hlt _ h
    omega
  have hnm : ∀ a, a ∈ (List.range n.toNatClampNeg).map (fun i => H.size + 1 + i) → a ∉ L := fun a ha h => by
    obtain ⟨i, -, rfl⟩ := List.mem_map.mp ha
    have := hlt _ h
    omega
  have hP0 : va_P D cl (X ++ va_pl L f) F.heap := hP.kept (fun k9 x hx => hold x.1 ((hP k9 x hx).lt))
  have hP1 : va_P D cl ((X ++ va_pl L f) ++ [(H.size, .inl (cA, n.toNatClampNeg, .inr (.inr (.inr (.inr (fun i => if i < n.toNatClampNeg then some (H.size + 1 + i) else none))))))]) F.heap := hP0.app (fun k9 x hx => by
    have h0 : k9 < 1 := (List.getElem?_eq_some_iff.mp hx).1
    rw [show k9 = 0 by omega] at hx
    cases hx
    exact f2)
  have hP2 : va_P D cl (((X ++ va_pl L f) ++ [(H.size, .inl (cA, n.toNatClampNeg, .inr (.inr (.inr (.inr (fun i => if i < n.toNatClampNeg then some (H.size + 1 + i) else none))))))]) ++ ((List.range n.toNatClampNeg).map (fun i => H.size + 1 + i)).map (fun a => (a, .inl (cy, z)))) F.heap := hP1.app (fun k9 x hx => by
    obtain ⟨a, ha, rfl⟩ := List.mem_map.mp (List.mem_of_getElem? hx)
    obtain ⟨i, hi, rfl⟩ := List.mem_map.mp ha
    exact hrow i (List.mem_range.mp hi))
  have hD2 : va_D A (((X ++ va_pl L f) ++ [(H.size, .inl (cA, n.toNatClampNeg, .inr (.inr (.inr (.inr (fun i => if i < n.toNatClampNeg then some (H.size + 1 + i) else none))))))]) ++ ((List.range n.toNatClampNeg).map (fun i => H.size + 1 + i)).map (fun a => (a, .inl (cy, z)))) := by
    have hD1 := hD.push (e := .inl (cA, n.toNatClampNeg, .inr (.inr (.inr (.inr (fun i => if i < n.toNatClampNeg then some (H.size + 1 + i) else none)))))) hP rfl (hA _ hS.1)
    generalize hW1 : (X ++ va_pl L f) ++ [(H.size, .inl (cA, n.toNatClampNeg, .inr (.inr (.inr (.inr (fun i => if i < n.toNatClampNeg then some (H.size + 1 + i) else none))))))] = W1 at hD1 hP1 ⊢
    have hle : ∀ (k9 : Nat) (x : Nat × va_E), W1[k9]? = some x → x.1 ≤ H.size := fun k9 x hx => by
      rw [← hW1] at hx
      by_cases hl : k9 < (X ++ va_pl L f).length
      · rw [List.getElem?_append_left hl] at hx
        exact Nat.le_of_lt ((hP k9 x hx).lt)
      · rw [List.getElem?_append_right (by omega)] at hx
        have h0 : k9 - (X ++ va_pl L f).length < 1 := (List.getElem?_eq_some_iff.mp hx).1
        rw [show k9 - (X ++ va_pl L f).length = 0 by omega] at hx
        cases hx
        exact Nat.le_refl _
    have hr : ∀ (k9 : Nat) (x : Nat × va_E), (((List.range n.toNatClampNeg).map (fun i => H.size + 1 + i)).map (fun a => ((a, .inl (cy, z)) : Nat × va_E)))[k9]? = some x → x.1 = H.size + 1 + k9 := fun k9 x hx => by
      rw [List.getElem?_map, List.getElem?_map] at hx
      by_cases h9 : k9 < n.toNatClampNeg
      · rw [List.getElem?_range h9] at hx
        cases hx
        rfl
      · have hn0 : (List.range n.toNatClampNeg)[k9]? = none := List.getElem?_eq_none (by rw [List.length_range]; omega)
        rw [hn0] at hx
        cases hx
    refine ⟨fun i j x y hi hj hxy => ?_, fun k9 x hx => ?_⟩
    · by_cases h1 : i < W1.length <;> by_cases h2 : j < W1.length
      · rw [List.getElem?_append_left h1] at hi
        rw [List.getElem?_append_left h2] at hj
        exact hD1.1 i j x y hi hj hxy
      · rw [List.getElem?_append_left h1] at hi
        rw [List.getElem?_append_right (by omega)] at hj
        have := hle _ _ hi
        have := hr _ _ hj
        omega
      · rw [List.getElem?_append_right (by omega)] at hi
        rw [List.getElem?_append_left h2] at hj
        have := hle _ _ hj
        have := hr _ _ hi
        omega
      · rw [List.getElem?_append_right (by omega)] at hi hj
        have := hr _ _ hi
        have := hr _ _ hj
        omega
    · by_cases h1 : k9 < W1.length
      · rw [List.getElem?_append_left h1] at hx
        exact hD1.2 k9 x hx
      · rw [List.getElem?_append_right (by omega)] at hx
        have := hr _ _ hx
        exact hA _ (by have := hS.1; omega)
  have hAr : ArrOfT s cA (.array ty) := fun N9 z9 => by
    obtain ⟨-, k9, hk9, cm9, hkk9⟩ := (hO 0 0 0).1
    exact ⟨(fun q hq => by cases hq), k9, hk9, cm9, hkk9⟩
  have hK2 : va_K D cl (tys ++ [(cA, .array ty)]) s := ⟨hK.1, fun k9 x hx => by
    by_cases hl : k9 < tys.length
    · rw [List.getElem?_append_left hl] at hx
      exact hK.2 k9 x hx
    · rw [List.getElem?_append_right (by omega)] at hx
      have h0 : k9 - tys.length < 1 := (List.getElem?_eq_some_iff.mp hx).1
      rw [show k9 - tys.length = 0 by omega] at hx
      cases hx
      exact ⟨hAr, fA⟩⟩
  obtain ⟨t, a1, b1⟩ := kk H.size (fun i => H.size + 1 + i) cA F.heap (fun i j _ _ h => by have h9 : H.size + 1 + i = H.size + 1 + j := h; omega) hnl hK2 (by rw [← vr_rows hnm]; exact vr_lay hP2) (by rw [← vr_rows hnm]; exact vr_layD hD2) ⟨by rw [f1]; have := hS.1; omega, fun x h1 h2 => (hold x (Nat.lt_of_lt_of_le h1 hS.1)).trans (hS.2.1 x h1 h2), hS.2.2⟩ F rfl X'
  refine ⟨t, step t ?_, b1⟩
  have e : T.heap.size = H.size := by rw [hT]
  rw [e]
  exact a1
end VGM
/-! ===== END ===== -/

/-! ===== BEGIN exceptions that leave a method, and their catching by the caller (launches without stack traces) ===== -/
section VXA
/-! The laws vx_back, vx_callV, vx_callS, vx_callSW, vx_throw0, vx_throwS follow proofs of the library, with one case more: JvmDerived/Free/Laws.lean (Back.of_free), Shelf42/LK1.lean (callV, callS), Shelf/KitTraced.lean (throwNew0V, throwNewS). -/
/-- where a method has thrown q: the class by its name, the cell, what was written, the world -/
def vx_T (XC : String → State → State → Prop) (st : State) (q : Addr) (t : State) (mc ms : Nat) (free : Addr → Prop) : Prop :=
  ∃ (E : String) (ce : Cell) (L : List Loc), XC E st t ∧ t.heap[q]? = some ce ∧ ce.vm = .none ∧ st.vm.findClass E = some ce.cls ∧ st.WarmedH t.vm ∧ st.sameButNew ({ t with vm := st.vm } : State) L mc ms ∧ ∀ z ∈ L, free z.base
def vx_Q (Qc : Array Value → State → Outcome → State → Prop) (XC : String → State → State → Prop) (mc ms : Nat) (free : Addr → Prop) : Array Value → State → Outcome → State → Prop := fun a st o t =>
  (Qc a st o t ∧ ∃ L, FrameEnd st o t L mc ms ∧ ∀ q ∈ L, free q.base) ∨ ∃ q, o = .threw q ∧ vx_T XC st q t mc ms free
/-- a callee that returns or throws -/
def vx_Met (l : Launch) (y : MethodName) (ws : List Cond) (rm : Room) (Pc : Array Value → State → Prop) (Qc : Array Value → State → Outcome → State → Prop) (XC : String → State → State → Prop) (mc ms : Nat) (free : Addr → Prop) : Prop :=
  MetFree l y (headSpec ws rm) Pc (fun _ _ _ _ _ => True) (vx_Q Qc XC mc ms free)
def vx_Post (XC : String → State → State → Prop) (mc ms : Nat) (free : Addr → Prop) : Pt → Array Value → Addr → Pt → Prop := fun A a q B =>
  ∃ (g : JFrame) (mk : MethodId) (t : State) (L : List Loc) (E : String) (ce : Cell), B.U.heap = t.heap ∧ B.U.vm = t.vm ∧ XC E (A.U.calling g mk a) t ∧ t.heap[q]? = some ce ∧ ce.vm = .none ∧ A.U.vm.findClass E = some ce.cls ∧ B.locs = A.locs ++ L ∧ (∀ z ∈ L, free z.base) ∧ B.cells = A.cells + mc ∧ B.slots = A.slots + ms
def vx_Back (l : Launch) (R : Room) (p : Program) (e : Env) (below : List Frame) (s : State) (sargs : Array Value) (y : MethodName) (len W9 : Nat)
    (Pre : Pt → Array Value → Prop) (Post : Pt → Array Value → Option Value → Pt → Prop) (PostX : Pt → Array Value → Addr → Pt → Prop) : Prop :=
  ∀ (m : MethodId) (meth : Method) (c : Code) (A : Pt) (g : JFrame) (ig : Instr) (mk : MethodId) (a : Array Value),
    Stand p l e R s m sargs below meth c A.U A.locs A.cells A.slots → g.method = m → g.locals.size = c.maxLocals → decode c.code g.pc = .ok (ig, len) →
    2 * g.monitorRoom + (g.stack.map fun v => v.category).sum ≤ W9 → A.U.methodNamed? y = some mk → Pre A a →
    (∃ (v : Option Value) (B : Pt), Stand p l e R s m sargs below meth c B.U B.locs B.cells B.slots ∧ Post A a v B ∧
      Steps p.tables e below (doInvoke e (A.U.setTop g) [] mk a).1 (B.U.setTop { g with pc := g.pc + len, stack := v.toList ++ g.stack })) ∨
    (∃ (q : Addr) (B : Pt), Stand p l e R s m sargs below meth c B.U B.locs B.cells B.slots ∧ PostX A a q B ∧
      Steps p.tables e below (doInvoke e (A.U.setTop g) [] mk a).1 ((B.U.setTop g).pushFrame (.throwing q)))
section Payer
variable {l : Launch} {R : Room} {p : Program} {e : Env} {below : List Frame} {s : State} {sargs : Array Value} {y : MethodName} {len W9 : Nat}
theorem vx_back {ws : List Cond} {rm : Room} {Pc : Array Value → State → Prop} {Qc : Array Value → State → Outcome → State → Prop} {XC : String → State → State → Prop} {mc ms : Nat} {free : Addr → Prop} {bytes : ByteArray} {maxL : Nat} {ret : Option FieldType}
    (hM : vx_Met l y ws rm Pc Qc XC mc ms free) (hblind : FrameBlind Pc) (hrc : rm.cells = mc) (hrs : rm.slots = ms)
    (hframes : rm.frames + 1 ≤ R.frames) (hlocals : W9 + (maxL + 11) + rm.locals ≤ R.locals)
    (hws : ∀ w ∈ ws, ∀ a' U, s.WarmedH U.vm → w.before a' U = true) (hcode : Cond.code y bytes maxL ret ∈ ws) (hinit : ∀ a' U, s.WarmedH U.vm → (Cond.initialized y.cls).before a' U = true) :
    vx_Back l R p e below s sargs y len W9 (PreOf R mc ms Pc) (PostOf Qc mc ms free) (vx_Post XC mc ms free) := by
  intro m meth c A g ig mk a X hg hsize hdg hW hn hp
  have h1 : (headSpec ws rm).pre.before a A.U = true := atoms_intro fun w hw => hws w hw _ _ X.warmed
  have h2 : (Cond.code y bytes maxL ret).before a A.U = true := hws _ hcode _ _ X.warmed
  have h3 : (Cond.initialized y.cls).before a A.U = true := hinit _ _ X.warmed
  have h4 : A.cells + (headSpec ws rm).room.cells ≤ R.cells := by rw [show (headSpec ws rm).room.cells = mc from hrc]; exact hp.1
  have h5 : A.slots + (headSpec ws rm).room.slots ≤ R.slots := by rw [show (headSpec ws rm).room.slots = ms from hrs]; exact hp.2.1
  have hPc : Pc a (A.U.calling g mk a) := hblind _ _ _ _ hp.2.2
  obtain ⟨U, Ls, c0, s0⟩ := A
  dsimp only [Pt.U, Pt.locs, Pt.cells, Pt.slots] at h1 h2 h3 h4 h5 X hn hPc ⊢
  obtain ⟨methY, cY, hmY, hcY, -, hlY, -, -, -, -⟩ := Cond.code_spec hn h2
  obtain ⟨kY, hkY, -⟩ := className_of_methodNamed hn
  have hinitY : kY.init = .initialized := Cond.initialized_spec (findClass_of_methodNamed hn) hkY h3
  have h : At U g.method c below := by rw [hg]; exact X.here
  have hlocals9 : W9 + (maxL + 11) + (headSpec ws rm).room.locals ≤ R.locals := hlocals
  have happ : (headSpec ws rm).appliesLoose y e.platform (U.calling g mk a) = true :=
    Spec.appliesLoose_calling (g := g) h hdg hn hkY hinitY
      (X.room_calling (g := g) (R' := (headSpec ws rm).room) hsize hmY hcY hframes (by rw [hlY]; omega) h4 h5) h1
  obtain ⟨mid, hmid⟩ := h.above
  have hfr : (U.setTop g).frames = (.java g :: mid) ++ below := by rw [State.frames_setTop' g h.top, hmid]; rfl
  obtain ⟨o, s₂, hsteps, -, hend, hq⟩ := Steps.callFree hM p X.admits X.cas X.clock (acts := []) hfr happ hPc trivial
  have hq' : vx_Q Qc XC mc ms free a (U.calling g mk a) o s₂ := hq
  rw [State.frames_setTop' g h.top] at hend
  obtain ⟨g₀, hg0⟩ := Option.isSome_iff_exists.mp h.top
  obtain ⟨r, hr⟩ := State.topJava?_eq_some.mp hg0
  have hr' : (({ U with heap := s₂.heap, slotsUsed := s₂.slotsUsed } : State).setVm s₂.vm).frames = .java g₀ :: r := hr
  rcases hq' with ⟨hqc, L, hfe, hL⟩ | ⟨q, rfl, E, ce, L, hx, hce, hcv, hcl, hW₂, hsm, hL⟩
  · obtain ⟨⟨v, rfl⟩, hW₂, e2, q2, q3, q4, q5, q6⟩ := id hfe
    have e3 : s₂ = ({ (U.calling g mk a).setFrames s₂.frames with heap := s₂.heap, slotsUsed := s₂.slotsUsed } : State).setVm s₂.vm := by
      have : s₂ = ({ s₂ with vm := (U.calling g mk a).vm } : State).setVm s₂.vm := rfl
      rw [e2] at this
      exact this
    obtain ⟨c₂, i₂, len₂, hc₂, hd₂, hf₂⟩ := hend
    have hW' : U.WarmedH s₂.vm := hW₂
    have hcc : c₂ = c := by
      have h1 : s₂.code? g.method = U.code? g.method := by
        rw [State.code?_eq, State.code?_eq, hW'.alike.method?]
      exact Option.some.inj (hc₂.symm.trans (h1.trans h.code))
    subst hcc
    have hlen : len₂ = len := by rw [hdg] at hd₂; cases hd₂; rfl
    subst hlen
    have hs₂ : s₂ = (({ U with heap := s₂.heap, slotsUsed := s₂.slotsUsed } : State).setVm s₂.vm).setTop { g with pc := g.pc + len₂, stack := v.toList ++ g.stack } := by
      refine e3.trans ?_
      rw [hf₂, State.calling_eq h.top, State.setFrames_setFrames, State.setTop_of_frames _ hr', hr]
      rfl
    have hsame : U.sameButNew ({ U with heap := s₂.heap, slotsUsed := s₂.slotsUsed } : State) L mc ms := by
      refine ⟨?_, q2, q3, q4, q5, q6⟩
      obtain ⟨t, ht, -⟩ := State.frames_cons hr
      show ({ U with heap := s₂.heap, slotsUsed := s₂.slotsUsed } : State) = { U.setFrames U.frames with heap := s₂.heap, slotsUsed := s₂.slotsUsed }
      rw [State.setFrames_self ht]
    subst hg
    refine Or.inl ⟨v, ⟨(({ U with heap := s₂.heap, slotsUsed := s₂.slotsUsed } : State).setVm s₂.vm), Ls ++ L, c0 + mc, s0 + ms⟩,
      ⟨X.admits, X.cas, X.clock, X.frames, X.room, X.hears, X.method, X.code, (X.here.setHeapUsed s₂.heap s₂.slotsUsed).setVm hW'.alike, X.tail, State.WarmedH.trans X.warmed hW', X.limits, X.bytes, X.same.trans (hsame.setVm s.vm)⟩,
      ⟨g, mk, s₂, L, rfl, rfl, hqc, rfl, hL, rfl, rfl⟩, ?_⟩
    show Steps p.tables e below _ ((({ U with heap := s₂.heap, slotsUsed := s₂.slotsUsed } : State).setVm s₂.vm).setTop { g with pc := g.pc + len₂, stack := v.toList ++ g.stack })
    rw [← hs₂]
    exact hsteps
  · obtain ⟨e2, q2, q3, q4, q5, q6⟩ := id hsm
    have e3 : s₂ = ({ (U.calling g mk a).setFrames s₂.frames with heap := s₂.heap, slotsUsed := s₂.slotsUsed } : State).setVm s₂.vm := by
      have : s₂ = ({ s₂ with vm := (U.calling g mk a).vm } : State).setVm s₂.vm := rfl
      rw [e2] at this
      exact this
    have hf₂ : s₂.frames = .throwing q :: .java g :: U.frames.tail := hend
    have hW' : U.WarmedH s₂.vm := hW₂
    have hs₂ : s₂ = ((({ U with heap := s₂.heap, slotsUsed := s₂.slotsUsed } : State).setVm s₂.vm).setTop g).pushFrame (.throwing q) := by
      refine e3.trans ?_
      rw [hf₂, State.calling_eq h.top, State.setFrames_setFrames, State.pushFrame, State.frames_setTop _ hr', State.setTop_of_frames _ hr', State.setFrames_setFrames, hr]
      rfl
    have hsame : U.sameButNew ({ U with heap := s₂.heap, slotsUsed := s₂.slotsUsed } : State) L mc ms := by
      refine ⟨?_, q2, q3, q4, q5, q6⟩
      obtain ⟨t, ht, -⟩ := State.frames_cons hr
      show ({ U with heap := s₂.heap, slotsUsed := s₂.slotsUsed } : State) = { U.setFrames U.frames with heap := s₂.heap, slotsUsed := s₂.slotsUsed }
      rw [State.setFrames_self ht]
    subst hg
    refine Or.inr ⟨q, ⟨(({ U with heap := s₂.heap, slotsUsed := s₂.slotsUsed } : State).setVm s₂.vm), Ls ++ L, c0 + mc, s0 + ms⟩,
      ⟨X.admits, X.cas, X.clock, X.frames, X.room, X.hears, X.method, X.code, (X.here.setHeapUsed s₂.heap s₂.slotsUsed).setVm hW'.alike, X.tail, State.WarmedH.trans X.warmed hW', X.limits, X.bytes, X.same.trans (hsame.setVm s.vm)⟩,
      ⟨g, mk, s₂, L, E, ce, rfl, rfl, hx, hce, hcv, hcl, rfl, hL, rfl, rfl⟩, ?_⟩
    show Steps p.tables e below _ (((({ U with heap := s₂.heap, slotsUsed := s₂.slotsUsed } : State).setVm s₂.vm).setTop g).pushFrame (.throwing q))
    rw [← hs₂]
    exact hsteps
end Payer
section Calls
variable {p : Program} {l : Launch} {e : Env} {R : Room} {s : State} {m : MethodId} {args : Array Value} {below : List Frame} {meth : Method} {c : Code} {T : State} {locs : List Loc} {cells slots : Nat}
theorem vx_callV (X : Stand p l e R s m args below meth c T locs cells slots) (hexec : p.tables.exec = Jvm.exec) {own C : String} {index : Nat} {y : MethodName} {bytes : ByteArray} {maxL : Nat} {ret : Option FieldType}
    (hown : s.vm.findClass own = some m.cls) (hlink : (Cond.methodLink own index y).before args s = true) (hinst : (Cond.instanceMethod y).before args s = true) (hsel : (Cond.selects C y y).before args s = true)
    (hcode : (Cond.code y bytes maxL ret).before args s = true) (hy : y.cls ≠ "java/lang/invoke/MethodHandle" ∧ y.cls ≠ "java/lang/invoke/VarHandle")
    {W9 : Nat} {Pre : Pt → Array Value → Prop} {Post : Pt → Array Value → Option Value → Pt → Prop} {PostX : Pt → Array Value → Addr → Pt → Prop} (hK : vx_Back l R p e below s args y 3 W9 Pre Post PostX)
    {b : Addr} {cellB : Cell} (hcell : T.heap[b]? = some cellB) (hobj : cellB.vm.isStatics = false) (hcls : s.vm.findClass C = some cellB.cls)
    {g : JFrame} (hg : g.method = m) (hsize : g.locals.size = c.maxLocals) {argsL rest : List Value} (hlen : ∀ sig, parseMethodDescriptor y.desc = some sig → argsL.length = sig.parameters.length)
    (hstack : g.stack = argsL.reverse ++ .ref b :: rest) (hW : 2 * g.monitorRoom + (rest.map fun v => v.category).sum ≤ W9) (hdg : decode c.code g.pc = .ok (.invokevirtual index, 3))
    (hpre : ∀ vm₁, s.WarmedH vm₁ → Pre ⟨T.setVm vm₁, locs, cells, slots⟩ (Value.ref b :: argsL).toArray) :
    (∃ (v : Option Value) (vm₁ : Vm) (B : Pt), s.WarmedH vm₁ ∧ Stand p l e R s m args below meth c B.U B.locs B.cells B.slots ∧ Post ⟨T.setVm vm₁, locs, cells, slots⟩ (Value.ref b :: argsL).toArray v B ∧
      ∀ target, Steps p.tables e below (B.U.setTop { g with pc := g.pc + 3, stack := v.toList ++ rest }) target → Steps p.tables e below (T.setTop g) target) ∨
    (∃ (q : Addr) (vm₁ : Vm) (B : Pt), s.WarmedH vm₁ ∧ Stand p l e R s m args below meth c B.U B.locs B.cells B.slots ∧ PostX ⟨T.setVm vm₁, locs, cells, slots⟩ (Value.ref b :: argsL).toArray q B ∧
      Steps p.tables e below (T.setTop g) ((B.U.setTop { g with stack := rest }).pushFrame (.throwing q))) := by
  obtain ⟨mk, methM, hnamed, hmethM, hstM, habM⟩ := Cond.instanceMethod_spec hinst
  obtain ⟨methM', cM, hmethM', -, -, -, -, -, -, hsigM⟩ := Cond.code_spec hnamed hcode
  cases hmethM.symm.trans hmethM'
  obtain ⟨c2, r2, m2, q1, q2, q3, q4, kP, hkP, hkPi⟩ := Cond.selects_spec hsel
  cases hcls.symm.trans q1
  cases (State.methodFound?_of_named hnamed hy).symm.trans q2
  cases hnamed.symm.trans q3
  have hselP : selectMethod e.platform s.vm cellB.cls mk = .method mk := by rw [Launch.admits_selectMethod X.admits]; exact q4
  obtain ⟨vm₁, X₁, hstep₁⟩ := X.invokevirtual hexec hown hlink hnamed hmethM hstM hkP hkPi hy (a := b) (cell := cellB) hcell
    (fun z h => by rw [h] at hobj; cases hobj) hselP hmethM habM hkP hkPi (g := g) hg (argsL := argsL) (rest := rest) (hlen _ hsigM) hstack hdg
  rcases hK m meth c ⟨T.setVm vm₁, locs, cells, slots⟩ { g with stack := rest } (.invokevirtual index) mk (Value.ref b :: argsL).toArray X₁ hg hsize hdg hW (X₁.named hnamed) (hpre vm₁ X₁.warmed) with ⟨v, B, X', hpost, hsteps⟩ | ⟨q, B, X', hpost, hsteps⟩
  · exact Or.inl ⟨v, vm₁, B, X₁.warmed, X', hpost, fun target h => hstep₁ _ fun acts => by rw [doInvoke_state]; exact hsteps.trans h⟩
  · exact Or.inr ⟨q, vm₁, B, X₁.warmed, X', hpost, hstep₁ _ fun acts => by rw [doInvoke_state]; exact hsteps⟩
theorem vx_callS (X : Stand p l e R s m args below meth c T locs cells slots) (hexec : p.tables.exec = Jvm.exec) {own : String} {index : Nat} {y : MethodName} {bytes : ByteArray} {maxL : Nat} {ret : Option FieldType}
    (hown : s.vm.findClass own = some m.cls) (hlink : (Cond.methodLink own index y).before args s = true) (hstat : (Cond.static y).before args s = true) (hinit : (Cond.initialized y.cls).before args s = true)
    (hcode : (Cond.code y bytes maxL ret).before args s = true) (hy : y.cls ≠ "java/lang/invoke/MethodHandle" ∧ y.cls ≠ "java/lang/invoke/VarHandle")
    {W9 : Nat} {Pre : Pt → Array Value → Prop} {Post : Pt → Array Value → Option Value → Pt → Prop} {PostX : Pt → Array Value → Addr → Pt → Prop} (hK : vx_Back l R p e below s args y 3 W9 Pre Post PostX)
    {g : JFrame} (hg : g.method = m) (hsize : g.locals.size = c.maxLocals) {argsL rest : List Value} (hlen : ∀ sig, parseMethodDescriptor y.desc = some sig → argsL.length = sig.parameters.length)
    (hstack : g.stack = argsL.reverse ++ rest) (hW : 2 * g.monitorRoom + (rest.map fun v => v.category).sum ≤ W9) (hdg : decode c.code g.pc = .ok (.invokestatic index, 3))
    (hpre : ∀ vm₁, s.WarmedH vm₁ → Pre ⟨T.setVm vm₁, locs, cells, slots⟩ argsL.toArray) :
    (∃ (v : Option Value) (vm₁ : Vm) (B : Pt), s.WarmedH vm₁ ∧ Stand p l e R s m args below meth c B.U B.locs B.cells B.slots ∧ Post ⟨T.setVm vm₁, locs, cells, slots⟩ argsL.toArray v B ∧
      ∀ target, Steps p.tables e below (B.U.setTop { g with pc := g.pc + 3, stack := v.toList ++ rest }) target → Steps p.tables e below (T.setTop g) target) ∨
    (∃ (q : Addr) (vm₁ : Vm) (B : Pt), s.WarmedH vm₁ ∧ Stand p l e R s m args below meth c B.U B.locs B.cells B.slots ∧ PostX ⟨T.setVm vm₁, locs, cells, slots⟩ argsL.toArray q B ∧
      Steps p.tables e below (T.setTop g) ((B.U.setTop { g with stack := rest }).pushFrame (.throwing q))) := by
  obtain ⟨mk, hnamed⟩ := Cond.code_named hcode
  obtain ⟨methM, cM, hmethM, -, -, -, -, -, -, hsigM⟩ := Cond.code_spec hnamed hcode
  have hstatic : methM.isStatic = true := Cond.static_spec hnamed hmethM hstat
  obtain ⟨kP, hkP, -⟩ := className_of_methodNamed hnamed
  have hinitP : kP.init = .initialized := Cond.initialized_spec (findClass_of_methodNamed hnamed) hkP hinit
  obtain ⟨vm₁, X₁, hstep₁⟩ := X.invokestatic hexec hown hlink hnamed hmethM hstatic hkP hinitP hy (g := g) hg (argsL := argsL) (rest := rest) (hlen _ hsigM) hstack hdg
  rcases hK m meth c ⟨T.setVm vm₁, locs, cells, slots⟩ { g with stack := rest } (.invokestatic index) mk argsL.toArray X₁ hg hsize hdg hW (X₁.named hnamed) (hpre vm₁ X₁.warmed) with ⟨v, B, X', hpost, hsteps⟩ | ⟨q, B, X', hpost, hsteps⟩
  · exact Or.inl ⟨v, vm₁, B, X₁.warmed, X', hpost, fun target h => hstep₁ _ fun acts => by rw [doInvoke_state]; exact hsteps.trans h⟩
  · exact Or.inr ⟨q, vm₁, B, X₁.warmed, X', hpost, hstep₁ _ fun acts => by rw [doInvoke_state]; exact hsteps⟩
end Calls
theorem vx_cls {s : State} {T : State} {vm₁ : Vm} {E : String} {k : ClassId} (hW : s.WarmedH vm₁) (h : (T.setVm vm₁).vm.findClass E = some k) : s.vm.findClass E = some k := by
  have h1 : vm₁.findClass E = some k := h
  rw [hW.alike.findClass] at h1
  exact h1
/-- the method's frame g, with q thrown over it -/
def vx_W (p : Program) (l : Launch) (e : Env) (R : Room) (s : State) (m : MethodId) (args : Array Value) (below : List Frame) (meth : Method) (c : Code) (H : Heap) (locs : List Loc) (cells slots : Nat) (Q : State → Prop) (g : JFrame) (q : Addr) : Prop :=
  ∀ T : State, T.heap = H → Stand p l e R s m args below meth c T locs cells slots → ∃ t, Steps p.tables e below ((T.setTop g).pushFrame (.throwing q)) t ∧ Q t
def vx_Run (p : Program) (l : Launch) (e : Env) (R : Room) (s : State) (m : MethodId) (args : Array Value) (below : List Frame) (meth : Method) (c : Code) (H : Heap) (locs : List Loc) (cells slots mc ms : Nat) (g : JFrame) (rest : List Value) (Qa : State → Outcome → State → Prop) (XC : String → State → State → Prop) (free : Addr → Prop) : Prop :=
  ∀ T : State, T.heap = H → Stand p l e R s m args below meth c T locs cells slots →
    (∃ (v : Option Value) (st₀ t T' : State) (L : List Loc), st₀.heap = H ∧ Stand p l e R s m args below meth c T' (locs ++ L) (cells + mc) (slots + ms) ∧ (∀ q ∈ L, free q.base) ∧ T'.heap = t.heap ∧ T'.vm = t.vm ∧ Qa st₀ (.returned v) t ∧
      Goes p e below T g T' { g with pc := g.pc + 3, stack := v.toList ++ rest }) ∨
    (∃ (q : Addr) (st₀ t T' : State) (L : List Loc) (E : String) (ce : Cell), st₀.heap = H ∧ Stand p l e R s m args below meth c T' (locs ++ L) (cells + mc) (slots + ms) ∧ (∀ z ∈ L, free z.base) ∧ T'.heap = t.heap ∧ T'.vm = t.vm ∧ XC E st₀ t ∧ t.heap[q]? = some ce ∧ ce.vm = .none ∧ s.vm.findClass E = some ce.cls ∧
      Steps p.tables e below (T.setTop g) ((T'.setTop { g with stack := rest }).pushFrame (.throwing q)))
def vx_X {S : Type} (px : S → Prop) (B : String → S → State → Prop) (A : Nat → Prop) : String → State → State → Prop := fun E st t => ∃ u : S, px u ∧ B E u t ∧ va_F A st t
section Runs
variable {p : Program} {l : Launch} {e : Env} {R : Room} {s : State} {m : MethodId} {args : Array Value} {below : List Frame} {meth : Method} {c : Code} {H : Heap} {locs : List Loc} {cells slots : Nat}
variable {y : MethodName} {bytes cc : ByteArray} {maxL nL mc ms n index : Nat} {ret : Option FieldType} {ws : List Cond} {rm : Room} {Pc : Array Value → State → Prop} {Qc : Array Value → State → Outcome → State → Prop} {XC : String → State → State → Prop} {free : Addr → Prop} {Ts : List Cond} {own C : String} {b : Addr} {As rest : List Value} {g : JFrame}
theorem vx_callBack (cb : CallB R s args own index y bytes maxL ret ws rm mc ms n) (hM : vx_Met l y ws rm Pc Qc XC mc ms free) (hbl : FrameBlind Pc) : vx_Back l R p e below s args y 3 8 (PreOf R mc ms Pc) (PostOf Qc mc ms free) (vx_Post XC mc ms free) := by
  obtain ⟨hrc, hrs, hfr, hlo, hws, hcw, -, hini, -⟩ := cb
  exact vx_back (bytes := bytes) (maxL := maxL) (ret := ret) hM hbl hrc hrs hfr hlo hws hcw (fun a' U hW => word_at hW (Or.inl (by first | rfl | simp [Cond.onTables, Cond.keeps, Cond.steady])) hini)
theorem vx_runV (S : CallFix p m c cc nL s args Ts own) (hM : vx_Met l y ws rm Pc Qc XC mc ms free) (cw : CallW R s args own C index y bytes maxL ret ws rm mc ms n) (hp : PreV s H C b Pc As)
    (hg : g.method = m) (hn : As.length = n) (hsize : g.locals.size = nL) (hstack : g.stack = As.reverse ++ .ref b :: rest) (hW : 2 * g.monitorRoom + (rest.map fun v => v.category).sum ≤ 8) (hdg : decode cc g.pc = .ok (.invokevirtual index, 3)) (hf : cells + mc ≤ R.cells ∧ slots + ms ≤ R.slots) :
    vx_Run p l e R s m args below meth c H locs cells slots mc ms g rest (Qc (Value.ref b :: As).toArray) XC free := by
  have hK : vx_Back l R p e below s args y 3 8 (PreOf R mc ms Pc) (PostOf Qc mc ms free) (vx_Post XC mc ms free) := vx_callBack cw.1 hM hp.1
  obtain ⟨⟨-, -, -, -, -, -, hcode, -, hy, hlen, hl⟩, hin, hse⟩ := cw
  obtain ⟨hx, hb, hml, ho, -⟩ := S
  obtain ⟨-, ⟨cellB, hcB, hoB, hclB⟩, hPc⟩ := hp
  intro T hT X
  rcases vx_callV X hx (C := C) (bytes := bytes) (maxL := maxL) (ret := ret) ho hl hin hse hcode hy hK (by rw [hT]; exact hcB) hoB hclB hg (hsize.trans hml.symm) (argsL := As) (rest := rest) (fun sig h => hn.trans (hlen sig h)) hstack hW (by rw [hb]; exact hdg)
    (fun vm₁ hW₁ => ⟨hf.1, hf.2, hPc (T.setVm vm₁) hT hW₁⟩) with ⟨v, vm₁, ⟨U', l2, c2, s2⟩, hW₁, X', ⟨g', mk, t, L, e1, e2, hq, h1, hL, h2, h3⟩, st⟩ | ⟨q, vm₁, ⟨U', l2, c2, s2⟩, hW₁, X', ⟨g', mk, t, L, E, ce, e1, e2, hq, hce, hcv, hcl, h1, hL, h2, h3⟩, st⟩
  · dsimp only [Pt.U, Pt.locs, Pt.cells, Pt.slots] at X' e1 e2 h1 h2 h3 st
    subst h1; subst h2; subst h3
    exact Or.inl ⟨v, (T.setVm vm₁).calling g' mk (Value.ref b :: As).toArray, t, U', L, hT, X', hL, e1, e2, hq, st⟩
  · dsimp only [Pt.U, Pt.locs, Pt.cells, Pt.slots] at X' e1 e2 h1 h2 h3 st hcl
    subst h1; subst h2; subst h3
    exact Or.inr ⟨q, (T.setVm vm₁).calling g' mk (Value.ref b :: As).toArray, t, U', L, E, ce, hT, X', hL, e1, e2, hq, hce, hcv, vx_cls hW₁ hcl, st⟩
theorem vx_runS (S : CallFix p m c cc nL s args Ts own) (hM : vx_Met l y ws rm Pc Qc XC mc ms free) (cw : CallB R s args own index y bytes maxL ret ws rm mc ms n ∧ (Cond.static y).before args s = true) (hp : PreS s H Pc As)
    (hg : g.method = m) (hn : As.length = n) (hsize : g.locals.size = nL) (hstack : g.stack = As.reverse ++ rest) (hW : 2 * g.monitorRoom + (rest.map fun v => v.category).sum ≤ 8) (hdg : decode cc g.pc = .ok (.invokestatic index, 3)) (hf : cells + mc ≤ R.cells ∧ slots + ms ≤ R.slots) :
    vx_Run p l e R s m args below meth c H locs cells slots mc ms g rest (Qc As.toArray) XC free := by
  have hK : vx_Back l R p e below s args y 3 8 (PreOf R mc ms Pc) (PostOf Qc mc ms free) (vx_Post XC mc ms free) := vx_callBack cw.1 hM hp.1
  obtain ⟨⟨-, -, -, -, -, -, hcode, hini, hy, hlen, hl⟩, hstt⟩ := cw
  obtain ⟨hx, hb, hml, ho, -⟩ := S
  intro T hT X
  rcases vx_callS X hx (bytes := bytes) (maxL := maxL) (ret := ret) ho hl hstt hini hcode hy hK hg (hsize.trans hml.symm) (argsL := As) (rest := rest) (fun sig h => hn.trans (hlen sig h)) hstack hW (by rw [hb]; exact hdg)
    (fun vm₁ hW₁ => ⟨hf.1, hf.2, hp.2 (T.setVm vm₁) hT hW₁⟩) with ⟨v, vm₁, ⟨U', l2, c2, s2⟩, hW₁, X', ⟨g', mk, t, L, e1, e2, hq, h1, hL, h2, h3⟩, st⟩ | ⟨q, vm₁, ⟨U', l2, c2, s2⟩, hW₁, X', ⟨g', mk, t, L, E, ce, e1, e2, hq, hce, hcv, hcl, h1, hL, h2, h3⟩, st⟩
  · dsimp only [Pt.U, Pt.locs, Pt.cells, Pt.slots] at X' e1 e2 h1 h2 h3 st
    subst h1; subst h2; subst h3
    exact Or.inl ⟨v, (T.setVm vm₁).calling g' mk As.toArray, t, U', L, hT, X', hL, e1, e2, hq, st⟩
  · dsimp only [Pt.U, Pt.locs, Pt.cells, Pt.slots] at X' e1 e2 h1 h2 h3 st hcl
    subst h1; subst h2; subst h3
    exact Or.inr ⟨q, (T.setVm vm₁).calling g' mk As.toArray, t, U', L, E, ce, hT, X', hL, e1, e2, hq, hce, hcv, vx_cls hW₁ hcl, st⟩
end Runs
section Rows
variable {p : Program} {l : Launch} {e : Env} {R : Room} {s : State} {m : MethodId} {args : Array Value} {below : List Frame} {meth : Method} {c : Code} {H : Heap} {locs : List Loc} {cells slots : Nat} {Q : State → Prop}
variable {mc ms : Nat} {free : Addr → Prop} {A0 A1 : Nat → Prop} {H0 : Heap} {a : Array Value} {pc : Nat} {ls : Array Slot} {st0 rest : List Value}
theorem vx_keep {st₀ t T' : State} {L : List Loc} (h0 : st₀.heap = H) (e1 : T'.heap = t.heap) (hS : va_S A0 H0 H locs) (hA : ∀ q, q < H.size → A1 q → A0 q) (hf : ∀ q, free q → A0 q) (hL : ∀ q ∈ L, free q.base) (hF : va_F A1 st₀ t) :
    H.size ≤ T'.heap.size ∧ (∀ q : Nat, q < H.size → ¬ A1 q → T'.heap[q]? = H[q]?) ∧ va_S A0 H0 T'.heap (locs ++ L) := by
  obtain ⟨hz, hk⟩ := hF
  rw [h0] at hz hk
  exact ⟨by rw [e1]; exact hz, fun q h1 h2 => by rw [e1]; exact hk q h1 h2,
    ⟨Nat.le_trans hS.1 (by rw [e1]; exact hz), fun q h1 h2 => by rw [e1, hk q (Nat.lt_of_lt_of_le h1 hS.1) (fun z => h2 (hA q (Nat.lt_of_lt_of_le h1 hS.1) z))]; exact hS.2.1 q h1 h2, fun q hq => by
      rcases List.mem_append.mp hq with h | h
      · exact hS.2.2 q h
      · exact hf _ (hL q h)⟩⟩
theorem vx_calli {S SX : Type} {post : Int32 → S → Prop} {px : SX → Prop} {B : S → State → Prop} {BX : String → SX → State → Prop} {AX : Nat → Prop} (hr : vx_Run p l e R s m args below meth c H locs cells slots mc ms (F0 m pc ls st0) rest (va_Qi post B A1 a) (vx_X px BX AX) free) (hS : va_S A0 H0 H locs) (hA : ∀ q, q < H.size → A1 q → A0 q) (hf : ∀ q, free q → A0 q) (hAX : ∀ q, q < H.size → AX q → A0 q)
    (kx : ∀ (E : String) (ce : Cell) (q9 : Addr) (u : SX) (t : State) (H1 : Heap) (locs1 : List Loc), t.heap = H1 → s.vm.Alike t.vm → px u → BX E u t → H.size ≤ H1.size → (∀ q : Nat, q < H.size → ¬ AX q → H1[q]? = H[q]?) → va_S A0 H0 H1 locs1 → H1[q9]? = some ce → ce.vm = .none → s.vm.findClass E = some ce.cls → vx_W p l e R s m args below meth c H1 locs1 (cells + mc) (slots + ms) Q (F0 m pc ls rest) q9)
    (kk : ∀ (r : Int32) (u : S) (t : State) (H1 : Heap) (locs1 : List Loc), t.heap = H1 → s.vm.Alike t.vm → post r u → B u t → H.size ≤ H1.size → (∀ q : Nat, q < H.size → ¬ A1 q → H1[q]? = H[q]?) → va_S A0 H0 H1 locs1 → W p l e R s m args below meth c H1 locs1 (cells + mc) (slots + ms) Q (F0 m (pc + 3) ls (.int r :: rest))) : W p l e R s m args below meth c H locs cells slots Q (F0 m pc ls st0) := by
  intro T hT X
  rcases hr T hT X with ⟨v, st₀, t, T', L, h0, X', hL, e1, e2, ⟨⟨r, u, hv, hp, hb⟩, hF⟩, st⟩ | ⟨q, st₀, t, T', L, E, ce, h0, X', hL, e1, e2, ⟨u, hp, hb, hF⟩, hce, hcv, hcl, st⟩
  · cases hv
    obtain ⟨k1, k2, k3⟩ := vx_keep h0 e1 hS hA hf hL hF
    obtain ⟨t2, a1, b1⟩ := kk r u t T'.heap (locs ++ L) e1.symm (by rw [← e2]; exact X'.warmed.alike) hp hb k1 k2 k3 T' rfl X'
    exact ⟨t2, st t2 a1, b1⟩
  · obtain ⟨k1, k2, k3⟩ := vx_keep h0 e1 hS hAX hf hL hF
    obtain ⟨t2, a1, b1⟩ := kx E ce q u t T'.heap (locs ++ L) e1.symm (by rw [← e2]; exact X'.warmed.alike) hp hb k1 k2 k3 (by rw [e1]; exact hce) hcv hcl T' rfl X'
    exact ⟨t2, st.trans a1, b1⟩
theorem vx_calll {S SX : Type} {post : Int64 → S → Prop} {px : SX → Prop} {B : S → State → Prop} {BX : String → SX → State → Prop} {AX : Nat → Prop} (hr : vx_Run p l e R s m args below meth c H locs cells slots mc ms (F0 m pc ls st0) rest (va_Ql post B A1 a) (vx_X px BX AX) free) (hS : va_S A0 H0 H locs) (hA : ∀ q, q < H.size → A1 q → A0 q) (hf : ∀ q, free q → A0 q) (hAX : ∀ q, q < H.size → AX q → A0 q)
    (kx : ∀ (E : String) (ce : Cell) (q9 : Addr) (u : SX) (t : State) (H1 : Heap) (locs1 : List Loc), t.heap = H1 → s.vm.Alike t.vm → px u → BX E u t → H.size ≤ H1.size → (∀ q : Nat, q < H.size → ¬ AX q → H1[q]? = H[q]?) → va_S A0 H0 H1 locs1 → H1[q9]? = some ce → ce.vm = .none → s.vm.findClass E = some ce.cls → vx_W p l e R s m args below meth c H1 locs1 (cells + mc) (slots + ms) Q (F0 m pc ls rest) q9)
    (kk : ∀ (r : Int64) (u : S) (t : State) (H1 : Heap) (locs1 : List Loc), t.heap = H1 → s.vm.Alike t.vm → post r u → B u t → H.size ≤ H1.size → (∀ q : Nat, q < H.size → ¬ A1 q → H1[q]? = H[q]?) → va_S A0 H0 H1 locs1 → W p l e R s m args below meth c H1 locs1 (cells + mc) (slots + ms) Q (F0 m (pc + 3) ls (.long r :: rest))) : W p l e R s m args below meth c H locs cells slots Q (F0 m pc ls st0) := by
  intro T hT X
  rcases hr T hT X with ⟨v, st₀, t, T', L, h0, X', hL, e1, e2, ⟨⟨r, u, hv, hp, hb⟩, hF⟩, st⟩ | ⟨q, st₀, t, T', L, E, ce, h0, X', hL, e1, e2, ⟨u, hp, hb, hF⟩, hce, hcv, hcl, st⟩
  · cases hv
    obtain ⟨k1, k2, k3⟩ := vx_keep h0 e1 hS hA hf hL hF
    obtain ⟨t2, a1, b1⟩ := kk r u t T'.heap (locs ++ L) e1.symm (by rw [← e2]; exact X'.warmed.alike) hp hb k1 k2 k3 T' rfl X'
    exact ⟨t2, st t2 a1, b1⟩
  · obtain ⟨k1, k2, k3⟩ := vx_keep h0 e1 hS hAX hf hL hF
    obtain ⟨t2, a1, b1⟩ := kx E ce q u t T'.heap (locs ++ L) e1.symm (by rw [← e2]; exact X'.warmed.alike) hp hb k1 k2 k3 (by rw [e1]; exact hce) hcv hcl T' rfl X'
    exact ⟨t2, st.trans a1, b1⟩
theorem vx_callf {S SX : Type} {post : UInt32 → S → Prop} {px : SX → Prop} {B : S → State → Prop} {BX : String → SX → State → Prop} {AX : Nat → Prop} (hr : vx_Run p l e R s m args below meth c H locs cells slots mc ms (F0 m pc ls st0) rest (va_Qf post B A1 a) (vx_X px BX AX) free) (hS : va_S A0 H0 H locs) (hA : ∀ q, q < H.size → A1 q → A0 q) (hf : ∀ q, free q → A0 q) (hAX : ∀ q, q < H.size → AX q → A0 q)
    (kx : ∀ (E : String) (ce : Cell) (q9 : Addr) (u : SX) (t : State) (H1 : Heap) (locs1 : List Loc), t.heap = H1 → s.vm.Alike t.vm → px u → BX E u t → H.size ≤ H1.size → (∀ q : Nat, q < H.size → ¬ AX q → H1[q]? = H[q]?) → va_S A0 H0 H1 locs1 → H1[q9]? = some ce → ce.vm = .none → s.vm.findClass E = some ce.cls → vx_W p l e R s m args below meth c H1 locs1 (cells + mc) (slots + ms) Q (F0 m pc ls rest) q9)
    (kk : ∀ (r : UInt32) (u : S) (t : State) (H1 : Heap) (locs1 : List Loc), t.heap = H1 → s.vm.Alike t.vm → post r u → B u t → H.size ≤ H1.size → (∀ q : Nat, q < H.size → ¬ A1 q → H1[q]? = H[q]?) → va_S A0 H0 H1 locs1 → W p l e R s m args below meth c H1 locs1 (cells + mc) (slots + ms) Q (F0 m (pc + 3) ls (.float r :: rest))) : W p l e R s m args below meth c H locs cells slots Q (F0 m pc ls st0) := by
  intro T hT X
  rcases hr T hT X with ⟨v, st₀, t, T', L, h0, X', hL, e1, e2, ⟨⟨r, u, hv, hp, hb⟩, hF⟩, st⟩ | ⟨q, st₀, t, T', L, E, ce, h0, X', hL, e1, e2, ⟨u, hp, hb, hF⟩, hce, hcv, hcl, st⟩
  · cases hv
    obtain ⟨k1, k2, k3⟩ := vx_keep h0 e1 hS hA hf hL hF
    obtain ⟨t2, a1, b1⟩ := kk r u t T'.heap (locs ++ L) e1.symm (by rw [← e2]; exact X'.warmed.alike) hp hb k1 k2 k3 T' rfl X'
    exact ⟨t2, st t2 a1, b1⟩
  · obtain ⟨k1, k2, k3⟩ := vx_keep h0 e1 hS hAX hf hL hF
    obtain ⟨t2, a1, b1⟩ := kx E ce q u t T'.heap (locs ++ L) e1.symm (by rw [← e2]; exact X'.warmed.alike) hp hb k1 k2 k3 (by rw [e1]; exact hce) hcv hcl T' rfl X'
    exact ⟨t2, st.trans a1, b1⟩
theorem vx_calld {S SX : Type} {post : UInt64 → S → Prop} {px : SX → Prop} {B : S → State → Prop} {BX : String → SX → State → Prop} {AX : Nat → Prop} (hr : vx_Run p l e R s m args below meth c H locs cells slots mc ms (F0 m pc ls st0) rest (va_Qd post B A1 a) (vx_X px BX AX) free) (hS : va_S A0 H0 H locs) (hA : ∀ q, q < H.size → A1 q → A0 q) (hf : ∀ q, free q → A0 q) (hAX : ∀ q, q < H.size → AX q → A0 q)
    (kx : ∀ (E : String) (ce : Cell) (q9 : Addr) (u : SX) (t : State) (H1 : Heap) (locs1 : List Loc), t.heap = H1 → s.vm.Alike t.vm → px u → BX E u t → H.size ≤ H1.size → (∀ q : Nat, q < H.size → ¬ AX q → H1[q]? = H[q]?) → va_S A0 H0 H1 locs1 → H1[q9]? = some ce → ce.vm = .none → s.vm.findClass E = some ce.cls → vx_W p l e R s m args below meth c H1 locs1 (cells + mc) (slots + ms) Q (F0 m pc ls rest) q9)
    (kk : ∀ (r : UInt64) (u : S) (t : State) (H1 : Heap) (locs1 : List Loc), t.heap = H1 → s.vm.Alike t.vm → post r u → B u t → H.size ≤ H1.size → (∀ q : Nat, q < H.size → ¬ A1 q → H1[q]? = H[q]?) → va_S A0 H0 H1 locs1 → W p l e R s m args below meth c H1 locs1 (cells + mc) (slots + ms) Q (F0 m (pc + 3) ls (.double r :: rest))) : W p l e R s m args below meth c H locs cells slots Q (F0 m pc ls st0) := by
  intro T hT X
  rcases hr T hT X with ⟨v, st₀, t, T', L, h0, X', hL, e1, e2, ⟨⟨r, u, hv, hp, hb⟩, hF⟩, st⟩ | ⟨q, st₀, t, T', L, E, ce, h0, X', hL, e1, e2, ⟨u, hp, hb, hF⟩, hce, hcv, hcl, st⟩
  · cases hv
    obtain ⟨k1, k2, k3⟩ := vx_keep h0 e1 hS hA hf hL hF
    obtain ⟨t2, a1, b1⟩ := kk r u t T'.heap (locs ++ L) e1.symm (by rw [← e2]; exact X'.warmed.alike) hp hb k1 k2 k3 T' rfl X'
    exact ⟨t2, st t2 a1, b1⟩
  · obtain ⟨k1, k2, k3⟩ := vx_keep h0 e1 hS hAX hf hL hF
    obtain ⟨t2, a1, b1⟩ := kx E ce q u t T'.heap (locs ++ L) e1.symm (by rw [← e2]; exact X'.warmed.alike) hp hb k1 k2 k3 (by rw [e1]; exact hce) hcv hcl T' rfl X'
    exact ⟨t2, st.trans a1, b1⟩
theorem vx_callv {S SX : Type} {post : S → Prop} {px : SX → Prop} {B : S → State → Prop} {BX : String → SX → State → Prop} {AX : Nat → Prop} (hr : vx_Run p l e R s m args below meth c H locs cells slots mc ms (F0 m pc ls st0) rest (va_Qv post B A1 a) (vx_X px BX AX) free) (hS : va_S A0 H0 H locs) (hA : ∀ q, q < H.size → A1 q → A0 q) (hf : ∀ q, free q → A0 q) (hAX : ∀ q, q < H.size → AX q → A0 q)
    (kx : ∀ (E : String) (ce : Cell) (q9 : Addr) (u : SX) (t : State) (H1 : Heap) (locs1 : List Loc), t.heap = H1 → s.vm.Alike t.vm → px u → BX E u t → H.size ≤ H1.size → (∀ q : Nat, q < H.size → ¬ AX q → H1[q]? = H[q]?) → va_S A0 H0 H1 locs1 → H1[q9]? = some ce → ce.vm = .none → s.vm.findClass E = some ce.cls → vx_W p l e R s m args below meth c H1 locs1 (cells + mc) (slots + ms) Q (F0 m pc ls rest) q9)
    (kk : ∀ (u : S) (t : State) (H1 : Heap) (locs1 : List Loc), t.heap = H1 → s.vm.Alike t.vm → post u → B u t → H.size ≤ H1.size → (∀ q : Nat, q < H.size → ¬ A1 q → H1[q]? = H[q]?) → va_S A0 H0 H1 locs1 → W p l e R s m args below meth c H1 locs1 (cells + mc) (slots + ms) Q (F0 m (pc + 3) ls (rest))) : W p l e R s m args below meth c H locs cells slots Q (F0 m pc ls st0) := by
  intro T hT X
  rcases hr T hT X with ⟨v, st₀, t, T', L, h0, X', hL, e1, e2, ⟨⟨u, hv, hp, hb⟩, hF⟩, st⟩ | ⟨q, st₀, t, T', L, E, ce, h0, X', hL, e1, e2, ⟨u, hp, hb, hF⟩, hce, hcv, hcl, st⟩
  · cases hv
    obtain ⟨k1, k2, k3⟩ := vx_keep h0 e1 hS hA hf hL hF
    obtain ⟨t2, a1, b1⟩ := kk u t T'.heap (locs ++ L) e1.symm (by rw [← e2]; exact X'.warmed.alike) hp hb k1 k2 k3 T' rfl X'
    exact ⟨t2, st t2 a1, b1⟩
  · obtain ⟨k1, k2, k3⟩ := vx_keep h0 e1 hS hAX hf hL hF
    obtain ⟨t2, a1, b1⟩ := kx E ce q u t T'.heap (locs ++ L) e1.symm (by rw [← e2]; exact X'.warmed.alike) hp hb k1 k2 k3 (by rw [e1]; exact hce) hcv hcl T' rfl X'
    exact ⟨t2, st.trans a1, b1⟩
/-- caught by the row x of this method's table; the rows ahead don't take it -/
theorem vx_catch {own name : String} {E : String} {ce : Cell} {q : Addr} (hown : s.vm.findClass own = some m.cls) (pre : List ExceptionTableEntry) (x : ExceptionTableEntry) (suf : List ExceptionTableEntry) (hsplit : c.exceptionTable.toList = pre ++ x :: suf)
    (hpass : ∀ z ∈ pre, covers z pc = false ∨ (z.catchType ≠ 0 ∧ ∃ nm : String, (Cond.classLink own z.catchType nm).before args s = true ∧ va_Nc E nm s)) (hx : covers x pc = true) (h0 : x.catchType ≠ 0)
    (hlink : (Cond.classLink own x.catchType name).before args s = true) (hcast : (Cond.castable E name).before args s = true) (hcell : H[q]? = some ce) (hv : ce.vm = .none) (hcl : s.vm.findClass E = some ce.cls)
    (kk : W p l e R s m args below meth c H locs cells slots Q (F0 m x.handlerPc ls [.ref q])) : vx_W p l e R s m args below meth c H locs cells slots Q (F0 m pc ls rest) q := by
  intro T hT X
  have hpl : e.platform.magicAccessors = ({} : Platform).magicAccessors := by rw [X.admits.platform]
  obtain ⟨c3, c4, hc3, hc4, hasg⟩ := Cond.castable_spec hcast
  cases Option.some.inj (hc3.symm.trans hcl)
  obtain ⟨c5, hc5, hcl5⟩ := Cond.classLink_spec hown hlink e.platform hpl
  cases Option.some.inj (hc4.symm.trans hc5)
  obtain ⟨vm', X', st⟩ := X.thenCaughtThrough q (g := F0 m pc ls rest) rfl (Steps.refl _) (by rw [hT]; exact hcell) (by rw [hv]; rfl) (by obtain ⟨k9, h9, -⟩ := Vm.findClass_spec hcl; exact ⟨k9, h9⟩) pre x suf hsplit
    (fun z hz => by
      rcases hpass z hz with h | ⟨hz0, nm, hl1, hn1⟩
      · exact Or.inl h
      · obtain ⟨c6, hc6, hcl6⟩ := Cond.classLink_spec hown hl1 e.platform hpl
        obtain ⟨a8, b8, h1, h2, h3⟩ := hn1
        cases Option.some.inj (h1.symm.trans hcl)
        cases Option.some.inj (h2.symm.trans hc6)
        exact Or.inr ⟨hz0, _, hcl6, h3⟩) hx (Or.inr ⟨h0, c4, hcl5, hasg⟩)
  obtain ⟨t, a1, b1⟩ := kk (T.setVm vm') hT X'
  exact ⟨t, st.trans a1, b1⟩
end Rows
section Ends
variable {p : Program} {l : Launch} {e : Env} {R : Room} {s : State} {m : MethodId} {args : Array Value} {below : List Frame} {meth : Method} {c : Code} {H : Heap} {locs : List Loc} {cells slots : Nat} {Q : State → Prop}
variable {mc ms : Nat} {free : Addr → Prop} {A0 A1 : Nat → Prop} {H0 : Heap} {a : Array Value} {ls : Array Slot} {st0 rest : List Value}
variable {Qc : Array Value → State → Outcome → State → Prop} {XC : String → State → State → Prop}
/-- what a body that may throw owes at its end -/
def vx_MQ (below : List Frame) (Qc : Array Value → State → Outcome → State → Prop) (XC : String → State → State → Prop) (a : Array Value) (s : State) (mc ms : Nat) (free : Addr → Prop) : State → Prop := fun t =>
  ∃ o, t.status = .running ∧ Ended t below o ∧ vx_Q Qc XC mc ms free a s o t
theorem vx_ret {g : JFrame} {mc ms : Nat} (k : W p l e R s m args below meth c H locs cells slots (MQ below Qc args s mc ms free) g) : W p l e R s m args below meth c H locs cells slots (vx_MQ below Qc XC args s mc ms free) g := by
  intro T hT X
  obtain ⟨t, a1, o, b1, b2, b3, b4⟩ := k T hT X
  exact ⟨t, a1, o, b1, b2, Or.inl ⟨b3, b4⟩⟩
/-- not caught here: it goes on to the caller -/
theorem vx_widen {g : JFrame} {q : Addr} {k n : Nat} (h1 : cells ≤ k) (h2 : slots ≤ n) (kk : vx_W p l e R s m args below meth c H locs k n Q g q) : vx_W p l e R s m args below meth c H locs cells slots Q g q := fun T hT X => kk T hT (stand_widen X h1 h2)
theorem vx_out {pc : Nat} {E : String} {ce : Cell} {q : Addr} {mc ms : Nat} (hout : ∀ x ∈ c.exceptionTable.toList, covers x pc = false) (hlocks : meth.locks = false) (hcell : H[q]? = some ce) (hv : ce.vm = .none) (hcl : s.vm.findClass E = some ce.cls)
    (hx : ∀ t : State, t.heap = H → s.vm.Alike t.vm → XC E s t) (hf : ∀ z ∈ locs, free z.base) (hc : cells ≤ mc) (hs : slots ≤ ms) :
    vx_W p l e R s m args below meth c H locs cells slots (vx_MQ below Qc XC args s mc ms free) (F0 m pc ls rest) q := by
  intro T hT X
  obtain ⟨st1, hrun, hend, hW, hsm⟩ := X.leaveThrown q (g := F0 m pc ls rest) rfl rfl rfl hout hlocks
  have hcell9 : (T.setFrames (.throwing q :: below)).heap[q]? = some ce := by
    show T.heap[q]? = some ce
    rw [hT]; exact hcell
  exact ⟨_, st1, .threw q, hrun, hend, Or.inr ⟨q, rfl, E, ce, locs, hx _ hT hW.alike, hcell9, hv, hcl, hW, hsm.mono hc hs, hf⟩⟩
theorem vx_frame {U : State} {k n : Nat} (h : s.sameButNew ({ U with vm := s.vm } : State) locs k n) : s.heap.size ≤ U.heap.size ∧ ∀ q : Nat, q < s.heap.size → (∀ z ∈ locs, z.base ≠ q) → U.heap[q]? = s.heap[q]? := by
  obtain ⟨-, h2, -, -, -, h6⟩ := h
  refine ⟨h2, fun q hq hz => ?_⟩
  obtain ⟨c9, e1, e2, e3, e4⟩ := h6 q _ (Array.getElem?_eq_getElem hq)
  have hs : c9.slots = (s.heap[q]).slots := Array.ext_getElem? fun i => e4 i fun hm => hz _ hm rfl
  have h9 : c9 = s.heap[q] := by
    rw [hs] at e2
    exact e2
  have e5 : U.heap[q]? = some c9 := e1
  rw [e5, h9, Array.getElem?_eq_getElem hq]
/-- the words of a throw but the four that speak of the heap -/
def vx_no (w : Cond) : Bool := decide (w ≠ .isRef (.static Bundle.tN "UNASSIGNED_STACK" Bundle.steD)) && decide (w ≠ .isRef (.static Bundle.tN "SUPPRESSED_SENTINEL" Bundle.listD)) && decide (w ≠ .laysStatic Bundle.tN "UNASSIGNED_STACK" Bundle.steD) && decide (w ≠ .laysStatic Bundle.tN "SUPPRESSED_SENTINEL" Bundle.listD)
def vx_at0 (own : String) (ic : Nat) (X : String) (names : List String) : List Cond := (Bundle.ownAtoms0 own ic X names).filter vx_no
def vx_atS (own : String) (ic : Nat) (X : String) (names : List String) : List Cond := (Bundle.ownAtoms own ic X names).filter vx_no
/-- a word that the tables alone decide, or a good one -/
def vx_ot (w : Cond) : Bool := w.onTables || goodWord w
theorem vx_ot_at {args a' : Array Value} {s U : State} {w : Cond} (hW : s.WarmedH U.vm) (hvm : s.vm = U.vm) (hg : vx_ot w = true) (h : w.before args s = true) : w.before a' U = true := by
  simp only [vx_ot, Bool.or_eq_true] at hg
  rcases hg with hg | hg
  · exact va_tabs hg hvm h
  · exact word_at hW (good_of_word hg) h
/-- a list's words: the good ones out of the method's own list, the others by premises of their own -/
theorem vx_hat {args : Array Value} {s : State} {L B : List Cond} (h1 : ∀ w ∈ L.filter goodWord, w.before args s = true) (h2 : ∀ w ∈ L.filter (fun w => !goodWord w), w ∈ B) (h3 : ∀ w ∈ B, w.before args s = true) : ∀ w ∈ L, w.before args s = true := by
  intro w hw
  by_cases g : goodWord w = true
  · exact h1 w (List.mem_filter.mpr ⟨hw, g⟩)
  · refine h3 w (h2 w (List.mem_filter.mpr ⟨hw, ?_⟩))
    show (!goodWord w) = true
    cases hgw : goodWord w
    · rfl
    · exact absurd hgw g
theorem vx_c {args : Array Value} {s : State} {w : Cond} {B : List Cond} (h : w.before args s = true) (t : ∀ w ∈ B, w.before args s = true) : ∀ w' ∈ w :: B, w'.before args s = true := fun w' h' => (List.mem_cons.mp h').elim (fun e => by rw [e]; exact h) (t w')
theorem vx_n {args : Array Value} {s : State} : ∀ w ∈ ([] : List Cond), w.before args s = true := fun _ h => nomatch h
theorem vx_own {args : Array Value} {s : State} {L : List Cond} (h1 : ∀ w ∈ L.filter vx_no, w.before args s = true)
    (hU : (Cond.isRef (.static Bundle.tN "UNASSIGNED_STACK" Bundle.steD)).before args s = true) (hN : (Cond.isRef (.static Bundle.tN "SUPPRESSED_SENTINEL" Bundle.listD)).before args s = true)
    (lU : (Cond.laysStatic Bundle.tN "UNASSIGNED_STACK" Bundle.steD).before args s = true) (lN : (Cond.laysStatic Bundle.tN "SUPPRESSED_SENTINEL" Bundle.listD).before args s = true) : ∀ w ∈ L, w.before args s = true := by
  intro w hw
  by_cases e1 : w = .isRef (.static Bundle.tN "UNASSIGNED_STACK" Bundle.steD)
  · rw [e1]; exact hU
  · by_cases e2 : w = .isRef (.static Bundle.tN "SUPPRESSED_SENTINEL" Bundle.listD)
    · rw [e2]; exact hN
    · by_cases e3 : w = .laysStatic Bundle.tN "UNASSIGNED_STACK" Bundle.steD
      · rw [e3]; exact lU
      · by_cases e4 : w = .laysStatic Bundle.tN "SUPPRESSED_SENTINEL" Bundle.listD
        · rw [e4]; exact lN
        · exact h1 w (List.mem_filter.mpr ⟨hw, by unfold vx_no; rw [decide_eq_true e1, decide_eq_true e2, decide_eq_true e3, decide_eq_true e4]; rfl⟩)
/-- where a static field lies, its class's statics cell in H -/
def vx_L (C n d : String) (A : Nat → Prop) (U : State) (H : Heap) : Prop := ∃ (c : ClassId) (k : Class) (i : Nat) (f : Field) (a : Nat) (cell : Cell), U.vm.findClass C = some c ∧ U.fieldFound? C n d = some (c, k, i, f) ∧ f.isStatic = true ∧ k.statics = some a ∧ H[a]? = some cell ∧ cell.vm.isStatics = true ∧ cell.cls = c ∧ f.slot < cell.slots.size ∧ k.staticTypes[f.slot]? = some f.type ∧ ¬ A a
theorem vx_L.moved {C n d : String} {A : Nat → Prop} {u U : State} {H : Heap} (hvm : u.vm.Alike U.vm) (h : vx_L C n d A u H) : vx_L C n d A U H := by
  obtain ⟨c, k, i, f, a, cell, h1, h2, h3, h4, h5, h6, h7, h8, h9, h10⟩ := h
  obtain ⟨k', hi', he⟩ := State.fieldFound?_setVm hvm h2
  exact ⟨c, k', i, f, a, cell, by rw [hvm.findClass]; exact h1, hi', h3, by rw [he]; exact h4, h5, h6, h7, h8, by rw [he]; exact h9, h10⟩
theorem vx_L.kept {C n d : String} {A : Nat → Prop} {U : State} {H H1 : Heap} (h : vx_L C n d A U H) (hq : ∀ a : Nat, a < H.size → ¬ A a → H1[a]? = H[a]?) : vx_L C n d A U H1 := by
  obtain ⟨c, k, i, f, a, cell, h1, h2, h3, h4, h5, h6, h7, h8, h9, h10⟩ := h
  exact ⟨c, k, i, f, a, cell, h1, h2, h3, h4, by rw [hq a (Array.getElem?_eq_some_iff.mp h5).1 h10]; exact h5, h6, h7, h8, h9, h10⟩
theorem vx_L.narrow {C n d : String} {A B : Nat → Prop} {U : State} {H : Heap} (h : vx_L C n d A U H) (hAB : ∀ q, B q → A q) : vx_L C n d B U H := by
  obtain ⟨c, k, i, f, a, cell, h1, h2, h3, h4, h5, h6, h7, h8, h9, h10⟩ := h
  exact ⟨c, k, i, f, a, cell, h1, h2, h3, h4, h5, h6, h7, h8, h9, fun z => h10 (hAB _ z)⟩
theorem vx_L.word {C n d : String} {A : Nat → Prop} {s : State} {args : Array Value} (h : vx_L C n d A s s.heap) : (Cond.laysStatic C n d).before args s = true := by
  obtain ⟨c, k, i, f, a, cell, h1, h2, h3, h4, h5, h6, h7, h8, h9, -⟩ := h
  show (Cond.laysStatic C n d).holds args s none s [] = true
  exact Cond.laysStatic_of h1 h2 h3 h4 h5 h6 h7 h8 h9
/-- .. and what it holds: null or some reference -/
def vx_Zq (C n d : String) (A : Nat → Prop) (U : State) (H : Heap) : Prop := va_Zq C n d A U H ∧ vx_L C n d A U H
theorem vx_Zq.moved {C n d : String} {A : Nat → Prop} {u U : State} {H : Heap} (hvm : u.vm.Alike U.vm) (h : vx_Zq C n d A u H) : vx_Zq C n d A U H := ⟨va_Zq.moved hvm h.1, vx_L.moved hvm h.2⟩
theorem vx_Zq.kept {C n d : String} {A : Nat → Prop} {U : State} {H H1 : Heap} (h : vx_Zq C n d A U H) (hq : ∀ a : Nat, a < H.size → ¬ A a → H1[a]? = H[a]?) : vx_Zq C n d A U H1 := ⟨va_Zq.kept h.1 hq, vx_L.kept h.2 hq⟩
theorem vx_Zq.narrow {C n d : String} {A B : Nat → Prop} {U : State} {H : Heap} (h : vx_Zq C n d A U H) (hAB : ∀ q, B q → A q) : vx_Zq C n d B U H := ⟨va_Zq.narrow h.1 hAB, vx_L.narrow h.2 hAB⟩
theorem vx_Zqof {args : Array Value} {s : State} {C n d : String} {A : Nat → Prop} (hl : (Cond.laysStatic C n d).before args s = true) (hini : (Cond.initialized C).before args s = true) (h : (Cond.isRef (.static C n d)).before args s = true) (hA : ∀ a : Nat, a < s.heap.size → ¬ A a) : vx_Zq C n d A s s.heap := by
  refine ⟨va_Zqof hl hini h hA, ?_⟩
  obtain ⟨c, k, i, f, a, cell, h1, h2, h3, h4, h5, h6, h7, h8, h9⟩ := Cond.laysStatic_spec hl
  exact ⟨c, k, i, f, a, cell, h1, h2, h3, h4, h5, h6, h7, h8, h9, hA a (Array.getElem?_eq_some_iff.mp h5).1⟩
theorem vx_isRef {C n d : String} {v : Value} {A : Nat → Prop} {s : State} {args : Array Value} (h : va_Z C n d v A s s.heap) (hv : v.isRef = true) : (Cond.isRef (.static C n d)).before args s = true := by
  obtain ⟨cf, kf, fi, f, a, cell, h1, h2, h3, h4, h5, h6, h7, -⟩ := h
  have he : (Term.static C n d).eval args s none [] s = some v := by
    simp [Term.eval, State.fieldNamed?, h1, h2, h4, h5, h6, h7]
  simp only [Cond.before, Cond.holds, Cond.value, he]
  cases v <;> simp_all [Value.isRef]
theorem vx_isRefq {C n d : String} {A : Nat → Prop} {s : State} {args : Array Value} (h : va_Zq C n d A s s.heap) : (Cond.isRef (.static C n d)).before args s = true := by
  rcases h with h | ⟨t, h⟩
  · exact vx_isRef h rfl
  · exact vx_isRef h rfl
/-- the same frame, seen from here: as if the method were called anew in this heap -/
theorem vx_rebase {T : State} (X : Stand p l e R s m args below meth c T locs cells slots) {R' : Room} (hf : R'.frames ≤ R.frames) (hl : R'.locals ≤ R.locals) (hc : cells + R'.cells ≤ R.cells) (hs : slots + R'.slots ≤ R.slots) :
    Stand p l e R' ((T.setVm s.vm).setFrames (.invoking m args :: below)) m args below meth c T [] 0 0 := by
  have htop : (T.setVm s.vm).topJava?.isSome := X.here.top
  have hF : ((T.setVm s.vm).setFrames (.invoking m args :: below)).frames = .invoking m args :: below := State.frames_setFrames _ (State.cur_lt_of_top htop)
  obtain ⟨g₀, hg0⟩ := Option.isSome_iff_exists.mp htop
  obtain ⟨r, hr⟩ := State.topJava?_eq_some.mp hg0
  have hl9 : e.platform.stackLimits (T.setVm s.vm).me = e.platform.stackLimits s.me := X.limits
  have hb9 : (T.setVm s.vm).me.stackBytes = s.me.stackBytes := X.bytes
  refine ⟨X.admits, X.cas, X.clock, hF, ?_, X.hears, X.method, X.code, X.here, X.tail, X.warmed, ?_, ?_, ?_⟩
  · have h := X.room
    have hU : ((T.setVm s.vm).setFrames (.invoking m args :: below)).localsInUse = s.localsInUse := by
      rw [State.localsInUse_invoking hF (meth := meth) (c := c) X.method X.code, State.localsInUse_invoking X.frames X.method X.code]
    simp only [State.hasRoom, Bool.and_eq_true, decide_eq_true_eq] at h ⊢
    obtain ⟨⟨⟨⟨h1, h2, h3, h4, h5, h6⟩, h7⟩, h8⟩, h9⟩ := h
    rw [X.frames, List.length_cons] at h2 h3
    have q1 := X.heapSize
    have q2 := X.used
    simp only [hF, hU, List.length_cons, State.stackLimits_setFrames, State.stackBytes_setFrames, hl9, hb9]
    refine ⟨⟨⟨⟨by omega, by omega, by omega, by omega, by omega, h6⟩, ?_⟩, ?_⟩, X.book⟩
    · show T.heap.size + R'.cells ≤ e.platform.maxCells
      omega
    · show T.slotsUsed + R'.slots ≤ e.platform.maxSlots
      omega
  · rw [State.stackLimits_setFrames]; rfl
  · rw [State.stackBytes_setFrames]; rfl
  · refine ⟨?_, Nat.le_refl _, Nat.le_refl _, ?_, ?_, fun a c9 h9 => ⟨c9, h9, rfl, rfl, fun _ _ => rfl⟩⟩
    · obtain ⟨t, ht, -⟩ := State.frames_cons hr
      show T.setVm s.vm = { ((T.setVm s.vm).setFrames (.invoking m args :: below)).setFrames (T.setVm s.vm).frames with heap := T.heap, slotsUsed := T.slotsUsed }
      rw [State.setFrames_setFrames, State.setFrames_self ht]
      rfl
    · show T.slotsUsed = T.slotsUsed + ((T.heap.toList.drop T.heap.size).map (·.slots.size)).sum
      rw [List.drop_eq_nil_of_le (Nat.le_of_eq Array.length_toList)]
      rfl
    · show ((T.heap.toList.drop T.heap.size).map (·.slots.size)).sum ≤ 0
      rw [List.drop_eq_nil_of_le (Nat.le_of_eq Array.length_toList)]
      exact Nat.le_refl _
/-- 'throw new E()': new; dup; invokespecial; athrow -/
theorem vx_throw0 {cc : ByteArray} {pc : Nat} (hexec : p.tables.exec = Jvm.exec) (hb : c.code = cc) (hl : l.stackTraces = false) {own cls : String} {names : List String} {ik ic mc ms : Nat} {A : Nat → Prop}
    (hown : s.vm.findClass own = some m.cls) (hcls : Bundle.fit cls = true) (hnames : ∀ n ∈ names, Bundle.fit n = true)
    (hk : (Cond.classLink own ik cls).before args s = true) (hini : (Cond.initialized cls).before args s = true) (hat : ∀ w ∈ vx_at0 own ic cls names, w.before args s = true)
    (hgood : ∀ w ∈ Cond.classLink own ik cls :: Cond.initialized cls :: vx_at0 own ic cls names, vx_ot w = true)
    (hU : vx_Zq Bundle.tN "UNASSIGNED_STACK" Bundle.steD A s s.heap) (hN : vx_Zq Bundle.tN "SUPPRESSED_SENTINEL" Bundle.listD A s s.heap) (hS : va_S A s.heap H locs) (hsize : ls.size = c.maxLocals)
    (d0 : decode cc pc = .ok (.new ik, 3)) (d3 : decode cc (pc + 3) = .ok (.dup, 1)) (d4 : decode cc (pc + 4) = .ok (.invokespecial ic, 3)) (d7 : decode cc (pc + 7) = .ok (.athrow, 1))
    (hout : ∀ x ∈ c.exceptionTable.toList, covers x (pc + 7) = false)
    (hRframes : names.length + 3 < R.frames) (hRlocals : (rest.map fun v => v.category).sum + (13 * (names.length + 1) + 42) ≤ R.locals) (hRcells : cells + 1 ≤ R.cells) (hRslots : slots + 6 ≤ R.slots) (hlocks : meth.locks = false)
    (hx : ∀ t : State, s.vm.Alike t.vm → H.size ≤ t.heap.size → (∀ q : Nat, q < H.size → t.heap[q]? = H[q]?) → XC cls s t)
    (hf : ∀ z ∈ locs, free z.base) (hc : cells + 1 ≤ mc) (hs : slots + 6 ≤ ms) :
    W p l e R s m args below meth c H locs cells slots (vx_MQ below Qc XC args s mc ms free) (F0 m pc ls rest) := by
  intro T hT X
  have htr : e.platform.stackTraces = false := (show e.platform.stackTraces = l.stackTraces by rw [X.admits.platform]).trans hl
  have Y := vx_rebase X (R' := { frames := R.frames, locals := R.locals, cells := 1, slots := 6 }) (Nat.le_refl _) (Nat.le_refl _) hRcells hRslots
  obtain ⟨s', hA⟩ : ∃ z, z = (T.setVm s.vm).setFrames (.invoking m args :: below) := ⟨_, rfl⟩
  rw [← hA] at Y
  have hvm : s'.vm = s.vm := by rw [hA]; rfl
  have hhp : s'.heap = H := by rw [hA]; exact hT
  have hW0 : s.WarmedH s'.vm := by rw [hvm]; exact State.WarmedH.refl s
  have hat' : ∀ w ∈ vx_at0 own ic cls names, w.before args s' = true := fun w hw => vx_ot_at hW0 hvm.symm (hgood w (List.mem_cons_of_mem _ (List.mem_cons_of_mem _ hw))) (hat w hw)
  have hk' : (Cond.classLink own ik cls).before args s' = true := vx_ot_at hW0 hvm.symm (hgood _ List.mem_cons_self) hk
  have hini' : (Cond.initialized cls).before args s' = true := vx_ot_at hW0 hvm.symm (hgood _ (List.mem_cons_of_mem _ List.mem_cons_self)) hini
  have hU' : vx_Zq Bundle.tN "UNASSIGNED_STACK" Bundle.steD A s' s'.heap := by rw [hhp]; exact vx_Zq.moved hW0.alike (hU.kept hS.2.1)
  have hN' : vx_Zq Bundle.tN "SUPPRESSED_SENTINEL" Bundle.listD A s' s'.heap := by rw [hhp]; exact vx_Zq.moved hW0.alike (hN.kept hS.2.1)
  have h : ∀ w ∈ Bundle.ownAtoms0 own ic cls names, w.before args s' = true := vx_own hat' (vx_isRefq hU'.1) (vx_isRefq hN'.1) hU'.2.word hN'.2.word
  have hown' : s'.vm.findClass own = some m.cls := by rw [hvm]; exact hown
  have hins : (Cond.instantiable cls 6).before args s' = true := h _ (by simp [Bundle.ownAtoms0])
  obtain ⟨vm₁, cX, kX, hfX, hkX, -, -, X₁, st1⟩ := Y.newCold hexec (own := own) (C := cls) (index := ik) (n := 6) hown' hk' hins hini'
    (g := F0 m pc ls rest) rfl (by rw [hb]; exact d0) (Nat.le_refl _) (Nat.le_refl _)
  generalize hT1 : (T.setVm vm₁).pushCell { cls := cX, slots := kX.instanceTypes.map defaultValue, vm := .none } = T1 at X₁ st1
  have hcat : (Value.ref T.heap.size).category = 1 := rfl
  have hcellA : T1.heap[T.heap.size]? = some (freshCell cX kX) := by rw [← hT1]; exact State.heap_pushCell_size _ _
  have d3' : decode c.code (pc + 3) = .ok (.dup, 1) := by rw [hb]; exact d3
  obtain ⟨U, hsteps, hrun, hend, hW, hsame, ce, hce, hO⟩ := X₁.ctorThrow0 hexec htr (own := own) (cls := cls) (names := names) (ic := ic) hown' hcls hnames h (fun x hx => nomatch hx) hfX hkX hcellA (by rw [hhp, hT]; exact Nat.le_refl _)
    (g := { method := m, pc := pc + 4, locals := ls, stack := .ref T.heap.size :: .ref T.heap.size :: rest, locked := none }) rfl hsize rfl rfl (rest := rest) rfl
    (by rw [hb]; exact d4) (by rw [hb]; exact d7) hout hRframes (by simp only [List.map_cons, List.sum_cons, hcat]; omega) hlocks
  obtain ⟨f1, f2⟩ := vx_frame hsame
  rw [hhp] at f1 f2
  have hWs : s.WarmedH U.vm := State.WarmedH.trans hW0 hW
  have hcl : s.vm.findClass cls = some ce.cls := by
    have h9 := hO.cls
    rw [hvm] at h9
    exact h9
  have hall : s.sameButNew ({ U with vm := s.vm } : State) locs mc ms := by
    subst hA
    obtain ⟨e1, e2⟩ := hsame
    rw [State.setFrames_setFrames] at e1
    have h2 : (T.setVm s.vm).sameButNew ({ U with vm := s.vm } : State) [] (0 + 1) (0 + 6) := ⟨e1, e2⟩
    have h3 := X.same.trans h2
    rw [List.append_nil] at h3
    exact h3.mono hc hs
  refine ⟨U, ?_, .threw T.heap.size, hrun, hend, Or.inr ⟨T.heap.size, rfl, cls, ce, locs, hx U hWs.alike f1 (fun q hq => f2 q hq (fun z hz => nomatch hz)), hce, hO.vm, hcl, hWs, hall, hf⟩⟩
  refine st1 _ ?_
  show Steps p.tables e below (T1.setTop { method := m, pc := pc + 3, locals := ls, stack := .ref T.heap.size :: rest, locked := none }) _
  jvm_step X₁.here [X₁.here.top, hexec, d3', Value.category]
  exact hsteps
/-- 'throw new E("text")': new; dup; ldc; invokespecial; athrow -/
theorem vx_throwS {cc : ByteArray} {pc : Nat} (hexec : p.tables.exec = Jvm.exec) (hb : c.code = cc) (hl : l.stackTraces = false) {own cls text : String} {names : List String} {ik is ic mc ms sa : Nat} {A : Nat → Prop}
    (hown : s.vm.findClass own = some m.cls) (hcls : Bundle.fit cls = true) (hnames : ∀ n ∈ names, Bundle.fit n = true)
    (hk : (Cond.classLink own ik cls).before args s = true) (hini : (Cond.initialized cls).before args s = true) (hstr : vk_R own is text sa s) (hat : ∀ w ∈ vx_atS own ic cls names, w.before args s = true)
    (hgood : ∀ w ∈ Cond.classLink own ik cls :: Cond.initialized cls :: vx_atS own ic cls names, vx_ot w = true)
    (hU : vx_Zq Bundle.tN "UNASSIGNED_STACK" Bundle.steD A s s.heap) (hN : vx_Zq Bundle.tN "SUPPRESSED_SENTINEL" Bundle.listD A s s.heap) (hS : va_S A s.heap H locs) (hsize : ls.size = c.maxLocals)
    (d0 : decode cc pc = .ok (.new ik, 3)) (d3 : decode cc (pc + 3) = .ok (.dup, 1)) (d4 : decode cc (pc + 4) = .ok (.ldc is, 2)) (d6 : decode cc (pc + 6) = .ok (.invokespecial ic, 3)) (d9 : decode cc (pc + 9) = .ok (.athrow, 1))
    (hout : ∀ x ∈ c.exceptionTable.toList, covers x (pc + 9) = false)
    (hRframes : names.length + 3 < R.frames) (hRlocals : (rest.map fun v => v.category).sum + (13 * (names.length + 1) + 43) ≤ R.locals) (hRcells : cells + 1 ≤ R.cells) (hRslots : slots + 6 ≤ R.slots) (hlocks : meth.locks = false)
    (hx : ∀ t : State, s.vm.Alike t.vm → H.size ≤ t.heap.size → (∀ q : Nat, q < H.size → t.heap[q]? = H[q]?) → XC cls s t)
    (hf : ∀ z ∈ locs, free z.base) (hc : cells + 1 ≤ mc) (hs : slots + 6 ≤ ms) :
    W p l e R s m args below meth c H locs cells slots (vx_MQ below Qc XC args s mc ms free) (F0 m pc ls rest) := by
  intro T hT X
  have htr : e.platform.stackTraces = false := (show e.platform.stackTraces = l.stackTraces by rw [X.admits.platform]).trans hl
  have Y := vx_rebase X (R' := { frames := R.frames, locals := R.locals, cells := 1, slots := 6 }) (Nat.le_refl _) (Nat.le_refl _) hRcells hRslots
  obtain ⟨s', hA⟩ : ∃ z, z = (T.setVm s.vm).setFrames (.invoking m args :: below) := ⟨_, rfl⟩
  rw [← hA] at Y
  have hvm : s'.vm = s.vm := by rw [hA]; rfl
  have hhp : s'.heap = H := by rw [hA]; exact hT
  have hW0 : s.WarmedH s'.vm := by rw [hvm]; exact State.WarmedH.refl s
  have hat' : ∀ w ∈ vx_atS own ic cls names, w.before args s' = true := fun w hw => vx_ot_at hW0 hvm.symm (hgood w (List.mem_cons_of_mem _ (List.mem_cons_of_mem _ hw))) (hat w hw)
  have hk' : (Cond.classLink own ik cls).before args s' = true := vx_ot_at hW0 hvm.symm (hgood _ List.mem_cons_self) hk
  have hini' : (Cond.initialized cls).before args s' = true := vx_ot_at hW0 hvm.symm (hgood _ (List.mem_cons_of_mem _ List.mem_cons_self)) hini
  have hU' : vx_Zq Bundle.tN "UNASSIGNED_STACK" Bundle.steD A s' s'.heap := by rw [hhp]; exact vx_Zq.moved hW0.alike (hU.kept hS.2.1)
  have hN' : vx_Zq Bundle.tN "SUPPRESSED_SENTINEL" Bundle.listD A s' s'.heap := by rw [hhp]; exact vx_Zq.moved hW0.alike (hN.kept hS.2.1)
  have h : ∀ w ∈ Bundle.ownAtoms own ic cls names, w.before args s' = true := vx_own hat' (vx_isRefq hU'.1) (vx_isRefq hN'.1) hU'.2.word hN'.2.word
  have hown' : s'.vm.findClass own = some m.cls := by rw [hvm]; exact hown
  have hins : (Cond.instantiable cls 6).before args s' = true := h _ (by simp [Bundle.ownAtoms])
  obtain ⟨vm₁, cX, kX, hfX, hkX, -, -, X₁, st1⟩ := Y.newCold hexec (own := own) (C := cls) (index := ik) (n := 6) hown' hk' hins hini'
    (g := F0 m pc ls rest) rfl (by rw [hb]; exact d0) (Nat.le_refl _) (Nat.le_refl _)
  generalize hT1 : (T.setVm vm₁).pushCell { cls := cX, slots := kX.instanceTypes.map defaultValue, vm := .none } = T1 at X₁ st1
  have hcat : (Value.ref T.heap.size).category = 1 := rfl
  have hcellA : T1.heap[T.heap.size]? = some (freshCell cX kX) := by rw [← hT1]; exact State.heap_pushCell_size _ _
  have d3' : decode c.code (pc + 3) = .ok (.dup, 1) := by rw [hb]; exact d3
  have d4' : decode c.code (pc + 4) = .ok (.ldc is, 2) := by rw [hb]; exact d4
  have hstr' : vk_R own is text sa s' := vk_R.warm hW0 hstr
  obtain ⟨U, hsteps, hrun, hend, hW, hsame, ce, hce, hO⟩ := X₁.ctorThrowS hexec htr (own := own) (cls := cls) (names := names) (ic := ic) hown' hcls hnames h (fun x hx => nomatch hx) hfX hkX hcellA (by rw [hhp, hT]; exact Nat.le_refl _) (msg := .ref sa) rfl
    (g := { method := m, pc := pc + 6, locals := ls, stack := .ref sa :: .ref T.heap.size :: .ref T.heap.size :: rest, locked := none }) rfl hsize rfl rfl (rest := rest) rfl
    (by rw [hb]; exact d6) (by rw [hb]; exact d9) hout hRframes (by simp only [List.map_cons, List.sum_cons, hcat]; omega) hlocks
  obtain ⟨f1, f2⟩ := vx_frame hsame
  rw [hhp] at f1 f2
  have hWs : s.WarmedH U.vm := State.WarmedH.trans hW0 hW
  have hcl : s.vm.findClass cls = some ce.cls := by
    have h9 := hO.cls
    rw [hvm] at h9
    exact h9
  have hall : s.sameButNew ({ U with vm := s.vm } : State) locs mc ms := by
    subst hA
    obtain ⟨e1, e2⟩ := hsame
    rw [State.setFrames_setFrames] at e1
    have h2 : (T.setVm s.vm).sameButNew ({ U with vm := s.vm } : State) [] (0 + 1) (0 + 6) := ⟨e1, e2⟩
    have h3 := X.same.trans h2
    rw [List.append_nil] at h3
    exact h3.mono hc hs
  refine ⟨U, ?_, .threw T.heap.size, hrun, hend, Or.inr ⟨T.heap.size, rfl, cls, ce, locs, hx U hWs.alike f1 (fun q hq => f2 q hq (fun z hz => nomatch hz)), hce, hO.vm, hcl, hWs, hall, hf⟩⟩
  refine st1 _ ?_
  show Steps p.tables e below (T1.setTop { method := m, pc := pc + 3, locals := ls, stack := .ref T.heap.size :: rest, locked := none }) _
  jvm_step X₁.here [X₁.here.top, hexec, d3', Value.category]
  exact X₁.ldcString hexec (own := own) (text := text) (index := is) (a := sa) hown' hstr'.1 hstr'.2
    (g := { method := m, pc := pc + 4, locals := ls, stack := .ref T.heap.size :: .ref T.heap.size :: rest, locked := none }) rfl d4' _ hsteps
/-- 'throw new E("text")', the text by a wide index -/
theorem vx_throwSW {cc : ByteArray} {pc : Nat} (hexec : p.tables.exec = Jvm.exec) (hb : c.code = cc) (hl : l.stackTraces = false) {own cls text : String} {names : List String} {ik is ic mc ms sa : Nat} {A : Nat → Prop}
    (hown : s.vm.findClass own = some m.cls) (hcls : Bundle.fit cls = true) (hnames : ∀ n ∈ names, Bundle.fit n = true)
    (hk : (Cond.classLink own ik cls).before args s = true) (hini : (Cond.initialized cls).before args s = true) (hstr : vk_R own is text sa s) (hat : ∀ w ∈ vx_atS own ic cls names, w.before args s = true)
    (hgood : ∀ w ∈ Cond.classLink own ik cls :: Cond.initialized cls :: vx_atS own ic cls names, vx_ot w = true)
    (hU : vx_Zq Bundle.tN "UNASSIGNED_STACK" Bundle.steD A s s.heap) (hN : vx_Zq Bundle.tN "SUPPRESSED_SENTINEL" Bundle.listD A s s.heap) (hS : va_S A s.heap H locs) (hsize : ls.size = c.maxLocals)
    (d0 : decode cc pc = .ok (.new ik, 3)) (d3 : decode cc (pc + 3) = .ok (.dup, 1)) (d4 : decode cc (pc + 4) = .ok (.ldc_w is, 3)) (d7 : decode cc (pc + 7) = .ok (.invokespecial ic, 3)) (d10 : decode cc (pc + 10) = .ok (.athrow, 1))
    (hout : ∀ x ∈ c.exceptionTable.toList, covers x (pc + 10) = false)
    (hRframes : names.length + 3 < R.frames) (hRlocals : (rest.map fun v => v.category).sum + (13 * (names.length + 1) + 43) ≤ R.locals) (hRcells : cells + 1 ≤ R.cells) (hRslots : slots + 6 ≤ R.slots) (hlocks : meth.locks = false)
    (hx : ∀ t : State, s.vm.Alike t.vm → H.size ≤ t.heap.size → (∀ q : Nat, q < H.size → t.heap[q]? = H[q]?) → XC cls s t)
    (hf : ∀ z ∈ locs, free z.base) (hc : cells + 1 ≤ mc) (hs : slots + 6 ≤ ms) :
    W p l e R s m args below meth c H locs cells slots (vx_MQ below Qc XC args s mc ms free) (F0 m pc ls rest) := by
  intro T hT X
  have htr : e.platform.stackTraces = false := (show e.platform.stackTraces = l.stackTraces by rw [X.admits.platform]).trans hl
  have Y := vx_rebase X (R' := { frames := R.frames, locals := R.locals, cells := 1, slots := 6 }) (Nat.le_refl _) (Nat.le_refl _) hRcells hRslots
  obtain ⟨s', hA⟩ : ∃ z, z = (T.setVm s.vm).setFrames (.invoking m args :: below) := ⟨_, rfl⟩
  rw [← hA] at Y
  have hvm : s'.vm = s.vm := by rw [hA]; rfl
  have hhp : s'.heap = H := by rw [hA]; exact hT
  have hW0 : s.WarmedH s'.vm := by rw [hvm]; exact State.WarmedH.refl s
  have hat' : ∀ w ∈ vx_atS own ic cls names, w.before args s' = true := fun w hw => vx_ot_at hW0 hvm.symm (hgood w (List.mem_cons_of_mem _ (List.mem_cons_of_mem _ hw))) (hat w hw)
  have hk' : (Cond.classLink own ik cls).before args s' = true := vx_ot_at hW0 hvm.symm (hgood _ List.mem_cons_self) hk
  have hini' : (Cond.initialized cls).before args s' = true := vx_ot_at hW0 hvm.symm (hgood _ (List.mem_cons_of_mem _ List.mem_cons_self)) hini
  have hU' : vx_Zq Bundle.tN "UNASSIGNED_STACK" Bundle.steD A s' s'.heap := by rw [hhp]; exact vx_Zq.moved hW0.alike (hU.kept hS.2.1)
  have hN' : vx_Zq Bundle.tN "SUPPRESSED_SENTINEL" Bundle.listD A s' s'.heap := by rw [hhp]; exact vx_Zq.moved hW0.alike (hN.kept hS.2.1)
  have h : ∀ w ∈ Bundle.ownAtoms own ic cls names, w.before args s' = true := vx_own hat' (vx_isRefq hU'.1) (vx_isRefq hN'.1) hU'.2.word hN'.2.word
  have hown' : s'.vm.findClass own = some m.cls := by rw [hvm]; exact hown
  have hins : (Cond.instantiable cls 6).before args s' = true := h _ (by simp [Bundle.ownAtoms])
  obtain ⟨vm₁, cX, kX, hfX, hkX, -, -, X₁, st1⟩ := Y.newCold hexec (own := own) (C := cls) (index := ik) (n := 6) hown' hk' hins hini'
    (g := F0 m pc ls rest) rfl (by rw [hb]; exact d0) (Nat.le_refl _) (Nat.le_refl _)
  generalize hT1 : (T.setVm vm₁).pushCell { cls := cX, slots := kX.instanceTypes.map defaultValue, vm := .none } = T1 at X₁ st1
  have hcat : (Value.ref T.heap.size).category = 1 := rfl
  have hcellA : T1.heap[T.heap.size]? = some (freshCell cX kX) := by rw [← hT1]; exact State.heap_pushCell_size _ _
  have d3' : decode c.code (pc + 3) = .ok (.dup, 1) := by rw [hb]; exact d3
  have d4' : decode c.code (pc + 4) = .ok (.ldc_w is, 3) := by rw [hb]; exact d4
  have hstr' : vk_R own is text sa s' := vk_R.warm hW0 hstr
  obtain ⟨U, hsteps, hrun, hend, hW, hsame, ce, hce, hO⟩ := X₁.ctorThrowS hexec htr (own := own) (cls := cls) (names := names) (ic := ic) hown' hcls hnames h (fun x hx => nomatch hx) hfX hkX hcellA (by rw [hhp, hT]; exact Nat.le_refl _) (msg := .ref sa) rfl
    (g := { method := m, pc := pc + 7, locals := ls, stack := .ref sa :: .ref T.heap.size :: .ref T.heap.size :: rest, locked := none }) rfl hsize rfl rfl (rest := rest) rfl
    (by rw [hb]; exact d7) (by rw [hb]; exact d10) hout hRframes (by simp only [List.map_cons, List.sum_cons, hcat]; omega) hlocks
  obtain ⟨f1, f2⟩ := vx_frame hsame
  rw [hhp] at f1 f2
  have hWs : s.WarmedH U.vm := State.WarmedH.trans hW0 hW
  have hcl : s.vm.findClass cls = some ce.cls := by
    have h9 := hO.cls
    rw [hvm] at h9
    exact h9
  have hall : s.sameButNew ({ U with vm := s.vm } : State) locs mc ms := by
    subst hA
    obtain ⟨e1, e2⟩ := hsame
    rw [State.setFrames_setFrames] at e1
    have h2 : (T.setVm s.vm).sameButNew ({ U with vm := s.vm } : State) [] (0 + 1) (0 + 6) := ⟨e1, e2⟩
    have h3 := X.same.trans h2
    rw [List.append_nil] at h3
    exact h3.mono hc hs
  refine ⟨U, ?_, .threw T.heap.size, hrun, hend, Or.inr ⟨T.heap.size, rfl, cls, ce, locs, hx U hWs.alike f1 (fun q hq => f2 q hq (fun z hz => nomatch hz)), hce, hO.vm, hcl, hWs, hall, hf⟩⟩
  refine st1 _ ?_
  show Steps p.tables e below (T1.setTop { method := m, pc := pc + 3, locals := ls, stack := .ref T.heap.size :: rest, locked := none }) _
  jvm_step X₁.here [X₁.here.top, hexec, d3', Value.category]
  exact X₁.ldcStringW hexec (own := own) (text := text) (index := is) (a := sa) hown' hstr'.1 hstr'.2
    (g := { method := m, pc := pc + 4, locals := ls, stack := .ref T.heap.size :: .ref T.heap.size :: rest, locked := none }) rfl d4' _ hsteps
end Ends
section Bodies
variable {l : Launch}
theorem vx_ofW {y : MethodName} {ws ws' : List Cond} {rm : Room} {Pc : Array Value → State → Prop} {Qc : Array Value → State → Outcome → State → Prop} {XC : String → State → State → Prop} {mc ms : Nat} {free : Addr → Prop} {cc : ByteArray} {maxL : Nat} {ret : Option FieldType}
    (hy : plainName y.cls = true) (hw : ws = Cond.code y cc maxL ret :: ws')
    (body : ∀ p e s m args below meth c s₁, BodyLoose p l y (headSpec ws rm) cc maxL ret e s m args below meth c s₁ → c.maxLocals = maxL → (∀ x ∈ c.exceptionTable.toList, False) → Pc args s →
      W p l e (headSpec ws rm).room s m args below meth c s.heap [] 0 0 (vx_MQ below Qc XC args s mc ms free) (entryFrame m args maxL)) : vx_Met l y ws rm Pc Qc XC mc ms free := by
  refine MetFree.of_bodyS (code := cc) (maxLocals := maxL) (ret := ret) hy ?_ ?_
  · intro args s m h hn
    obtain ⟨meth, c, h1, h2, h3, h4, h5, h6, -, -⟩ := Cond.code_spec hn (atoms_spec (ws := ws) h _ (by rw [hw]; exact List.mem_cons_self))
    exact ⟨meth, c, h1, h2, h3, h4, h5, h6⟩
  · intro p e s m args below meth c s₁ B hml hP _
    have hh0 : s₁.heap = s.heap := by rw [B.state]; rfl
    have ht : ∀ x ∈ c.exceptionTable.toList, False := by
      obtain ⟨meth9, c9, h1, h2, -, -, -, -, h7, -⟩ := Cond.code_spec B.named (atoms_spec (ws := ws) B.pre _ (by rw [hw]; exact List.mem_cons_self))
      cases Option.some.inj (h1.symm.trans B.method)
      cases Option.some.inj (h2.symm.trans (Stand.of_body B).code)
      intro x hx
      rw [Array.isEmpty_iff.mp h7] at hx
      cases hx
    obtain ⟨t, a1, o, b1, b2, b3⟩ := body p e s m args below meth c s₁ B hml ht hP s₁ hh0 (Stand.of_body B)
    exact ⟨t, o, a1, b1, b2, b3⟩
/-- the table of a body with handlers -/
theorem vx_table {p : Program} {x y : MethodName} {S : Spec} {cc bytes : ByteArray} {maxL maxL' : Nat} {ret ret' : Option FieldType} {e : Env} {s s₁ : State} {m : MethodId} {args : Array Value} {below : List Frame} {meth : Method} {c : Code} {hh : List (Nat × Nat × Nat × Nat)}
    (B : BodyLoose p l y S cc maxL ret e s m args below meth c s₁) (h : (Cond.codeWith y bytes maxL' ret' hh).before args s = true) : c.exceptionTable.toList = tableOf hh := by
  obtain ⟨m9, meth9, c9, hn9, h1, h2, -, -, h6, -⟩ := Cond.codeWith_spec h
  cases Option.some.inj (hn9.symm.trans B.named)
  cases Option.some.inj (h1.symm.trans B.method)
  cases Option.some.inj (h2.symm.trans (Stand.of_body B).code)
  rw [← h6, table_eq]
end Bodies
end VXA
/-! ===== END ===== -/
/-! ===== BEGIN a static call of a method with an exception table ===== -/
section VXS
variable {p : Program} {l : Launch} {e : Env} {R : Room} {s : State} {m : MethodId} {args : Array Value} {below : List Frame} {meth : Method} {c : Code} {T : State} {H : Heap} {locs : List Loc} {cells slots : Nat}
abbrev vx_CSW (R : Room) (s : State) (args : Array Value) (own : String) (index : Nat) (y : MethodName) (bytes : ByteArray) (maxL : Nat) (ret : Option FieldType) (hh : List (Nat × Nat × Nat × Nat)) (ws : List Cond) (rm : Room) (mc ms n : Nat) : Prop :=
  (rm.cells = mc ∧ rm.slots = ms ∧ rm.frames + 1 ≤ R.frames ∧ 8 + (maxL + 11) + rm.locals ≤ R.locals ∧ (∀ w ∈ ws, ∀ (a' : Array Value) (U : State), s.WarmedH U.vm → w.before a' U = true) ∧ Cond.codeWith y bytes maxL ret hh ∈ ws) ∧
  (Cond.codeWith y bytes maxL ret hh).before args s = true ∧ (Cond.initialized y.cls).before args s = true ∧ (y.cls ≠ "java/lang/invoke/MethodHandle" ∧ y.cls ≠ "java/lang/invoke/VarHandle") ∧
  (∀ sig, parseMethodDescriptor y.desc = some sig → n = sig.parameters.length) ∧ (Cond.methodLink own index y).before args s = true ∧ (Cond.static y).before args s = true
theorem vx_cwSW {own : String} {index maxL mc ms : Nat} {y : MethodName} {bytes : ByteArray} {ret : Option FieldType} {hh : List (Nat × Nat × Nat × Nat)} {Ts ws ws' : List Cond} {rm : Room} (n : Nat) (ht : ∀ w ∈ Ts, w.before args s = true) (hT : GoodIn Ts (va_wsS own index y ws)) (hw : ws = Cond.codeWith y bytes maxL ret hh :: ws') (hrc : rm.cells = mc) (hrs : rm.slots = ms)
    (hd : y.cls ≠ "java/lang/invoke/MethodHandle" ∧ y.cls ≠ "java/lang/invoke/VarHandle" ∧ (parseMethodDescriptor y.desc).map (fun d => d.parameters.length) = some n) (hR : rm.frames + 1 ≤ R.frames ∧ 8 + (maxL + 11) + rm.locals ≤ R.locals) :
    vx_CSW R s args own index y bytes maxL ret hh ws rm mc ms n := by
  have ok : ∀ w ∈ va_wsS own index y ws, w.before args s = true := fun w h => ht w (hT w h).1
  have hG : GoodIn Ts ws := fun w h => hT w (by unfold va_wsS; exact List.mem_append_right _ h)
  have hc : Cond.codeWith y bytes maxL ret hh ∈ ws := by rw [hw]; exact List.mem_cons_self
  refine ⟨⟨hrc, hrs, hR.1, hR.2, pay_in ht hG, hc⟩, ht _ (hG _ hc).1, ok _ (by simp [va_wsS]), ⟨hd.1, hd.2.1⟩, fun sig h => ?_, ok _ (by simp [va_wsS]), ok _ (by simp [va_wsS])⟩
  have h2 := hd.2.2
  rw [h] at h2
  exact (Option.some.inj h2).symm
theorem vx_callSW (X : Stand p l e R s m args below meth c T locs cells slots) (hexec : p.tables.exec = Jvm.exec) {own : String} {index : Nat} {y : MethodName} {bytes : ByteArray} {maxL : Nat} {ret : Option FieldType} {hh : List (Nat × Nat × Nat × Nat)}
    (hown : s.vm.findClass own = some m.cls) (hlink : (Cond.methodLink own index y).before args s = true) (hstat : (Cond.static y).before args s = true) (hinit : (Cond.initialized y.cls).before args s = true)
    (hcode : (Cond.codeWith y bytes maxL ret hh).before args s = true) (hy : y.cls ≠ "java/lang/invoke/MethodHandle" ∧ y.cls ≠ "java/lang/invoke/VarHandle")
    {W9 : Nat} {Pre : Pt → Array Value → Prop} {Post : Pt → Array Value → Option Value → Pt → Prop} (hK : Back l R p e below s args y 3 W9 Pre Post)
    {g : JFrame} (hg : g.method = m) (hsize : g.locals.size = c.maxLocals) {argsL rest : List Value} (hlen : ∀ sig, parseMethodDescriptor y.desc = some sig → argsL.length = sig.parameters.length)
    (hstack : g.stack = argsL.reverse ++ rest) (hW : 2 * g.monitorRoom + (rest.map fun v => v.category).sum ≤ W9) (hdg : decode c.code g.pc = .ok (.invokestatic index, 3))
    (hpre : ∀ vm₁, s.WarmedH vm₁ → Pre ⟨T.setVm vm₁, locs, cells, slots⟩ argsL.toArray) :
    ∃ (v : Option Value) (vm₁ : Vm) (B : Pt), s.WarmedH vm₁ ∧ Stand p l e R s m args below meth c B.U B.locs B.cells B.slots ∧ Post ⟨T.setVm vm₁, locs, cells, slots⟩ argsL.toArray v B ∧
      ∀ target, Steps p.tables e below (B.U.setTop { g with pc := g.pc + 3, stack := v.toList ++ rest }) target → Steps p.tables e below (T.setTop g) target := by
  obtain ⟨mk, methM, cM, hnamed, hmethM, -, -, -, -, -, -, hsigM⟩ := Cond.codeWith_spec hcode
  have hstatic : methM.isStatic = true := Cond.static_spec hnamed hmethM hstat
  obtain ⟨kP, hkP, -⟩ := className_of_methodNamed hnamed
  have hinitP : kP.init = .initialized := Cond.initialized_spec (findClass_of_methodNamed hnamed) hkP hinit
  obtain ⟨vm₁, X₁, hstep₁⟩ := X.invokestatic hexec hown hlink hnamed hmethM hstatic hkP hinitP hy (g := g) hg (argsL := argsL) (rest := rest) (hlen _ hsigM) hstack hdg
  obtain ⟨v, B, X', hpost, hsteps⟩ := hK m meth c ⟨T.setVm vm₁, locs, cells, slots⟩ { g with stack := rest } (.invokestatic index) mk argsL.toArray X₁ hg hsize hdg hW (X₁.named hnamed) (hpre vm₁ X₁.warmed)
  exact ⟨v, vm₁, B, X₁.warmed, X', hpost, fun target h => hstep₁ _ fun acts => by rw [doInvoke_state]; exact hsteps.trans h⟩
theorem vx_runSW {y : MethodName} {bytes cc : ByteArray} {maxL nL mc ms n index : Nat} {ret : Option FieldType} {hh : List (Nat × Nat × Nat × Nat)} {ws : List Cond} {rm : Room} {Pc : Array Value → State → Prop} {Qc : Array Value → State → Outcome → State → Prop} {free : Addr → Prop} {Ts : List Cond} {own : String} {As rest : List Value} {g : JFrame}
    (S : CallFix p m c cc nL s args Ts own) (hM : Met l y ws rm Pc Qc mc ms free) (cw : vx_CSW R s args own index y bytes maxL ret hh ws rm mc ms n) (hp : PreS s H Pc As)
    (hg : g.method = m) (hn : As.length = n) (hsize : g.locals.size = nL) (hstack : g.stack = As.reverse ++ rest) (hW : 2 * g.monitorRoom + (rest.map fun v => v.category).sum ≤ 8) (hdg : decode cc g.pc = .ok (.invokestatic index, 3)) (hf : cells + mc ≤ R.cells ∧ slots + ms ≤ R.slots) :
    va_Run p l e R s m args below meth c H locs cells slots mc ms g rest (Qc As.toArray) (free) := by
  obtain ⟨⟨hrc, hrs, hfr, hlo, hws, hcw⟩, hcode, hini, hy, hlen, hl, hstt⟩ := cw
  have hK : Back l R p e below s args y 3 8 (PreOf R mc ms Pc) (PostOf Qc mc ms free) := va_backW (hh := hh) (bytes := bytes) (maxL := maxL) (ret := ret) hM hp.1 hrc hrs hfr hlo hws hcw (fun a' U hW => word_at hW (Or.inl (by first | rfl | simp [Cond.onTables, Cond.keeps, Cond.steady])) hini)
  obtain ⟨hx, hb, hml, ho, -⟩ := S
  intro T hT X
  obtain ⟨v, vm₁, ⟨U', l2, c2, s2⟩, hW₁, X', ⟨g', mk, t, L, e1, e2, hq, h1, hL, h2, h3⟩, st⟩ := vx_callSW X hx (hh := hh) (bytes := bytes) (maxL := maxL) (ret := ret) ho hl hstt hini hcode hy hK hg (hsize.trans hml.symm) (argsL := As) (rest := rest) (fun sig h => hn.trans (hlen sig h)) hstack hW (by rw [hb]; exact hdg)
    (fun vm₁ hW₁ => ⟨hf.1, hf.2, hp.2 (T.setVm vm₁) hT hW₁⟩)
  dsimp only [Pt.U, Pt.locs, Pt.cells, Pt.slots] at X' e1 e2 h1 h2 h3 st
  subst h1; subst h2; subst h3
  exact ⟨v, (T.setVm vm₁).calling g' mk As.toArray, t, U', L, hT, X', hL, e1, e2, hq, st⟩
/-- not caught here, past rows that name other classes: it goes on to the caller -/
theorem vx_outP {p : Program} {l : Launch} {e : Env} {R : Room} {s : State} {m : MethodId} {args : Array Value} {below : List Frame} {meth : Method} {c : Code} {H : Heap} {locs : List Loc} {cells slots : Nat} {free : Addr → Prop} {ls : Array Slot} {rest : List Value} {Qc : Array Value → State → Outcome → State → Prop} {XC : String → State → State → Prop}
    {pc : Nat} {own E : String} {ce : Cell} {q : Addr} {mc ms : Nat} (hown : s.vm.findClass own = some m.cls) (hlocks : meth.locks = false)
    (hpass : ∀ z ∈ c.exceptionTable.toList, covers z pc = false ∨ (z.catchType ≠ 0 ∧ ∃ nm : String, (Cond.classLink own z.catchType nm).before args s = true ∧ va_Nc E nm s)) (hcell : H[q]? = some ce) (hv : ce.vm = .none) (hcl : s.vm.findClass E = some ce.cls)
    (hx : ∀ t : State, t.heap = H → s.vm.Alike t.vm → XC E s t) (hf : ∀ z ∈ locs, free z.base) (hc : cells ≤ mc) (hs : slots ≤ ms) :
    vx_W p l e R s m args below meth c H locs cells slots (vx_MQ below Qc XC args s mc ms free) (F0 m pc ls rest) q := by
  intro T hT X
  have hpl : e.platform.magicAccessors = ({} : Platform).magicAccessors := by rw [X.admits.platform]
  obtain ⟨vm', hW', X', st⟩ := X.outThrough hlocks q (g := F0 m pc ls rest) rfl rfl rfl (cell := ce) (by rw [hT]; exact hcell) (by rw [hv]; rfl)
    (by obtain ⟨k9, h9, -⟩ := Vm.findClass_spec hcl; exact ⟨k9, h9⟩) (fun z hz => by
      rcases hpass z hz with h | ⟨hz0, nm, hl1, hn1⟩
      · exact Or.inl h
      · obtain ⟨c6, hc6, hcl6⟩ := Cond.classLink_spec hown hl1 e.platform hpl
        obtain ⟨a8, b8, h1, h2, h3⟩ := hn1
        cases Option.some.inj (h1.symm.trans hcl)
        cases Option.some.inj (h2.symm.trans hc6)
        exact Or.inr ⟨hz0, _, hcl6, h3⟩)
  obtain ⟨g₀, hfr⟩ := X'.frames_eq
  have hcell9 : ((T.setVm vm').setFrames (.throwing q :: below)).heap[q]? = some ce := by
    show T.heap[q]? = some ce
    rw [hT]; exact hcell
  have hend : Ended ((T.setVm vm').setFrames (.throwing q :: below)) below (.threw q) := State.frames_setFrames _ (State.cur_lt_of_frames hfr)
  refine ⟨(T.setVm vm').setFrames (.throwing q :: below), ?_, .threw q, X'.here.running, hend, Or.inr ⟨q, rfl, E, ce, locs, hx _ hT (X'.ends _).1.alike, hcell9, hv, hcl, (X'.ends _).1, (X'.ends _).2.mono hc hs, hf⟩⟩
  rw [X.pushThrowing_eq]
  exact st
/-- a thing of a world lies in the heap -/
theorem vx_lt {D : va_G} {cl : List vw_C} {ws : va_W} {H1 : Heap} (h : va_P D cl ws H1) {k : Nat} {q : Nat × va_E} (hk : ws[k]? = some q) : q.1 < H1.size := (h k q hk).lt
end VXS
/-! ===== END ===== -/
/-! ===== BEGIN methods with a table of their own: called by a name, returning or throwing ===== -/
section VXH
/-! vx_backW, vx_callVX, vx_callSX, vx_callVW, vx_runVW, vx_runVX, vx_runSX, vx_ofWH follow the same proofs as their sisters above (Free/Laws.lean, Shelf42/LK1.lean); vx_outP calls Shelf42/NT130.lean (outThrough). -/
section
variable {l : Launch} {R : Room} {p : Program} {e : Env} {below : List Frame} {s : State} {sargs : Array Value} {y : MethodName} {len W9 : Nat}
theorem vx_backW {ws : List Cond} {rm : Room} {Pc : Array Value → State → Prop} {Qc : Array Value → State → Outcome → State → Prop} {XC : String → State → State → Prop} {mc ms : Nat} {free : Addr → Prop} {bytes : ByteArray} {maxL : Nat} {ret : Option FieldType} {hh : List (Nat × Nat × Nat × Nat)}
    (hM : vx_Met l y ws rm Pc Qc XC mc ms free) (hblind : FrameBlind Pc) (hrc : rm.cells = mc) (hrs : rm.slots = ms)
    (hframes : rm.frames + 1 ≤ R.frames) (hlocals : W9 + (maxL + 11) + rm.locals ≤ R.locals)
    (hws : ∀ w ∈ ws, ∀ a' U, s.WarmedH U.vm → w.before a' U = true) (hcode : Cond.codeWith y bytes maxL ret hh ∈ ws) (hinit : ∀ a' U, s.WarmedH U.vm → (Cond.initialized y.cls).before a' U = true) :
    vx_Back l R p e below s sargs y len W9 (PreOf R mc ms Pc) (PostOf Qc mc ms free) (vx_Post XC mc ms free) := by
  intro m meth c A g ig mk a X hg hsize hdg hW hn hp
  have h1 : (headSpec ws rm).pre.before a A.U = true := atoms_intro fun w hw => hws w hw _ _ X.warmed
  have h2 : (Cond.codeWith y bytes maxL ret hh).before a A.U = true := hws _ hcode _ _ X.warmed
  have h3 : (Cond.initialized y.cls).before a A.U = true := hinit _ _ X.warmed
  have h4 : A.cells + (headSpec ws rm).room.cells ≤ R.cells := by rw [show (headSpec ws rm).room.cells = mc from hrc]; exact hp.1
  have h5 : A.slots + (headSpec ws rm).room.slots ≤ R.slots := by rw [show (headSpec ws rm).room.slots = ms from hrs]; exact hp.2.1
  have hPc : Pc a (A.U.calling g mk a) := hblind _ _ _ _ hp.2.2
  obtain ⟨U, Ls, c0, s0⟩ := A
  dsimp only [Pt.U, Pt.locs, Pt.cells, Pt.slots] at h1 h2 h3 h4 h5 X hn hPc ⊢
  obtain ⟨m9, methY, cY, hn9, hmY, hcY, -, hlY, -⟩ := Cond.codeWith_spec h2
  cases Option.some.inj (hn9.symm.trans hn)
  obtain ⟨kY, hkY, -⟩ := className_of_methodNamed hn
  have hinitY : kY.init = .initialized := Cond.initialized_spec (findClass_of_methodNamed hn) hkY h3
  have h : At U g.method c below := by rw [hg]; exact X.here
  have hlocals9 : W9 + (maxL + 11) + (headSpec ws rm).room.locals ≤ R.locals := hlocals
  have happ : (headSpec ws rm).appliesLoose y e.platform (U.calling g mk a) = true :=
    Spec.appliesLoose_calling (g := g) h hdg hn hkY hinitY
      (X.room_calling (g := g) (R' := (headSpec ws rm).room) hsize hmY hcY hframes (by rw [hlY]; omega) h4 h5) h1
  obtain ⟨mid, hmid⟩ := h.above
  have hfr : (U.setTop g).frames = (.java g :: mid) ++ below := by rw [State.frames_setTop' g h.top, hmid]; rfl
  obtain ⟨o, s₂, hsteps, -, hend, hq⟩ := Steps.callFree hM p X.admits X.cas X.clock (acts := []) hfr happ hPc trivial
  have hq' : vx_Q Qc XC mc ms free a (U.calling g mk a) o s₂ := hq
  rw [State.frames_setTop' g h.top] at hend
  obtain ⟨g₀, hg0⟩ := Option.isSome_iff_exists.mp h.top
  obtain ⟨r, hr⟩ := State.topJava?_eq_some.mp hg0
  have hr' : (({ U with heap := s₂.heap, slotsUsed := s₂.slotsUsed } : State).setVm s₂.vm).frames = .java g₀ :: r := hr
  rcases hq' with ⟨hqc, L, hfe, hL⟩ | ⟨q, rfl, E, ce, L, hx, hce, hcv, hcl, hW₂, hsm, hL⟩
  · obtain ⟨⟨v, rfl⟩, hW₂, e2, q2, q3, q4, q5, q6⟩ := id hfe
    have e3 : s₂ = ({ (U.calling g mk a).setFrames s₂.frames with heap := s₂.heap, slotsUsed := s₂.slotsUsed } : State).setVm s₂.vm := by
      have : s₂ = ({ s₂ with vm := (U.calling g mk a).vm } : State).setVm s₂.vm := rfl
      rw [e2] at this
      exact this
    obtain ⟨c₂, i₂, len₂, hc₂, hd₂, hf₂⟩ := hend
    have hW' : U.WarmedH s₂.vm := hW₂
    have hcc : c₂ = c := by
      have h1 : s₂.code? g.method = U.code? g.method := by
        rw [State.code?_eq, State.code?_eq, hW'.alike.method?]
      exact Option.some.inj (hc₂.symm.trans (h1.trans h.code))
    subst hcc
    have hlen : len₂ = len := by rw [hdg] at hd₂; cases hd₂; rfl
    subst hlen
    have hs₂ : s₂ = (({ U with heap := s₂.heap, slotsUsed := s₂.slotsUsed } : State).setVm s₂.vm).setTop { g with pc := g.pc + len₂, stack := v.toList ++ g.stack } := by
      refine e3.trans ?_
      rw [hf₂, State.calling_eq h.top, State.setFrames_setFrames, State.setTop_of_frames _ hr', hr]
      rfl
    have hsame : U.sameButNew ({ U with heap := s₂.heap, slotsUsed := s₂.slotsUsed } : State) L mc ms := by
      refine ⟨?_, q2, q3, q4, q5, q6⟩
      obtain ⟨t, ht, -⟩ := State.frames_cons hr
      show ({ U with heap := s₂.heap, slotsUsed := s₂.slotsUsed } : State) = { U.setFrames U.frames with heap := s₂.heap, slotsUsed := s₂.slotsUsed }
      rw [State.setFrames_self ht]
    subst hg
    refine Or.inl ⟨v, ⟨(({ U with heap := s₂.heap, slotsUsed := s₂.slotsUsed } : State).setVm s₂.vm), Ls ++ L, c0 + mc, s0 + ms⟩,
      ⟨X.admits, X.cas, X.clock, X.frames, X.room, X.hears, X.method, X.code, (X.here.setHeapUsed s₂.heap s₂.slotsUsed).setVm hW'.alike, X.tail, State.WarmedH.trans X.warmed hW', X.limits, X.bytes, X.same.trans (hsame.setVm s.vm)⟩,
      ⟨g, mk, s₂, L, rfl, rfl, hqc, rfl, hL, rfl, rfl⟩, ?_⟩
    show Steps p.tables e below _ ((({ U with heap := s₂.heap, slotsUsed := s₂.slotsUsed } : State).setVm s₂.vm).setTop { g with pc := g.pc + len₂, stack := v.toList ++ g.stack })
    rw [← hs₂]
    exact hsteps
  · obtain ⟨e2, q2, q3, q4, q5, q6⟩ := id hsm
    have e3 : s₂ = ({ (U.calling g mk a).setFrames s₂.frames with heap := s₂.heap, slotsUsed := s₂.slotsUsed } : State).setVm s₂.vm := by
      have : s₂ = ({ s₂ with vm := (U.calling g mk a).vm } : State).setVm s₂.vm := rfl
      rw [e2] at this
      exact this
    have hf₂ : s₂.frames = .throwing q :: .java g :: U.frames.tail := hend
    have hW' : U.WarmedH s₂.vm := hW₂
    have hs₂ : s₂ = ((({ U with heap := s₂.heap, slotsUsed := s₂.slotsUsed } : State).setVm s₂.vm).setTop g).pushFrame (.throwing q) := by
      refine e3.trans ?_
      rw [hf₂, State.calling_eq h.top, State.setFrames_setFrames, State.pushFrame, State.frames_setTop _ hr', State.setTop_of_frames _ hr', State.setFrames_setFrames, hr]
      rfl
    have hsame : U.sameButNew ({ U with heap := s₂.heap, slotsUsed := s₂.slotsUsed } : State) L mc ms := by
      refine ⟨?_, q2, q3, q4, q5, q6⟩
      obtain ⟨t, ht, -⟩ := State.frames_cons hr
      show ({ U with heap := s₂.heap, slotsUsed := s₂.slotsUsed } : State) = { U.setFrames U.frames with heap := s₂.heap, slotsUsed := s₂.slotsUsed }
      rw [State.setFrames_self ht]
    subst hg
    refine Or.inr ⟨q, ⟨(({ U with heap := s₂.heap, slotsUsed := s₂.slotsUsed } : State).setVm s₂.vm), Ls ++ L, c0 + mc, s0 + ms⟩,
      ⟨X.admits, X.cas, X.clock, X.frames, X.room, X.hears, X.method, X.code, (X.here.setHeapUsed s₂.heap s₂.slotsUsed).setVm hW'.alike, X.tail, State.WarmedH.trans X.warmed hW', X.limits, X.bytes, X.same.trans (hsame.setVm s.vm)⟩,
      ⟨g, mk, s₂, L, E, ce, rfl, rfl, hx, hce, hcv, hcl, rfl, hL, rfl, rfl⟩, ?_⟩
    show Steps p.tables e below _ (((({ U with heap := s₂.heap, slotsUsed := s₂.slotsUsed } : State).setVm s₂.vm).setTop g).pushFrame (.throwing q))
    rw [← hs₂]
    exact hsteps
end
variable {p : Program} {l : Launch} {e : Env} {R : Room} {s : State} {m : MethodId} {args : Array Value} {below : List Frame} {meth : Method} {c : Code} {T : State} {H : Heap} {locs : List Loc} {cells slots : Nat}
theorem vx_callVX (X : Stand p l e R s m args below meth c T locs cells slots) (hexec : p.tables.exec = Jvm.exec) {own C : String} {index : Nat} {y : MethodName} {bytes : ByteArray} {maxL : Nat} {ret : Option FieldType} {hh : List (Nat × Nat × Nat × Nat)}
    (hown : s.vm.findClass own = some m.cls) (hlink : (Cond.methodLink own index y).before args s = true) (hinst : (Cond.instanceMethod y).before args s = true) (hsel : (Cond.selects C y y).before args s = true)
    (hcode : (Cond.codeWith y bytes maxL ret hh).before args s = true) (hy : y.cls ≠ "java/lang/invoke/MethodHandle" ∧ y.cls ≠ "java/lang/invoke/VarHandle")
    {W9 : Nat} {Pre : Pt → Array Value → Prop} {Post : Pt → Array Value → Option Value → Pt → Prop} {PostX : Pt → Array Value → Addr → Pt → Prop} (hK : vx_Back l R p e below s args y 3 W9 Pre Post PostX)
    {b : Addr} {cellB : Cell} (hcell : T.heap[b]? = some cellB) (hobj : cellB.vm.isStatics = false) (hcls : s.vm.findClass C = some cellB.cls)
    {g : JFrame} (hg : g.method = m) (hsize : g.locals.size = c.maxLocals) {argsL rest : List Value} (hlen : ∀ sig, parseMethodDescriptor y.desc = some sig → argsL.length = sig.parameters.length)
    (hstack : g.stack = argsL.reverse ++ .ref b :: rest) (hW : 2 * g.monitorRoom + (rest.map fun v => v.category).sum ≤ W9) (hdg : decode c.code g.pc = .ok (.invokevirtual index, 3))
    (hpre : ∀ vm₁, s.WarmedH vm₁ → Pre ⟨T.setVm vm₁, locs, cells, slots⟩ (Value.ref b :: argsL).toArray) :
    (∃ (v : Option Value) (vm₁ : Vm) (B : Pt), s.WarmedH vm₁ ∧ Stand p l e R s m args below meth c B.U B.locs B.cells B.slots ∧ Post ⟨T.setVm vm₁, locs, cells, slots⟩ (Value.ref b :: argsL).toArray v B ∧
      ∀ target, Steps p.tables e below (B.U.setTop { g with pc := g.pc + 3, stack := v.toList ++ rest }) target → Steps p.tables e below (T.setTop g) target) ∨
    (∃ (q : Addr) (vm₁ : Vm) (B : Pt), s.WarmedH vm₁ ∧ Stand p l e R s m args below meth c B.U B.locs B.cells B.slots ∧ PostX ⟨T.setVm vm₁, locs, cells, slots⟩ (Value.ref b :: argsL).toArray q B ∧
      Steps p.tables e below (T.setTop g) ((B.U.setTop { g with stack := rest }).pushFrame (.throwing q))) := by
  obtain ⟨mk, methM, hnamed, hmethM, hstM, habM⟩ := Cond.instanceMethod_spec hinst
  obtain ⟨m8, methM', cM, hn8, hmethM', -, -, -, -, -, -, hsigM⟩ := Cond.codeWith_spec hcode
  cases Option.some.inj (hn8.symm.trans hnamed)
  cases hmethM.symm.trans hmethM'
  obtain ⟨c2, r2, m2, q1, q2, q3, q4, kP, hkP, hkPi⟩ := Cond.selects_spec hsel
  cases hcls.symm.trans q1
  cases (State.methodFound?_of_named hnamed hy).symm.trans q2
  cases hnamed.symm.trans q3
  have hselP : selectMethod e.platform s.vm cellB.cls mk = .method mk := by rw [Launch.admits_selectMethod X.admits]; exact q4
  obtain ⟨vm₁, X₁, hstep₁⟩ := X.invokevirtual hexec hown hlink hnamed hmethM hstM hkP hkPi hy (a := b) (cell := cellB) hcell
    (fun z h => by rw [h] at hobj; cases hobj) hselP hmethM habM hkP hkPi (g := g) hg (argsL := argsL) (rest := rest) (hlen _ hsigM) hstack hdg
  rcases hK m meth c ⟨T.setVm vm₁, locs, cells, slots⟩ { g with stack := rest } (.invokevirtual index) mk (Value.ref b :: argsL).toArray X₁ hg hsize hdg hW (X₁.named hnamed) (hpre vm₁ X₁.warmed) with ⟨v, B, X', hpost, hsteps⟩ | ⟨q, B, X', hpost, hsteps⟩
  · exact Or.inl ⟨v, vm₁, B, X₁.warmed, X', hpost, fun target h => hstep₁ _ fun acts => by rw [doInvoke_state]; exact hsteps.trans h⟩
  · exact Or.inr ⟨q, vm₁, B, X₁.warmed, X', hpost, hstep₁ _ fun acts => by rw [doInvoke_state]; exact hsteps⟩
theorem vx_callSX (X : Stand p l e R s m args below meth c T locs cells slots) (hexec : p.tables.exec = Jvm.exec) {own : String} {index : Nat} {y : MethodName} {bytes : ByteArray} {maxL : Nat} {ret : Option FieldType} {hh : List (Nat × Nat × Nat × Nat)}
    (hown : s.vm.findClass own = some m.cls) (hlink : (Cond.methodLink own index y).before args s = true) (hstat : (Cond.static y).before args s = true) (hinit : (Cond.initialized y.cls).before args s = true)
    (hcode : (Cond.codeWith y bytes maxL ret hh).before args s = true) (hy : y.cls ≠ "java/lang/invoke/MethodHandle" ∧ y.cls ≠ "java/lang/invoke/VarHandle")
    {W9 : Nat} {Pre : Pt → Array Value → Prop} {Post : Pt → Array Value → Option Value → Pt → Prop} {PostX : Pt → Array Value → Addr → Pt → Prop} (hK : vx_Back l R p e below s args y 3 W9 Pre Post PostX)
    {g : JFrame} (hg : g.method = m) (hsize : g.locals.size = c.maxLocals) {argsL rest : List Value} (hlen : ∀ sig, parseMethodDescriptor y.desc = some sig → argsL.length = sig.parameters.length)
    (hstack : g.stack = argsL.reverse ++ rest) (hW : 2 * g.monitorRoom + (rest.map fun v => v.category).sum ≤ W9) (hdg : decode c.code g.pc = .ok (.invokestatic index, 3))
    (hpre : ∀ vm₁, s.WarmedH vm₁ → Pre ⟨T.setVm vm₁, locs, cells, slots⟩ argsL.toArray) :
    (∃ (v : Option Value) (vm₁ : Vm) (B : Pt), s.WarmedH vm₁ ∧ Stand p l e R s m args below meth c B.U B.locs B.cells B.slots ∧ Post ⟨T.setVm vm₁, locs, cells, slots⟩ argsL.toArray v B ∧
      ∀ target, Steps p.tables e below (B.U.setTop { g with pc := g.pc + 3, stack := v.toList ++ rest }) target → Steps p.tables e below (T.setTop g) target) ∨
    (∃ (q : Addr) (vm₁ : Vm) (B : Pt), s.WarmedH vm₁ ∧ Stand p l e R s m args below meth c B.U B.locs B.cells B.slots ∧ PostX ⟨T.setVm vm₁, locs, cells, slots⟩ argsL.toArray q B ∧
      Steps p.tables e below (T.setTop g) ((B.U.setTop { g with stack := rest }).pushFrame (.throwing q))) := by
  obtain ⟨mk, methM, cM, hnamed, hmethM, -, -, -, -, -, -, hsigM⟩ := Cond.codeWith_spec hcode
  have hstatic : methM.isStatic = true := Cond.static_spec hnamed hmethM hstat
  obtain ⟨kP, hkP, -⟩ := className_of_methodNamed hnamed
  have hinitP : kP.init = .initialized := Cond.initialized_spec (findClass_of_methodNamed hnamed) hkP hinit
  obtain ⟨vm₁, X₁, hstep₁⟩ := X.invokestatic hexec hown hlink hnamed hmethM hstatic hkP hinitP hy (g := g) hg (argsL := argsL) (rest := rest) (hlen _ hsigM) hstack hdg
  rcases hK m meth c ⟨T.setVm vm₁, locs, cells, slots⟩ { g with stack := rest } (.invokestatic index) mk argsL.toArray X₁ hg hsize hdg hW (X₁.named hnamed) (hpre vm₁ X₁.warmed) with ⟨v, B, X', hpost, hsteps⟩ | ⟨q, B, X', hpost, hsteps⟩
  · exact Or.inl ⟨v, vm₁, B, X₁.warmed, X', hpost, fun target h => hstep₁ _ fun acts => by rw [doInvoke_state]; exact hsteps.trans h⟩
  · exact Or.inr ⟨q, vm₁, B, X₁.warmed, X', hpost, hstep₁ _ fun acts => by rw [doInvoke_state]; exact hsteps⟩
theorem vx_callVW (X : Stand p l e R s m args below meth c T locs cells slots) (hexec : p.tables.exec = Jvm.exec) {own C : String} {index : Nat} {y : MethodName} {bytes : ByteArray} {maxL : Nat} {ret : Option FieldType} {hh : List (Nat × Nat × Nat × Nat)}
    (hown : s.vm.findClass own = some m.cls) (hlink : (Cond.methodLink own index y).before args s = true) (hinst : (Cond.instanceMethod y).before args s = true) (hsel : (Cond.selects C y y).before args s = true)
    (hcode : (Cond.codeWith y bytes maxL ret hh).before args s = true) (hy : y.cls ≠ "java/lang/invoke/MethodHandle" ∧ y.cls ≠ "java/lang/invoke/VarHandle")
    {W9 : Nat} {Pre : Pt → Array Value → Prop} {Post : Pt → Array Value → Option Value → Pt → Prop} (hK : Back l R p e below s args y 3 W9 Pre Post)
    {b : Addr} {cellB : Cell} (hcell : T.heap[b]? = some cellB) (hobj : cellB.vm.isStatics = false) (hcls : s.vm.findClass C = some cellB.cls)
    {g : JFrame} (hg : g.method = m) (hsize : g.locals.size = c.maxLocals) {argsL rest : List Value} (hlen : ∀ sig, parseMethodDescriptor y.desc = some sig → argsL.length = sig.parameters.length)
    (hstack : g.stack = argsL.reverse ++ .ref b :: rest) (hW : 2 * g.monitorRoom + (rest.map fun v => v.category).sum ≤ W9) (hdg : decode c.code g.pc = .ok (.invokevirtual index, 3))
    (hpre : ∀ vm₁, s.WarmedH vm₁ → Pre ⟨T.setVm vm₁, locs, cells, slots⟩ (Value.ref b :: argsL).toArray) :
    ∃ (v : Option Value) (vm₁ : Vm) (B : Pt), s.WarmedH vm₁ ∧ Stand p l e R s m args below meth c B.U B.locs B.cells B.slots ∧ Post ⟨T.setVm vm₁, locs, cells, slots⟩ (Value.ref b :: argsL).toArray v B ∧
      ∀ target, Steps p.tables e below (B.U.setTop { g with pc := g.pc + 3, stack := v.toList ++ rest }) target → Steps p.tables e below (T.setTop g) target := by
  obtain ⟨mk, methM, hnamed, hmethM, hstM, habM⟩ := Cond.instanceMethod_spec hinst
  obtain ⟨m8, methM', cM, hn8, hmethM', -, -, -, -, -, -, hsigM⟩ := Cond.codeWith_spec hcode
  cases Option.some.inj (hn8.symm.trans hnamed)
  cases hmethM.symm.trans hmethM'
  obtain ⟨c2, r2, m2, q1, q2, q3, q4, kP, hkP, hkPi⟩ := Cond.selects_spec hsel
  cases hcls.symm.trans q1
  cases (State.methodFound?_of_named hnamed hy).symm.trans q2
  cases hnamed.symm.trans q3
  have hselP : selectMethod e.platform s.vm cellB.cls mk = .method mk := by rw [Launch.admits_selectMethod X.admits]; exact q4
  obtain ⟨vm₁, X₁, hstep₁⟩ := X.invokevirtual hexec hown hlink hnamed hmethM hstM hkP hkPi hy (a := b) (cell := cellB) hcell
    (fun z h => by rw [h] at hobj; cases hobj) hselP hmethM habM hkP hkPi (g := g) hg (argsL := argsL) (rest := rest) (hlen _ hsigM) hstack hdg
  obtain ⟨v, B, X', hpost, hsteps⟩ := hK m meth c ⟨T.setVm vm₁, locs, cells, slots⟩ { g with stack := rest } (.invokevirtual index) mk (Value.ref b :: argsL).toArray X₁ hg hsize hdg hW (X₁.named hnamed) (hpre vm₁ X₁.warmed)
  exact ⟨v, vm₁, B, X₁.warmed, X', hpost, fun target h => hstep₁ _ fun acts => by rw [doInvoke_state]; exact hsteps.trans h⟩
abbrev vx_CVW (R : Room) (s : State) (args : Array Value) (own C : String) (index : Nat) (y : MethodName) (bytes : ByteArray) (maxL : Nat) (ret : Option FieldType) (hh : List (Nat × Nat × Nat × Nat)) (ws : List Cond) (rm : Room) (mc ms n : Nat) : Prop :=
  (rm.cells = mc ∧ rm.slots = ms ∧ rm.frames + 1 ≤ R.frames ∧ 8 + (maxL + 11) + rm.locals ≤ R.locals ∧ (∀ w ∈ ws, ∀ (a' : Array Value) (U : State), s.WarmedH U.vm → w.before a' U = true) ∧ Cond.codeWith y bytes maxL ret hh ∈ ws) ∧
  (Cond.codeWith y bytes maxL ret hh).before args s = true ∧ (Cond.initialized y.cls).before args s = true ∧ (y.cls ≠ "java/lang/invoke/MethodHandle" ∧ y.cls ≠ "java/lang/invoke/VarHandle") ∧
  (∀ sig, parseMethodDescriptor y.desc = some sig → n = sig.parameters.length) ∧ (Cond.methodLink own index y).before args s = true ∧ (Cond.instanceMethod y).before args s = true ∧ (Cond.selects C y y).before args s = true
theorem vx_cwVW {own C : String} {index maxL mc ms : Nat} {y : MethodName} {bytes : ByteArray} {ret : Option FieldType} {hh : List (Nat × Nat × Nat × Nat)} {Ts ws ws' : List Cond} {rm : Room} (n : Nat) (ht : ∀ w ∈ Ts, w.before args s = true) (hT : GoodIn Ts (wsV own index C y ws)) (hw : ws = Cond.codeWith y bytes maxL ret hh :: ws') (hrc : rm.cells = mc) (hrs : rm.slots = ms)
    (hd : y.cls = C ∧ y.cls ≠ "java/lang/invoke/MethodHandle" ∧ y.cls ≠ "java/lang/invoke/VarHandle" ∧ (parseMethodDescriptor y.desc).map (fun d => d.parameters.length) = some n) (hR : rm.frames + 1 ≤ R.frames ∧ 8 + (maxL + 11) + rm.locals ≤ R.locals) :
    vx_CVW R s args own C index y bytes maxL ret hh ws rm mc ms n := by
  obtain ⟨hC, hd⟩ := hd
  subst hC
  have ok : ∀ w ∈ wsV own index y.cls y ws, w.before args s = true := fun w h => ht w (hT w h).1
  have hG : GoodIn Ts ws := fun w h => hT w (by unfold wsV; exact List.mem_append_right _ h)
  have hc : Cond.codeWith y bytes maxL ret hh ∈ ws := by rw [hw]; exact List.mem_cons_self
  refine ⟨⟨hrc, hrs, hR.1, hR.2, pay_in ht hG, hc⟩, ht _ (hG _ hc).1, ok _ (by simp [wsV]), ⟨hd.1, hd.2.1⟩, fun sig h => ?_, ok _ (by simp [wsV]), ok _ (by simp [wsV]), ok _ (by simp [wsV])⟩
  have h2 := hd.2.2
  rw [h] at h2
  exact (Option.some.inj h2).symm
theorem vx_runVW {y : MethodName} {bytes cc : ByteArray} {maxL nL mc ms n index : Nat} {ret : Option FieldType} {hh : List (Nat × Nat × Nat × Nat)} {ws : List Cond} {rm : Room} {Pc : Array Value → State → Prop} {Qc : Array Value → State → Outcome → State → Prop} {free : Addr → Prop} {Ts : List Cond} {own C : String} {b : Addr} {As rest : List Value} {g : JFrame}
    (S : CallFix p m c cc nL s args Ts own) (hM : Met l y ws rm Pc Qc mc ms free) (cw : vx_CVW R s args own C index y bytes maxL ret hh ws rm mc ms n) (hp : PreV s H C b Pc As)
    (hg : g.method = m) (hn : As.length = n) (hsize : g.locals.size = nL) (hstack : g.stack = As.reverse ++ .ref b :: rest) (hW : 2 * g.monitorRoom + (rest.map fun v => v.category).sum ≤ 8) (hdg : decode cc g.pc = .ok (.invokevirtual index, 3)) (hf : cells + mc ≤ R.cells ∧ slots + ms ≤ R.slots) :
    va_Run p l e R s m args below meth c H locs cells slots mc ms g rest (Qc (Value.ref b :: As).toArray) free := by
  obtain ⟨⟨hrc, hrs, hfr, hlo, hws, hcw⟩, hcode, hini, hy, hlen, hl, hin, hse⟩ := cw
  have hK : Back l R p e below s args y 3 8 (PreOf R mc ms Pc) (PostOf Qc mc ms free) := va_backW (hh := hh) (bytes := bytes) (maxL := maxL) (ret := ret) hM hp.1 hrc hrs hfr hlo hws hcw (fun a' U hW => word_at hW (Or.inl (by first | rfl | simp [Cond.onTables, Cond.keeps, Cond.steady])) hini)
  obtain ⟨hx, hb, hml, ho, -⟩ := S
  obtain ⟨-, ⟨cellB, hcB, hoB, hclB⟩, hPc⟩ := hp
  intro T hT X
  obtain ⟨v, vm₁, ⟨U', l2, c2, s2⟩, hW₁, X', ⟨g', mk, t, L, e1, e2, hq, h1, hL, h2, h3⟩, st⟩ := vx_callVW X hx (C := C) (hh := hh) (bytes := bytes) (maxL := maxL) (ret := ret) ho hl hin hse hcode hy hK (by rw [hT]; exact hcB) hoB hclB hg (hsize.trans hml.symm) (argsL := As) (rest := rest) (fun sig h => hn.trans (hlen sig h)) hstack hW (by rw [hb]; exact hdg)
    (fun vm₁ hW₁ => ⟨hf.1, hf.2, hPc (T.setVm vm₁) hT hW₁⟩)
  dsimp only [Pt.U, Pt.locs, Pt.cells, Pt.slots] at X' e1 e2 h1 h2 h3 st
  subst h1; subst h2; subst h3
  exact ⟨v, (T.setVm vm₁).calling g' mk (Value.ref b :: As).toArray, t, U', L, hT, X', hL, e1, e2, hq, st⟩
section
variable {y : MethodName} {bytes cc : ByteArray} {maxL nL mc ms n index : Nat} {ret : Option FieldType} {ws : List Cond} {rm : Room} {Pc : Array Value → State → Prop} {Qc : Array Value → State → Outcome → State → Prop} {XC : String → State → State → Prop} {free : Addr → Prop} {Ts : List Cond} {own C : String} {b : Addr} {As rest : List Value} {g : JFrame}
theorem vx_runVX {hh : List (Nat × Nat × Nat × Nat)} (S : CallFix p m c cc nL s args Ts own) (hM : vx_Met l y ws rm Pc Qc XC mc ms free) (cw : vx_CVW R s args own C index y bytes maxL ret hh ws rm mc ms n) (hp : PreV s H C b Pc As)
    (hg : g.method = m) (hn : As.length = n) (hsize : g.locals.size = nL) (hstack : g.stack = As.reverse ++ .ref b :: rest) (hW : 2 * g.monitorRoom + (rest.map fun v => v.category).sum ≤ 8) (hdg : decode cc g.pc = .ok (.invokevirtual index, 3)) (hf : cells + mc ≤ R.cells ∧ slots + ms ≤ R.slots) :
    vx_Run p l e R s m args below meth c H locs cells slots mc ms g rest (Qc (Value.ref b :: As).toArray) XC free := by
  obtain ⟨⟨hrc, hrs, hfr, hlo, hws, hcw⟩, hcode, hini, hy, hlen, hl, hin, hse⟩ := cw
  have hK : vx_Back l R p e below s args y 3 8 (PreOf R mc ms Pc) (PostOf Qc mc ms free) (vx_Post XC mc ms free) := vx_backW (hh := hh) (bytes := bytes) (maxL := maxL) (ret := ret) hM hp.1 hrc hrs hfr hlo hws hcw (fun a' U hW => word_at hW (Or.inl (by first | rfl | simp [Cond.onTables, Cond.keeps, Cond.steady])) hini)
  obtain ⟨hx, hb, hml, ho, -⟩ := S
  obtain ⟨-, ⟨cellB, hcB, hoB, hclB⟩, hPc⟩ := hp
  intro T hT X
  rcases vx_callVX X hx (C := C) (hh := hh) (bytes := bytes) (maxL := maxL) (ret := ret) ho hl hin hse hcode hy hK (by rw [hT]; exact hcB) hoB hclB hg (hsize.trans hml.symm) (argsL := As) (rest := rest) (fun sig h => hn.trans (hlen sig h)) hstack hW (by rw [hb]; exact hdg)
    (fun vm₁ hW₁ => ⟨hf.1, hf.2, hPc (T.setVm vm₁) hT hW₁⟩) with ⟨v, vm₁, ⟨U', l2, c2, s2⟩, hW₁, X', ⟨g', mk, t, L, e1, e2, hq, h1, hL, h2, h3⟩, st⟩ | ⟨q, vm₁, ⟨U', l2, c2, s2⟩, hW₁, X', ⟨g', mk, t, L, E, ce, e1, e2, hq, hce, hcv, hcl, h1, hL, h2, h3⟩, st⟩
  · dsimp only [Pt.U, Pt.locs, Pt.cells, Pt.slots] at X' e1 e2 h1 h2 h3 st
    subst h1; subst h2; subst h3
    exact Or.inl ⟨v, (T.setVm vm₁).calling g' mk (Value.ref b :: As).toArray, t, U', L, hT, X', hL, e1, e2, hq, st⟩
  · dsimp only [Pt.U, Pt.locs, Pt.cells, Pt.slots] at X' e1 e2 h1 h2 h3 st hcl
    subst h1; subst h2; subst h3
    exact Or.inr ⟨q, (T.setVm vm₁).calling g' mk (Value.ref b :: As).toArray, t, U', L, E, ce, hT, X', hL, e1, e2, hq, hce, hcv, vx_cls hW₁ hcl, st⟩
theorem vx_runSX {hh : List (Nat × Nat × Nat × Nat)} (S : CallFix p m c cc nL s args Ts own) (hM : vx_Met l y ws rm Pc Qc XC mc ms free) (cw : vx_CSW R s args own index y bytes maxL ret hh ws rm mc ms n) (hp : PreS s H Pc As)
    (hg : g.method = m) (hn : As.length = n) (hsize : g.locals.size = nL) (hstack : g.stack = As.reverse ++ rest) (hW : 2 * g.monitorRoom + (rest.map fun v => v.category).sum ≤ 8) (hdg : decode cc g.pc = .ok (.invokestatic index, 3)) (hf : cells + mc ≤ R.cells ∧ slots + ms ≤ R.slots) :
    vx_Run p l e R s m args below meth c H locs cells slots mc ms g rest (Qc As.toArray) XC free := by
  obtain ⟨⟨hrc, hrs, hfr, hlo, hws, hcw⟩, hcode, hini, hy, hlen, hl, hstt⟩ := cw
  have hK : vx_Back l R p e below s args y 3 8 (PreOf R mc ms Pc) (PostOf Qc mc ms free) (vx_Post XC mc ms free) := vx_backW (hh := hh) (bytes := bytes) (maxL := maxL) (ret := ret) hM hp.1 hrc hrs hfr hlo hws hcw (fun a' U hW => word_at hW (Or.inl (by first | rfl | simp [Cond.onTables, Cond.keeps, Cond.steady])) hini)
  obtain ⟨hx, hb, hml, ho, -⟩ := S
  intro T hT X
  rcases vx_callSX X hx (hh := hh) (bytes := bytes) (maxL := maxL) (ret := ret) ho hl hstt hini hcode hy hK hg (hsize.trans hml.symm) (argsL := As) (rest := rest) (fun sig h => hn.trans (hlen sig h)) hstack hW (by rw [hb]; exact hdg)
    (fun vm₁ hW₁ => ⟨hf.1, hf.2, hp.2 (T.setVm vm₁) hT hW₁⟩) with ⟨v, vm₁, ⟨U', l2, c2, s2⟩, hW₁, X', ⟨g', mk, t, L, e1, e2, hq, h1, hL, h2, h3⟩, st⟩ | ⟨q, vm₁, ⟨U', l2, c2, s2⟩, hW₁, X', ⟨g', mk, t, L, E, ce, e1, e2, hq, hce, hcv, hcl, h1, hL, h2, h3⟩, st⟩
  · dsimp only [Pt.U, Pt.locs, Pt.cells, Pt.slots] at X' e1 e2 h1 h2 h3 st
    subst h1; subst h2; subst h3
    exact Or.inl ⟨v, (T.setVm vm₁).calling g' mk As.toArray, t, U', L, hT, X', hL, e1, e2, hq, st⟩
  · dsimp only [Pt.U, Pt.locs, Pt.cells, Pt.slots] at X' e1 e2 h1 h2 h3 st hcl
    subst h1; subst h2; subst h3
    exact Or.inr ⟨q, (T.setVm vm₁).calling g' mk As.toArray, t, U', L, E, ce, hT, X', hL, e1, e2, hq, hce, hcv, vx_cls hW₁ hcl, st⟩
end
end VXH
theorem vx_ofWH {l : Launch} {y : MethodName} {ws ws' : List Cond} {rm : Room} {Pc : Array Value → State → Prop} {Qc : Array Value → State → Outcome → State → Prop} {XC : String → State → State → Prop} {mc ms : Nat} {free : Addr → Prop} {cc : ByteArray} {maxL : Nat} {ret : Option FieldType} {hh : List (Nat × Nat × Nat × Nat)}
    (hy : plainName y.cls = true) (hw : ws = Cond.codeWith y cc maxL ret hh :: ws')
    (body : ∀ p e s m args below meth c s₁, BodyLoose p l y (headSpec ws rm) cc maxL ret e s m args below meth c s₁ → c.maxLocals = maxL → Pc args s →
      W p l e (headSpec ws rm).room s m args below meth c s.heap [] 0 0 (vx_MQ below Qc XC args s mc ms free) (entryFrame m args maxL)) : vx_Met l y ws rm Pc Qc XC mc ms free := by
  refine MetFree.of_bodyS (code := cc) (maxLocals := maxL) (ret := ret) hy ?_ ?_
  · intro args s m h hn
    obtain ⟨m9, meth, c, hn9, h1, h2, h3, h4, -, h5, h6, -⟩ := Cond.codeWith_spec (atoms_spec (ws := ws) h _ (by rw [hw]; exact List.mem_cons_self))
    cases hn.symm.trans hn9
    exact ⟨meth, c, h1, h2, h3, h4, h5, h6⟩
  · intro p e s m args below meth c s₁ B hml hP _
    have hh0 : s₁.heap = s.heap := by rw [B.state]; rfl
    obtain ⟨t, a1, o, b1, b2, b3⟩ := body p e s m args below meth c s₁ B hml hP s₁ hh0 (Stand.of_body B)
    exact ⟨t, o, a1, b1, b2, b3⟩
/-! ===== END ===== -/

/-! ===== BEGIN a constructor that throws (launches without stack traces) ===== -/
section VXIA
variable {p : Program} {l : Launch} {e : Env} {R : Room} {s : State} {m : MethodId} {args : Array Value} {below : List Frame} {meth : Method} {c : Code} {T : State} {locs : List Loc} {cells slots : Nat}
theorem vx_callI (X : Stand p l e R s m args below meth c T locs cells slots) (hexec : p.tables.exec = Jvm.exec) {own : String} {index : Nat} {y : MethodName} {bytes : ByteArray} {maxL : Nat}
    (hown : s.vm.findClass own = some m.cls) (hy1 : y.name = "<init>") (hlink : (Cond.methodLink own index y).before args s = true) (hinst : (Cond.instanceMethod y).before args s = true)
    (hcode : (Cond.code y bytes maxL none).before args s = true) (hy : y.cls ≠ "java/lang/invoke/MethodHandle" ∧ y.cls ≠ "java/lang/invoke/VarHandle")
    {W9 : Nat} {Pre : Pt → Array Value → Prop} {Post : Pt → Array Value → Option Value → Pt → Prop} {PostX : Pt → Array Value → Addr → Pt → Prop} (hK : vx_Back l R p e below s args y 3 W9 Pre Post PostX)
    {g : JFrame} (hg : g.method = m) (hsize : g.locals.size = c.maxLocals) {a : Addr} {argsL rest : List Value} (hlen : ∀ sig, parseMethodDescriptor y.desc = some sig → argsL.length = sig.parameters.length)
    (hstack : g.stack = argsL.reverse ++ .ref a :: rest) (hW : 2 * g.monitorRoom + (rest.map fun v => v.category).sum ≤ W9) (hdg : decode c.code g.pc = .ok (.invokespecial index, 3))
    (hpre : ∀ vm₁, s.WarmedH vm₁ → Pre ⟨T.setVm vm₁, locs, cells, slots⟩ (Value.ref a :: argsL).toArray) :
    (∃ (v : Option Value) (vm₁ : Vm) (B : Pt), s.WarmedH vm₁ ∧ Stand p l e R s m args below meth c B.U B.locs B.cells B.slots ∧ Post ⟨T.setVm vm₁, locs, cells, slots⟩ (Value.ref a :: argsL).toArray v B ∧
      ∀ target, Steps p.tables e below (B.U.setTop { g with pc := g.pc + 3, stack := v.toList ++ rest }) target → Steps p.tables e below (T.setTop g) target) ∨
    (∃ (q : Addr) (vm₁ : Vm) (B : Pt), s.WarmedH vm₁ ∧ Stand p l e R s m args below meth c B.U B.locs B.cells B.slots ∧ PostX ⟨T.setVm vm₁, locs, cells, slots⟩ (Value.ref a :: argsL).toArray q B ∧
      Steps p.tables e below (T.setTop g) ((B.U.setTop { g with stack := rest }).pushFrame (.throwing q))) := by
  subst hg
  have hpl : e.platform.magicAccessors = ({} : Platform).magicAccessors := by rw [X.admits.platform]
  obtain ⟨mk, methM, cM, kP, vm₁, hnamed, hmethM, hcodeM, -, hlocalsM, -, hkP, -, hW₁, hstep₁⟩ := Steps.initColdArgs (e := e) X.here hexec X.warmed hpl hown hy1 hy hlink hinst hcode (f := g) rfl hlen hstack hdg
  have X₁ := X.noted hW₁
  rcases hK g.method meth c ⟨T.setVm vm₁, locs, cells, slots⟩ { g with stack := rest } (.invokespecial index) mk (Value.ref a :: argsL).toArray X₁ rfl hsize hdg hW (X₁.named hnamed) (hpre vm₁ X₁.warmed) with ⟨v, B, X', hpost, hsteps⟩ | ⟨q, B, X', hpost, hsteps⟩
  · exact Or.inl ⟨v, vm₁, B, X₁.warmed, X', hpost, fun target h => hstep₁ _ fun acts => by rw [doInvoke_state]; exact hsteps.trans h⟩
  · exact Or.inr ⟨q, vm₁, B, X₁.warmed, X', hpost, hstep₁ _ fun acts => by rw [doInvoke_state]; exact hsteps⟩
end VXIA
section VXIB
variable {p : Program} {l : Launch} {e : Env} {R : Room} {s : State} {m : MethodId} {args : Array Value} {below : List Frame} {meth : Method} {c : Code} {H : Heap} {locs : List Loc} {cells slots : Nat}
variable {y : MethodName} {bytes cc : ByteArray} {maxL nL mc ms n index : Nat} {ret : Option FieldType} {ws : List Cond} {rm : Room} {Pc : Array Value → State → Prop} {Qc : Array Value → State → Outcome → State → Prop} {XC : String → State → State → Prop} {free : Addr → Prop} {Ts : List Cond} {own C : String} {b : Addr} {As rest : List Value} {g : JFrame}
theorem vx_runI (S : CallFix p m c cc nL s args Ts own) (hM : vx_Met l y ws rm Pc Qc XC mc ms free) (cw : CallB R s args own index y bytes maxL none ws rm mc ms n ∧ y.name = "<init>" ∧ (Cond.instanceMethod y).before args s = true) (hp : PreS s H Pc (.ref b :: As))
    (hg : g.method = m) (hn : As.length = n) (hsize : g.locals.size = nL) (hstack : g.stack = As.reverse ++ .ref b :: rest) (hW : 2 * g.monitorRoom + (rest.map fun v => v.category).sum ≤ 8) (hdg : decode cc g.pc = .ok (.invokespecial index, 3)) (hf : cells + mc ≤ R.cells ∧ slots + ms ≤ R.slots) :
    vx_Run p l e R s m args below meth c H locs cells slots mc ms g rest (Qc (Value.ref b :: As).toArray) XC free := by
  have hK : vx_Back l R p e below s args y 3 8 (PreOf R mc ms Pc) (PostOf Qc mc ms free) (vx_Post XC mc ms free) := vx_callBack cw.1 hM hp.1
  obtain ⟨⟨-, -, -, -, -, -, hcode, -, hy, hlen, hl⟩, hy1, hin⟩ := cw
  obtain ⟨hx, hb, hml, ho, -⟩ := S
  have hPc := hp.2
  intro T hT X
  rcases vx_callI X hx (bytes := bytes) (maxL := maxL) ho hy1 hl hin hcode hy hK hg (hsize.trans hml.symm) (a := b) (argsL := As) (rest := rest) (fun sig h => hn.trans (hlen sig h)) hstack hW (by rw [hb]; exact hdg)
    (fun vm₁ hW₁ => ⟨hf.1, hf.2, hPc (T.setVm vm₁) hT hW₁⟩) with ⟨v, vm₁, ⟨U', l2, c2, s2⟩, hW₁, X', ⟨g', mk, t, L, e1, e2, hq, h1, hL, h2, h3⟩, st⟩ | ⟨q, vm₁, ⟨U', l2, c2, s2⟩, hW₁, X', ⟨g', mk, t, L, E, ce, e1, e2, hq, hce, hcv, hcl, h1, hL, h2, h3⟩, st⟩
  · dsimp only [Pt.U, Pt.locs, Pt.cells, Pt.slots] at X' e1 e2 h1 h2 h3 st
    subst h1; subst h2; subst h3
    exact Or.inl ⟨v, (T.setVm vm₁).calling g' mk (Value.ref b :: As).toArray, t, U', L, hT, X', hL, e1, e2, hq, st⟩
  · dsimp only [Pt.U, Pt.locs, Pt.cells, Pt.slots] at X' e1 e2 h1 h2 h3 st hcl
    subst h1; subst h2; subst h3
    exact Or.inr ⟨q, (T.setVm vm₁).calling g' mk (Value.ref b :: As).toArray, t, U', L, E, ce, hT, X', hL, e1, e2, hq, hce, hcv, vx_cls hW₁ hcl, st⟩
end VXIB
/-! ===== END ===== -/
/-! ===== BEGIN a private constructor of a nest mate that throws ===== -/
section VXIC
variable {p : Program} {l : Launch} {e : Env} {R : Room} {s : State} {m : MethodId} {args : Array Value} {below : List Frame} {meth : Method} {c : Code} {T : State} {locs : List Loc} {cells slots : Nat}
theorem vx_callIN (X : Stand p l e R s m args below meth c T locs cells slots) (hexec : p.tables.exec = Jvm.exec) {own : String} {index : Nat} {host : String} {y : MethodName} {bytes : ByteArray} {maxL : Nat}
    (hown : s.vm.findClass own = some m.cls) (hy1 : y.name = "<init>") (hlink : (Cond.methodLinkNest own index y host).before args s = true) (hinst : (Cond.instanceMethod y).before args s = true)
    (hcode : (Cond.code y bytes maxL none).before args s = true) (hy : y.cls ≠ "java/lang/invoke/MethodHandle" ∧ y.cls ≠ "java/lang/invoke/VarHandle")
    {W9 : Nat} {Pre : Pt → Array Value → Prop} {Post : Pt → Array Value → Option Value → Pt → Prop} {PostX : Pt → Array Value → Addr → Pt → Prop} (hK : vx_Back l R p e below s args y 3 W9 Pre Post PostX)
    {g : JFrame} (hg : g.method = m) (hsize : g.locals.size = c.maxLocals) {a : Addr} {argsL rest : List Value} (hlen : ∀ sig, parseMethodDescriptor y.desc = some sig → argsL.length = sig.parameters.length)
    (hstack : g.stack = argsL.reverse ++ .ref a :: rest) (hW : 2 * g.monitorRoom + (rest.map fun v => v.category).sum ≤ W9) (hdg : decode c.code g.pc = .ok (.invokespecial index, 3))
    (hpre : ∀ vm₁, s.WarmedH vm₁ → Pre ⟨T.setVm vm₁, locs, cells, slots⟩ (Value.ref a :: argsL).toArray) :
    (∃ (v : Option Value) (vm₁ : Vm) (B : Pt), s.WarmedH vm₁ ∧ Stand p l e R s m args below meth c B.U B.locs B.cells B.slots ∧ Post ⟨T.setVm vm₁, locs, cells, slots⟩ (Value.ref a :: argsL).toArray v B ∧
      ∀ target, Steps p.tables e below (B.U.setTop { g with pc := g.pc + 3, stack := v.toList ++ rest }) target → Steps p.tables e below (T.setTop g) target) ∨
    (∃ (q : Addr) (vm₁ : Vm) (B : Pt), s.WarmedH vm₁ ∧ Stand p l e R s m args below meth c B.U B.locs B.cells B.slots ∧ PostX ⟨T.setVm vm₁, locs, cells, slots⟩ (Value.ref a :: argsL).toArray q B ∧
      Steps p.tables e below (T.setTop g) ((B.U.setTop { g with stack := rest }).pushFrame (.throwing q))) := by
  subst hg
  have hpl : e.platform.magicAccessors = ({} : Platform).magicAccessors := by rw [X.admits.platform]
  obtain ⟨mk, methM, cM, kP, vm₁, hnamed, hmethM, hcodeM, -, hlocalsM, -, hkP, -, hW₁, hstep₁⟩ := Steps.initColdArgsNest (e := e) X.here hexec X.warmed hpl hown hy1 hy hlink hinst hcode (f := g) rfl hlen hstack hdg
  have X₁ := X.noted hW₁
  rcases hK g.method meth c ⟨T.setVm vm₁, locs, cells, slots⟩ { g with stack := rest } (.invokespecial index) mk (Value.ref a :: argsL).toArray X₁ rfl hsize hdg hW (X₁.named hnamed) (hpre vm₁ X₁.warmed) with ⟨v, B, X', hpost, hsteps⟩ | ⟨q, B, X', hpost, hsteps⟩
  · exact Or.inl ⟨v, vm₁, B, X₁.warmed, X', hpost, fun target h => hstep₁ _ fun acts => by rw [doInvoke_state]; exact hsteps.trans h⟩
  · exact Or.inr ⟨q, vm₁, B, X₁.warmed, X', hpost, hstep₁ _ fun acts => by rw [doInvoke_state]; exact hsteps⟩
end VXIC
section VXID
variable {p : Program} {l : Launch} {e : Env} {R : Room} {s : State} {m : MethodId} {args : Array Value} {below : List Frame} {meth : Method} {c : Code} {H : Heap} {locs : List Loc} {cells slots : Nat}
theorem vx_runIN {y : MethodName} {bytes cc : ByteArray} {maxL nL mc ms n index : Nat} {ws : List Cond} {rm : Room} {Pc : Array Value → State → Prop} {Qc : Array Value → State → Outcome → State → Prop} {XC : String → State → State → Prop} {free : Addr → Prop} {Ts : List Cond} {own host : String} {b : Addr} {As rest : List Value} {g : JFrame}
    (S : CallFix p m c cc nL s args Ts own) (hM : vx_Met l y ws rm Pc Qc XC mc ms free) (cw : va_CN R s args own index y host bytes maxL none ws rm mc ms n ∧ y.name = "<init>" ∧ (Cond.instanceMethod y).before args s = true) (hp : PreS s H Pc (.ref b :: As))
    (hg : g.method = m) (hn : As.length = n) (hsize : g.locals.size = nL) (hstack : g.stack = As.reverse ++ .ref b :: rest) (hW : 2 * g.monitorRoom + (rest.map fun v => v.category).sum ≤ 8) (hdg : decode cc g.pc = .ok (.invokespecial index, 3)) (hf : cells + mc ≤ R.cells ∧ slots + ms ≤ R.slots) :
    vx_Run p l e R s m args below meth c H locs cells slots mc ms g rest (Qc (Value.ref b :: As).toArray) XC free := by
  obtain ⟨⟨⟨hrc, hrs, hfr, hlo, hws, hcw⟩, hcode, hini, hy, hlen, hl⟩, hx1, hx2⟩ := cw
  have hK : vx_Back l R p e below s args y 3 8 (PreOf R mc ms Pc) (PostOf Qc mc ms free) (vx_Post XC mc ms free) := vx_back (bytes := bytes) (maxL := maxL) (ret := none) hM hp.1 hrc hrs hfr hlo hws hcw (fun a' U hW => word_at hW (Or.inl (by first | rfl | simp [Cond.onTables, Cond.keeps, Cond.steady])) hini)
  obtain ⟨hx, hb, hml, ho, -⟩ := S
  have hPc := hp.2
  intro T hT X
  rcases vx_callIN X hx (bytes := bytes) (maxL := maxL) ho hx1 hl hx2 hcode hy hK hg (hsize.trans hml.symm) (a := b) (argsL := As) (rest := rest) (fun sig h => hn.trans (hlen sig h)) hstack hW (by rw [hb]; exact hdg)
    (fun vm₁ hW₁ => ⟨hf.1, hf.2, hPc (T.setVm vm₁) hT hW₁⟩) with ⟨v, vm₁, ⟨U', l2, c2, s2⟩, hW₁, X', ⟨g', mk, t, L, e1, e2, hq, h1, hL, h2, h3⟩, st⟩ | ⟨q, vm₁, ⟨U', l2, c2, s2⟩, hW₁, X', ⟨g', mk, t, L, E, ce, e1, e2, hq, hce, hcv, hcl, h1, hL, h2, h3⟩, st⟩
  · dsimp only [Pt.U, Pt.locs, Pt.cells, Pt.slots] at X' e1 e2 h1 h2 h3 st
    subst h1; subst h2; subst h3
    exact Or.inl ⟨v, (T.setVm vm₁).calling g' mk (Value.ref b :: As).toArray, t, U', L, hT, X', hL, e1, e2, hq, st⟩
  · dsimp only [Pt.U, Pt.locs, Pt.cells, Pt.slots] at X' e1 e2 h1 h2 h3 st hcl
    subst h1; subst h2; subst h3
    exact Or.inr ⟨q, (T.setVm vm₁).calling g' mk (Value.ref b :: As).toArray, t, U', L, E, ce, hT, X', hL, e1, e2, hq, hce, hcv, vx_cls hW₁ hcl, st⟩
end VXID
/-! ===== END ===== -/
/-! ===== BEGIN a private method of a nest mate that may throw (follows va_callVN, va_callSN, va_runVN, va_runSN) ===== -/
section
variable {p : Program} {l : Launch} {e : Env} {R : Room} {s : State} {m : MethodId} {args : Array Value} {below : List Frame} {meth : Method} {c : Code} {H : Heap} {locs : List Loc} {cells slots : Nat}
variable {T : State}
theorem vx_callVN (X : Stand p l e R s m args below meth c T locs cells slots) (hexec : p.tables.exec = Jvm.exec) {own C : String} {index : Nat} {host : String} {y : MethodName} {bytes : ByteArray} {maxL : Nat} {ret : Option FieldType}
    (hown : s.vm.findClass own = some m.cls) (hlink : (Cond.methodLinkNest own index y host).before args s = true) (hinst : (Cond.instanceMethod y).before args s = true) (hsel : (Cond.selects C y y).before args s = true)
    (hcode : (Cond.code y bytes maxL ret).before args s = true) (hy : y.cls ≠ "java/lang/invoke/MethodHandle" ∧ y.cls ≠ "java/lang/invoke/VarHandle")
    {W : Nat} {Pre : Pt → Array Value → Prop} {Post : Pt → Array Value → Option Value → Pt → Prop} {PostX : Pt → Array Value → Addr → Pt → Prop} (hK : vx_Back l R p e below s args y 3 W Pre Post PostX)
    {b : Addr} {cellB : Cell} (hcell : T.heap[b]? = some cellB) (hobj : cellB.vm.isStatics = false) (hcls : s.vm.findClass C = some cellB.cls)
    {g : JFrame} (hg : g.method = m) (hsize : g.locals.size = c.maxLocals) {argsL rest : List Value} (hlen : ∀ sig, parseMethodDescriptor y.desc = some sig → argsL.length = sig.parameters.length)
    (hstack : g.stack = argsL.reverse ++ .ref b :: rest) (hW : 2 * g.monitorRoom + (rest.map fun v => v.category).sum ≤ W) (hdg : decode c.code g.pc = .ok (.invokevirtual index, 3))
    (hpre : ∀ vm₁, s.WarmedH vm₁ → Pre ⟨T.setVm vm₁, locs, cells, slots⟩ (Value.ref b :: argsL).toArray) :
    (∃ (v : Option Value) (vm₁ : Vm) (B : Pt), s.WarmedH vm₁ ∧ Stand p l e R s m args below meth c B.U B.locs B.cells B.slots ∧ Post ⟨T.setVm vm₁, locs, cells, slots⟩ (Value.ref b :: argsL).toArray v B ∧
      ∀ target, Steps p.tables e below (B.U.setTop { g with pc := g.pc + 3, stack := v.toList ++ rest }) target → Steps p.tables e below (T.setTop g) target) ∨
    (∃ (q : Addr) (vm₁ : Vm) (B : Pt), s.WarmedH vm₁ ∧ Stand p l e R s m args below meth c B.U B.locs B.cells B.slots ∧ PostX ⟨T.setVm vm₁, locs, cells, slots⟩ (Value.ref b :: argsL).toArray q B ∧
      Steps p.tables e below (T.setTop g) ((B.U.setTop { g with stack := rest }).pushFrame (.throwing q))) := by
  obtain ⟨mk, methM, hnamed, hmethM, hstM, habM⟩ := Cond.instanceMethod_spec hinst
  obtain ⟨methM', cM, hmethM', -, -, -, -, -, -, hsigM⟩ := Cond.code_spec hnamed hcode
  cases hmethM.symm.trans hmethM'
  obtain ⟨c2, r2, m2, q1, q2, q3, q4, kP, hkP, hkPi⟩ := Cond.selects_spec hsel
  cases hcls.symm.trans q1
  cases (State.methodFound?_of_named hnamed hy).symm.trans q2
  cases hnamed.symm.trans q3
  have hselP : selectMethod e.platform s.vm cellB.cls mk = .method mk := by rw [Launch.admits_selectMethod X.admits]; exact q4
  obtain ⟨vm₁, X₁, hstep₁⟩ := X.invokevirtualNest hexec hown hlink hnamed hmethM hstM hkP hkPi hy (a := b) (cell := cellB) hcell
    (fun z h => by rw [h] at hobj; cases hobj) hselP hmethM habM hkP hkPi (g := g) hg (argsL := argsL) (rest := rest) (hlen _ hsigM) hstack hdg
  rcases hK m meth c ⟨T.setVm vm₁, locs, cells, slots⟩ { g with stack := rest } (.invokevirtual index) mk (Value.ref b :: argsL).toArray X₁ hg hsize hdg hW (X₁.named hnamed) (hpre vm₁ X₁.warmed) with ⟨v, B, X', hpost, hsteps⟩ | ⟨q, B, X', hpost, hsteps⟩
  · exact Or.inl ⟨v, vm₁, B, X₁.warmed, X', hpost, fun target h => hstep₁ _ fun acts => by rw [doInvoke_state]; exact hsteps.trans h⟩
  · exact Or.inr ⟨q, vm₁, B, X₁.warmed, X', hpost, hstep₁ _ fun acts => by rw [doInvoke_state]; exact hsteps⟩
theorem vx_callSN (X : Stand p l e R s m args below meth c T locs cells slots) (hexec : p.tables.exec = Jvm.exec) {own : String} {index : Nat} {host : String} {y : MethodName} {bytes : ByteArray} {maxL : Nat} {ret : Option FieldType}
    (hown : s.vm.findClass own = some m.cls) (hlink : (Cond.methodLinkNest own index y host).before args s = true) (hstat : (Cond.static y).before args s = true) (hinit : (Cond.initialized y.cls).before args s = true)
    (hcode : (Cond.code y bytes maxL ret).before args s = true) (hy : y.cls ≠ "java/lang/invoke/MethodHandle" ∧ y.cls ≠ "java/lang/invoke/VarHandle")
    {W : Nat} {Pre : Pt → Array Value → Prop} {Post : Pt → Array Value → Option Value → Pt → Prop} {PostX : Pt → Array Value → Addr → Pt → Prop} (hK : vx_Back l R p e below s args y 3 W Pre Post PostX)
    {g : JFrame} (hg : g.method = m) (hsize : g.locals.size = c.maxLocals) {argsL rest : List Value} (hlen : ∀ sig, parseMethodDescriptor y.desc = some sig → argsL.length = sig.parameters.length)
    (hstack : g.stack = argsL.reverse ++ rest) (hW : 2 * g.monitorRoom + (rest.map fun v => v.category).sum ≤ W) (hdg : decode c.code g.pc = .ok (.invokestatic index, 3))
    (hpre : ∀ vm₁, s.WarmedH vm₁ → Pre ⟨T.setVm vm₁, locs, cells, slots⟩ argsL.toArray) :
    (∃ (v : Option Value) (vm₁ : Vm) (B : Pt), s.WarmedH vm₁ ∧ Stand p l e R s m args below meth c B.U B.locs B.cells B.slots ∧ Post ⟨T.setVm vm₁, locs, cells, slots⟩ argsL.toArray v B ∧
      ∀ target, Steps p.tables e below (B.U.setTop { g with pc := g.pc + 3, stack := v.toList ++ rest }) target → Steps p.tables e below (T.setTop g) target) ∨
    (∃ (q : Addr) (vm₁ : Vm) (B : Pt), s.WarmedH vm₁ ∧ Stand p l e R s m args below meth c B.U B.locs B.cells B.slots ∧ PostX ⟨T.setVm vm₁, locs, cells, slots⟩ argsL.toArray q B ∧
      Steps p.tables e below (T.setTop g) ((B.U.setTop { g with stack := rest }).pushFrame (.throwing q))) := by
  obtain ⟨mk, hnamed⟩ := Cond.code_named hcode
  obtain ⟨methM, cM, hmethM, -, -, -, -, -, -, hsigM⟩ := Cond.code_spec hnamed hcode
  have hstatic : methM.isStatic = true := Cond.static_spec hnamed hmethM hstat
  obtain ⟨kP, hkP, -⟩ := className_of_methodNamed hnamed
  have hinitP : kP.init = .initialized := Cond.initialized_spec (findClass_of_methodNamed hnamed) hkP hinit
  obtain ⟨vm₁, X₁, hstep₁⟩ := X.invokestaticNest hexec hown hlink hnamed hmethM hstatic hkP hinitP hy (g := g) hg (argsL := argsL) (rest := rest) (hlen _ hsigM) hstack hdg
  rcases hK m meth c ⟨T.setVm vm₁, locs, cells, slots⟩ { g with stack := rest } (.invokestatic index) mk argsL.toArray X₁ hg hsize hdg hW (X₁.named hnamed) (hpre vm₁ X₁.warmed) with ⟨v, B, X', hpost, hsteps⟩ | ⟨q, B, X', hpost, hsteps⟩
  · exact Or.inl ⟨v, vm₁, B, X₁.warmed, X', hpost, fun target h => hstep₁ _ fun acts => by rw [doInvoke_state]; exact hsteps.trans h⟩
  · exact Or.inr ⟨q, vm₁, B, X₁.warmed, X', hpost, hstep₁ _ fun acts => by rw [doInvoke_state]; exact hsteps⟩
theorem vx_runVN {y : MethodName} {bytes cc : ByteArray} {maxL nL mc ms n index : Nat} {ret : Option FieldType} {ws : List Cond} {rm : Room} {Pc : Array Value → State → Prop} {Qc : Array Value → State → Outcome → State → Prop} {XC : String → State → State → Prop} {free : Addr → Prop} {Ts : List Cond} {own C host : String} {b : Addr} {As rest : List Value} {g : JFrame}
    (S : CallFix p m c cc nL s args Ts own) (hM : vx_Met l y ws rm Pc Qc XC mc ms free) (cw : va_CN R s args own index y host bytes maxL ret ws rm mc ms n ∧ (Cond.instanceMethod y).before args s = true ∧ (Cond.selects C y y).before args s = true) (hp : PreV s H C b Pc As)
    (hg : g.method = m) (hn : As.length = n) (hsize : g.locals.size = nL) (hstack : g.stack = As.reverse ++ .ref b :: rest) (hW : 2 * g.monitorRoom + (rest.map fun v => v.category).sum ≤ 8) (hdg : decode cc g.pc = .ok (.invokevirtual index, 3)) (hf : cells + mc ≤ R.cells ∧ slots + ms ≤ R.slots) :
    vx_Run p l e R s m args below meth c H locs cells slots mc ms g rest (Qc (Value.ref b :: As).toArray) XC free := by
  obtain ⟨⟨⟨hrc, hrs, hfr, hlo, hws, hcw⟩, hcode, hini, hy, hlen, hl⟩, hx1, hx2⟩ := cw
  have hK : vx_Back l R p e below s args y 3 8 (PreOf R mc ms Pc) (PostOf Qc mc ms free) (vx_Post XC mc ms free) := vx_back (bytes := bytes) (maxL := maxL) (ret := ret) hM hp.1 hrc hrs hfr hlo hws hcw (fun a' U hW => word_at hW (Or.inl (by first | rfl | simp [Cond.onTables, Cond.keeps, Cond.steady])) hini)
  obtain ⟨hx, hb, hml, ho, -⟩ := S
  obtain ⟨-, ⟨cellB, hcB, hoB, hclB⟩, hPc⟩ := hp
  intro T hT X
  rcases vx_callVN X hx (C := C) (bytes := bytes) (maxL := maxL) (ret := ret) ho hl hx1 hx2 hcode hy hK (by rw [hT]; exact hcB) hoB hclB hg (hsize.trans hml.symm) (argsL := As) (rest := rest) (fun sig h => hn.trans (hlen sig h)) hstack hW (by rw [hb]; exact hdg)
    (fun vm₁ hW₁ => ⟨hf.1, hf.2, hPc (T.setVm vm₁) hT hW₁⟩) with ⟨v, vm₁, ⟨U', l2, c2, s2⟩, hW₁, X', ⟨g', mk, t, L, e1, e2, hq, h1, hL, h2, h3⟩, st⟩ | ⟨q, vm₁, ⟨U', l2, c2, s2⟩, hW₁, X', ⟨g', mk, t, L, E, ce, e1, e2, hq, hce, hcv, hcl, h1, hL, h2, h3⟩, st⟩
  · dsimp only [Pt.U, Pt.locs, Pt.cells, Pt.slots] at X' e1 e2 h1 h2 h3 st
    subst h1; subst h2; subst h3
    exact Or.inl ⟨v, (T.setVm vm₁).calling g' mk (Value.ref b :: As).toArray, t, U', L, hT, X', hL, e1, e2, hq, st⟩
  · dsimp only [Pt.U, Pt.locs, Pt.cells, Pt.slots] at X' e1 e2 h1 h2 h3 st hcl
    subst h1; subst h2; subst h3
    exact Or.inr ⟨q, (T.setVm vm₁).calling g' mk (Value.ref b :: As).toArray, t, U', L, E, ce, hT, X', hL, e1, e2, hq, hce, hcv, vx_cls hW₁ hcl, st⟩
theorem vx_runSN {y : MethodName} {bytes cc : ByteArray} {maxL nL mc ms n index : Nat} {ret : Option FieldType} {ws : List Cond} {rm : Room} {Pc : Array Value → State → Prop} {Qc : Array Value → State → Outcome → State → Prop} {XC : String → State → State → Prop} {free : Addr → Prop} {Ts : List Cond} {own host : String} {As rest : List Value} {g : JFrame}
    (S : CallFix p m c cc nL s args Ts own) (hM : vx_Met l y ws rm Pc Qc XC mc ms free) (cw : va_CN R s args own index y host bytes maxL ret ws rm mc ms n ∧ (Cond.static y).before args s = true ∧ True) (hp : PreS s H Pc As)
    (hg : g.method = m) (hn : As.length = n) (hsize : g.locals.size = nL) (hstack : g.stack = As.reverse ++ rest) (hW : 2 * g.monitorRoom + (rest.map fun v => v.category).sum ≤ 8) (hdg : decode cc g.pc = .ok (.invokestatic index, 3)) (hf : cells + mc ≤ R.cells ∧ slots + ms ≤ R.slots) :
    vx_Run p l e R s m args below meth c H locs cells slots mc ms g rest (Qc As.toArray) XC free := by
  obtain ⟨⟨⟨hrc, hrs, hfr, hlo, hws, hcw⟩, hcode, hini, hy, hlen, hl⟩, hx1, hx2⟩ := cw
  have hK : vx_Back l R p e below s args y 3 8 (PreOf R mc ms Pc) (PostOf Qc mc ms free) (vx_Post XC mc ms free) := vx_back (bytes := bytes) (maxL := maxL) (ret := ret) hM hp.1 hrc hrs hfr hlo hws hcw (fun a' U hW => word_at hW (Or.inl (by first | rfl | simp [Cond.onTables, Cond.keeps, Cond.steady])) hini)
  obtain ⟨hx, hb, hml, ho, -⟩ := S
  have hPc := hp.2
  intro T hT X
  rcases vx_callSN X hx (bytes := bytes) (maxL := maxL) (ret := ret) ho hl hx1 hini hcode hy hK hg (hsize.trans hml.symm) (argsL := As) (rest := rest) (fun sig h => hn.trans (hlen sig h)) hstack hW (by rw [hb]; exact hdg)
    (fun vm₁ hW₁ => ⟨hf.1, hf.2, hPc (T.setVm vm₁) hT hW₁⟩) with ⟨v, vm₁, ⟨U', l2, c2, s2⟩, hW₁, X', ⟨g', mk, t, L, e1, e2, hq, h1, hL, h2, h3⟩, st⟩ | ⟨q, vm₁, ⟨U', l2, c2, s2⟩, hW₁, X', ⟨g', mk, t, L, E, ce, e1, e2, hq, hce, hcv, hcl, h1, hL, h2, h3⟩, st⟩
  · dsimp only [Pt.U, Pt.locs, Pt.cells, Pt.slots] at X' e1 e2 h1 h2 h3 st
    subst h1; subst h2; subst h3
    exact Or.inl ⟨v, (T.setVm vm₁).calling g' mk As.toArray, t, U', L, hT, X', hL, e1, e2, hq, st⟩
  · dsimp only [Pt.U, Pt.locs, Pt.cells, Pt.slots] at X' e1 e2 h1 h2 h3 st hcl
    subst h1; subst h2; subst h3
    exact Or.inr ⟨q, (T.setVm vm₁).calling g' mk As.toArray, t, U', L, E, ce, hT, X', hL, e1, e2, hq, hce, hcv, vx_cls hW₁ hcl, st⟩
end
/-! ===== END ===== -/
end
section
def RX0 : String := "CrossdockSorter$Belt"
def TX0 : u_T := fun k => match k with
  | 0 => ("CrossdockSorter$Belt", "parcelsOn", "[I", true)
  | 1 => ("CrossdockSorter$Belt", "roundsOn", "[I", true)
  | 2 => ("CrossdockSorter$Belt", "trays", "I", false)
  | _ => ("CrossdockSorter$Belt", "origin", "I", false)
def tyX0 : Nat → FieldType := fun k => match k with
  | 0 => .array .int
  | 1 => .array .int
  | 2 => .int
  | _ => .int
abbrev wsX00 : List Cond := u_ws RX0 TX0 4
theorem nmX0 : ∀ a, a < 4 → ∀ b, b < 4 → a ≠ b → (TX0 a).2.1 ≠ (TX0 b).2.1 := by decide +kernel
theorem tyX0_ok : ∀ k, k < 4 → parseFieldDescriptor (TX0 k).2.2.1 = some (tyX0 k) := by decide +kernel
abbrev cX0_init : ByteArray := prog_2_method_1_code
def yX0_init : MethodName := ⟨RX0, "<init>", "()V"⟩
abbrev cX0_makeEmpty : ByteArray := prog_2_method_2_code
def yX0_makeEmpty : MethodName := ⟨RX0, "makeEmpty", "(I)V"⟩
abbrev cX0_copyFrom : ByteArray := prog_2_method_3_code
def yX0_copyFrom : MethodName := ⟨RX0, "copyFrom", "(LCrossdockSorter$Belt;)V"⟩
abbrev cX0_has : ByteArray := prog_2_method_4_code
def yX0_has : MethodName := ⟨RX0, "has", "(I)Z"⟩
abbrev cX0_slotOf : ByteArray := prog_2_method_5_code
def yX0_slotOf : MethodName := ⟨RX0, "slotOf", "(I)I"⟩
abbrev cX0_move : ByteArray := prog_2_method_6_code
def yX0_move : MethodName := ⟨RX0, "move", "()V"⟩
abbrev cX0_parcelAt : ByteArray := prog_2_method_7_code
def yX0_parcelAt : MethodName := ⟨RX0, "parcelAt", "(I)I"⟩
abbrev cX0_roundsAt : ByteArray := prog_2_method_8_code
def yX0_roundsAt : MethodName := ⟨RX0, "roundsAt", "(I)I"⟩
abbrev cX0_positionWith : ByteArray := prog_2_method_9_code
def yX0_positionWith : MethodName := ⟨RX0, "positionWith", "(I)I"⟩
abbrev cX0_put : ByteArray := prog_2_method_10_code
def yX0_put : MethodName := ⟨RX0, "put", "(II)V"⟩
abbrev cX0_takeFrom : ByteArray := prog_2_method_11_code
def yX0_takeFrom : MethodName := ⟨RX0, "takeFrom", "(I)V"⟩
def RX1 : String := "CrossdockSorter$Chute"
def TX1 : u_T := fun k => match k with
  | 0 => ("CrossdockSorter$Chute", "position", "I", true)
  | 1 => ("CrossdockSorter$Chute", "content", "LCrossdockSorter$Row;", true)
  | 2 => ("CrossdockSorter$Chute", "capacity", "I", false)
  | 3 => ("CrossdockSorter$Chute", "jammed", "Z", false)
  | 4 => ("CrossdockSorter$Chute", "firstSum", "I", false)
  | _ => ("CrossdockSorter$Chute", "secondSum", "I", false)
def tyX1 : Nat → FieldType := fun k => match k with
  | 0 => .int
  | 1 => .object "CrossdockSorter$Row"
  | 2 => .int
  | 3 => .boolean
  | 4 => .int
  | _ => .int
abbrev wsX10 : List Cond := u_ws RX1 TX1 6
theorem nmX1 : ∀ a, a < 6 → ∀ b, b < 6 → a ≠ b → (TX1 a).2.1 ≠ (TX1 b).2.1 := by decide +kernel
theorem tyX1_ok : ∀ k, k < 6 → parseFieldDescriptor (TX1 k).2.2.1 = some (tyX1 k) := by decide +kernel
abbrev cX1_init : ByteArray := prog_3_method_1_code
def yX1_init : MethodName := ⟨RX1, "<init>", "(II)V"⟩
abbrev cX1_drop : ByteArray := prog_3_method_2_code
def yX1_drop : MethodName := ⟨RX1, "drop", "(I)V"⟩
abbrev cX1_clear : ByteArray := prog_3_method_3_code
def yX1_clear : MethodName := ⟨RX1, "clear", "()V"⟩
abbrev cX1_keptSeal : ByteArray := prog_3_method_4_code
def yX1_keptSeal : MethodName := ⟨RX1, "keptSeal", "()I"⟩
abbrev cX1_sealOfContent : ByteArray := prog_3_method_5_code
def yX1_sealOfContent : MethodName := ⟨RX1, "sealOfContent", "()I"⟩
def RX2 : String := "CrossdockSorter$Fleet"
def TX2 : u_T := fun k => match k with
  | 0 => ("CrossdockSorter$Fleet", "content", "LCrossdockSorter$Row;", true)
  | 1 => ("CrossdockSorter$Fleet", "starts", "[I", true)
  | _ => ("CrossdockSorter$Fleet", "count", "I", false)
def tyX2 : Nat → FieldType := fun k => match k with
  | 0 => .object "CrossdockSorter$Row"
  | 1 => .array .int
  | _ => .int
abbrev wsX20 : List Cond := u_ws RX2 TX2 3
theorem nmX2 : ∀ a, a < 3 → ∀ b, b < 3 → a ≠ b → (TX2 a).2.1 ≠ (TX2 b).2.1 := by decide +kernel
theorem tyX2_ok : ∀ k, k < 3 → parseFieldDescriptor (TX2 k).2.2.1 = some (tyX2 k) := by decide +kernel
abbrev cX2_init : ByteArray := prog_4_method_1_code
def yX2_init : MethodName := ⟨RX2, "<init>", "()V"⟩
abbrev cX2_has : ByteArray := prog_4_method_2_code
def yX2_has : MethodName := ⟨RX2, "has", "(I)Z"⟩
abbrev cX2_take : ByteArray := prog_4_method_3_code
def yX2_take : MethodName := ⟨RX2, "take", "(LCrossdockSorter$Row;)I"⟩
abbrev cX2_startOf : ByteArray := prog_4_method_4_code
def yX2_startOf : MethodName := ⟨RX2, "startOf", "(I)I"⟩
abbrev cX2_sizeOf : ByteArray := prog_4_method_5_code
def yX2_sizeOf : MethodName := ⟨RX2, "sizeOf", "(I)I"⟩
abbrev cX2_parcelAt : ByteArray := prog_4_method_6_code
def yX2_parcelAt : MethodName := ⟨RX2, "parcelAt", "(II)I"⟩
abbrev cX2_sealOf : ByteArray := prog_4_method_7_code
def yX2_sealOf : MethodName := ⟨RX2, "sealOf", "(I)I"⟩
def RX3 : String := "CrossdockSorter$Forecast"
def TX3 : u_T := fun k => match k with
  | 0 => ("CrossdockSorter$Forecast", "stations", "LCrossdockSorter$Stations;", true)
  | 1 => ("CrossdockSorter$Forecast", "parcels", "LCrossdockSorter$Parcels;", true)
  | 2 => ("CrossdockSorter$Forecast", "belt", "LCrossdockSorter$Belt;", true)
  | 3 => ("CrossdockSorter$Forecast", "copy", "LCrossdockSorter$Belt;", true)
  | 4 => ("CrossdockSorter$Forecast", "positions", "[I", true)
  | 5 => ("CrossdockSorter$Forecast", "parcelsOn", "[I", true)
  | 6 => ("CrossdockSorter$Forecast", "roundsOn", "[I", true)
  | 7 => ("CrossdockSorter$Forecast", "inChutes", "[I", true)
  | _ => ("CrossdockSorter$Forecast", "firstOfQueue", "I", false)
def tyX3 : Nat → FieldType := fun k => match k with
  | 0 => .object "CrossdockSorter$Stations"
  | 1 => .object "CrossdockSorter$Parcels"
  | 2 => .object "CrossdockSorter$Belt"
  | 3 => .object "CrossdockSorter$Belt"
  | 4 => .array .int
  | 5 => .array .int
  | 6 => .array .int
  | 7 => .array .int
  | _ => .int
abbrev wsX30 : List Cond := u_ws RX3 TX3 9
theorem nmX3 : ∀ a, a < 9 → ∀ b, b < 9 → a ≠ b → (TX3 a).2.1 ≠ (TX3 b).2.1 := by decide +kernel
theorem tyX3_ok : ∀ k, k < 9 → parseFieldDescriptor (TX3 k).2.2.1 = some (tyX3 k) := by decide +kernel
abbrev cX3_init : ByteArray := prog_5_method_1_code
def yX3_init : MethodName := ⟨RX3, "<init>", "(LCrossdockSorter$Stations;LCrossdockSorter$Parcels;LCrossdockSorter$Belt;)V"⟩
abbrev cX3_byOrigin : ByteArray := prog_5_method_2_code
def yX3_byOrigin : MethodName := ⟨RX3, "byOrigin", "(I)I"⟩
abbrev cX3_byTrays : ByteArray := prog_5_method_3_code
def yX3_byTrays : MethodName := ⟨RX3, "byTrays", "(I)I"⟩
abbrev cX3_begin : ByteArray := prog_5_method_4_code
def yX3_begin : MethodName := ⟨RX3, "begin", "()V"⟩
abbrev cX3_moveOrigin : ByteArray := prog_5_method_5_code
def yX3_moveOrigin : MethodName := ⟨RX3, "moveOrigin", "()I"⟩
abbrev cX3_moveTray : ByteArray := prog_5_method_6_code
def yX3_moveTray : MethodName := ⟨RX3, "moveTray", "(I)I"⟩
abbrev cX3_loadTray : ByteArray := prog_5_method_7_code
def yX3_loadTray : MethodName := ⟨RX3, "loadTray", "(I)V"⟩
abbrev cX3_chuteGets : ByteArray := prog_5_method_8_code
def yX3_chuteGets : MethodName := ⟨RX3, "chuteGets", "(II)Z"⟩
def RX4 : String := "CrossdockSorter$Parcels"
def TX4 : u_T := fun k => match k with
  | 0 => ("CrossdockSorter$Parcels", "routes", "[I", true)
  | 1 => ("CrossdockSorter$Parcels", "weights", "[I", true)
  | 2 => ("CrossdockSorter$Parcels", "states", "[C", true)
  | 3 => ("CrossdockSorter$Parcels", "lastRounds", "[I", true)
  | 4 => ("CrossdockSorter$Parcels", "trucksTaken", "[I", true)
  | 5 => ("CrossdockSorter$Parcels", "arrived", "I", false)
  | 6 => ("CrossdockSorter$Parcels", "loaded", "I", false)
  | 7 => ("CrossdockSorter$Parcels", "left", "I", false)
  | 8 => ("CrossdockSorter$Parcels", "roundsOfLeft", "J", false)
  | _ => ("CrossdockSorter$Parcels", "weightShipped", "J", false)
def tyX4 : Nat → FieldType := fun k => match k with
  | 0 => .array .int
  | 1 => .array .int
  | 2 => .array .char
  | 3 => .array .int
  | 4 => .array .int
  | 5 => .int
  | 6 => .int
  | 7 => .int
  | 8 => .long
  | _ => .long
abbrev wsX40 : List Cond := u_ws RX4 TX4 10
theorem nmX4 : ∀ a, a < 10 → ∀ b, b < 10 → a ≠ b → (TX4 a).2.1 ≠ (TX4 b).2.1 := by decide +kernel
theorem tyX4_ok : ∀ k, k < 10 → parseFieldDescriptor (TX4 k).2.2.1 = some (tyX4 k) := by decide +kernel
abbrev cX4_init : ByteArray := prog_6_method_1_code
def yX4_init : MethodName := ⟨RX4, "<init>", "()V"⟩
abbrev cX4_has : ByteArray := prog_6_method_2_code
def yX4_has : MethodName := ⟨RX4, "has", "(I)Z"⟩
abbrev cX4_add : ByteArray := prog_6_method_3_code
def yX4_add : MethodName := ⟨RX4, "add", "(II)I"⟩
abbrev cX4_loadFirst : ByteArray := prog_6_method_4_code
def yX4_loadFirst : MethodName := ⟨RX4, "loadFirst", "()I"⟩
abbrev cX4_leave : ByteArray := prog_6_method_5_code
def yX4_leave : MethodName := ⟨RX4, "leave", "(ICI)V"⟩
abbrev cX4_enterTruck : ByteArray := prog_6_method_6_code
def yX4_enterTruck : MethodName := ⟨RX4, "enterTruck", "(II)V"⟩
abbrev cX4_routeAt : ByteArray := prog_6_method_7_code
def yX4_routeAt : MethodName := ⟨RX4, "routeAt", "(I)I"⟩
abbrev cX4_stateAt : ByteArray := prog_6_method_8_code
def yX4_stateAt : MethodName := ⟨RX4, "stateAt", "(I)C"⟩
abbrev cX4_lastRoundsAt : ByteArray := prog_6_method_9_code
def yX4_lastRoundsAt : MethodName := ⟨RX4, "lastRoundsAt", "(I)I"⟩
abbrev cX4_truckAt : ByteArray := prog_6_method_10_code
def yX4_truckAt : MethodName := ⟨RX4, "truckAt", "(I)I"⟩
abbrev cX4_loadOf : ByteArray := prog_6_method_11_code
def yX4_loadOf : MethodName := ⟨RX4, "loadOf", "(I)I"⟩
def RX5 : String := "CrossdockSorter$Row"
def TX5 : u_T := fun k => match k with
  | 0 => ("CrossdockSorter$Row", "numbers", "[I", true)
  | _ => ("CrossdockSorter$Row", "count", "I", false)
def tyX5 : Nat → FieldType := fun k => match k with
  | 0 => .array .int
  | _ => .int
abbrev wsX50 : List Cond := u_ws RX5 TX5 2
theorem nmX5 : ∀ a, a < 2 → ∀ b, b < 2 → a ≠ b → (TX5 a).2.1 ≠ (TX5 b).2.1 := by decide +kernel
theorem tyX5_ok : ∀ k, k < 2 → parseFieldDescriptor (TX5 k).2.2.1 = some (tyX5 k) := by decide +kernel
abbrev cX5_init : ByteArray := prog_7_method_1_code
def yX5_init : MethodName := ⟨RX5, "<init>", "(I)V"⟩
abbrev cX5_at : ByteArray := prog_7_method_2_code
def yX5_at : MethodName := ⟨RX5, "at", "(I)I"⟩
abbrev cX5_add : ByteArray := prog_7_method_3_code
def yX5_add : MethodName := ⟨RX5, "add", "(I)V"⟩
abbrev cX5_sealOf : ByteArray := prog_7_method_4_code
def yX5_sealOf : MethodName := ⟨RX5, "sealOf", "(II)I"⟩
def RX6 : String := "CrossdockSorter$Stations"
def TX6 : u_T := fun k => match k with
  | 0 => ("CrossdockSorter$Stations", "built", "[LCrossdockSorter$Chute;", true)
  | 1 => ("CrossdockSorter$Stations", "chutesOfRoutes", "[I", true)
  | 2 => ("CrossdockSorter$Stations", "chutes", "I", false)
  | 3 => ("CrossdockSorter$Stations", "last", "I", false)
  | 4 => ("CrossdockSorter$Stations", "limit", "I", false)
  | 5 => ("CrossdockSorter$Stations", "loaderJammed", "Z", false)
  | _ => ("CrossdockSorter$Stations", "overflowJammed", "Z", false)
def tyX6 : Nat → FieldType := fun k => match k with
  | 0 => .array (.object "CrossdockSorter$Chute")
  | 1 => .array .int
  | 2 => .int
  | 3 => .int
  | 4 => .int
  | 5 => .boolean
  | _ => .boolean
abbrev wsX60 : List Cond := u_ws RX6 TX6 7
theorem nmX6 : ∀ a, a < 7 → ∀ b, b < 7 → a ≠ b → (TX6 a).2.1 ≠ (TX6 b).2.1 := by decide +kernel
theorem tyX6_ok : ∀ k, k < 7 → parseFieldDescriptor (TX6 k).2.2.1 = some (tyX6 k) := by decide +kernel
abbrev cX6_init : ByteArray := prog_8_method_1_code
def yX6_init : MethodName := ⟨RX6, "<init>", "()V"⟩
abbrev cX6_build : ByteArray := prog_8_method_2_code
def yX6_build : MethodName := ⟨RX6, "build", "(II)I"⟩
abbrev cX6_chute : ByteArray := prog_8_method_3_code
def yX6_chute : MethodName := ⟨RX6, "chute", "(I)LCrossdockSorter$Chute;"⟩
abbrev cX6_numberAt : ByteArray := prog_8_method_4_code
def yX6_numberAt : MethodName := ⟨RX6, "numberAt", "(I)I"⟩
abbrev cX6_chuteAt : ByteArray := prog_8_method_5_code
def yX6_chuteAt : MethodName := ⟨RX6, "chuteAt", "(I)LCrossdockSorter$Chute;"⟩
abbrev cX6_kindAt : ByteArray := prog_8_method_6_code
def yX6_kindAt : MethodName := ⟨RX6, "kindAt", "(I)C"⟩
abbrev cX6_isJammed : ByteArray := prog_8_method_7_code
def yX6_isJammed : MethodName := ⟨RX6, "isJammed", "(I)Z"⟩
abbrev cX6_setJammed : ByteArray := prog_8_method_8_code
def yX6_setJammed : MethodName := ⟨RX6, "setJammed", "(IZ)V"⟩
abbrev cX6_jams : ByteArray := prog_8_method_9_code
def yX6_jams : MethodName := ⟨RX6, "jams", "()I"⟩
abbrev cX6_chuteOfRoute : ByteArray := prog_8_method_11_code
def yX6_chuteOfRoute : MethodName := ⟨RX6, "chuteOfRoute", "(I)I"⟩
abbrev cX6_send : ByteArray := prog_8_method_12_code
def yX6_send : MethodName := ⟨RX6, "send", "(II)V"⟩
abbrev cX6_loaderPuts : ByteArray := prog_8_method_13_code
def yX6_loaderPuts : MethodName := ⟨RX6, "loaderPuts", "(III)Z"⟩
abbrev cX6_chuteTakes : ByteArray := prog_8_method_14_code
def yX6_chuteTakes : MethodName := ⟨RX6, "chuteTakes", "(III)Z"⟩
abbrev cX6_overflowTakes : ByteArray := prog_8_method_15_code
def yX6_overflowTakes : MethodName := ⟨RX6, "overflowTakes", "(II)Z"⟩
abbrev cX6_sealsAgree : ByteArray := prog_8_method_16_code
def yX6_sealsAgree : MethodName := ⟨RX6, "sealsAgree", "()Z"⟩
def RX7 : String := "CrossdockSorter$Wave"
def TX7 : u_T := fun k => match k with
  | 0 => ("CrossdockSorter$Wave", "stations", "LCrossdockSorter$Stations;", true)
  | 1 => ("CrossdockSorter$Wave", "parcels", "LCrossdockSorter$Parcels;", true)
  | 2 => ("CrossdockSorter$Wave", "loadsLeft", "[I", true)
  | _ => ("CrossdockSorter$Wave", "sums", "[I", true)
def tyX7 : Nat → FieldType := fun k => match k with
  | 0 => .object "CrossdockSorter$Stations"
  | 1 => .object "CrossdockSorter$Parcels"
  | 2 => .array .int
  | _ => .array .int
abbrev wsX70 : List Cond := u_ws RX7 TX7 4
theorem nmX7 : ∀ a, a < 4 → ∀ b, b < 4 → a ≠ b → (TX7 a).2.1 ≠ (TX7 b).2.1 := by decide +kernel
theorem tyX7_ok : ∀ k, k < 4 → parseFieldDescriptor (TX7 k).2.2.1 = some (tyX7 k) := by decide +kernel
abbrev cX7_init : ByteArray := prog_9_method_1_code
def yX7_init : MethodName := ⟨RX7, "<init>", "(LCrossdockSorter$Stations;LCrossdockSorter$Parcels;)V"⟩
def RX8 : String := "CrossdockSorter"
def TX8 : u_T := fun k => match k with
  | 0 => ("CrossdockSorter", "parcels", "LCrossdockSorter$Parcels;", true)
  | 1 => ("CrossdockSorter", "belt", "LCrossdockSorter$Belt;", true)
  | 2 => ("CrossdockSorter", "stations", "LCrossdockSorter$Stations;", true)
  | 3 => ("CrossdockSorter", "wave", "LCrossdockSorter$Wave;", true)
  | 4 => ("CrossdockSorter", "forecast", "LCrossdockSorter$Forecast;", true)
  | 5 => ("CrossdockSorter", "overflow", "LCrossdockSorter$Row;", true)
  | 6 => ("CrossdockSorter", "fleet", "LCrossdockSorter$Fleet;", true)
  | 7 => ("CrossdockSorter", "timesSeen", "[I", true)
  | _ => ("CrossdockSorter", "ticksPassed", "J", false)
def tyX8 : Nat → FieldType := fun k => match k with
  | 0 => .object "CrossdockSorter$Parcels"
  | 1 => .object "CrossdockSorter$Belt"
  | 2 => .object "CrossdockSorter$Stations"
  | 3 => .object "CrossdockSorter$Wave"
  | 4 => .object "CrossdockSorter$Forecast"
  | 5 => .object "CrossdockSorter$Row"
  | 6 => .object "CrossdockSorter$Fleet"
  | 7 => .array .int
  | _ => .long
abbrev wsX80 : List Cond := u_ws RX8 TX8 9
theorem nmX8 : ∀ a, a < 9 → ∀ b, b < 9 → a ≠ b → (TX8 a).2.1 ≠ (TX8 b).2.1 := by decide +kernel
theorem tyX8_ok : ∀ k, k < 9 → parseFieldDescriptor (TX8 k).2.2.1 = some (tyX8 k) := by decide +kernel
abbrev cX8_init : ByteArray := prog_1_method_1_code
def yX8_init : MethodName := ⟨RX8, "<init>", "()V"⟩
abbrev cX8_setLoop : ByteArray := prog_1_method_2_code
def yX8_setLoop : MethodName := ⟨RX8, "setLoop", "(I)I"⟩
abbrev cX8_addChute : ByteArray := prog_1_method_3_code
def yX8_addChute : MethodName := ⟨RX8, "addChute", "(II)I"⟩
abbrev cX8_setCapacity : ByteArray := prog_1_method_4_code
def yX8_setCapacity : MethodName := ⟨RX8, "setCapacity", "(II)I"⟩
abbrev cX8_setLimit : ByteArray := prog_1_method_5_code
def yX8_setLimit : MethodName := ⟨RX8, "setLimit", "(I)I"⟩
abbrev cX8_jam : ByteArray := prog_1_method_6_code
def yX8_jam : MethodName := ⟨RX8, "jam", "(I)I"⟩
abbrev cX8_free : ByteArray := prog_1_method_7_code
def yX8_free : MethodName := ⟨RX8, "free", "(I)I"⟩
abbrev cX8_stationAt : ByteArray := prog_1_method_8_code
def yX8_stationAt : MethodName := ⟨RX8, "stationAt", "(I)C"⟩
abbrev cX8_arrive : ByteArray := prog_1_method_9_code
def yX8_arrive : MethodName := ⟨RX8, "arrive", "(II)I"⟩
abbrev cX8_pass : ByteArray := prog_1_method_10_code
def yX8_pass : MethodName := ⟨RX8, "pass", "(I)I"⟩
abbrev cX8_tick : ByteArray := prog_1_method_11_code
def yX8_tick : MethodName := ⟨RX8, "tick", "()J"⟩
abbrev cX8_stateOf : ByteArray := prog_1_method_12_code
def yX8_stateOf : MethodName := ⟨RX8, "stateOf", "(I)C"⟩
abbrev cX8_positionOf : ByteArray := prog_1_method_13_code
def yX8_positionOf : MethodName := ⟨RX8, "positionOf", "(I)I"⟩
abbrev cX8_roundsOf : ByteArray := prog_1_method_14_code
def yX8_roundsOf : MethodName := ⟨RX8, "roundsOf", "(I)I"⟩
abbrev cX8_trayAt : ByteArray := prog_1_method_15_code
def yX8_trayAt : MethodName := ⟨RX8, "trayAt", "(I)I"⟩
abbrev cX8_waiting : ByteArray := prog_1_method_16_code
def yX8_waiting : MethodName := ⟨RX8, "waiting", "()I"⟩
abbrev cX8_onLoop : ByteArray := prog_1_method_17_code
def yX8_onLoop : MethodName := ⟨RX8, "onLoop", "()I"⟩
abbrev cX8_overflowed : ByteArray := prog_1_method_18_code
def yX8_overflowed : MethodName := ⟨RX8, "overflowed", "()I"⟩
abbrev cX8_leavingAhead : ByteArray := prog_1_method_19_code
def yX8_leavingAhead : MethodName := ⟨RX8, "leavingAhead", "(I)I"⟩
abbrev cX8_leavingByTrays : ByteArray := prog_1_method_20_code
def yX8_leavingByTrays : MethodName := ⟨RX8, "leavingByTrays", "(I)I"⟩
abbrev cX8_assign : ByteArray := prog_1_method_22_code
def yX8_assign : MethodName := ⟨RX8, "assign", "(II)I"⟩
abbrev cX8_unassign : ByteArray := prog_1_method_23_code
def yX8_unassign : MethodName := ⟨RX8, "unassign", "(I)I"⟩
abbrev cX8_chuteFor : ByteArray := prog_1_method_24_code
def yX8_chuteFor : MethodName := ⟨RX8, "chuteFor", "(I)I"⟩
abbrev cX8_load : ByteArray := prog_1_method_25_code
def yX8_load : MethodName := ⟨RX8, "load", "(I)I"⟩
abbrev cX8_inChute : ByteArray := prog_1_method_26_code
def yX8_inChute : MethodName := ⟨RX8, "inChute", "(I)I"⟩
abbrev cX8_seal : ByteArray := prog_1_method_27_code
def yX8_seal : MethodName := ⟨RX8, "seal", "(I)I"⟩
abbrev cX8_sealByParcels : ByteArray := prog_1_method_28_code
def yX8_sealByParcels : MethodName := ⟨RX8, "sealByParcels", "(I)I"⟩
abbrev cX8_dispatch : ByteArray := prog_1_method_29_code
def yX8_dispatch : MethodName := ⟨RX8, "dispatch", "(I)I"⟩
abbrev cX8_trucks : ByteArray := prog_1_method_30_code
def yX8_trucks : MethodName := ⟨RX8, "trucks", "()I"⟩
abbrev cX8_sealOfTruck : ByteArray := prog_1_method_31_code
def yX8_sealOfTruck : MethodName := ⟨RX8, "sealOfTruck", "(I)I"⟩
abbrev cX8_parcelIn : ByteArray := prog_1_method_32_code
def yX8_parcelIn : MethodName := ⟨RX8, "parcelIn", "(II)I"⟩
abbrev cX8_truckOf : ByteArray := prog_1_method_33_code
def yX8_truckOf : MethodName := ⟨RX8, "truckOf", "(I)I"⟩
abbrev cX8_shipped : ByteArray := prog_1_method_34_code
def yX8_shipped : MethodName := ⟨RX8, "shipped", "()J"⟩
abbrev cX8_meanRounds : ByteArray := prog_1_method_35_code
def yX8_meanRounds : MethodName := ⟨RX8, "meanRounds", "()D"⟩
abbrev cX8_overflowShare : ByteArray := prog_1_method_36_code
def yX8_overflowShare : MethodName := ⟨RX8, "overflowShare", "()F"⟩
abbrev cX8_isOnce : ByteArray := prog_1_method_37_code
def yX8_isOnce : MethodName := ⟨RX8, "isOnce", "()Z"⟩
abbrev cX8_isCapacity : ByteArray := prog_1_method_38_code
def yX8_isCapacity : MethodName := ⟨RX8, "isCapacity", "(I)Z"⟩
abbrev cX8_isRoute : ByteArray := prog_1_method_39_code
def yX8_isRoute : MethodName := ⟨RX8, "isRoute", "(I)Z"⟩
abbrev cX8_requireRoute : ByteArray := prog_1_method_40_code
def yX8_requireRoute : MethodName := ⟨RX8, "requireRoute", "(I)V"⟩
abbrev cX8_requireTicks : ByteArray := prog_1_method_41_code
def yX8_requireTicks : MethodName := ⟨RX8, "requireTicks", "(I)V"⟩
abbrev cX8_requirePosition : ByteArray := prog_1_method_42_code
def yX8_requirePosition : MethodName := ⟨RX8, "requirePosition", "(I)V"⟩
abbrev cX8_requireStation : ByteArray := prog_1_method_43_code
def yX8_requireStation : MethodName := ⟨RX8, "requireStation", "(I)V"⟩
abbrev cX8_requireParcel : ByteArray := prog_1_method_44_code
def yX8_requireParcel : MethodName := ⟨RX8, "requireParcel", "(I)V"⟩
abbrev cX8_requireChute : ByteArray := prog_1_method_45_code
def yX8_requireChute : MethodName := ⟨RX8, "requireChute", "(I)LCrossdockSorter$Chute;"⟩
abbrev cX8_requireTruck : ByteArray := prog_1_method_46_code
def yX8_requireTruck : MethodName := ⟨RX8, "requireTruck", "(I)V"⟩
abbrev cX8_requireSomeLeft : ByteArray := prog_1_method_47_code
def yX8_requireSomeLeft : MethodName := ⟨RX8, "requireSomeLeft", "()V"⟩
abbrev cX8_passOneTick : ByteArray := prog_1_method_48_code
def yX8_passOneTick : MethodName := ⟨RX8, "passOneTick", "()I"⟩
abbrev cX8_dropInto : ByteArray := prog_1_method_49_code
def yX8_dropInto : MethodName := ⟨RX8, "dropInto", "(I)I"⟩
abbrev cX8_dropIntoOverflow : ByteArray := prog_1_method_50_code
def yX8_dropIntoOverflow : MethodName := ⟨RX8, "dropIntoOverflow", "()I"⟩
abbrev cX8_eachParcelIsOnce : ByteArray := prog_1_method_51_code
def yX8_eachParcelIsOnce : MethodName := ⟨RX8, "eachParcelIsOnce", "()Z"⟩
abbrev cX8_seeAll : ByteArray := prog_1_method_52_code
def yX8_seeAll : MethodName := ⟨RX8, "seeAll", "(LCrossdockSorter$Row;)V"⟩
abbrev cX8_see : ByteArray := prog_1_method_53_code
def yX8_see : MethodName := ⟨RX8, "see", "(I)V"⟩
def RX9 : String := "CrossdockSorterLaw$Loop"
def TX9 : u_T := fun k => match k with
  | 0 => ("CrossdockSorterLaw$Loop", "trays", "I", true)
  | 1 => ("CrossdockSorterLaw$Loop", "origin", "I", false)
  | 2 => ("CrossdockSorterLaw$Loop", "on", "[I", true)
  | 3 => ("CrossdockSorterLaw$Loop", "chuteAt", "[I", true)
  | 4 => ("CrossdockSorterLaw$Loop", "jammed", "[Z", true)
  | 5 => ("CrossdockSorterLaw$Loop", "chutes", "I", false)
  | 6 => ("CrossdockSorterLaw$Loop", "capacity", "[I", true)
  | 7 => ("CrossdockSorterLaw$Loop", "in", "[[I", true)
  | 8 => ("CrossdockSorterLaw$Loop", "many", "[I", true)
  | 9 => ("CrossdockSorterLaw$Loop", "chuteFor", "[I", true)
  | 10 => ("CrossdockSorterLaw$Loop", "limit", "I", false)
  | 11 => ("CrossdockSorterLaw$Loop", "parcels", "I", false)
  | 12 => ("CrossdockSorterLaw$Loop", "route", "[I", true)
  | 13 => ("CrossdockSorterLaw$Loop", "weight", "[I", true)
  | 14 => ("CrossdockSorterLaw$Loop", "rounds", "[I", true)
  | 15 => ("CrossdockSorterLaw$Loop", "state", "[C", true)
  | 16 => ("CrossdockSorterLaw$Loop", "truck", "[I", true)
  | 17 => ("CrossdockSorterLaw$Loop", "next", "I", false)
  | 18 => ("CrossdockSorterLaw$Loop", "left", "I", false)
  | 19 => ("CrossdockSorterLaw$Loop", "over", "I", false)
  | 20 => ("CrossdockSorterLaw$Loop", "sum", "I", false)
  | 21 => ("CrossdockSorterLaw$Loop", "trucks", "I", false)
  | _ => ("CrossdockSorterLaw$Loop", "shipped", "J", false)
def tyX9 : Nat → FieldType := fun k => match k with
  | 0 => .int
  | 1 => .int
  | 2 => .array .int
  | 3 => .array .int
  | 4 => .array .boolean
  | 5 => .int
  | 6 => .array .int
  | 7 => .array (.array .int)
  | 8 => .array .int
  | 9 => .array .int
  | 10 => .int
  | 11 => .int
  | 12 => .array .int
  | 13 => .array .int
  | 14 => .array .int
  | 15 => .array .char
  | 16 => .array .int
  | 17 => .int
  | 18 => .int
  | 19 => .int
  | 20 => .int
  | 21 => .int
  | _ => .long
abbrev wsX90 : List Cond := u_ws RX9 TX9 23
theorem nmX9 : ∀ a, a < 23 → ∀ b, b < 23 → a ≠ b → (TX9 a).2.1 ≠ (TX9 b).2.1 := by decide +kernel
theorem tyX9_ok : ∀ k, k < 23 → parseFieldDescriptor (TX9 k).2.2.1 = some (tyX9 k) := by decide +kernel
abbrev cX9_init : ByteArray := prog_11_method_1_code
def yX9_init : MethodName := ⟨RX9, "<init>", "(I)V"⟩
abbrev cX9_trayAt : ByteArray := prog_11_method_2_code
def yX9_trayAt : MethodName := ⟨RX9, "trayAt", "(I)I"⟩
abbrev cX9_leave : ByteArray := prog_11_method_3_code
def yX9_leave : MethodName := ⟨RX9, "leave", "(IC)V"⟩
abbrev cX9_serve : ByteArray := prog_11_method_4_code
def yX9_serve : MethodName := ⟨RX9, "serve", "(I)V"⟩
abbrev cX9_tick : ByteArray := prog_11_method_5_code
def yX9_tick : MethodName := ⟨RX9, "tick", "()I"⟩
abbrev cX9_seal : ByteArray := prog_11_method_6_code
def yX9_seal : MethodName := ⟨RX9, "seal", "(I)I"⟩
abbrev cX9_load : ByteArray := prog_11_method_7_code
def yX9_load : MethodName := ⟨RX9, "load", "(I)I"⟩
abbrev cX9_jams : ByteArray := prog_11_method_8_code
def yX9_jams : MethodName := ⟨RX9, "jams", "()I"⟩
def RX10 : String := "CrossdockSorterModel"
def TX10 : u_T := fun k => match k with
  | _ => ("", "", "", false)
def tyX10 : Nat → FieldType := fun k => match k with
  | _ => .int
abbrev wsX100 : List Cond := u_ws RX10 TX10 0
theorem nmX10 : ∀ a, a < 0 → ∀ b, b < 0 → a ≠ b → (TX10 a).2.1 ≠ (TX10 b).2.1 := by decide +kernel
theorem tyX10_ok : ∀ k, k < 0 → parseFieldDescriptor (TX10 k).2.2.1 = some (tyX10 k) := by decide +kernel
def RJx145de : String := "java/io/Serializable"
def TJx145de : u_T := fun k => match k with
  | _ => ("", "", "", false)
def tyJx145de : Nat → FieldType := fun k => match k with
  | _ => .int
abbrev wsJx145de0 : List Cond := u_ws RJx145de TJx145de 0
theorem nmJx145de : ∀ a, a < 0 → ∀ b, b < 0 → a ≠ b → (TJx145de a).2.1 ≠ (TJx145de b).2.1 := by decide +kernel
theorem tyJx145de_ok : ∀ k, k < 0 → parseFieldDescriptor (TJx145de k).2.2.1 = some (tyJx145de k) := by decide +kernel
def RJ9 : String := "java/lang/Math"
def TJ9 : u_T := fun k => match k with
  | _ => ("", "", "", false)
def tyJ9 : Nat → FieldType := fun k => match k with
  | _ => .int
abbrev wsJ90 : List Cond := u_ws RJ9 TJ9 0
theorem nmJ9 : ∀ a, a < 0 → ∀ b, b < 0 → a ≠ b → (TJ9 a).2.1 ≠ (TJ9 b).2.1 := by decide +kernel
theorem tyJ9_ok : ∀ k, k < 0 → parseFieldDescriptor (TJ9 k).2.2.1 = some (tyJ9 k) := by decide +kernel
abbrev cJ9_max_7cf53 : ByteArray := prog_19_method_65_code
def yJ9_max_7cf53 : MethodName := ⟨RJ9, "max", "(II)I"⟩
abbrev cJ9_min_7cf53 : ByteArray := prog_19_method_69_code
def yJ9_min_7cf53 : MethodName := ⟨RJ9, "min", "(II)I"⟩
def RL : String := "CrossdockSorterLaw"
abbrev cL_cell : ByteArray := method_2_code
def yL_cell : MethodName := ⟨RL, "cell", "([II)I"⟩
abbrev cL_low : ByteArray := method_3_code
def yL_low : MethodName := ⟨RL, "low", "(II)I"⟩
abbrev cL_chuteFor : ByteArray := method_4_code
def yL_chuteFor : MethodName := ⟨RL, "chuteFor", "(LCrossdockSorter;I)I"⟩
abbrev cL_trayAt : ByteArray := method_5_code
def yL_trayAt : MethodName := ⟨RL, "trayAt", "(LCrossdockSorter;I)I"⟩
abbrev cL_agrees : ByteArray := method_6_code
def yL_agrees : MethodName := ⟨RL, "agrees", "(LCrossdockSorter;LCrossdockSorterLaw$Loop;)Z"⟩
abbrev cL_jams : ByteArray := method_7_code
def yL_jams : MethodName := ⟨RL, "jams", "(LCrossdockSorter;LCrossdockSorterLaw$Loop;I)Z"⟩
abbrev cL_empties : ByteArray := method_8_code
def yL_empties : MethodName := ⟨RL, "empties", "(LCrossdockSorter;LCrossdockSorterLaw$Loop;I)Z"⟩
abbrev cL_acts : ByteArray := method_9_code
def yL_acts : MethodName := ⟨RL, "acts", "(LCrossdockSorter;LCrossdockSorterLaw$Loop;I)Z"⟩
abbrev cL_law : ByteArray := code
def yL_law : MethodName := ⟨RL, "law", "([I)Z"⟩
def wsJ9_max_7cf53 : List Cond := .code yJ9_max_7cf53 cJ9_max_7cf53 2 (some .int) :: ([])
def wsJ9_min_7cf53 : List Cond := .code yJ9_min_7cf53 cJ9_min_7cf53 2 (some .int) :: ([])
abbrev vwCl : List vw_C := [(RX0, TX0, 4), (RX1, TX1, 6), (RX2, TX2, 3), (RX3, TX3, 9), (RX4, TX4, 10), (RX5, TX5, 2), (RX6, TX6, 7), (RX7, TX7, 4), (RX8, TX8, 9), (RX9, TX9, 23)]
end
section
theorem dX0_init_0 : decode cX0_init 0 = .ok (.aload_n 0, 1) := by decide +kernel
theorem dX0_init_1 : decode cX0_init 1 = .ok (.invokespecial 3, 3) := by decide +kernel
theorem dX0_init_4 : decode cX0_init 4 = .ok (.aload_n 0, 1) := by decide +kernel
theorem dX0_init_5 : decode cX0_init 5 = .ok (.bipush 20, 2) := by decide +kernel
theorem dX0_init_7 : decode cX0_init 7 = .ok (.newarray .int, 2) := by decide +kernel
theorem dX0_init_9 : decode cX0_init 9 = .ok (.putfield 9, 3) := by decide +kernel
theorem dX0_init_12 : decode cX0_init 12 = .ok (.aload_n 0, 1) := by decide +kernel
theorem dX0_init_13 : decode cX0_init 13 = .ok (.bipush 20, 2) := by decide +kernel
theorem dX0_init_15 : decode cX0_init 15 = .ok (.newarray .int, 2) := by decide +kernel
theorem dX0_init_17 : decode cX0_init 17 = .ok (.putfield 15, 3) := by decide +kernel
theorem dX0_init_20 : decode cX0_init 20 = .ok (.aload_n 0, 1) := by decide +kernel
theorem dX0_init_21 : decode cX0_init 21 = .ok (.bipush 12, 2) := by decide +kernel
theorem dX0_init_23 : decode cX0_init 23 = .ok (.invokevirtual 18, 3) := by decide +kernel
theorem dX0_init_26 : decode cX0_init 26 = .ok (.return_, 1) := by decide +kernel
theorem dX0_makeEmpty_0 : decode cX0_makeEmpty 0 = .ok (.aload_n 0, 1) := by decide +kernel
theorem dX0_makeEmpty_1 : decode cX0_makeEmpty 1 = .ok (.iconst 1, 1) := by decide +kernel
theorem dX0_makeEmpty_2 : decode cX0_makeEmpty 2 = .ok (.iload_n 1, 1) := by decide +kernel
theorem dX0_makeEmpty_3 : decode cX0_makeEmpty 3 = .ok (.bipush 20, 2) := by decide +kernel
theorem dX0_makeEmpty_5 : decode cX0_makeEmpty 5 = .ok (.invokestatic 22, 3) := by decide +kernel
theorem dX0_makeEmpty_8 : decode cX0_makeEmpty 8 = .ok (.invokestatic 28, 3) := by decide +kernel
theorem dX0_makeEmpty_11 : decode cX0_makeEmpty 11 = .ok (.putfield 31, 3) := by decide +kernel
theorem dX0_makeEmpty_14 : decode cX0_makeEmpty 14 = .ok (.aload_n 0, 1) := by decide +kernel
theorem dX0_makeEmpty_15 : decode cX0_makeEmpty 15 = .ok (.iconst 0, 1) := by decide +kernel
theorem dX0_makeEmpty_16 : decode cX0_makeEmpty 16 = .ok (.putfield 35, 3) := by decide +kernel
theorem dX0_makeEmpty_19 : decode cX0_makeEmpty 19 = .ok (.iconst 0, 1) := by decide +kernel
theorem dX0_makeEmpty_20 : decode cX0_makeEmpty 20 = .ok (.istore_n 2, 1) := by decide +kernel
theorem dX0_makeEmpty_21 : decode cX0_makeEmpty 21 = .ok (.iload_n 2, 1) := by decide +kernel
theorem dX0_makeEmpty_22 : decode cX0_makeEmpty 22 = .ok (.bipush 20, 2) := by decide +kernel
theorem dX0_makeEmpty_24 : decode cX0_makeEmpty 24 = .ok (.if_icmp .ge 23, 3) := by decide +kernel
theorem dX0_makeEmpty_27 : decode cX0_makeEmpty 27 = .ok (.aload_n 0, 1) := by decide +kernel
theorem dX0_makeEmpty_28 : decode cX0_makeEmpty 28 = .ok (.getfield 9, 3) := by decide +kernel
theorem dX0_makeEmpty_31 : decode cX0_makeEmpty 31 = .ok (.iload_n 2, 1) := by decide +kernel
theorem dX0_makeEmpty_32 : decode cX0_makeEmpty 32 = .ok (.iconst (-1), 1) := by decide +kernel
theorem dX0_makeEmpty_33 : decode cX0_makeEmpty 33 = .ok (.iastore, 1) := by decide +kernel
theorem dX0_makeEmpty_34 : decode cX0_makeEmpty 34 = .ok (.aload_n 0, 1) := by decide +kernel
theorem dX0_makeEmpty_35 : decode cX0_makeEmpty 35 = .ok (.getfield 15, 3) := by decide +kernel
theorem dX0_makeEmpty_38 : decode cX0_makeEmpty 38 = .ok (.iload_n 2, 1) := by decide +kernel
theorem dX0_makeEmpty_39 : decode cX0_makeEmpty 39 = .ok (.iconst 0, 1) := by decide +kernel
theorem dX0_makeEmpty_40 : decode cX0_makeEmpty 40 = .ok (.iastore, 1) := by decide +kernel
theorem dX0_makeEmpty_41 : decode cX0_makeEmpty 41 = .ok (.iinc 2 1, 3) := by decide +kernel
theorem dX0_makeEmpty_44 : decode cX0_makeEmpty 44 = .ok (.goto (-23), 3) := by decide +kernel
theorem dX0_makeEmpty_47 : decode cX0_makeEmpty 47 = .ok (.return_, 1) := by decide +kernel
theorem dX0_copyFrom_0 : decode cX0_copyFrom 0 = .ok (.aload_n 0, 1) := by decide +kernel
theorem dX0_copyFrom_1 : decode cX0_copyFrom 1 = .ok (.aload_n 1, 1) := by decide +kernel
theorem dX0_copyFrom_2 : decode cX0_copyFrom 2 = .ok (.getfield 31, 3) := by decide +kernel
theorem dX0_copyFrom_5 : decode cX0_copyFrom 5 = .ok (.putfield 31, 3) := by decide +kernel
theorem dX0_copyFrom_8 : decode cX0_copyFrom 8 = .ok (.aload_n 0, 1) := by decide +kernel
theorem dX0_copyFrom_9 : decode cX0_copyFrom 9 = .ok (.aload_n 1, 1) := by decide +kernel
theorem dX0_copyFrom_10 : decode cX0_copyFrom 10 = .ok (.getfield 35, 3) := by decide +kernel
theorem dX0_copyFrom_13 : decode cX0_copyFrom 13 = .ok (.putfield 35, 3) := by decide +kernel
theorem dX0_copyFrom_16 : decode cX0_copyFrom 16 = .ok (.iconst 0, 1) := by decide +kernel
theorem dX0_copyFrom_17 : decode cX0_copyFrom 17 = .ok (.istore_n 2, 1) := by decide +kernel
theorem dX0_copyFrom_18 : decode cX0_copyFrom 18 = .ok (.iload_n 2, 1) := by decide +kernel
theorem dX0_copyFrom_19 : decode cX0_copyFrom 19 = .ok (.bipush 20, 2) := by decide +kernel
theorem dX0_copyFrom_21 : decode cX0_copyFrom 21 = .ok (.if_icmp .ge 33, 3) := by decide +kernel
theorem dX0_copyFrom_24 : decode cX0_copyFrom 24 = .ok (.aload_n 0, 1) := by decide +kernel
theorem dX0_copyFrom_25 : decode cX0_copyFrom 25 = .ok (.getfield 9, 3) := by decide +kernel
theorem dX0_copyFrom_28 : decode cX0_copyFrom 28 = .ok (.iload_n 2, 1) := by decide +kernel
theorem dX0_copyFrom_29 : decode cX0_copyFrom 29 = .ok (.aload_n 1, 1) := by decide +kernel
theorem dX0_copyFrom_30 : decode cX0_copyFrom 30 = .ok (.getfield 9, 3) := by decide +kernel
theorem dX0_copyFrom_33 : decode cX0_copyFrom 33 = .ok (.iload_n 2, 1) := by decide +kernel
theorem dX0_copyFrom_34 : decode cX0_copyFrom 34 = .ok (.iaload, 1) := by decide +kernel
theorem dX0_copyFrom_35 : decode cX0_copyFrom 35 = .ok (.iastore, 1) := by decide +kernel
theorem dX0_copyFrom_36 : decode cX0_copyFrom 36 = .ok (.aload_n 0, 1) := by decide +kernel
theorem dX0_copyFrom_37 : decode cX0_copyFrom 37 = .ok (.getfield 15, 3) := by decide +kernel
theorem dX0_copyFrom_40 : decode cX0_copyFrom 40 = .ok (.iload_n 2, 1) := by decide +kernel
theorem dX0_copyFrom_41 : decode cX0_copyFrom 41 = .ok (.aload_n 1, 1) := by decide +kernel
theorem dX0_copyFrom_42 : decode cX0_copyFrom 42 = .ok (.getfield 15, 3) := by decide +kernel
theorem dX0_copyFrom_45 : decode cX0_copyFrom 45 = .ok (.iload_n 2, 1) := by decide +kernel
theorem dX0_copyFrom_46 : decode cX0_copyFrom 46 = .ok (.iaload, 1) := by decide +kernel
theorem dX0_copyFrom_47 : decode cX0_copyFrom 47 = .ok (.iastore, 1) := by decide +kernel
theorem dX0_copyFrom_48 : decode cX0_copyFrom 48 = .ok (.iinc 2 1, 3) := by decide +kernel
theorem dX0_copyFrom_51 : decode cX0_copyFrom 51 = .ok (.goto (-33), 3) := by decide +kernel
theorem dX0_copyFrom_54 : decode cX0_copyFrom 54 = .ok (.return_, 1) := by decide +kernel
theorem dX0_has_0 : decode cX0_has 0 = .ok (.iload_n 1, 1) := by decide +kernel
theorem dX0_has_1 : decode cX0_has 1 = .ok (.ifCond .lt 15, 3) := by decide +kernel
theorem dX0_has_4 : decode cX0_has 4 = .ok (.iload_n 1, 1) := by decide +kernel
theorem dX0_has_5 : decode cX0_has 5 = .ok (.aload_n 0, 1) := by decide +kernel
theorem dX0_has_6 : decode cX0_has 6 = .ok (.getfield 31, 3) := by decide +kernel
theorem dX0_has_9 : decode cX0_has 9 = .ok (.if_icmp .ge 7, 3) := by decide +kernel
theorem dX0_has_12 : decode cX0_has 12 = .ok (.iconst 1, 1) := by decide +kernel
theorem dX0_has_13 : decode cX0_has 13 = .ok (.goto 4, 3) := by decide +kernel
theorem dX0_has_16 : decode cX0_has 16 = .ok (.iconst 0, 1) := by decide +kernel
theorem dX0_has_17 : decode cX0_has 17 = .ok (.ireturn, 1) := by decide +kernel
theorem dX0_slotOf_0 : decode cX0_slotOf 0 = .ok (.aload_n 0, 1) := by decide +kernel
theorem dX0_slotOf_1 : decode cX0_slotOf 1 = .ok (.iload_n 1, 1) := by decide +kernel
theorem dX0_slotOf_2 : decode cX0_slotOf 2 = .ok (.invokevirtual 38, 3) := by decide +kernel
theorem dX0_slotOf_5 : decode cX0_slotOf 5 = .ok (.ifCond .ne 5, 3) := by decide +kernel
theorem dX0_slotOf_8 : decode cX0_slotOf 8 = .ok (.iconst (-1), 1) := by decide +kernel
theorem dX0_slotOf_9 : decode cX0_slotOf 9 = .ok (.ireturn, 1) := by decide +kernel
theorem dX0_slotOf_10 : decode cX0_slotOf 10 = .ok (.aload_n 0, 1) := by decide +kernel
theorem dX0_slotOf_11 : decode cX0_slotOf 11 = .ok (.getfield 35, 3) := by decide +kernel
theorem dX0_slotOf_14 : decode cX0_slotOf 14 = .ok (.iload_n 1, 1) := by decide +kernel
theorem dX0_slotOf_15 : decode cX0_slotOf 15 = .ok (.iadd, 1) := by decide +kernel
theorem dX0_slotOf_16 : decode cX0_slotOf 16 = .ok (.istore_n 2, 1) := by decide +kernel
theorem dX0_slotOf_17 : decode cX0_slotOf 17 = .ok (.iload_n 2, 1) := by decide +kernel
theorem dX0_slotOf_18 : decode cX0_slotOf 18 = .ok (.aload_n 0, 1) := by decide +kernel
theorem dX0_slotOf_19 : decode cX0_slotOf 19 = .ok (.getfield 31, 3) := by decide +kernel
theorem dX0_slotOf_22 : decode cX0_slotOf 22 = .ok (.if_icmp .lt 10, 3) := by decide +kernel
theorem dX0_slotOf_25 : decode cX0_slotOf 25 = .ok (.iload_n 2, 1) := by decide +kernel
theorem dX0_slotOf_26 : decode cX0_slotOf 26 = .ok (.aload_n 0, 1) := by decide +kernel
theorem dX0_slotOf_27 : decode cX0_slotOf 27 = .ok (.getfield 31, 3) := by decide +kernel
theorem dX0_slotOf_30 : decode cX0_slotOf 30 = .ok (.isub, 1) := by decide +kernel
theorem dX0_slotOf_31 : decode cX0_slotOf 31 = .ok (.istore_n 2, 1) := by decide +kernel
theorem dX0_slotOf_32 : decode cX0_slotOf 32 = .ok (.iload_n 2, 1) := by decide +kernel
theorem dX0_slotOf_33 : decode cX0_slotOf 33 = .ok (.bipush 20, 2) := by decide +kernel
theorem dX0_slotOf_35 : decode cX0_slotOf 35 = .ok (.if_icmp .ge 7, 3) := by decide +kernel
theorem dX0_slotOf_38 : decode cX0_slotOf 38 = .ok (.iload_n 2, 1) := by decide +kernel
theorem dX0_slotOf_39 : decode cX0_slotOf 39 = .ok (.goto 4, 3) := by decide +kernel
theorem dX0_slotOf_42 : decode cX0_slotOf 42 = .ok (.iconst (-1), 1) := by decide +kernel
theorem dX0_slotOf_43 : decode cX0_slotOf 43 = .ok (.ireturn, 1) := by decide +kernel
theorem dX0_move_0 : decode cX0_move 0 = .ok (.aload_n 0, 1) := by decide +kernel
theorem dX0_move_1 : decode cX0_move 1 = .ok (.aload_n 0, 1) := by decide +kernel
theorem dX0_move_2 : decode cX0_move 2 = .ok (.getfield 35, 3) := by decide +kernel
theorem dX0_move_5 : decode cX0_move 5 = .ok (.ifCond .le 12, 3) := by decide +kernel
theorem dX0_move_8 : decode cX0_move 8 = .ok (.aload_n 0, 1) := by decide +kernel
theorem dX0_move_9 : decode cX0_move 9 = .ok (.getfield 35, 3) := by decide +kernel
theorem dX0_move_12 : decode cX0_move 12 = .ok (.iconst 1, 1) := by decide +kernel
theorem dX0_move_13 : decode cX0_move 13 = .ok (.isub, 1) := by decide +kernel
theorem dX0_move_14 : decode cX0_move 14 = .ok (.goto 9, 3) := by decide +kernel
theorem dX0_move_17 : decode cX0_move 17 = .ok (.aload_n 0, 1) := by decide +kernel
theorem dX0_move_18 : decode cX0_move 18 = .ok (.getfield 31, 3) := by decide +kernel
theorem dX0_move_21 : decode cX0_move 21 = .ok (.iconst 1, 1) := by decide +kernel
theorem dX0_move_22 : decode cX0_move 22 = .ok (.isub, 1) := by decide +kernel
theorem dX0_move_23 : decode cX0_move 23 = .ok (.putfield 35, 3) := by decide +kernel
theorem dX0_move_26 : decode cX0_move 26 = .ok (.aload_n 0, 1) := by decide +kernel
theorem dX0_move_27 : decode cX0_move 27 = .ok (.iconst 0, 1) := by decide +kernel
theorem dX0_move_28 : decode cX0_move 28 = .ok (.invokevirtual 42, 3) := by decide +kernel
theorem dX0_move_31 : decode cX0_move 31 = .ok (.istore_n 1, 1) := by decide +kernel
theorem dX0_move_32 : decode cX0_move 32 = .ok (.iload_n 1, 1) := by decide +kernel
theorem dX0_move_33 : decode cX0_move 33 = .ok (.ifCond .lt 23, 3) := by decide +kernel
theorem dX0_move_36 : decode cX0_move 36 = .ok (.aload_n 0, 1) := by decide +kernel
theorem dX0_move_37 : decode cX0_move 37 = .ok (.getfield 9, 3) := by decide +kernel
theorem dX0_move_40 : decode cX0_move 40 = .ok (.iload_n 1, 1) := by decide +kernel
theorem dX0_move_41 : decode cX0_move 41 = .ok (.iaload, 1) := by decide +kernel
theorem dX0_move_42 : decode cX0_move 42 = .ok (.iconst (-1), 1) := by decide +kernel
theorem dX0_move_43 : decode cX0_move 43 = .ok (.if_icmp .eq 13, 3) := by decide +kernel
theorem dX0_move_46 : decode cX0_move 46 = .ok (.aload_n 0, 1) := by decide +kernel
theorem dX0_move_47 : decode cX0_move 47 = .ok (.getfield 15, 3) := by decide +kernel
theorem dX0_move_50 : decode cX0_move 50 = .ok (.iload_n 1, 1) := by decide +kernel
theorem dX0_move_51 : decode cX0_move 51 = .ok (.dup2, 1) := by decide +kernel
theorem dX0_move_52 : decode cX0_move 52 = .ok (.iaload, 1) := by decide +kernel
theorem dX0_move_53 : decode cX0_move 53 = .ok (.iconst 1, 1) := by decide +kernel
theorem dX0_move_54 : decode cX0_move 54 = .ok (.iadd, 1) := by decide +kernel
theorem dX0_move_55 : decode cX0_move 55 = .ok (.iastore, 1) := by decide +kernel
theorem dX0_move_56 : decode cX0_move 56 = .ok (.return_, 1) := by decide +kernel
theorem dX0_parcelAt_0 : decode cX0_parcelAt 0 = .ok (.aload_n 0, 1) := by decide +kernel
theorem dX0_parcelAt_1 : decode cX0_parcelAt 1 = .ok (.iload_n 1, 1) := by decide +kernel
theorem dX0_parcelAt_2 : decode cX0_parcelAt 2 = .ok (.invokevirtual 42, 3) := by decide +kernel
theorem dX0_parcelAt_5 : decode cX0_parcelAt 5 = .ok (.istore_n 2, 1) := by decide +kernel
theorem dX0_parcelAt_6 : decode cX0_parcelAt 6 = .ok (.iload_n 2, 1) := by decide +kernel
theorem dX0_parcelAt_7 : decode cX0_parcelAt 7 = .ok (.ifCond .lt 12, 3) := by decide +kernel
theorem dX0_parcelAt_10 : decode cX0_parcelAt 10 = .ok (.aload_n 0, 1) := by decide +kernel
theorem dX0_parcelAt_11 : decode cX0_parcelAt 11 = .ok (.getfield 9, 3) := by decide +kernel
theorem dX0_parcelAt_14 : decode cX0_parcelAt 14 = .ok (.iload_n 2, 1) := by decide +kernel
theorem dX0_parcelAt_15 : decode cX0_parcelAt 15 = .ok (.iaload, 1) := by decide +kernel
theorem dX0_parcelAt_16 : decode cX0_parcelAt 16 = .ok (.goto 4, 3) := by decide +kernel
theorem dX0_parcelAt_19 : decode cX0_parcelAt 19 = .ok (.iconst (-1), 1) := by decide +kernel
theorem dX0_parcelAt_20 : decode cX0_parcelAt 20 = .ok (.ireturn, 1) := by decide +kernel
theorem dX0_roundsAt_0 : decode cX0_roundsAt 0 = .ok (.aload_n 0, 1) := by decide +kernel
theorem dX0_roundsAt_1 : decode cX0_roundsAt 1 = .ok (.iload_n 1, 1) := by decide +kernel
theorem dX0_roundsAt_2 : decode cX0_roundsAt 2 = .ok (.invokevirtual 42, 3) := by decide +kernel
theorem dX0_roundsAt_5 : decode cX0_roundsAt 5 = .ok (.istore_n 2, 1) := by decide +kernel
theorem dX0_roundsAt_6 : decode cX0_roundsAt 6 = .ok (.iload_n 2, 1) := by decide +kernel
theorem dX0_roundsAt_7 : decode cX0_roundsAt 7 = .ok (.ifCond .lt 12, 3) := by decide +kernel
theorem dX0_roundsAt_10 : decode cX0_roundsAt 10 = .ok (.aload_n 0, 1) := by decide +kernel
theorem dX0_roundsAt_11 : decode cX0_roundsAt 11 = .ok (.getfield 15, 3) := by decide +kernel
theorem dX0_roundsAt_14 : decode cX0_roundsAt 14 = .ok (.iload_n 2, 1) := by decide +kernel
theorem dX0_roundsAt_15 : decode cX0_roundsAt 15 = .ok (.iaload, 1) := by decide +kernel
theorem dX0_roundsAt_16 : decode cX0_roundsAt 16 = .ok (.goto 4, 3) := by decide +kernel
theorem dX0_roundsAt_19 : decode cX0_roundsAt 19 = .ok (.iconst 0, 1) := by decide +kernel
theorem dX0_roundsAt_20 : decode cX0_roundsAt 20 = .ok (.ireturn, 1) := by decide +kernel
theorem dX0_positionWith_0 : decode cX0_positionWith 0 = .ok (.iconst 0, 1) := by decide +kernel
theorem dX0_positionWith_1 : decode cX0_positionWith 1 = .ok (.istore_n 2, 1) := by decide +kernel
theorem dX0_positionWith_2 : decode cX0_positionWith 2 = .ok (.iload_n 2, 1) := by decide +kernel
theorem dX0_positionWith_3 : decode cX0_positionWith 3 = .ok (.aload_n 0, 1) := by decide +kernel
theorem dX0_positionWith_4 : decode cX0_positionWith 4 = .ok (.getfield 31, 3) := by decide +kernel
theorem dX0_positionWith_7 : decode cX0_positionWith 7 = .ok (.if_icmp .ge 20, 3) := by decide +kernel
theorem dX0_positionWith_10 : decode cX0_positionWith 10 = .ok (.aload_n 0, 1) := by decide +kernel
theorem dX0_positionWith_11 : decode cX0_positionWith 11 = .ok (.iload_n 2, 1) := by decide +kernel
theorem dX0_positionWith_12 : decode cX0_positionWith 12 = .ok (.invokevirtual 46, 3) := by decide +kernel
theorem dX0_positionWith_15 : decode cX0_positionWith 15 = .ok (.iload_n 1, 1) := by decide +kernel
theorem dX0_positionWith_16 : decode cX0_positionWith 16 = .ok (.if_icmp .ne 5, 3) := by decide +kernel
theorem dX0_positionWith_19 : decode cX0_positionWith 19 = .ok (.iload_n 2, 1) := by decide +kernel
theorem dX0_positionWith_20 : decode cX0_positionWith 20 = .ok (.ireturn, 1) := by decide +kernel
theorem dX0_positionWith_21 : decode cX0_positionWith 21 = .ok (.iinc 2 1, 3) := by decide +kernel
theorem dX0_positionWith_24 : decode cX0_positionWith 24 = .ok (.goto (-22), 3) := by decide +kernel
theorem dX0_positionWith_27 : decode cX0_positionWith 27 = .ok (.iconst (-1), 1) := by decide +kernel
theorem dX0_positionWith_28 : decode cX0_positionWith 28 = .ok (.ireturn, 1) := by decide +kernel
theorem dX0_put_0 : decode cX0_put 0 = .ok (.aload_n 0, 1) := by decide +kernel
theorem dX0_put_1 : decode cX0_put 1 = .ok (.iload_n 1, 1) := by decide +kernel
theorem dX0_put_2 : decode cX0_put 2 = .ok (.invokevirtual 42, 3) := by decide +kernel
theorem dX0_put_5 : decode cX0_put 5 = .ok (.istore_n 3, 1) := by decide +kernel
theorem dX0_put_6 : decode cX0_put 6 = .ok (.iload_n 3, 1) := by decide +kernel
theorem dX0_put_7 : decode cX0_put 7 = .ok (.ifCond .lt 17, 3) := by decide +kernel
theorem dX0_put_10 : decode cX0_put 10 = .ok (.aload_n 0, 1) := by decide +kernel
theorem dX0_put_11 : decode cX0_put 11 = .ok (.getfield 9, 3) := by decide +kernel
theorem dX0_put_14 : decode cX0_put 14 = .ok (.iload_n 3, 1) := by decide +kernel
theorem dX0_put_15 : decode cX0_put 15 = .ok (.iload_n 2, 1) := by decide +kernel
theorem dX0_put_16 : decode cX0_put 16 = .ok (.iastore, 1) := by decide +kernel
theorem dX0_put_17 : decode cX0_put 17 = .ok (.aload_n 0, 1) := by decide +kernel
theorem dX0_put_18 : decode cX0_put 18 = .ok (.getfield 15, 3) := by decide +kernel
theorem dX0_put_21 : decode cX0_put 21 = .ok (.iload_n 3, 1) := by decide +kernel
theorem dX0_put_22 : decode cX0_put 22 = .ok (.iconst 0, 1) := by decide +kernel
theorem dX0_put_23 : decode cX0_put 23 = .ok (.iastore, 1) := by decide +kernel
theorem dX0_put_24 : decode cX0_put 24 = .ok (.return_, 1) := by decide +kernel
theorem dX0_takeFrom_0 : decode cX0_takeFrom 0 = .ok (.aload_n 0, 1) := by decide +kernel
theorem dX0_takeFrom_1 : decode cX0_takeFrom 1 = .ok (.iload_n 1, 1) := by decide +kernel
theorem dX0_takeFrom_2 : decode cX0_takeFrom 2 = .ok (.iconst (-1), 1) := by decide +kernel
theorem dX0_takeFrom_3 : decode cX0_takeFrom 3 = .ok (.invokevirtual 49, 3) := by decide +kernel
theorem dX0_takeFrom_6 : decode cX0_takeFrom 6 = .ok (.return_, 1) := by decide +kernel
theorem dX1_init_0 : decode cX1_init 0 = .ok (.aload_n 0, 1) := by decide +kernel
theorem dX1_init_1 : decode cX1_init 1 = .ok (.invokespecial 3, 3) := by decide +kernel
theorem dX1_init_4 : decode cX1_init 4 = .ok (.aload_n 0, 1) := by decide +kernel
theorem dX1_init_5 : decode cX1_init 5 = .ok (.iload_n 1, 1) := by decide +kernel
theorem dX1_init_6 : decode cX1_init 6 = .ok (.putfield 9, 3) := by decide +kernel
theorem dX1_init_9 : decode cX1_init 9 = .ok (.aload_n 0, 1) := by decide +kernel
theorem dX1_init_10 : decode cX1_init 10 = .ok (.iload_n 2, 1) := by decide +kernel
theorem dX1_init_11 : decode cX1_init 11 = .ok (.putfield 15, 3) := by decide +kernel
theorem dX1_init_14 : decode cX1_init 14 = .ok (.aload_n 0, 1) := by decide +kernel
theorem dX1_init_15 : decode cX1_init 15 = .ok (.new 18, 3) := by decide +kernel
theorem dX1_init_18 : decode cX1_init 18 = .ok (.dup, 1) := by decide +kernel
theorem dX1_init_19 : decode cX1_init 19 = .ok (.bipush 30, 2) := by decide +kernel
theorem dX1_init_21 : decode cX1_init 21 = .ok (.invokespecial 20, 3) := by decide +kernel
theorem dX1_init_24 : decode cX1_init 24 = .ok (.putfield 23, 3) := by decide +kernel
theorem dX1_init_27 : decode cX1_init 27 = .ok (.return_, 1) := by decide +kernel
theorem dX1_drop_0 : decode cX1_drop 0 = .ok (.aload_n 0, 1) := by decide +kernel
theorem dX1_drop_1 : decode cX1_drop 1 = .ok (.getfield 23, 3) := by decide +kernel
theorem dX1_drop_4 : decode cX1_drop 4 = .ok (.iload_n 1, 1) := by decide +kernel
theorem dX1_drop_5 : decode cX1_drop 5 = .ok (.invokevirtual 27, 3) := by decide +kernel
theorem dX1_drop_8 : decode cX1_drop 8 = .ok (.aload_n 0, 1) := by decide +kernel
theorem dX1_drop_9 : decode cX1_drop 9 = .ok (.aload_n 0, 1) := by decide +kernel
theorem dX1_drop_10 : decode cX1_drop 10 = .ok (.getfield 30, 3) := by decide +kernel
theorem dX1_drop_13 : decode cX1_drop 13 = .ok (.iload_n 1, 1) := by decide +kernel
theorem dX1_drop_14 : decode cX1_drop 14 = .ok (.iadd, 1) := by decide +kernel
theorem dX1_drop_15 : decode cX1_drop 15 = .ok (.iconst 1, 1) := by decide +kernel
theorem dX1_drop_16 : decode cX1_drop 16 = .ok (.iadd, 1) := by decide +kernel
theorem dX1_drop_17 : decode cX1_drop 17 = .ok (.sipush 9973, 3) := by decide +kernel
theorem dX1_drop_20 : decode cX1_drop 20 = .ok (.irem, 1) := by decide +kernel
theorem dX1_drop_21 : decode cX1_drop 21 = .ok (.putfield 30, 3) := by decide +kernel
theorem dX1_drop_24 : decode cX1_drop 24 = .ok (.aload_n 0, 1) := by decide +kernel
theorem dX1_drop_25 : decode cX1_drop 25 = .ok (.aload_n 0, 1) := by decide +kernel
theorem dX1_drop_26 : decode cX1_drop 26 = .ok (.getfield 33, 3) := by decide +kernel
theorem dX1_drop_29 : decode cX1_drop 29 = .ok (.aload_n 0, 1) := by decide +kernel
theorem dX1_drop_30 : decode cX1_drop 30 = .ok (.getfield 30, 3) := by decide +kernel
theorem dX1_drop_33 : decode cX1_drop 33 = .ok (.iadd, 1) := by decide +kernel
theorem dX1_drop_34 : decode cX1_drop 34 = .ok (.sipush 9973, 3) := by decide +kernel
theorem dX1_drop_37 : decode cX1_drop 37 = .ok (.irem, 1) := by decide +kernel
theorem dX1_drop_38 : decode cX1_drop 38 = .ok (.putfield 33, 3) := by decide +kernel
theorem dX1_drop_41 : decode cX1_drop 41 = .ok (.return_, 1) := by decide +kernel
theorem dX1_clear_0 : decode cX1_clear 0 = .ok (.aload_n 0, 1) := by decide +kernel
theorem dX1_clear_1 : decode cX1_clear 1 = .ok (.getfield 23, 3) := by decide +kernel
theorem dX1_clear_4 : decode cX1_clear 4 = .ok (.iconst 0, 1) := by decide +kernel
theorem dX1_clear_5 : decode cX1_clear 5 = .ok (.putfield 36, 3) := by decide +kernel
theorem dX1_clear_8 : decode cX1_clear 8 = .ok (.aload_n 0, 1) := by decide +kernel
theorem dX1_clear_9 : decode cX1_clear 9 = .ok (.iconst 0, 1) := by decide +kernel
theorem dX1_clear_10 : decode cX1_clear 10 = .ok (.putfield 30, 3) := by decide +kernel
theorem dX1_clear_13 : decode cX1_clear 13 = .ok (.aload_n 0, 1) := by decide +kernel
theorem dX1_clear_14 : decode cX1_clear 14 = .ok (.iconst 0, 1) := by decide +kernel
theorem dX1_clear_15 : decode cX1_clear 15 = .ok (.putfield 33, 3) := by decide +kernel
theorem dX1_clear_18 : decode cX1_clear 18 = .ok (.return_, 1) := by decide +kernel
theorem dX1_keptSeal_0 : decode cX1_keptSeal 0 = .ok (.sipush 10000, 3) := by decide +kernel
theorem dX1_keptSeal_3 : decode cX1_keptSeal 3 = .ok (.aload_n 0, 1) := by decide +kernel
theorem dX1_keptSeal_4 : decode cX1_keptSeal 4 = .ok (.getfield 33, 3) := by decide +kernel
theorem dX1_keptSeal_7 : decode cX1_keptSeal 7 = .ok (.imul, 1) := by decide +kernel
theorem dX1_keptSeal_8 : decode cX1_keptSeal 8 = .ok (.aload_n 0, 1) := by decide +kernel
theorem dX1_keptSeal_9 : decode cX1_keptSeal 9 = .ok (.getfield 30, 3) := by decide +kernel
theorem dX1_keptSeal_12 : decode cX1_keptSeal 12 = .ok (.iadd, 1) := by decide +kernel
theorem dX1_keptSeal_13 : decode cX1_keptSeal 13 = .ok (.ireturn, 1) := by decide +kernel
theorem dX1_sealOfContent_0 : decode cX1_sealOfContent 0 = .ok (.aload_n 0, 1) := by decide +kernel
theorem dX1_sealOfContent_1 : decode cX1_sealOfContent 1 = .ok (.getfield 23, 3) := by decide +kernel
theorem dX1_sealOfContent_4 : decode cX1_sealOfContent 4 = .ok (.iconst 0, 1) := by decide +kernel
theorem dX1_sealOfContent_5 : decode cX1_sealOfContent 5 = .ok (.aload_n 0, 1) := by decide +kernel
theorem dX1_sealOfContent_6 : decode cX1_sealOfContent 6 = .ok (.getfield 23, 3) := by decide +kernel
theorem dX1_sealOfContent_9 : decode cX1_sealOfContent 9 = .ok (.getfield 36, 3) := by decide +kernel
theorem dX1_sealOfContent_12 : decode cX1_sealOfContent 12 = .ok (.invokevirtual 39, 3) := by decide +kernel
theorem dX1_sealOfContent_15 : decode cX1_sealOfContent 15 = .ok (.ireturn, 1) := by decide +kernel
theorem dX2_init_0 : decode cX2_init 0 = .ok (.aload_n 0, 1) := by decide +kernel
theorem dX2_init_1 : decode cX2_init 1 = .ok (.invokespecial 3, 3) := by decide +kernel
theorem dX2_init_4 : decode cX2_init 4 = .ok (.aload_n 0, 1) := by decide +kernel
theorem dX2_init_5 : decode cX2_init 5 = .ok (.new 9, 3) := by decide +kernel
theorem dX2_init_8 : decode cX2_init 8 = .ok (.dup, 1) := by decide +kernel
theorem dX2_init_9 : decode cX2_init 9 = .ok (.sipush 300, 3) := by decide +kernel
theorem dX2_init_12 : decode cX2_init 12 = .ok (.invokespecial 11, 3) := by decide +kernel
theorem dX2_init_15 : decode cX2_init 15 = .ok (.putfield 14, 3) := by decide +kernel
theorem dX2_init_18 : decode cX2_init 18 = .ok (.aload_n 0, 1) := by decide +kernel
theorem dX2_init_19 : decode cX2_init 19 = .ok (.sipush 300, 3) := by decide +kernel
theorem dX2_init_22 : decode cX2_init 22 = .ok (.newarray .int, 2) := by decide +kernel
theorem dX2_init_24 : decode cX2_init 24 = .ok (.putfield 20, 3) := by decide +kernel
theorem dX2_init_27 : decode cX2_init 27 = .ok (.return_, 1) := by decide +kernel
theorem dX2_has_0 : decode cX2_has 0 = .ok (.iload_n 1, 1) := by decide +kernel
theorem dX2_has_1 : decode cX2_has 1 = .ok (.ifCond .lt 22, 3) := by decide +kernel
theorem dX2_has_4 : decode cX2_has 4 = .ok (.iload_n 1, 1) := by decide +kernel
theorem dX2_has_5 : decode cX2_has 5 = .ok (.aload_n 0, 1) := by decide +kernel
theorem dX2_has_6 : decode cX2_has 6 = .ok (.getfield 24, 3) := by decide +kernel
theorem dX2_has_9 : decode cX2_has 9 = .ok (.if_icmp .ge 14, 3) := by decide +kernel
theorem dX2_has_12 : decode cX2_has 12 = .ok (.iload_n 1, 1) := by decide +kernel
theorem dX2_has_13 : decode cX2_has 13 = .ok (.sipush 300, 3) := by decide +kernel
theorem dX2_has_16 : decode cX2_has 16 = .ok (.if_icmp .ge 7, 3) := by decide +kernel
theorem dX2_has_19 : decode cX2_has 19 = .ok (.iconst 1, 1) := by decide +kernel
theorem dX2_has_20 : decode cX2_has 20 = .ok (.goto 4, 3) := by decide +kernel
theorem dX2_has_23 : decode cX2_has 23 = .ok (.iconst 0, 1) := by decide +kernel
theorem dX2_has_24 : decode cX2_has 24 = .ok (.ireturn, 1) := by decide +kernel
theorem dX2_take_0 : decode cX2_take 0 = .ok (.aload_n 0, 1) := by decide +kernel
theorem dX2_take_1 : decode cX2_take 1 = .ok (.getfield 24, 3) := by decide +kernel
theorem dX2_take_4 : decode cX2_take 4 = .ok (.istore_n 2, 1) := by decide +kernel
theorem dX2_take_5 : decode cX2_take 5 = .ok (.iload_n 2, 1) := by decide +kernel
theorem dX2_take_6 : decode cX2_take 6 = .ok (.ifCond .lt 10, 3) := by decide +kernel
theorem dX2_take_9 : decode cX2_take 9 = .ok (.iload_n 2, 1) := by decide +kernel
theorem dX2_take_10 : decode cX2_take 10 = .ok (.sipush 300, 3) := by decide +kernel
theorem dX2_take_13 : decode cX2_take 13 = .ok (.if_icmp .lt 5, 3) := by decide +kernel
theorem dX2_take_16 : decode cX2_take 16 = .ok (.iconst (-1), 1) := by decide +kernel
theorem dX2_take_17 : decode cX2_take 17 = .ok (.ireturn, 1) := by decide +kernel
theorem dX2_take_18 : decode cX2_take 18 = .ok (.aload_n 0, 1) := by decide +kernel
theorem dX2_take_19 : decode cX2_take 19 = .ok (.getfield 20, 3) := by decide +kernel
theorem dX2_take_22 : decode cX2_take 22 = .ok (.iload_n 2, 1) := by decide +kernel
theorem dX2_take_23 : decode cX2_take 23 = .ok (.aload_n 0, 1) := by decide +kernel
theorem dX2_take_24 : decode cX2_take 24 = .ok (.getfield 14, 3) := by decide +kernel
theorem dX2_take_27 : decode cX2_take 27 = .ok (.getfield 28, 3) := by decide +kernel
theorem dX2_take_30 : decode cX2_take 30 = .ok (.iastore, 1) := by decide +kernel
theorem dX2_take_31 : decode cX2_take 31 = .ok (.iconst 0, 1) := by decide +kernel
theorem dX2_take_32 : decode cX2_take 32 = .ok (.istore_n 3, 1) := by decide +kernel
theorem dX2_take_33 : decode cX2_take 33 = .ok (.iload_n 3, 1) := by decide +kernel
theorem dX2_take_34 : decode cX2_take 34 = .ok (.aload_n 1, 1) := by decide +kernel
theorem dX2_take_35 : decode cX2_take 35 = .ok (.getfield 28, 3) := by decide +kernel
theorem dX2_take_38 : decode cX2_take 38 = .ok (.if_icmp .ge 21, 3) := by decide +kernel
theorem dX2_take_41 : decode cX2_take 41 = .ok (.aload_n 0, 1) := by decide +kernel
theorem dX2_take_42 : decode cX2_take 42 = .ok (.getfield 14, 3) := by decide +kernel
theorem dX2_take_45 : decode cX2_take 45 = .ok (.aload_n 1, 1) := by decide +kernel
theorem dX2_take_46 : decode cX2_take 46 = .ok (.iload_n 3, 1) := by decide +kernel
theorem dX2_take_47 : decode cX2_take 47 = .ok (.invokevirtual 29, 3) := by decide +kernel
theorem dX2_take_50 : decode cX2_take 50 = .ok (.invokevirtual 33, 3) := by decide +kernel
theorem dX2_take_53 : decode cX2_take 53 = .ok (.iinc 3 1, 3) := by decide +kernel
theorem dX2_take_56 : decode cX2_take 56 = .ok (.goto (-23), 3) := by decide +kernel
theorem dX2_take_59 : decode cX2_take 59 = .ok (.aload_n 0, 1) := by decide +kernel
theorem dX2_take_60 : decode cX2_take 60 = .ok (.dup, 1) := by decide +kernel
theorem dX2_take_61 : decode cX2_take 61 = .ok (.getfield 24, 3) := by decide +kernel
theorem dX2_take_64 : decode cX2_take 64 = .ok (.iconst 1, 1) := by decide +kernel
theorem dX2_take_65 : decode cX2_take 65 = .ok (.iadd, 1) := by decide +kernel
theorem dX2_take_66 : decode cX2_take 66 = .ok (.putfield 24, 3) := by decide +kernel
theorem dX2_take_69 : decode cX2_take 69 = .ok (.iload_n 2, 1) := by decide +kernel
theorem dX2_take_70 : decode cX2_take 70 = .ok (.ireturn, 1) := by decide +kernel
theorem dX2_startOf_0 : decode cX2_startOf 0 = .ok (.aload_n 0, 1) := by decide +kernel
theorem dX2_startOf_1 : decode cX2_startOf 1 = .ok (.iload_n 1, 1) := by decide +kernel
theorem dX2_startOf_2 : decode cX2_startOf 2 = .ok (.invokevirtual 36, 3) := by decide +kernel
theorem dX2_startOf_5 : decode cX2_startOf 5 = .ok (.ifCond .eq 12, 3) := by decide +kernel
theorem dX2_startOf_8 : decode cX2_startOf 8 = .ok (.aload_n 0, 1) := by decide +kernel
theorem dX2_startOf_9 : decode cX2_startOf 9 = .ok (.getfield 20, 3) := by decide +kernel
theorem dX2_startOf_12 : decode cX2_startOf 12 = .ok (.iload_n 1, 1) := by decide +kernel
theorem dX2_startOf_13 : decode cX2_startOf 13 = .ok (.iaload, 1) := by decide +kernel
theorem dX2_startOf_14 : decode cX2_startOf 14 = .ok (.goto 10, 3) := by decide +kernel
theorem dX2_startOf_17 : decode cX2_startOf 17 = .ok (.aload_n 0, 1) := by decide +kernel
theorem dX2_startOf_18 : decode cX2_startOf 18 = .ok (.getfield 14, 3) := by decide +kernel
theorem dX2_startOf_21 : decode cX2_startOf 21 = .ok (.getfield 28, 3) := by decide +kernel
theorem dX2_startOf_24 : decode cX2_startOf 24 = .ok (.ireturn, 1) := by decide +kernel
theorem dX2_sizeOf_0 : decode cX2_sizeOf 0 = .ok (.aload_n 0, 1) := by decide +kernel
theorem dX2_sizeOf_1 : decode cX2_sizeOf 1 = .ok (.iload_n 1, 1) := by decide +kernel
theorem dX2_sizeOf_2 : decode cX2_sizeOf 2 = .ok (.invokevirtual 36, 3) := by decide +kernel
theorem dX2_sizeOf_5 : decode cX2_sizeOf 5 = .ok (.ifCond .eq 19, 3) := by decide +kernel
theorem dX2_sizeOf_8 : decode cX2_sizeOf 8 = .ok (.aload_n 0, 1) := by decide +kernel
theorem dX2_sizeOf_9 : decode cX2_sizeOf 9 = .ok (.iload_n 1, 1) := by decide +kernel
theorem dX2_sizeOf_10 : decode cX2_sizeOf 10 = .ok (.iconst 1, 1) := by decide +kernel
theorem dX2_sizeOf_11 : decode cX2_sizeOf 11 = .ok (.iadd, 1) := by decide +kernel
theorem dX2_sizeOf_12 : decode cX2_sizeOf 12 = .ok (.invokevirtual 40, 3) := by decide +kernel
theorem dX2_sizeOf_15 : decode cX2_sizeOf 15 = .ok (.aload_n 0, 1) := by decide +kernel
theorem dX2_sizeOf_16 : decode cX2_sizeOf 16 = .ok (.iload_n 1, 1) := by decide +kernel
theorem dX2_sizeOf_17 : decode cX2_sizeOf 17 = .ok (.invokevirtual 40, 3) := by decide +kernel
theorem dX2_sizeOf_20 : decode cX2_sizeOf 20 = .ok (.isub, 1) := by decide +kernel
theorem dX2_sizeOf_21 : decode cX2_sizeOf 21 = .ok (.goto 4, 3) := by decide +kernel
theorem dX2_sizeOf_24 : decode cX2_sizeOf 24 = .ok (.iconst 0, 1) := by decide +kernel
theorem dX2_sizeOf_25 : decode cX2_sizeOf 25 = .ok (.ireturn, 1) := by decide +kernel
theorem dX2_parcelAt_0 : decode cX2_parcelAt 0 = .ok (.aload_n 0, 1) := by decide +kernel
theorem dX2_parcelAt_1 : decode cX2_parcelAt 1 = .ok (.getfield 14, 3) := by decide +kernel
theorem dX2_parcelAt_4 : decode cX2_parcelAt 4 = .ok (.aload_n 0, 1) := by decide +kernel
theorem dX2_parcelAt_5 : decode cX2_parcelAt 5 = .ok (.iload_n 1, 1) := by decide +kernel
theorem dX2_parcelAt_6 : decode cX2_parcelAt 6 = .ok (.invokevirtual 40, 3) := by decide +kernel
theorem dX2_parcelAt_9 : decode cX2_parcelAt 9 = .ok (.iload_n 2, 1) := by decide +kernel
theorem dX2_parcelAt_10 : decode cX2_parcelAt 10 = .ok (.iadd, 1) := by decide +kernel
theorem dX2_parcelAt_11 : decode cX2_parcelAt 11 = .ok (.invokevirtual 29, 3) := by decide +kernel
theorem dX2_parcelAt_14 : decode cX2_parcelAt 14 = .ok (.ireturn, 1) := by decide +kernel
theorem dX2_sealOf_0 : decode cX2_sealOf 0 = .ok (.aload_n 0, 1) := by decide +kernel
theorem dX2_sealOf_1 : decode cX2_sealOf 1 = .ok (.getfield 14, 3) := by decide +kernel
theorem dX2_sealOf_4 : decode cX2_sealOf 4 = .ok (.aload_n 0, 1) := by decide +kernel
theorem dX2_sealOf_5 : decode cX2_sealOf 5 = .ok (.iload_n 1, 1) := by decide +kernel
theorem dX2_sealOf_6 : decode cX2_sealOf 6 = .ok (.invokevirtual 40, 3) := by decide +kernel
theorem dX2_sealOf_9 : decode cX2_sealOf 9 = .ok (.aload_n 0, 1) := by decide +kernel
theorem dX2_sealOf_10 : decode cX2_sealOf 10 = .ok (.iload_n 1, 1) := by decide +kernel
theorem dX2_sealOf_11 : decode cX2_sealOf 11 = .ok (.invokevirtual 40, 3) := by decide +kernel
theorem dX2_sealOf_14 : decode cX2_sealOf 14 = .ok (.aload_n 0, 1) := by decide +kernel
theorem dX2_sealOf_15 : decode cX2_sealOf 15 = .ok (.iload_n 1, 1) := by decide +kernel
theorem dX2_sealOf_16 : decode cX2_sealOf 16 = .ok (.invokevirtual 43, 3) := by decide +kernel
theorem dX2_sealOf_19 : decode cX2_sealOf 19 = .ok (.iadd, 1) := by decide +kernel
theorem dX2_sealOf_20 : decode cX2_sealOf 20 = .ok (.invokevirtual 46, 3) := by decide +kernel
theorem dX2_sealOf_23 : decode cX2_sealOf 23 = .ok (.ireturn, 1) := by decide +kernel
theorem dX3_init_0 : decode cX3_init 0 = .ok (.aload_n 0, 1) := by decide +kernel
theorem dX3_init_1 : decode cX3_init 1 = .ok (.invokespecial 3, 3) := by decide +kernel
theorem dX3_init_4 : decode cX3_init 4 = .ok (.aload_n 0, 1) := by decide +kernel
theorem dX3_init_5 : decode cX3_init 5 = .ok (.new 9, 3) := by decide +kernel
theorem dX3_init_8 : decode cX3_init 8 = .ok (.dup, 1) := by decide +kernel
theorem dX3_init_9 : decode cX3_init 9 = .ok (.invokespecial 11, 3) := by decide +kernel
theorem dX3_init_12 : decode cX3_init 12 = .ok (.putfield 12, 3) := by decide +kernel
theorem dX3_init_15 : decode cX3_init 15 = .ok (.aload_n 0, 1) := by decide +kernel
theorem dX3_init_16 : decode cX3_init 16 = .ok (.bipush 20, 2) := by decide +kernel
theorem dX3_init_18 : decode cX3_init 18 = .ok (.newarray .int, 2) := by decide +kernel
theorem dX3_init_20 : decode cX3_init 20 = .ok (.putfield 18, 3) := by decide +kernel
theorem dX3_init_23 : decode cX3_init 23 = .ok (.aload_n 0, 1) := by decide +kernel
theorem dX3_init_24 : decode cX3_init 24 = .ok (.bipush 20, 2) := by decide +kernel
theorem dX3_init_26 : decode cX3_init 26 = .ok (.newarray .int, 2) := by decide +kernel
theorem dX3_init_28 : decode cX3_init 28 = .ok (.putfield 22, 3) := by decide +kernel
theorem dX3_init_31 : decode cX3_init 31 = .ok (.aload_n 0, 1) := by decide +kernel
theorem dX3_init_32 : decode cX3_init 32 = .ok (.bipush 20, 2) := by decide +kernel
theorem dX3_init_34 : decode cX3_init 34 = .ok (.newarray .int, 2) := by decide +kernel
theorem dX3_init_36 : decode cX3_init 36 = .ok (.putfield 25, 3) := by decide +kernel
theorem dX3_init_39 : decode cX3_init 39 = .ok (.aload_n 0, 1) := by decide +kernel
theorem dX3_init_40 : decode cX3_init 40 = .ok (.bipush 6, 2) := by decide +kernel
theorem dX3_init_42 : decode cX3_init 42 = .ok (.newarray .int, 2) := by decide +kernel
theorem dX3_init_44 : decode cX3_init 44 = .ok (.putfield 28, 3) := by decide +kernel
theorem dX3_init_47 : decode cX3_init 47 = .ok (.aload_n 0, 1) := by decide +kernel
theorem dX3_init_48 : decode cX3_init 48 = .ok (.aload_n 1, 1) := by decide +kernel
theorem dX3_init_49 : decode cX3_init 49 = .ok (.putfield 31, 3) := by decide +kernel
theorem dX3_init_52 : decode cX3_init 52 = .ok (.aload_n 0, 1) := by decide +kernel
theorem dX3_init_53 : decode cX3_init 53 = .ok (.aload_n 2, 1) := by decide +kernel
theorem dX3_init_54 : decode cX3_init 54 = .ok (.putfield 35, 3) := by decide +kernel
theorem dX3_init_57 : decode cX3_init 57 = .ok (.aload_n 0, 1) := by decide +kernel
theorem dX3_init_58 : decode cX3_init 58 = .ok (.aload_n 3, 1) := by decide +kernel
theorem dX3_init_59 : decode cX3_init 59 = .ok (.putfield 39, 3) := by decide +kernel
theorem dX3_init_62 : decode cX3_init 62 = .ok (.return_, 1) := by decide +kernel
theorem dX3_byOrigin_0 : decode cX3_byOrigin 0 = .ok (.aload_n 0, 1) := by decide +kernel
theorem dX3_byOrigin_1 : decode cX3_byOrigin 1 = .ok (.invokevirtual 42, 3) := by decide +kernel
theorem dX3_byOrigin_4 : decode cX3_byOrigin 4 = .ok (.aload_n 0, 1) := by decide +kernel
theorem dX3_byOrigin_5 : decode cX3_byOrigin 5 = .ok (.getfield 12, 3) := by decide +kernel
theorem dX3_byOrigin_8 : decode cX3_byOrigin 8 = .ok (.aload_n 0, 1) := by decide +kernel
theorem dX3_byOrigin_9 : decode cX3_byOrigin 9 = .ok (.getfield 39, 3) := by decide +kernel
theorem dX3_byOrigin_12 : decode cX3_byOrigin 12 = .ok (.invokevirtual 45, 3) := by decide +kernel
theorem dX3_byOrigin_15 : decode cX3_byOrigin 15 = .ok (.iconst 0, 1) := by decide +kernel
theorem dX3_byOrigin_16 : decode cX3_byOrigin 16 = .ok (.istore_n 2, 1) := by decide +kernel
theorem dX3_byOrigin_17 : decode cX3_byOrigin 17 = .ok (.iconst 0, 1) := by decide +kernel
theorem dX3_byOrigin_18 : decode cX3_byOrigin 18 = .ok (.istore_n 3, 1) := by decide +kernel
theorem dX3_byOrigin_19 : decode cX3_byOrigin 19 = .ok (.iload_n 3, 1) := by decide +kernel
theorem dX3_byOrigin_20 : decode cX3_byOrigin 20 = .ok (.iload_n 1, 1) := by decide +kernel
theorem dX3_byOrigin_21 : decode cX3_byOrigin 21 = .ok (.if_icmp .ge 16, 3) := by decide +kernel
theorem dX3_byOrigin_24 : decode cX3_byOrigin 24 = .ok (.iload_n 2, 1) := by decide +kernel
theorem dX3_byOrigin_25 : decode cX3_byOrigin 25 = .ok (.aload_n 0, 1) := by decide +kernel
theorem dX3_byOrigin_26 : decode cX3_byOrigin 26 = .ok (.invokevirtual 49, 3) := by decide +kernel
theorem dX3_byOrigin_29 : decode cX3_byOrigin 29 = .ok (.iadd, 1) := by decide +kernel
theorem dX3_byOrigin_30 : decode cX3_byOrigin 30 = .ok (.istore_n 2, 1) := by decide +kernel
theorem dX3_byOrigin_31 : decode cX3_byOrigin 31 = .ok (.iinc 3 1, 3) := by decide +kernel
theorem dX3_byOrigin_34 : decode cX3_byOrigin 34 = .ok (.goto (-15), 3) := by decide +kernel
theorem dX3_byOrigin_37 : decode cX3_byOrigin 37 = .ok (.iload_n 2, 1) := by decide +kernel
theorem dX3_byOrigin_38 : decode cX3_byOrigin 38 = .ok (.ireturn, 1) := by decide +kernel
theorem dX3_byTrays_0 : decode cX3_byTrays 0 = .ok (.aload_n 0, 1) := by decide +kernel
theorem dX3_byTrays_1 : decode cX3_byTrays 1 = .ok (.invokevirtual 42, 3) := by decide +kernel
theorem dX3_byTrays_4 : decode cX3_byTrays 4 = .ok (.iconst 0, 1) := by decide +kernel
theorem dX3_byTrays_5 : decode cX3_byTrays 5 = .ok (.istore_n 2, 1) := by decide +kernel
theorem dX3_byTrays_6 : decode cX3_byTrays 6 = .ok (.iload_n 2, 1) := by decide +kernel
theorem dX3_byTrays_7 : decode cX3_byTrays 7 = .ok (.bipush 20, 2) := by decide +kernel
theorem dX3_byTrays_9 : decode cX3_byTrays 9 = .ok (.if_icmp .ge 44, 3) := by decide +kernel
theorem dX3_byTrays_12 : decode cX3_byTrays 12 = .ok (.aload_n 0, 1) := by decide +kernel
theorem dX3_byTrays_13 : decode cX3_byTrays 13 = .ok (.getfield 18, 3) := by decide +kernel
theorem dX3_byTrays_16 : decode cX3_byTrays 16 = .ok (.iload_n 2, 1) := by decide +kernel
theorem dX3_byTrays_17 : decode cX3_byTrays 17 = .ok (.iload_n 2, 1) := by decide +kernel
theorem dX3_byTrays_18 : decode cX3_byTrays 18 = .ok (.iastore, 1) := by decide +kernel
theorem dX3_byTrays_19 : decode cX3_byTrays 19 = .ok (.aload_n 0, 1) := by decide +kernel
theorem dX3_byTrays_20 : decode cX3_byTrays 20 = .ok (.getfield 22, 3) := by decide +kernel
theorem dX3_byTrays_23 : decode cX3_byTrays 23 = .ok (.iload_n 2, 1) := by decide +kernel
theorem dX3_byTrays_24 : decode cX3_byTrays 24 = .ok (.aload_n 0, 1) := by decide +kernel
theorem dX3_byTrays_25 : decode cX3_byTrays 25 = .ok (.getfield 39, 3) := by decide +kernel
theorem dX3_byTrays_28 : decode cX3_byTrays 28 = .ok (.iload_n 2, 1) := by decide +kernel
theorem dX3_byTrays_29 : decode cX3_byTrays 29 = .ok (.invokevirtual 53, 3) := by decide +kernel
theorem dX3_byTrays_32 : decode cX3_byTrays 32 = .ok (.iastore, 1) := by decide +kernel
theorem dX3_byTrays_33 : decode cX3_byTrays 33 = .ok (.aload_n 0, 1) := by decide +kernel
theorem dX3_byTrays_34 : decode cX3_byTrays 34 = .ok (.getfield 25, 3) := by decide +kernel
theorem dX3_byTrays_37 : decode cX3_byTrays 37 = .ok (.iload_n 2, 1) := by decide +kernel
theorem dX3_byTrays_38 : decode cX3_byTrays 38 = .ok (.aload_n 0, 1) := by decide +kernel
theorem dX3_byTrays_39 : decode cX3_byTrays 39 = .ok (.getfield 39, 3) := by decide +kernel
theorem dX3_byTrays_42 : decode cX3_byTrays 42 = .ok (.iload_n 2, 1) := by decide +kernel
theorem dX3_byTrays_43 : decode cX3_byTrays 43 = .ok (.invokevirtual 57, 3) := by decide +kernel
theorem dX3_byTrays_46 : decode cX3_byTrays 46 = .ok (.iastore, 1) := by decide +kernel
theorem dX3_byTrays_47 : decode cX3_byTrays 47 = .ok (.iinc 2 1, 3) := by decide +kernel
theorem dX3_byTrays_50 : decode cX3_byTrays 50 = .ok (.goto (-44), 3) := by decide +kernel
theorem dX3_byTrays_53 : decode cX3_byTrays 53 = .ok (.iconst 0, 1) := by decide +kernel
theorem dX3_byTrays_54 : decode cX3_byTrays 54 = .ok (.istore_n 2, 1) := by decide +kernel
theorem dX3_byTrays_55 : decode cX3_byTrays 55 = .ok (.iconst 0, 1) := by decide +kernel
theorem dX3_byTrays_56 : decode cX3_byTrays 56 = .ok (.istore_n 3, 1) := by decide +kernel
theorem dX3_byTrays_57 : decode cX3_byTrays 57 = .ok (.iload_n 3, 1) := by decide +kernel
theorem dX3_byTrays_58 : decode cX3_byTrays 58 = .ok (.iload_n 1, 1) := by decide +kernel
theorem dX3_byTrays_59 : decode cX3_byTrays 59 = .ok (.if_icmp .ge 46, 3) := by decide +kernel
theorem dX3_byTrays_62 : decode cX3_byTrays 62 = .ok (.iconst 0, 1) := by decide +kernel
theorem dX3_byTrays_63 : decode cX3_byTrays 63 = .ok (.istore 4, 2) := by decide +kernel
theorem dX3_byTrays_65 : decode cX3_byTrays 65 = .ok (.iload 4, 2) := by decide +kernel
theorem dX3_byTrays_67 : decode cX3_byTrays 67 = .ok (.aload_n 0, 1) := by decide +kernel
theorem dX3_byTrays_68 : decode cX3_byTrays 68 = .ok (.getfield 31, 3) := by decide +kernel
theorem dX3_byTrays_71 : decode cX3_byTrays 71 = .ok (.getfield 60, 3) := by decide +kernel
theorem dX3_byTrays_74 : decode cX3_byTrays 74 = .ok (.if_icmp .gt 25, 3) := by decide +kernel
theorem dX3_byTrays_77 : decode cX3_byTrays 77 = .ok (.iload 4, 2) := by decide +kernel
theorem dX3_byTrays_79 : decode cX3_byTrays 79 = .ok (.bipush 20, 2) := by decide +kernel
theorem dX3_byTrays_81 : decode cX3_byTrays 81 = .ok (.if_icmp .ge 18, 3) := by decide +kernel
theorem dX3_byTrays_84 : decode cX3_byTrays 84 = .ok (.iload_n 2, 1) := by decide +kernel
theorem dX3_byTrays_85 : decode cX3_byTrays 85 = .ok (.aload_n 0, 1) := by decide +kernel
theorem dX3_byTrays_86 : decode cX3_byTrays 86 = .ok (.iload 4, 2) := by decide +kernel
theorem dX3_byTrays_88 : decode cX3_byTrays 88 = .ok (.invokevirtual 66, 3) := by decide +kernel
theorem dX3_byTrays_91 : decode cX3_byTrays 91 = .ok (.iadd, 1) := by decide +kernel
theorem dX3_byTrays_92 : decode cX3_byTrays 92 = .ok (.istore_n 2, 1) := by decide +kernel
theorem dX3_byTrays_93 : decode cX3_byTrays 93 = .ok (.iinc 4 1, 3) := by decide +kernel
theorem dX3_byTrays_96 : decode cX3_byTrays 96 = .ok (.goto (-31), 3) := by decide +kernel
theorem dX3_byTrays_99 : decode cX3_byTrays 99 = .ok (.iinc 3 1, 3) := by decide +kernel
theorem dX3_byTrays_102 : decode cX3_byTrays 102 = .ok (.goto (-45), 3) := by decide +kernel
theorem dX3_byTrays_105 : decode cX3_byTrays 105 = .ok (.iload_n 2, 1) := by decide +kernel
theorem dX3_byTrays_106 : decode cX3_byTrays 106 = .ok (.ireturn, 1) := by decide +kernel
theorem dX3_begin_0 : decode cX3_begin 0 = .ok (.aload_n 0, 1) := by decide +kernel
theorem dX3_begin_1 : decode cX3_begin 1 = .ok (.aload_n 0, 1) := by decide +kernel
theorem dX3_begin_2 : decode cX3_begin 2 = .ok (.getfield 35, 3) := by decide +kernel
theorem dX3_begin_5 : decode cX3_begin 5 = .ok (.getfield 69, 3) := by decide +kernel
theorem dX3_begin_8 : decode cX3_begin 8 = .ok (.putfield 74, 3) := by decide +kernel
theorem dX3_begin_11 : decode cX3_begin 11 = .ok (.iconst 0, 1) := by decide +kernel
theorem dX3_begin_12 : decode cX3_begin 12 = .ok (.istore_n 1, 1) := by decide +kernel
theorem dX3_begin_13 : decode cX3_begin 13 = .ok (.iload_n 1, 1) := by decide +kernel
theorem dX3_begin_14 : decode cX3_begin 14 = .ok (.bipush 6, 2) := by decide +kernel
theorem dX3_begin_16 : decode cX3_begin 16 = .ok (.if_icmp .ge 39, 3) := by decide +kernel
theorem dX3_begin_19 : decode cX3_begin 19 = .ok (.aload_n 0, 1) := by decide +kernel
theorem dX3_begin_20 : decode cX3_begin 20 = .ok (.getfield 31, 3) := by decide +kernel
theorem dX3_begin_23 : decode cX3_begin 23 = .ok (.iload_n 1, 1) := by decide +kernel
theorem dX3_begin_24 : decode cX3_begin 24 = .ok (.invokevirtual 77, 3) := by decide +kernel
theorem dX3_begin_27 : decode cX3_begin 27 = .ok (.astore_n 2, 1) := by decide +kernel
theorem dX3_begin_28 : decode cX3_begin 28 = .ok (.aload_n 0, 1) := by decide +kernel
theorem dX3_begin_29 : decode cX3_begin 29 = .ok (.getfield 28, 3) := by decide +kernel
theorem dX3_begin_32 : decode cX3_begin 32 = .ok (.iload_n 1, 1) := by decide +kernel
theorem dX3_begin_33 : decode cX3_begin 33 = .ok (.aload_n 2, 1) := by decide +kernel
theorem dX3_begin_34 : decode cX3_begin 34 = .ok (.ifnull 13, 3) := by decide +kernel
theorem dX3_begin_37 : decode cX3_begin 37 = .ok (.aload_n 2, 1) := by decide +kernel
theorem dX3_begin_38 : decode cX3_begin 38 = .ok (.getfield 81, 3) := by decide +kernel
theorem dX3_begin_41 : decode cX3_begin 41 = .ok (.getfield 87, 3) := by decide +kernel
theorem dX3_begin_44 : decode cX3_begin 44 = .ok (.goto 4, 3) := by decide +kernel
theorem dX3_begin_47 : decode cX3_begin 47 = .ok (.iconst 0, 1) := by decide +kernel
theorem dX3_begin_48 : decode cX3_begin 48 = .ok (.iastore, 1) := by decide +kernel
theorem dX3_begin_49 : decode cX3_begin 49 = .ok (.iinc 1 1, 3) := by decide +kernel
theorem dX3_begin_52 : decode cX3_begin 52 = .ok (.goto (-39), 3) := by decide +kernel
theorem dX3_begin_55 : decode cX3_begin 55 = .ok (.return_, 1) := by decide +kernel
theorem dX3_moveOrigin_0 : decode cX3_moveOrigin 0 = .ok (.aload_n 0, 1) := by decide +kernel
theorem dX3_moveOrigin_1 : decode cX3_moveOrigin 1 = .ok (.getfield 12, 3) := by decide +kernel
theorem dX3_moveOrigin_4 : decode cX3_moveOrigin 4 = .ok (.invokevirtual 92, 3) := by decide +kernel
theorem dX3_moveOrigin_7 : decode cX3_moveOrigin 7 = .ok (.aload_n 0, 1) := by decide +kernel
theorem dX3_moveOrigin_8 : decode cX3_moveOrigin 8 = .ok (.getfield 31, 3) := by decide +kernel
theorem dX3_moveOrigin_11 : decode cX3_moveOrigin 11 = .ok (.aload_n 0, 1) := by decide +kernel
theorem dX3_moveOrigin_12 : decode cX3_moveOrigin 12 = .ok (.getfield 12, 3) := by decide +kernel
theorem dX3_moveOrigin_15 : decode cX3_moveOrigin 15 = .ok (.iconst 0, 1) := by decide +kernel
theorem dX3_moveOrigin_16 : decode cX3_moveOrigin 16 = .ok (.invokevirtual 53, 3) := by decide +kernel
theorem dX3_moveOrigin_19 : decode cX3_moveOrigin 19 = .ok (.aload_n 0, 1) := by decide +kernel
theorem dX3_moveOrigin_20 : decode cX3_moveOrigin 20 = .ok (.getfield 74, 3) := by decide +kernel
theorem dX3_moveOrigin_23 : decode cX3_moveOrigin 23 = .ok (.aload_n 0, 1) := by decide +kernel
theorem dX3_moveOrigin_24 : decode cX3_moveOrigin 24 = .ok (.getfield 35, 3) := by decide +kernel
theorem dX3_moveOrigin_27 : decode cX3_moveOrigin 27 = .ok (.getfield 95, 3) := by decide +kernel
theorem dX3_moveOrigin_30 : decode cX3_moveOrigin 30 = .ok (.invokevirtual 98, 3) := by decide +kernel
theorem dX3_moveOrigin_33 : decode cX3_moveOrigin 33 = .ok (.ifCond .eq 25, 3) := by decide +kernel
theorem dX3_moveOrigin_36 : decode cX3_moveOrigin 36 = .ok (.aload_n 0, 1) := by decide +kernel
theorem dX3_moveOrigin_37 : decode cX3_moveOrigin 37 = .ok (.getfield 12, 3) := by decide +kernel
theorem dX3_moveOrigin_40 : decode cX3_moveOrigin 40 = .ok (.iconst 0, 1) := by decide +kernel
theorem dX3_moveOrigin_41 : decode cX3_moveOrigin 41 = .ok (.aload_n 0, 1) := by decide +kernel
theorem dX3_moveOrigin_42 : decode cX3_moveOrigin 42 = .ok (.getfield 74, 3) := by decide +kernel
theorem dX3_moveOrigin_45 : decode cX3_moveOrigin 45 = .ok (.invokevirtual 102, 3) := by decide +kernel
theorem dX3_moveOrigin_48 : decode cX3_moveOrigin 48 = .ok (.aload_n 0, 1) := by decide +kernel
theorem dX3_moveOrigin_49 : decode cX3_moveOrigin 49 = .ok (.dup, 1) := by decide +kernel
theorem dX3_moveOrigin_50 : decode cX3_moveOrigin 50 = .ok (.getfield 74, 3) := by decide +kernel
theorem dX3_moveOrigin_53 : decode cX3_moveOrigin 53 = .ok (.iconst 1, 1) := by decide +kernel
theorem dX3_moveOrigin_54 : decode cX3_moveOrigin 54 = .ok (.iadd, 1) := by decide +kernel
theorem dX3_moveOrigin_55 : decode cX3_moveOrigin 55 = .ok (.putfield 74, 3) := by decide +kernel
theorem dX3_moveOrigin_58 : decode cX3_moveOrigin 58 = .ok (.iconst 0, 1) := by decide +kernel
theorem dX3_moveOrigin_59 : decode cX3_moveOrigin 59 = .ok (.istore_n 1, 1) := by decide +kernel
theorem dX3_moveOrigin_60 : decode cX3_moveOrigin 60 = .ok (.iconst 0, 1) := by decide +kernel
theorem dX3_moveOrigin_61 : decode cX3_moveOrigin 61 = .ok (.istore_n 2, 1) := by decide +kernel
theorem dX3_moveOrigin_62 : decode cX3_moveOrigin 62 = .ok (.iload_n 2, 1) := by decide +kernel
theorem dX3_moveOrigin_63 : decode cX3_moveOrigin 63 = .ok (.bipush 6, 2) := by decide +kernel
theorem dX3_moveOrigin_65 : decode cX3_moveOrigin 65 = .ok (.if_icmp .ge 55, 3) := by decide +kernel
theorem dX3_moveOrigin_68 : decode cX3_moveOrigin 68 = .ok (.aload_n 0, 1) := by decide +kernel
theorem dX3_moveOrigin_69 : decode cX3_moveOrigin 69 = .ok (.getfield 31, 3) := by decide +kernel
theorem dX3_moveOrigin_72 : decode cX3_moveOrigin 72 = .ok (.iload_n 2, 1) := by decide +kernel
theorem dX3_moveOrigin_73 : decode cX3_moveOrigin 73 = .ok (.invokevirtual 77, 3) := by decide +kernel
theorem dX3_moveOrigin_76 : decode cX3_moveOrigin 76 = .ok (.astore_n 3, 1) := by decide +kernel
theorem dX3_moveOrigin_77 : decode cX3_moveOrigin 77 = .ok (.aload_n 3, 1) := by decide +kernel
theorem dX3_moveOrigin_78 : decode cX3_moveOrigin 78 = .ok (.ifnull 36, 3) := by decide +kernel
theorem dX3_moveOrigin_81 : decode cX3_moveOrigin 81 = .ok (.aload_n 0, 1) := by decide +kernel
theorem dX3_moveOrigin_82 : decode cX3_moveOrigin 82 = .ok (.iload_n 2, 1) := by decide +kernel
theorem dX3_moveOrigin_83 : decode cX3_moveOrigin 83 = .ok (.aload_n 0, 1) := by decide +kernel
theorem dX3_moveOrigin_84 : decode cX3_moveOrigin 84 = .ok (.getfield 12, 3) := by decide +kernel
theorem dX3_moveOrigin_87 : decode cX3_moveOrigin 87 = .ok (.aload_n 3, 1) := by decide +kernel
theorem dX3_moveOrigin_88 : decode cX3_moveOrigin 88 = .ok (.getfield 106, 3) := by decide +kernel
theorem dX3_moveOrigin_91 : decode cX3_moveOrigin 91 = .ok (.invokevirtual 53, 3) := by decide +kernel
theorem dX3_moveOrigin_94 : decode cX3_moveOrigin 94 = .ok (.invokevirtual 109, 3) := by decide +kernel
theorem dX3_moveOrigin_97 : decode cX3_moveOrigin 97 = .ok (.ifCond .eq 17, 3) := by decide +kernel
theorem dX3_moveOrigin_100 : decode cX3_moveOrigin 100 = .ok (.aload_n 0, 1) := by decide +kernel
theorem dX3_moveOrigin_101 : decode cX3_moveOrigin 101 = .ok (.getfield 12, 3) := by decide +kernel
theorem dX3_moveOrigin_104 : decode cX3_moveOrigin 104 = .ok (.aload_n 3, 1) := by decide +kernel
theorem dX3_moveOrigin_105 : decode cX3_moveOrigin 105 = .ok (.getfield 106, 3) := by decide +kernel
theorem dX3_moveOrigin_108 : decode cX3_moveOrigin 108 = .ok (.invokevirtual 113, 3) := by decide +kernel
theorem dX3_moveOrigin_111 : decode cX3_moveOrigin 111 = .ok (.iinc 1 1, 3) := by decide +kernel
theorem dX3_moveOrigin_114 : decode cX3_moveOrigin 114 = .ok (.iinc 2 1, 3) := by decide +kernel
theorem dX3_moveOrigin_117 : decode cX3_moveOrigin 117 = .ok (.goto (-55), 3) := by decide +kernel
theorem dX3_moveOrigin_120 : decode cX3_moveOrigin 120 = .ok (.aload_n 0, 1) := by decide +kernel
theorem dX3_moveOrigin_121 : decode cX3_moveOrigin 121 = .ok (.getfield 31, 3) := by decide +kernel
theorem dX3_moveOrigin_124 : decode cX3_moveOrigin 124 = .ok (.aload_n 0, 1) := by decide +kernel
theorem dX3_moveOrigin_125 : decode cX3_moveOrigin 125 = .ok (.getfield 12, 3) := by decide +kernel
theorem dX3_moveOrigin_128 : decode cX3_moveOrigin 128 = .ok (.aload_n 0, 1) := by decide +kernel
theorem dX3_moveOrigin_129 : decode cX3_moveOrigin 129 = .ok (.getfield 31, 3) := by decide +kernel
theorem dX3_moveOrigin_132 : decode cX3_moveOrigin 132 = .ok (.getfield 60, 3) := by decide +kernel
theorem dX3_moveOrigin_135 : decode cX3_moveOrigin 135 = .ok (.invokevirtual 53, 3) := by decide +kernel
theorem dX3_moveOrigin_138 : decode cX3_moveOrigin 138 = .ok (.aload_n 0, 1) := by decide +kernel
theorem dX3_moveOrigin_139 : decode cX3_moveOrigin 139 = .ok (.getfield 12, 3) := by decide +kernel
theorem dX3_moveOrigin_142 : decode cX3_moveOrigin 142 = .ok (.aload_n 0, 1) := by decide +kernel
theorem dX3_moveOrigin_143 : decode cX3_moveOrigin 143 = .ok (.getfield 31, 3) := by decide +kernel
theorem dX3_moveOrigin_146 : decode cX3_moveOrigin 146 = .ok (.getfield 60, 3) := by decide +kernel
theorem dX3_moveOrigin_149 : decode cX3_moveOrigin 149 = .ok (.invokevirtual 57, 3) := by decide +kernel
theorem dX3_moveOrigin_152 : decode cX3_moveOrigin 152 = .ok (.invokevirtual 117, 3) := by decide +kernel
theorem dX3_moveOrigin_155 : decode cX3_moveOrigin 155 = .ok (.ifCond .eq 20, 3) := by decide +kernel
theorem dX3_moveOrigin_158 : decode cX3_moveOrigin 158 = .ok (.aload_n 0, 1) := by decide +kernel
theorem dX3_moveOrigin_159 : decode cX3_moveOrigin 159 = .ok (.getfield 12, 3) := by decide +kernel
theorem dX3_moveOrigin_162 : decode cX3_moveOrigin 162 = .ok (.aload_n 0, 1) := by decide +kernel
theorem dX3_moveOrigin_163 : decode cX3_moveOrigin 163 = .ok (.getfield 31, 3) := by decide +kernel
theorem dX3_moveOrigin_166 : decode cX3_moveOrigin 166 = .ok (.getfield 60, 3) := by decide +kernel
theorem dX3_moveOrigin_169 : decode cX3_moveOrigin 169 = .ok (.invokevirtual 113, 3) := by decide +kernel
theorem dX3_moveOrigin_172 : decode cX3_moveOrigin 172 = .ok (.iinc 1 1, 3) := by decide +kernel
theorem dX3_moveOrigin_175 : decode cX3_moveOrigin 175 = .ok (.iload_n 1, 1) := by decide +kernel
theorem dX3_moveOrigin_176 : decode cX3_moveOrigin 176 = .ok (.ireturn, 1) := by decide +kernel
theorem dX3_moveTray_0 : decode cX3_moveTray 0 = .ok (.iload_n 1, 1) := by decide +kernel
theorem dX3_moveTray_1 : decode cX3_moveTray 1 = .ok (.ifCond .lt 9, 3) := by decide +kernel
theorem dX3_moveTray_4 : decode cX3_moveTray 4 = .ok (.iload_n 1, 1) := by decide +kernel
theorem dX3_moveTray_5 : decode cX3_moveTray 5 = .ok (.bipush 20, 2) := by decide +kernel
theorem dX3_moveTray_7 : decode cX3_moveTray 7 = .ok (.if_icmp .lt 5, 3) := by decide +kernel
theorem dX3_moveTray_10 : decode cX3_moveTray 10 = .ok (.iconst 0, 1) := by decide +kernel
theorem dX3_moveTray_11 : decode cX3_moveTray 11 = .ok (.ireturn, 1) := by decide +kernel
theorem dX3_moveTray_12 : decode cX3_moveTray 12 = .ok (.aload_n 0, 1) := by decide +kernel
theorem dX3_moveTray_13 : decode cX3_moveTray 13 = .ok (.getfield 18, 3) := by decide +kernel
theorem dX3_moveTray_16 : decode cX3_moveTray 16 = .ok (.iload_n 1, 1) := by decide +kernel
theorem dX3_moveTray_17 : decode cX3_moveTray 17 = .ok (.iaload, 1) := by decide +kernel
theorem dX3_moveTray_18 : decode cX3_moveTray 18 = .ok (.aload_n 0, 1) := by decide +kernel
theorem dX3_moveTray_19 : decode cX3_moveTray 19 = .ok (.getfield 31, 3) := by decide +kernel
theorem dX3_moveTray_22 : decode cX3_moveTray 22 = .ok (.getfield 60, 3) := by decide +kernel
theorem dX3_moveTray_25 : decode cX3_moveTray 25 = .ok (.if_icmp .ge 14, 3) := by decide +kernel
theorem dX3_moveTray_28 : decode cX3_moveTray 28 = .ok (.aload_n 0, 1) := by decide +kernel
theorem dX3_moveTray_29 : decode cX3_moveTray 29 = .ok (.getfield 18, 3) := by decide +kernel
theorem dX3_moveTray_32 : decode cX3_moveTray 32 = .ok (.iload_n 1, 1) := by decide +kernel
theorem dX3_moveTray_33 : decode cX3_moveTray 33 = .ok (.iaload, 1) := by decide +kernel
theorem dX3_moveTray_34 : decode cX3_moveTray 34 = .ok (.iconst 1, 1) := by decide +kernel
theorem dX3_moveTray_35 : decode cX3_moveTray 35 = .ok (.iadd, 1) := by decide +kernel
theorem dX3_moveTray_36 : decode cX3_moveTray 36 = .ok (.goto 4, 3) := by decide +kernel
theorem dX3_moveTray_39 : decode cX3_moveTray 39 = .ok (.iconst 0, 1) := by decide +kernel
theorem dX3_moveTray_40 : decode cX3_moveTray 40 = .ok (.istore_n 2, 1) := by decide +kernel
theorem dX3_moveTray_41 : decode cX3_moveTray 41 = .ok (.aload_n 0, 1) := by decide +kernel
theorem dX3_moveTray_42 : decode cX3_moveTray 42 = .ok (.getfield 18, 3) := by decide +kernel
theorem dX3_moveTray_45 : decode cX3_moveTray 45 = .ok (.iload_n 1, 1) := by decide +kernel
theorem dX3_moveTray_46 : decode cX3_moveTray 46 = .ok (.iload_n 2, 1) := by decide +kernel
theorem dX3_moveTray_47 : decode cX3_moveTray 47 = .ok (.iastore, 1) := by decide +kernel
theorem dX3_moveTray_48 : decode cX3_moveTray 48 = .ok (.iload_n 2, 1) := by decide +kernel
theorem dX3_moveTray_49 : decode cX3_moveTray 49 = .ok (.ifCond .ne 20, 3) := by decide +kernel
theorem dX3_moveTray_52 : decode cX3_moveTray 52 = .ok (.aload_n 0, 1) := by decide +kernel
theorem dX3_moveTray_53 : decode cX3_moveTray 53 = .ok (.getfield 25, 3) := by decide +kernel
theorem dX3_moveTray_56 : decode cX3_moveTray 56 = .ok (.iload_n 1, 1) := by decide +kernel
theorem dX3_moveTray_57 : decode cX3_moveTray 57 = .ok (.dup2, 1) := by decide +kernel
theorem dX3_moveTray_58 : decode cX3_moveTray 58 = .ok (.iaload, 1) := by decide +kernel
theorem dX3_moveTray_59 : decode cX3_moveTray 59 = .ok (.iconst 1, 1) := by decide +kernel
theorem dX3_moveTray_60 : decode cX3_moveTray 60 = .ok (.iadd, 1) := by decide +kernel
theorem dX3_moveTray_61 : decode cX3_moveTray 61 = .ok (.iastore, 1) := by decide +kernel
theorem dX3_moveTray_62 : decode cX3_moveTray 62 = .ok (.aload_n 0, 1) := by decide +kernel
theorem dX3_moveTray_63 : decode cX3_moveTray 63 = .ok (.iload_n 1, 1) := by decide +kernel
theorem dX3_moveTray_64 : decode cX3_moveTray 64 = .ok (.invokevirtual 120, 3) := by decide +kernel
theorem dX3_moveTray_67 : decode cX3_moveTray 67 = .ok (.iconst 0, 1) := by decide +kernel
theorem dX3_moveTray_68 : decode cX3_moveTray 68 = .ok (.ireturn, 1) := by decide +kernel
theorem dX3_moveTray_69 : decode cX3_moveTray 69 = .ok (.iload_n 2, 1) := by decide +kernel
theorem dX3_moveTray_70 : decode cX3_moveTray 70 = .ok (.aload_n 0, 1) := by decide +kernel
theorem dX3_moveTray_71 : decode cX3_moveTray 71 = .ok (.getfield 31, 3) := by decide +kernel
theorem dX3_moveTray_74 : decode cX3_moveTray 74 = .ok (.getfield 60, 3) := by decide +kernel
theorem dX3_moveTray_77 : decode cX3_moveTray 77 = .ok (.if_icmp .ne 25, 3) := by decide +kernel
theorem dX3_moveTray_80 : decode cX3_moveTray 80 = .ok (.aload_n 0, 1) := by decide +kernel
theorem dX3_moveTray_81 : decode cX3_moveTray 81 = .ok (.getfield 31, 3) := by decide +kernel
theorem dX3_moveTray_84 : decode cX3_moveTray 84 = .ok (.aload_n 0, 1) := by decide +kernel
theorem dX3_moveTray_85 : decode cX3_moveTray 85 = .ok (.getfield 22, 3) := by decide +kernel
theorem dX3_moveTray_88 : decode cX3_moveTray 88 = .ok (.iload_n 1, 1) := by decide +kernel
theorem dX3_moveTray_89 : decode cX3_moveTray 89 = .ok (.iaload, 1) := by decide +kernel
theorem dX3_moveTray_90 : decode cX3_moveTray 90 = .ok (.aload_n 0, 1) := by decide +kernel
theorem dX3_moveTray_91 : decode cX3_moveTray 91 = .ok (.getfield 25, 3) := by decide +kernel
theorem dX3_moveTray_94 : decode cX3_moveTray 94 = .ok (.iload_n 1, 1) := by decide +kernel
theorem dX3_moveTray_95 : decode cX3_moveTray 95 = .ok (.iaload, 1) := by decide +kernel
theorem dX3_moveTray_96 : decode cX3_moveTray 96 = .ok (.invokevirtual 117, 3) := by decide +kernel
theorem dX3_moveTray_99 : decode cX3_moveTray 99 = .ok (.goto 21, 3) := by decide +kernel
theorem dX3_moveTray_102 : decode cX3_moveTray 102 = .ok (.aload_n 0, 1) := by decide +kernel
theorem dX3_moveTray_103 : decode cX3_moveTray 103 = .ok (.aload_n 0, 1) := by decide +kernel
theorem dX3_moveTray_104 : decode cX3_moveTray 104 = .ok (.getfield 31, 3) := by decide +kernel
theorem dX3_moveTray_107 : decode cX3_moveTray 107 = .ok (.iload_n 2, 1) := by decide +kernel
theorem dX3_moveTray_108 : decode cX3_moveTray 108 = .ok (.invokevirtual 123, 3) := by decide +kernel
theorem dX3_moveTray_111 : decode cX3_moveTray 111 = .ok (.aload_n 0, 1) := by decide +kernel
theorem dX3_moveTray_112 : decode cX3_moveTray 112 = .ok (.getfield 22, 3) := by decide +kernel
theorem dX3_moveTray_115 : decode cX3_moveTray 115 = .ok (.iload_n 1, 1) := by decide +kernel
theorem dX3_moveTray_116 : decode cX3_moveTray 116 = .ok (.iaload, 1) := by decide +kernel
theorem dX3_moveTray_117 : decode cX3_moveTray 117 = .ok (.invokevirtual 109, 3) := by decide +kernel
theorem dX3_moveTray_120 : decode cX3_moveTray 120 = .ok (.istore_n 3, 1) := by decide +kernel
theorem dX3_moveTray_121 : decode cX3_moveTray 121 = .ok (.iload_n 3, 1) := by decide +kernel
theorem dX3_moveTray_122 : decode cX3_moveTray 122 = .ok (.ifCond .ne 5, 3) := by decide +kernel
theorem dX3_moveTray_125 : decode cX3_moveTray 125 = .ok (.iconst 0, 1) := by decide +kernel
theorem dX3_moveTray_126 : decode cX3_moveTray 126 = .ok (.ireturn, 1) := by decide +kernel
theorem dX3_moveTray_127 : decode cX3_moveTray 127 = .ok (.aload_n 0, 1) := by decide +kernel
theorem dX3_moveTray_128 : decode cX3_moveTray 128 = .ok (.getfield 22, 3) := by decide +kernel
theorem dX3_moveTray_131 : decode cX3_moveTray 131 = .ok (.iload_n 1, 1) := by decide +kernel
theorem dX3_moveTray_132 : decode cX3_moveTray 132 = .ok (.iconst (-1), 1) := by decide +kernel
theorem dX3_moveTray_133 : decode cX3_moveTray 133 = .ok (.iastore, 1) := by decide +kernel
theorem dX3_moveTray_134 : decode cX3_moveTray 134 = .ok (.iconst 1, 1) := by decide +kernel
theorem dX3_moveTray_135 : decode cX3_moveTray 135 = .ok (.ireturn, 1) := by decide +kernel
theorem dX3_loadTray_0 : decode cX3_loadTray 0 = .ok (.iload_n 1, 1) := by decide +kernel
theorem dX3_loadTray_1 : decode cX3_loadTray 1 = .ok (.ifCond .lt 9, 3) := by decide +kernel
theorem dX3_loadTray_4 : decode cX3_loadTray 4 = .ok (.iload_n 1, 1) := by decide +kernel
theorem dX3_loadTray_5 : decode cX3_loadTray 5 = .ok (.bipush 20, 2) := by decide +kernel
theorem dX3_loadTray_7 : decode cX3_loadTray 7 = .ok (.if_icmp .lt 4, 3) := by decide +kernel
theorem dX3_loadTray_10 : decode cX3_loadTray 10 = .ok (.return_, 1) := by decide +kernel
theorem dX3_loadTray_11 : decode cX3_loadTray 11 = .ok (.aload_n 0, 1) := by decide +kernel
theorem dX3_loadTray_12 : decode cX3_loadTray 12 = .ok (.getfield 31, 3) := by decide +kernel
theorem dX3_loadTray_15 : decode cX3_loadTray 15 = .ok (.aload_n 0, 1) := by decide +kernel
theorem dX3_loadTray_16 : decode cX3_loadTray 16 = .ok (.getfield 22, 3) := by decide +kernel
theorem dX3_loadTray_19 : decode cX3_loadTray 19 = .ok (.iload_n 1, 1) := by decide +kernel
theorem dX3_loadTray_20 : decode cX3_loadTray 20 = .ok (.iaload, 1) := by decide +kernel
theorem dX3_loadTray_21 : decode cX3_loadTray 21 = .ok (.aload_n 0, 1) := by decide +kernel
theorem dX3_loadTray_22 : decode cX3_loadTray 22 = .ok (.getfield 74, 3) := by decide +kernel
theorem dX3_loadTray_25 : decode cX3_loadTray 25 = .ok (.aload_n 0, 1) := by decide +kernel
theorem dX3_loadTray_26 : decode cX3_loadTray 26 = .ok (.getfield 35, 3) := by decide +kernel
theorem dX3_loadTray_29 : decode cX3_loadTray 29 = .ok (.getfield 95, 3) := by decide +kernel
theorem dX3_loadTray_32 : decode cX3_loadTray 32 = .ok (.invokevirtual 98, 3) := by decide +kernel
theorem dX3_loadTray_35 : decode cX3_loadTray 35 = .ok (.ifCond .eq 30, 3) := by decide +kernel
theorem dX3_loadTray_38 : decode cX3_loadTray 38 = .ok (.aload_n 0, 1) := by decide +kernel
theorem dX3_loadTray_39 : decode cX3_loadTray 39 = .ok (.getfield 22, 3) := by decide +kernel
theorem dX3_loadTray_42 : decode cX3_loadTray 42 = .ok (.iload_n 1, 1) := by decide +kernel
theorem dX3_loadTray_43 : decode cX3_loadTray 43 = .ok (.aload_n 0, 1) := by decide +kernel
theorem dX3_loadTray_44 : decode cX3_loadTray 44 = .ok (.getfield 74, 3) := by decide +kernel
theorem dX3_loadTray_47 : decode cX3_loadTray 47 = .ok (.iastore, 1) := by decide +kernel
theorem dX3_loadTray_48 : decode cX3_loadTray 48 = .ok (.aload_n 0, 1) := by decide +kernel
theorem dX3_loadTray_49 : decode cX3_loadTray 49 = .ok (.getfield 25, 3) := by decide +kernel
theorem dX3_loadTray_52 : decode cX3_loadTray 52 = .ok (.iload_n 1, 1) := by decide +kernel
theorem dX3_loadTray_53 : decode cX3_loadTray 53 = .ok (.iconst 0, 1) := by decide +kernel
theorem dX3_loadTray_54 : decode cX3_loadTray 54 = .ok (.iastore, 1) := by decide +kernel
theorem dX3_loadTray_55 : decode cX3_loadTray 55 = .ok (.aload_n 0, 1) := by decide +kernel
theorem dX3_loadTray_56 : decode cX3_loadTray 56 = .ok (.dup, 1) := by decide +kernel
theorem dX3_loadTray_57 : decode cX3_loadTray 57 = .ok (.getfield 74, 3) := by decide +kernel
theorem dX3_loadTray_60 : decode cX3_loadTray 60 = .ok (.iconst 1, 1) := by decide +kernel
theorem dX3_loadTray_61 : decode cX3_loadTray 61 = .ok (.iadd, 1) := by decide +kernel
theorem dX3_loadTray_62 : decode cX3_loadTray 62 = .ok (.putfield 74, 3) := by decide +kernel
theorem dX3_loadTray_65 : decode cX3_loadTray 65 = .ok (.return_, 1) := by decide +kernel
theorem dX3_chuteGets_0 : decode cX3_chuteGets 0 = .ok (.iload_n 1, 1) := by decide +kernel
theorem dX3_chuteGets_1 : decode cX3_chuteGets 1 = .ok (.ifCond .lt 9, 3) := by decide +kernel
theorem dX3_chuteGets_4 : decode cX3_chuteGets 4 = .ok (.iload_n 1, 1) := by decide +kernel
theorem dX3_chuteGets_5 : decode cX3_chuteGets 5 = .ok (.bipush 6, 2) := by decide +kernel
theorem dX3_chuteGets_7 : decode cX3_chuteGets 7 = .ok (.if_icmp .lt 5, 3) := by decide +kernel
theorem dX3_chuteGets_10 : decode cX3_chuteGets 10 = .ok (.iconst 0, 1) := by decide +kernel
theorem dX3_chuteGets_11 : decode cX3_chuteGets 11 = .ok (.ireturn, 1) := by decide +kernel
theorem dX3_chuteGets_12 : decode cX3_chuteGets 12 = .ok (.aload_n 0, 1) := by decide +kernel
theorem dX3_chuteGets_13 : decode cX3_chuteGets 13 = .ok (.getfield 31, 3) := by decide +kernel
theorem dX3_chuteGets_16 : decode cX3_chuteGets 16 = .ok (.iload_n 1, 1) := by decide +kernel
theorem dX3_chuteGets_17 : decode cX3_chuteGets 17 = .ok (.aload_n 0, 1) := by decide +kernel
theorem dX3_chuteGets_18 : decode cX3_chuteGets 18 = .ok (.getfield 35, 3) := by decide +kernel
theorem dX3_chuteGets_21 : decode cX3_chuteGets 21 = .ok (.iload_n 2, 1) := by decide +kernel
theorem dX3_chuteGets_22 : decode cX3_chuteGets 22 = .ok (.invokevirtual 126, 3) := by decide +kernel
theorem dX3_chuteGets_25 : decode cX3_chuteGets 25 = .ok (.aload_n 0, 1) := by decide +kernel
theorem dX3_chuteGets_26 : decode cX3_chuteGets 26 = .ok (.getfield 28, 3) := by decide +kernel
theorem dX3_chuteGets_29 : decode cX3_chuteGets 29 = .ok (.iload_n 1, 1) := by decide +kernel
theorem dX3_chuteGets_30 : decode cX3_chuteGets 30 = .ok (.iaload, 1) := by decide +kernel
theorem dX3_chuteGets_31 : decode cX3_chuteGets 31 = .ok (.invokevirtual 129, 3) := by decide +kernel
theorem dX3_chuteGets_34 : decode cX3_chuteGets 34 = .ok (.ifCond .ne 5, 3) := by decide +kernel
theorem dX3_chuteGets_37 : decode cX3_chuteGets 37 = .ok (.iconst 0, 1) := by decide +kernel
theorem dX3_chuteGets_38 : decode cX3_chuteGets 38 = .ok (.ireturn, 1) := by decide +kernel
theorem dX3_chuteGets_39 : decode cX3_chuteGets 39 = .ok (.aload_n 0, 1) := by decide +kernel
theorem dX3_chuteGets_40 : decode cX3_chuteGets 40 = .ok (.getfield 28, 3) := by decide +kernel
theorem dX3_chuteGets_43 : decode cX3_chuteGets 43 = .ok (.iload_n 1, 1) := by decide +kernel
theorem dX3_chuteGets_44 : decode cX3_chuteGets 44 = .ok (.dup2, 1) := by decide +kernel
theorem dX3_chuteGets_45 : decode cX3_chuteGets 45 = .ok (.iaload, 1) := by decide +kernel
theorem dX3_chuteGets_46 : decode cX3_chuteGets 46 = .ok (.iconst 1, 1) := by decide +kernel
theorem dX3_chuteGets_47 : decode cX3_chuteGets 47 = .ok (.iadd, 1) := by decide +kernel
theorem dX3_chuteGets_48 : decode cX3_chuteGets 48 = .ok (.iastore, 1) := by decide +kernel
theorem dX3_chuteGets_49 : decode cX3_chuteGets 49 = .ok (.iconst 1, 1) := by decide +kernel
theorem dX3_chuteGets_50 : decode cX3_chuteGets 50 = .ok (.ireturn, 1) := by decide +kernel
theorem dX4_init_0 : decode cX4_init 0 = .ok (.aload_n 0, 1) := by decide +kernel
theorem dX4_init_1 : decode cX4_init 1 = .ok (.invokespecial 3, 3) := by decide +kernel
theorem dX4_init_4 : decode cX4_init 4 = .ok (.aload_n 0, 1) := by decide +kernel
theorem dX4_init_5 : decode cX4_init 5 = .ok (.sipush 300, 3) := by decide +kernel
theorem dX4_init_8 : decode cX4_init 8 = .ok (.newarray .int, 2) := by decide +kernel
theorem dX4_init_10 : decode cX4_init 10 = .ok (.putfield 9, 3) := by decide +kernel
theorem dX4_init_13 : decode cX4_init 13 = .ok (.aload_n 0, 1) := by decide +kernel
theorem dX4_init_14 : decode cX4_init 14 = .ok (.sipush 300, 3) := by decide +kernel
theorem dX4_init_17 : decode cX4_init 17 = .ok (.newarray .int, 2) := by decide +kernel
theorem dX4_init_19 : decode cX4_init 19 = .ok (.putfield 15, 3) := by decide +kernel
theorem dX4_init_22 : decode cX4_init 22 = .ok (.aload_n 0, 1) := by decide +kernel
theorem dX4_init_23 : decode cX4_init 23 = .ok (.sipush 300, 3) := by decide +kernel
theorem dX4_init_26 : decode cX4_init 26 = .ok (.newarray .char, 2) := by decide +kernel
theorem dX4_init_28 : decode cX4_init 28 = .ok (.putfield 18, 3) := by decide +kernel
theorem dX4_init_31 : decode cX4_init 31 = .ok (.aload_n 0, 1) := by decide +kernel
theorem dX4_init_32 : decode cX4_init 32 = .ok (.sipush 300, 3) := by decide +kernel
theorem dX4_init_35 : decode cX4_init 35 = .ok (.newarray .int, 2) := by decide +kernel
theorem dX4_init_37 : decode cX4_init 37 = .ok (.putfield 22, 3) := by decide +kernel
theorem dX4_init_40 : decode cX4_init 40 = .ok (.aload_n 0, 1) := by decide +kernel
theorem dX4_init_41 : decode cX4_init 41 = .ok (.sipush 300, 3) := by decide +kernel
theorem dX4_init_44 : decode cX4_init 44 = .ok (.newarray .int, 2) := by decide +kernel
theorem dX4_init_46 : decode cX4_init 46 = .ok (.putfield 25, 3) := by decide +kernel
theorem dX4_init_49 : decode cX4_init 49 = .ok (.return_, 1) := by decide +kernel
theorem dX4_has_0 : decode cX4_has 0 = .ok (.iload_n 1, 1) := by decide +kernel
theorem dX4_has_1 : decode cX4_has 1 = .ok (.ifCond .lt 22, 3) := by decide +kernel
theorem dX4_has_4 : decode cX4_has 4 = .ok (.iload_n 1, 1) := by decide +kernel
theorem dX4_has_5 : decode cX4_has 5 = .ok (.aload_n 0, 1) := by decide +kernel
theorem dX4_has_6 : decode cX4_has 6 = .ok (.getfield 28, 3) := by decide +kernel
theorem dX4_has_9 : decode cX4_has 9 = .ok (.if_icmp .ge 14, 3) := by decide +kernel
theorem dX4_has_12 : decode cX4_has 12 = .ok (.iload_n 1, 1) := by decide +kernel
theorem dX4_has_13 : decode cX4_has 13 = .ok (.sipush 300, 3) := by decide +kernel
theorem dX4_has_16 : decode cX4_has 16 = .ok (.if_icmp .ge 7, 3) := by decide +kernel
theorem dX4_has_19 : decode cX4_has 19 = .ok (.iconst 1, 1) := by decide +kernel
theorem dX4_has_20 : decode cX4_has 20 = .ok (.goto 4, 3) := by decide +kernel
theorem dX4_has_23 : decode cX4_has 23 = .ok (.iconst 0, 1) := by decide +kernel
theorem dX4_has_24 : decode cX4_has 24 = .ok (.ireturn, 1) := by decide +kernel
theorem dX4_add_0 : decode cX4_add 0 = .ok (.aload_n 0, 1) := by decide +kernel
theorem dX4_add_1 : decode cX4_add 1 = .ok (.getfield 28, 3) := by decide +kernel
theorem dX4_add_4 : decode cX4_add 4 = .ok (.istore_n 3, 1) := by decide +kernel
theorem dX4_add_5 : decode cX4_add 5 = .ok (.iload_n 3, 1) := by decide +kernel
theorem dX4_add_6 : decode cX4_add 6 = .ok (.ifCond .lt 10, 3) := by decide +kernel
theorem dX4_add_9 : decode cX4_add 9 = .ok (.iload_n 3, 1) := by decide +kernel
theorem dX4_add_10 : decode cX4_add 10 = .ok (.sipush 300, 3) := by decide +kernel
theorem dX4_add_13 : decode cX4_add 13 = .ok (.if_icmp .lt 5, 3) := by decide +kernel
theorem dX4_add_16 : decode cX4_add 16 = .ok (.iconst (-1), 1) := by decide +kernel
theorem dX4_add_17 : decode cX4_add 17 = .ok (.ireturn, 1) := by decide +kernel
theorem dX4_add_18 : decode cX4_add 18 = .ok (.aload_n 0, 1) := by decide +kernel
theorem dX4_add_19 : decode cX4_add 19 = .ok (.getfield 9, 3) := by decide +kernel
theorem dX4_add_22 : decode cX4_add 22 = .ok (.iload_n 3, 1) := by decide +kernel
theorem dX4_add_23 : decode cX4_add 23 = .ok (.iload_n 1, 1) := by decide +kernel
theorem dX4_add_24 : decode cX4_add 24 = .ok (.iastore, 1) := by decide +kernel
theorem dX4_add_25 : decode cX4_add 25 = .ok (.aload_n 0, 1) := by decide +kernel
theorem dX4_add_26 : decode cX4_add 26 = .ok (.getfield 15, 3) := by decide +kernel
theorem dX4_add_29 : decode cX4_add 29 = .ok (.iload_n 3, 1) := by decide +kernel
theorem dX4_add_30 : decode cX4_add 30 = .ok (.iload_n 2, 1) := by decide +kernel
theorem dX4_add_31 : decode cX4_add 31 = .ok (.iastore, 1) := by decide +kernel
theorem dX4_add_32 : decode cX4_add 32 = .ok (.aload_n 0, 1) := by decide +kernel
theorem dX4_add_33 : decode cX4_add 33 = .ok (.getfield 18, 3) := by decide +kernel
theorem dX4_add_36 : decode cX4_add 36 = .ok (.iload_n 3, 1) := by decide +kernel
theorem dX4_add_37 : decode cX4_add 37 = .ok (.bipush 119, 2) := by decide +kernel
theorem dX4_add_39 : decode cX4_add 39 = .ok (.castore, 1) := by decide +kernel
theorem dX4_add_40 : decode cX4_add 40 = .ok (.aload_n 0, 1) := by decide +kernel
theorem dX4_add_41 : decode cX4_add 41 = .ok (.dup, 1) := by decide +kernel
theorem dX4_add_42 : decode cX4_add 42 = .ok (.getfield 28, 3) := by decide +kernel
theorem dX4_add_45 : decode cX4_add 45 = .ok (.iconst 1, 1) := by decide +kernel
theorem dX4_add_46 : decode cX4_add 46 = .ok (.iadd, 1) := by decide +kernel
theorem dX4_add_47 : decode cX4_add 47 = .ok (.putfield 28, 3) := by decide +kernel
theorem dX4_add_50 : decode cX4_add 50 = .ok (.iload_n 3, 1) := by decide +kernel
theorem dX4_add_51 : decode cX4_add 51 = .ok (.ireturn, 1) := by decide +kernel
theorem dX4_loadFirst_0 : decode cX4_loadFirst 0 = .ok (.aload_n 0, 1) := by decide +kernel
theorem dX4_loadFirst_1 : decode cX4_loadFirst 1 = .ok (.getfield 32, 3) := by decide +kernel
theorem dX4_loadFirst_4 : decode cX4_loadFirst 4 = .ok (.istore_n 1, 1) := by decide +kernel
theorem dX4_loadFirst_5 : decode cX4_loadFirst 5 = .ok (.aload_n 0, 1) := by decide +kernel
theorem dX4_loadFirst_6 : decode cX4_loadFirst 6 = .ok (.iload_n 1, 1) := by decide +kernel
theorem dX4_loadFirst_7 : decode cX4_loadFirst 7 = .ok (.invokevirtual 35, 3) := by decide +kernel
theorem dX4_loadFirst_10 : decode cX4_loadFirst 10 = .ok (.ifCond .ne 5, 3) := by decide +kernel
theorem dX4_loadFirst_13 : decode cX4_loadFirst 13 = .ok (.iconst (-1), 1) := by decide +kernel
theorem dX4_loadFirst_14 : decode cX4_loadFirst 14 = .ok (.ireturn, 1) := by decide +kernel
theorem dX4_loadFirst_15 : decode cX4_loadFirst 15 = .ok (.aload_n 0, 1) := by decide +kernel
theorem dX4_loadFirst_16 : decode cX4_loadFirst 16 = .ok (.getfield 18, 3) := by decide +kernel
theorem dX4_loadFirst_19 : decode cX4_loadFirst 19 = .ok (.iload_n 1, 1) := by decide +kernel
theorem dX4_loadFirst_20 : decode cX4_loadFirst 20 = .ok (.bipush 108, 2) := by decide +kernel
theorem dX4_loadFirst_22 : decode cX4_loadFirst 22 = .ok (.castore, 1) := by decide +kernel
theorem dX4_loadFirst_23 : decode cX4_loadFirst 23 = .ok (.aload_n 0, 1) := by decide +kernel
theorem dX4_loadFirst_24 : decode cX4_loadFirst 24 = .ok (.dup, 1) := by decide +kernel
theorem dX4_loadFirst_25 : decode cX4_loadFirst 25 = .ok (.getfield 32, 3) := by decide +kernel
theorem dX4_loadFirst_28 : decode cX4_loadFirst 28 = .ok (.iconst 1, 1) := by decide +kernel
theorem dX4_loadFirst_29 : decode cX4_loadFirst 29 = .ok (.iadd, 1) := by decide +kernel
theorem dX4_loadFirst_30 : decode cX4_loadFirst 30 = .ok (.putfield 32, 3) := by decide +kernel
theorem dX4_loadFirst_33 : decode cX4_loadFirst 33 = .ok (.iload_n 1, 1) := by decide +kernel
theorem dX4_loadFirst_34 : decode cX4_loadFirst 34 = .ok (.ireturn, 1) := by decide +kernel
theorem dX4_leave_0 : decode cX4_leave 0 = .ok (.aload_n 0, 1) := by decide +kernel
theorem dX4_leave_1 : decode cX4_leave 1 = .ok (.iload_n 1, 1) := by decide +kernel
theorem dX4_leave_2 : decode cX4_leave 2 = .ok (.invokevirtual 35, 3) := by decide +kernel
theorem dX4_leave_5 : decode cX4_leave 5 = .ok (.ifCond .eq 38, 3) := by decide +kernel
theorem dX4_leave_8 : decode cX4_leave 8 = .ok (.aload_n 0, 1) := by decide +kernel
theorem dX4_leave_9 : decode cX4_leave 9 = .ok (.getfield 18, 3) := by decide +kernel
theorem dX4_leave_12 : decode cX4_leave 12 = .ok (.iload_n 1, 1) := by decide +kernel
theorem dX4_leave_13 : decode cX4_leave 13 = .ok (.iload_n 2, 1) := by decide +kernel
theorem dX4_leave_14 : decode cX4_leave 14 = .ok (.castore, 1) := by decide +kernel
theorem dX4_leave_15 : decode cX4_leave 15 = .ok (.aload_n 0, 1) := by decide +kernel
theorem dX4_leave_16 : decode cX4_leave 16 = .ok (.getfield 22, 3) := by decide +kernel
theorem dX4_leave_19 : decode cX4_leave 19 = .ok (.iload_n 1, 1) := by decide +kernel
theorem dX4_leave_20 : decode cX4_leave 20 = .ok (.iload_n 3, 1) := by decide +kernel
theorem dX4_leave_21 : decode cX4_leave 21 = .ok (.iastore, 1) := by decide +kernel
theorem dX4_leave_22 : decode cX4_leave 22 = .ok (.aload_n 0, 1) := by decide +kernel
theorem dX4_leave_23 : decode cX4_leave 23 = .ok (.dup, 1) := by decide +kernel
theorem dX4_leave_24 : decode cX4_leave 24 = .ok (.getfield 39, 3) := by decide +kernel
theorem dX4_leave_27 : decode cX4_leave 27 = .ok (.iconst 1, 1) := by decide +kernel
theorem dX4_leave_28 : decode cX4_leave 28 = .ok (.iadd, 1) := by decide +kernel
theorem dX4_leave_29 : decode cX4_leave 29 = .ok (.putfield 39, 3) := by decide +kernel
theorem dX4_leave_32 : decode cX4_leave 32 = .ok (.aload_n 0, 1) := by decide +kernel
theorem dX4_leave_33 : decode cX4_leave 33 = .ok (.dup, 1) := by decide +kernel
theorem dX4_leave_34 : decode cX4_leave 34 = .ok (.getfield 42, 3) := by decide +kernel
theorem dX4_leave_37 : decode cX4_leave 37 = .ok (.iload_n 3, 1) := by decide +kernel
theorem dX4_leave_38 : decode cX4_leave 38 = .ok (.i2l, 1) := by decide +kernel
theorem dX4_leave_39 : decode cX4_leave 39 = .ok (.ladd, 1) := by decide +kernel
theorem dX4_leave_40 : decode cX4_leave 40 = .ok (.putfield 42, 3) := by decide +kernel
theorem dX4_leave_43 : decode cX4_leave 43 = .ok (.return_, 1) := by decide +kernel
theorem dX4_enterTruck_0 : decode cX4_enterTruck 0 = .ok (.aload_n 0, 1) := by decide +kernel
theorem dX4_enterTruck_1 : decode cX4_enterTruck 1 = .ok (.iload_n 1, 1) := by decide +kernel
theorem dX4_enterTruck_2 : decode cX4_enterTruck 2 = .ok (.invokevirtual 35, 3) := by decide +kernel
theorem dX4_enterTruck_5 : decode cX4_enterTruck 5 = .ok (.ifCond .eq 34, 3) := by decide +kernel
theorem dX4_enterTruck_8 : decode cX4_enterTruck 8 = .ok (.aload_n 0, 1) := by decide +kernel
theorem dX4_enterTruck_9 : decode cX4_enterTruck 9 = .ok (.getfield 18, 3) := by decide +kernel
theorem dX4_enterTruck_12 : decode cX4_enterTruck 12 = .ok (.iload_n 1, 1) := by decide +kernel
theorem dX4_enterTruck_13 : decode cX4_enterTruck 13 = .ok (.bipush 116, 2) := by decide +kernel
theorem dX4_enterTruck_15 : decode cX4_enterTruck 15 = .ok (.castore, 1) := by decide +kernel
theorem dX4_enterTruck_16 : decode cX4_enterTruck 16 = .ok (.aload_n 0, 1) := by decide +kernel
theorem dX4_enterTruck_17 : decode cX4_enterTruck 17 = .ok (.getfield 25, 3) := by decide +kernel
theorem dX4_enterTruck_20 : decode cX4_enterTruck 20 = .ok (.iload_n 1, 1) := by decide +kernel
theorem dX4_enterTruck_21 : decode cX4_enterTruck 21 = .ok (.iload_n 2, 1) := by decide +kernel
theorem dX4_enterTruck_22 : decode cX4_enterTruck 22 = .ok (.iastore, 1) := by decide +kernel
theorem dX4_enterTruck_23 : decode cX4_enterTruck 23 = .ok (.aload_n 0, 1) := by decide +kernel
theorem dX4_enterTruck_24 : decode cX4_enterTruck 24 = .ok (.dup, 1) := by decide +kernel
theorem dX4_enterTruck_25 : decode cX4_enterTruck 25 = .ok (.getfield 46, 3) := by decide +kernel
theorem dX4_enterTruck_28 : decode cX4_enterTruck 28 = .ok (.aload_n 0, 1) := by decide +kernel
theorem dX4_enterTruck_29 : decode cX4_enterTruck 29 = .ok (.getfield 15, 3) := by decide +kernel
theorem dX4_enterTruck_32 : decode cX4_enterTruck 32 = .ok (.iload_n 1, 1) := by decide +kernel
theorem dX4_enterTruck_33 : decode cX4_enterTruck 33 = .ok (.iaload, 1) := by decide +kernel
theorem dX4_enterTruck_34 : decode cX4_enterTruck 34 = .ok (.i2l, 1) := by decide +kernel
theorem dX4_enterTruck_35 : decode cX4_enterTruck 35 = .ok (.ladd, 1) := by decide +kernel
theorem dX4_enterTruck_36 : decode cX4_enterTruck 36 = .ok (.putfield 46, 3) := by decide +kernel
theorem dX4_enterTruck_39 : decode cX4_enterTruck 39 = .ok (.return_, 1) := by decide +kernel
theorem dX4_routeAt_0 : decode cX4_routeAt 0 = .ok (.aload_n 0, 1) := by decide +kernel
theorem dX4_routeAt_1 : decode cX4_routeAt 1 = .ok (.iload_n 1, 1) := by decide +kernel
theorem dX4_routeAt_2 : decode cX4_routeAt 2 = .ok (.invokevirtual 35, 3) := by decide +kernel
theorem dX4_routeAt_5 : decode cX4_routeAt 5 = .ok (.ifCond .eq 12, 3) := by decide +kernel
theorem dX4_routeAt_8 : decode cX4_routeAt 8 = .ok (.aload_n 0, 1) := by decide +kernel
theorem dX4_routeAt_9 : decode cX4_routeAt 9 = .ok (.getfield 9, 3) := by decide +kernel
theorem dX4_routeAt_12 : decode cX4_routeAt 12 = .ok (.iload_n 1, 1) := by decide +kernel
theorem dX4_routeAt_13 : decode cX4_routeAt 13 = .ok (.iaload, 1) := by decide +kernel
theorem dX4_routeAt_14 : decode cX4_routeAt 14 = .ok (.goto 4, 3) := by decide +kernel
theorem dX4_routeAt_17 : decode cX4_routeAt 17 = .ok (.iconst (-1), 1) := by decide +kernel
theorem dX4_routeAt_18 : decode cX4_routeAt 18 = .ok (.ireturn, 1) := by decide +kernel
theorem dX4_stateAt_0 : decode cX4_stateAt 0 = .ok (.aload_n 0, 1) := by decide +kernel
theorem dX4_stateAt_1 : decode cX4_stateAt 1 = .ok (.iload_n 1, 1) := by decide +kernel
theorem dX4_stateAt_2 : decode cX4_stateAt 2 = .ok (.invokevirtual 35, 3) := by decide +kernel
theorem dX4_stateAt_5 : decode cX4_stateAt 5 = .ok (.ifCond .eq 12, 3) := by decide +kernel
theorem dX4_stateAt_8 : decode cX4_stateAt 8 = .ok (.aload_n 0, 1) := by decide +kernel
theorem dX4_stateAt_9 : decode cX4_stateAt 9 = .ok (.getfield 18, 3) := by decide +kernel
theorem dX4_stateAt_12 : decode cX4_stateAt 12 = .ok (.iload_n 1, 1) := by decide +kernel
theorem dX4_stateAt_13 : decode cX4_stateAt 13 = .ok (.caload, 1) := by decide +kernel
theorem dX4_stateAt_14 : decode cX4_stateAt 14 = .ok (.goto 5, 3) := by decide +kernel
theorem dX4_stateAt_17 : decode cX4_stateAt 17 = .ok (.bipush 45, 2) := by decide +kernel
theorem dX4_stateAt_19 : decode cX4_stateAt 19 = .ok (.ireturn, 1) := by decide +kernel
theorem dX4_lastRoundsAt_0 : decode cX4_lastRoundsAt 0 = .ok (.aload_n 0, 1) := by decide +kernel
theorem dX4_lastRoundsAt_1 : decode cX4_lastRoundsAt 1 = .ok (.iload_n 1, 1) := by decide +kernel
theorem dX4_lastRoundsAt_2 : decode cX4_lastRoundsAt 2 = .ok (.invokevirtual 35, 3) := by decide +kernel
theorem dX4_lastRoundsAt_5 : decode cX4_lastRoundsAt 5 = .ok (.ifCond .eq 12, 3) := by decide +kernel
theorem dX4_lastRoundsAt_8 : decode cX4_lastRoundsAt 8 = .ok (.aload_n 0, 1) := by decide +kernel
theorem dX4_lastRoundsAt_9 : decode cX4_lastRoundsAt 9 = .ok (.getfield 22, 3) := by decide +kernel
theorem dX4_lastRoundsAt_12 : decode cX4_lastRoundsAt 12 = .ok (.iload_n 1, 1) := by decide +kernel
theorem dX4_lastRoundsAt_13 : decode cX4_lastRoundsAt 13 = .ok (.iaload, 1) := by decide +kernel
theorem dX4_lastRoundsAt_14 : decode cX4_lastRoundsAt 14 = .ok (.goto 4, 3) := by decide +kernel
theorem dX4_lastRoundsAt_17 : decode cX4_lastRoundsAt 17 = .ok (.iconst 0, 1) := by decide +kernel
theorem dX4_lastRoundsAt_18 : decode cX4_lastRoundsAt 18 = .ok (.ireturn, 1) := by decide +kernel
theorem dX4_truckAt_0 : decode cX4_truckAt 0 = .ok (.aload_n 0, 1) := by decide +kernel
theorem dX4_truckAt_1 : decode cX4_truckAt 1 = .ok (.iload_n 1, 1) := by decide +kernel
theorem dX4_truckAt_2 : decode cX4_truckAt 2 = .ok (.invokevirtual 35, 3) := by decide +kernel
theorem dX4_truckAt_5 : decode cX4_truckAt 5 = .ok (.ifCond .eq 12, 3) := by decide +kernel
theorem dX4_truckAt_8 : decode cX4_truckAt 8 = .ok (.aload_n 0, 1) := by decide +kernel
theorem dX4_truckAt_9 : decode cX4_truckAt 9 = .ok (.getfield 25, 3) := by decide +kernel
theorem dX4_truckAt_12 : decode cX4_truckAt 12 = .ok (.iload_n 1, 1) := by decide +kernel
theorem dX4_truckAt_13 : decode cX4_truckAt 13 = .ok (.iaload, 1) := by decide +kernel
theorem dX4_truckAt_14 : decode cX4_truckAt 14 = .ok (.goto 4, 3) := by decide +kernel
theorem dX4_truckAt_17 : decode cX4_truckAt 17 = .ok (.iconst (-1), 1) := by decide +kernel
theorem dX4_truckAt_18 : decode cX4_truckAt 18 = .ok (.ireturn, 1) := by decide +kernel
theorem dX4_loadOf_0 : decode cX4_loadOf 0 = .ok (.iconst 0, 1) := by decide +kernel
theorem dX4_loadOf_1 : decode cX4_loadOf 1 = .ok (.istore_n 2, 1) := by decide +kernel
theorem dX4_loadOf_2 : decode cX4_loadOf 2 = .ok (.iconst 0, 1) := by decide +kernel
theorem dX4_loadOf_3 : decode cX4_loadOf 3 = .ok (.istore_n 3, 1) := by decide +kernel
theorem dX4_loadOf_4 : decode cX4_loadOf 4 = .ok (.iload_n 3, 1) := by decide +kernel
theorem dX4_loadOf_5 : decode cX4_loadOf 5 = .ok (.aload_n 0, 1) := by decide +kernel
theorem dX4_loadOf_6 : decode cX4_loadOf 6 = .ok (.getfield 28, 3) := by decide +kernel
theorem dX4_loadOf_9 : decode cX4_loadOf 9 = .ok (.if_icmp .ge 69, 3) := by decide +kernel
theorem dX4_loadOf_12 : decode cX4_loadOf 12 = .ok (.iload_n 3, 1) := by decide +kernel
theorem dX4_loadOf_13 : decode cX4_loadOf 13 = .ok (.sipush 300, 3) := by decide +kernel
theorem dX4_loadOf_16 : decode cX4_loadOf 16 = .ok (.if_icmp .ge 62, 3) := by decide +kernel
theorem dX4_loadOf_19 : decode cX4_loadOf 19 = .ok (.aload_n 0, 1) := by decide +kernel
theorem dX4_loadOf_20 : decode cX4_loadOf 20 = .ok (.getfield 18, 3) := by decide +kernel
theorem dX4_loadOf_23 : decode cX4_loadOf 23 = .ok (.iload_n 3, 1) := by decide +kernel
theorem dX4_loadOf_24 : decode cX4_loadOf 24 = .ok (.caload, 1) := by decide +kernel
theorem dX4_loadOf_25 : decode cX4_loadOf 25 = .ok (.bipush 119, 2) := by decide +kernel
theorem dX4_loadOf_27 : decode cX4_loadOf 27 = .ok (.if_icmp .eq 14, 3) := by decide +kernel
theorem dX4_loadOf_30 : decode cX4_loadOf 30 = .ok (.aload_n 0, 1) := by decide +kernel
theorem dX4_loadOf_31 : decode cX4_loadOf 31 = .ok (.getfield 18, 3) := by decide +kernel
theorem dX4_loadOf_34 : decode cX4_loadOf 34 = .ok (.iload_n 3, 1) := by decide +kernel
theorem dX4_loadOf_35 : decode cX4_loadOf 35 = .ok (.caload, 1) := by decide +kernel
theorem dX4_loadOf_36 : decode cX4_loadOf 36 = .ok (.bipush 108, 2) := by decide +kernel
theorem dX4_loadOf_38 : decode cX4_loadOf 38 = .ok (.if_icmp .ne 7, 3) := by decide +kernel
theorem dX4_loadOf_41 : decode cX4_loadOf 41 = .ok (.iconst 1, 1) := by decide +kernel
theorem dX4_loadOf_42 : decode cX4_loadOf 42 = .ok (.goto 4, 3) := by decide +kernel
theorem dX4_loadOf_45 : decode cX4_loadOf 45 = .ok (.iconst 0, 1) := by decide +kernel
theorem dX4_loadOf_46 : decode cX4_loadOf 46 = .ok (.istore 4, 2) := by decide +kernel
theorem dX4_loadOf_48 : decode cX4_loadOf 48 = .ok (.iload 4, 2) := by decide +kernel
theorem dX4_loadOf_50 : decode cX4_loadOf 50 = .ok (.ifCond .eq 22, 3) := by decide +kernel
theorem dX4_loadOf_53 : decode cX4_loadOf 53 = .ok (.aload_n 0, 1) := by decide +kernel
theorem dX4_loadOf_54 : decode cX4_loadOf 54 = .ok (.getfield 9, 3) := by decide +kernel
theorem dX4_loadOf_57 : decode cX4_loadOf 57 = .ok (.iload_n 3, 1) := by decide +kernel
theorem dX4_loadOf_58 : decode cX4_loadOf 58 = .ok (.iaload, 1) := by decide +kernel
theorem dX4_loadOf_59 : decode cX4_loadOf 59 = .ok (.iload_n 1, 1) := by decide +kernel
theorem dX4_loadOf_60 : decode cX4_loadOf 60 = .ok (.if_icmp .ne 12, 3) := by decide +kernel
theorem dX4_loadOf_63 : decode cX4_loadOf 63 = .ok (.iload_n 2, 1) := by decide +kernel
theorem dX4_loadOf_64 : decode cX4_loadOf 64 = .ok (.aload_n 0, 1) := by decide +kernel
theorem dX4_loadOf_65 : decode cX4_loadOf 65 = .ok (.getfield 15, 3) := by decide +kernel
theorem dX4_loadOf_68 : decode cX4_loadOf 68 = .ok (.iload_n 3, 1) := by decide +kernel
theorem dX4_loadOf_69 : decode cX4_loadOf 69 = .ok (.iaload, 1) := by decide +kernel
theorem dX4_loadOf_70 : decode cX4_loadOf 70 = .ok (.iadd, 1) := by decide +kernel
theorem dX4_loadOf_71 : decode cX4_loadOf 71 = .ok (.istore_n 2, 1) := by decide +kernel
theorem dX4_loadOf_72 : decode cX4_loadOf 72 = .ok (.iinc 3 1, 3) := by decide +kernel
theorem dX4_loadOf_75 : decode cX4_loadOf 75 = .ok (.goto (-71), 3) := by decide +kernel
theorem dX4_loadOf_78 : decode cX4_loadOf 78 = .ok (.iload_n 2, 1) := by decide +kernel
theorem dX4_loadOf_79 : decode cX4_loadOf 79 = .ok (.ireturn, 1) := by decide +kernel
theorem dX5_init_0 : decode cX5_init 0 = .ok (.aload_n 0, 1) := by decide +kernel
theorem dX5_init_1 : decode cX5_init 1 = .ok (.invokespecial 3, 3) := by decide +kernel
theorem dX5_init_4 : decode cX5_init 4 = .ok (.aload_n 0, 1) := by decide +kernel
theorem dX5_init_5 : decode cX5_init 5 = .ok (.iload_n 1, 1) := by decide +kernel
theorem dX5_init_6 : decode cX5_init 6 = .ok (.iconst 0, 1) := by decide +kernel
theorem dX5_init_7 : decode cX5_init 7 = .ok (.invokestatic 9, 3) := by decide +kernel
theorem dX5_init_10 : decode cX5_init 10 = .ok (.newarray .int, 2) := by decide +kernel
theorem dX5_init_12 : decode cX5_init 12 = .ok (.putfield 15, 3) := by decide +kernel
theorem dX5_init_15 : decode cX5_init 15 = .ok (.return_, 1) := by decide +kernel
theorem dX5_at_0 : decode cX5_at 0 = .ok (.iload_n 1, 1) := by decide +kernel
theorem dX5_at_1 : decode cX5_at 1 = .ok (.ifCond .lt 29, 3) := by decide +kernel
theorem dX5_at_4 : decode cX5_at 4 = .ok (.iload_n 1, 1) := by decide +kernel
theorem dX5_at_5 : decode cX5_at 5 = .ok (.aload_n 0, 1) := by decide +kernel
theorem dX5_at_6 : decode cX5_at 6 = .ok (.getfield 21, 3) := by decide +kernel
theorem dX5_at_9 : decode cX5_at 9 = .ok (.if_icmp .ge 21, 3) := by decide +kernel
theorem dX5_at_12 : decode cX5_at 12 = .ok (.iload_n 1, 1) := by decide +kernel
theorem dX5_at_13 : decode cX5_at 13 = .ok (.aload_n 0, 1) := by decide +kernel
theorem dX5_at_14 : decode cX5_at 14 = .ok (.getfield 15, 3) := by decide +kernel
theorem dX5_at_17 : decode cX5_at 17 = .ok (.arraylength, 1) := by decide +kernel
theorem dX5_at_18 : decode cX5_at 18 = .ok (.if_icmp .ge 12, 3) := by decide +kernel
theorem dX5_at_21 : decode cX5_at 21 = .ok (.aload_n 0, 1) := by decide +kernel
theorem dX5_at_22 : decode cX5_at 22 = .ok (.getfield 15, 3) := by decide +kernel
theorem dX5_at_25 : decode cX5_at 25 = .ok (.iload_n 1, 1) := by decide +kernel
theorem dX5_at_26 : decode cX5_at 26 = .ok (.iaload, 1) := by decide +kernel
theorem dX5_at_27 : decode cX5_at 27 = .ok (.goto 4, 3) := by decide +kernel
theorem dX5_at_30 : decode cX5_at 30 = .ok (.iconst (-1), 1) := by decide +kernel
theorem dX5_at_31 : decode cX5_at 31 = .ok (.ireturn, 1) := by decide +kernel
theorem dX5_add_0 : decode cX5_add 0 = .ok (.aload_n 0, 1) := by decide +kernel
theorem dX5_add_1 : decode cX5_add 1 = .ok (.getfield 21, 3) := by decide +kernel
theorem dX5_add_4 : decode cX5_add 4 = .ok (.ifCond .lt 35, 3) := by decide +kernel
theorem dX5_add_7 : decode cX5_add 7 = .ok (.aload_n 0, 1) := by decide +kernel
theorem dX5_add_8 : decode cX5_add 8 = .ok (.getfield 21, 3) := by decide +kernel
theorem dX5_add_11 : decode cX5_add 11 = .ok (.aload_n 0, 1) := by decide +kernel
theorem dX5_add_12 : decode cX5_add 12 = .ok (.getfield 15, 3) := by decide +kernel
theorem dX5_add_15 : decode cX5_add 15 = .ok (.arraylength, 1) := by decide +kernel
theorem dX5_add_16 : decode cX5_add 16 = .ok (.if_icmp .ge 23, 3) := by decide +kernel
theorem dX5_add_19 : decode cX5_add 19 = .ok (.aload_n 0, 1) := by decide +kernel
theorem dX5_add_20 : decode cX5_add 20 = .ok (.getfield 15, 3) := by decide +kernel
theorem dX5_add_23 : decode cX5_add 23 = .ok (.aload_n 0, 1) := by decide +kernel
theorem dX5_add_24 : decode cX5_add 24 = .ok (.getfield 21, 3) := by decide +kernel
theorem dX5_add_27 : decode cX5_add 27 = .ok (.iload_n 1, 1) := by decide +kernel
theorem dX5_add_28 : decode cX5_add 28 = .ok (.iastore, 1) := by decide +kernel
theorem dX5_add_29 : decode cX5_add 29 = .ok (.aload_n 0, 1) := by decide +kernel
theorem dX5_add_30 : decode cX5_add 30 = .ok (.dup, 1) := by decide +kernel
theorem dX5_add_31 : decode cX5_add 31 = .ok (.getfield 21, 3) := by decide +kernel
theorem dX5_add_34 : decode cX5_add 34 = .ok (.iconst 1, 1) := by decide +kernel
theorem dX5_add_35 : decode cX5_add 35 = .ok (.iadd, 1) := by decide +kernel
theorem dX5_add_36 : decode cX5_add 36 = .ok (.putfield 21, 3) := by decide +kernel
theorem dX5_add_39 : decode cX5_add 39 = .ok (.return_, 1) := by decide +kernel
theorem dX5_sealOf_0 : decode cX5_sealOf 0 = .ok (.iconst 0, 1) := by decide +kernel
theorem dX5_sealOf_1 : decode cX5_sealOf 1 = .ok (.istore_n 3, 1) := by decide +kernel
theorem dX5_sealOf_2 : decode cX5_sealOf 2 = .ok (.iconst 0, 1) := by decide +kernel
theorem dX5_sealOf_3 : decode cX5_sealOf 3 = .ok (.istore 4, 2) := by decide +kernel
theorem dX5_sealOf_5 : decode cX5_sealOf 5 = .ok (.iload_n 1, 1) := by decide +kernel
theorem dX5_sealOf_6 : decode cX5_sealOf 6 = .ok (.istore 5, 2) := by decide +kernel
theorem dX5_sealOf_8 : decode cX5_sealOf 8 = .ok (.iload 5, 2) := by decide +kernel
theorem dX5_sealOf_10 : decode cX5_sealOf 10 = .ok (.iload_n 2, 1) := by decide +kernel
theorem dX5_sealOf_11 : decode cX5_sealOf 11 = .ok (.if_icmp .ge 34, 3) := by decide +kernel
theorem dX5_sealOf_14 : decode cX5_sealOf 14 = .ok (.iload_n 3, 1) := by decide +kernel
theorem dX5_sealOf_15 : decode cX5_sealOf 15 = .ok (.aload_n 0, 1) := by decide +kernel
theorem dX5_sealOf_16 : decode cX5_sealOf 16 = .ok (.iload 5, 2) := by decide +kernel
theorem dX5_sealOf_18 : decode cX5_sealOf 18 = .ok (.invokevirtual 25, 3) := by decide +kernel
theorem dX5_sealOf_21 : decode cX5_sealOf 21 = .ok (.iadd, 1) := by decide +kernel
theorem dX5_sealOf_22 : decode cX5_sealOf 22 = .ok (.iconst 1, 1) := by decide +kernel
theorem dX5_sealOf_23 : decode cX5_sealOf 23 = .ok (.iadd, 1) := by decide +kernel
theorem dX5_sealOf_24 : decode cX5_sealOf 24 = .ok (.sipush 9973, 3) := by decide +kernel
theorem dX5_sealOf_27 : decode cX5_sealOf 27 = .ok (.irem, 1) := by decide +kernel
theorem dX5_sealOf_28 : decode cX5_sealOf 28 = .ok (.istore_n 3, 1) := by decide +kernel
theorem dX5_sealOf_29 : decode cX5_sealOf 29 = .ok (.iload 4, 2) := by decide +kernel
theorem dX5_sealOf_31 : decode cX5_sealOf 31 = .ok (.iload_n 3, 1) := by decide +kernel
theorem dX5_sealOf_32 : decode cX5_sealOf 32 = .ok (.iadd, 1) := by decide +kernel
theorem dX5_sealOf_33 : decode cX5_sealOf 33 = .ok (.sipush 9973, 3) := by decide +kernel
theorem dX5_sealOf_36 : decode cX5_sealOf 36 = .ok (.irem, 1) := by decide +kernel
theorem dX5_sealOf_37 : decode cX5_sealOf 37 = .ok (.istore 4, 2) := by decide +kernel
theorem dX5_sealOf_39 : decode cX5_sealOf 39 = .ok (.iinc 5 1, 3) := by decide +kernel
theorem dX5_sealOf_42 : decode cX5_sealOf 42 = .ok (.goto (-34), 3) := by decide +kernel
theorem dX5_sealOf_45 : decode cX5_sealOf 45 = .ok (.sipush 10000, 3) := by decide +kernel
theorem dX5_sealOf_48 : decode cX5_sealOf 48 = .ok (.iload 4, 2) := by decide +kernel
theorem dX5_sealOf_50 : decode cX5_sealOf 50 = .ok (.imul, 1) := by decide +kernel
theorem dX5_sealOf_51 : decode cX5_sealOf 51 = .ok (.iload_n 3, 1) := by decide +kernel
theorem dX5_sealOf_52 : decode cX5_sealOf 52 = .ok (.iadd, 1) := by decide +kernel
theorem dX5_sealOf_53 : decode cX5_sealOf 53 = .ok (.ireturn, 1) := by decide +kernel
theorem dX6_init_0 : decode cX6_init 0 = .ok (.aload_n 0, 1) := by decide +kernel
theorem dX6_init_1 : decode cX6_init 1 = .ok (.invokespecial 3, 3) := by decide +kernel
theorem dX6_init_4 : decode cX6_init 4 = .ok (.aload_n 0, 1) := by decide +kernel
theorem dX6_init_5 : decode cX6_init 5 = .ok (.bipush 6, 2) := by decide +kernel
theorem dX6_init_7 : decode cX6_init 7 = .ok (.anewarray 9, 3) := by decide +kernel
theorem dX6_init_10 : decode cX6_init 10 = .ok (.putfield 11, 3) := by decide +kernel
theorem dX6_init_13 : decode cX6_init 13 = .ok (.aload_n 0, 1) := by decide +kernel
theorem dX6_init_14 : decode cX6_init 14 = .ok (.bipush 8, 2) := by decide +kernel
theorem dX6_init_16 : decode cX6_init 16 = .ok (.newarray .int, 2) := by decide +kernel
theorem dX6_init_18 : decode cX6_init 18 = .ok (.putfield 17, 3) := by decide +kernel
theorem dX6_init_21 : decode cX6_init 21 = .ok (.aload_n 0, 1) := by decide +kernel
theorem dX6_init_22 : decode cX6_init 22 = .ok (.bipush 11, 2) := by decide +kernel
theorem dX6_init_24 : decode cX6_init 24 = .ok (.putfield 21, 3) := by decide +kernel
theorem dX6_init_27 : decode cX6_init 27 = .ok (.aload_n 0, 1) := by decide +kernel
theorem dX6_init_28 : decode cX6_init 28 = .ok (.iconst 2, 1) := by decide +kernel
theorem dX6_init_29 : decode cX6_init 29 = .ok (.putfield 25, 3) := by decide +kernel
theorem dX6_init_32 : decode cX6_init 32 = .ok (.iconst 0, 1) := by decide +kernel
theorem dX6_init_33 : decode cX6_init 33 = .ok (.istore_n 1, 1) := by decide +kernel
theorem dX6_init_34 : decode cX6_init 34 = .ok (.iload_n 1, 1) := by decide +kernel
theorem dX6_init_35 : decode cX6_init 35 = .ok (.bipush 8, 2) := by decide +kernel
theorem dX6_init_37 : decode cX6_init 37 = .ok (.if_icmp .ge 16, 3) := by decide +kernel
theorem dX6_init_40 : decode cX6_init 40 = .ok (.aload_n 0, 1) := by decide +kernel
theorem dX6_init_41 : decode cX6_init 41 = .ok (.getfield 17, 3) := by decide +kernel
theorem dX6_init_44 : decode cX6_init 44 = .ok (.iload_n 1, 1) := by decide +kernel
theorem dX6_init_45 : decode cX6_init 45 = .ok (.iconst (-1), 1) := by decide +kernel
theorem dX6_init_46 : decode cX6_init 46 = .ok (.iastore, 1) := by decide +kernel
theorem dX6_init_47 : decode cX6_init 47 = .ok (.iinc 1 1, 3) := by decide +kernel
theorem dX6_init_50 : decode cX6_init 50 = .ok (.goto (-16), 3) := by decide +kernel
theorem dX6_init_53 : decode cX6_init 53 = .ok (.return_, 1) := by decide +kernel
theorem dX6_build_0 : decode cX6_build 0 = .ok (.aload_n 0, 1) := by decide +kernel
theorem dX6_build_1 : decode cX6_build 1 = .ok (.getfield 28, 3) := by decide +kernel
theorem dX6_build_4 : decode cX6_build 4 = .ok (.istore_n 3, 1) := by decide +kernel
theorem dX6_build_5 : decode cX6_build 5 = .ok (.iload_n 3, 1) := by decide +kernel
theorem dX6_build_6 : decode cX6_build 6 = .ok (.ifCond .lt 9, 3) := by decide +kernel
theorem dX6_build_9 : decode cX6_build 9 = .ok (.iload_n 3, 1) := by decide +kernel
theorem dX6_build_10 : decode cX6_build 10 = .ok (.bipush 6, 2) := by decide +kernel
theorem dX6_build_12 : decode cX6_build 12 = .ok (.if_icmp .lt 5, 3) := by decide +kernel
theorem dX6_build_15 : decode cX6_build 15 = .ok (.iconst (-1), 1) := by decide +kernel
theorem dX6_build_16 : decode cX6_build 16 = .ok (.ireturn, 1) := by decide +kernel
theorem dX6_build_17 : decode cX6_build 17 = .ok (.aload_n 0, 1) := by decide +kernel
theorem dX6_build_18 : decode cX6_build 18 = .ok (.getfield 11, 3) := by decide +kernel
theorem dX6_build_21 : decode cX6_build 21 = .ok (.iload_n 3, 1) := by decide +kernel
theorem dX6_build_22 : decode cX6_build 22 = .ok (.new 9, 3) := by decide +kernel
theorem dX6_build_25 : decode cX6_build 25 = .ok (.dup, 1) := by decide +kernel
theorem dX6_build_26 : decode cX6_build 26 = .ok (.iload_n 1, 1) := by decide +kernel
theorem dX6_build_27 : decode cX6_build 27 = .ok (.iload_n 2, 1) := by decide +kernel
theorem dX6_build_28 : decode cX6_build 28 = .ok (.invokespecial 31, 3) := by decide +kernel
theorem dX6_build_31 : decode cX6_build 31 = .ok (.aastore, 1) := by decide +kernel
theorem dX6_build_32 : decode cX6_build 32 = .ok (.aload_n 0, 1) := by decide +kernel
theorem dX6_build_33 : decode cX6_build 33 = .ok (.dup, 1) := by decide +kernel
theorem dX6_build_34 : decode cX6_build 34 = .ok (.getfield 28, 3) := by decide +kernel
theorem dX6_build_37 : decode cX6_build 37 = .ok (.iconst 1, 1) := by decide +kernel
theorem dX6_build_38 : decode cX6_build 38 = .ok (.iadd, 1) := by decide +kernel
theorem dX6_build_39 : decode cX6_build 39 = .ok (.putfield 28, 3) := by decide +kernel
theorem dX6_build_42 : decode cX6_build 42 = .ok (.iload_n 3, 1) := by decide +kernel
theorem dX6_build_43 : decode cX6_build 43 = .ok (.ireturn, 1) := by decide +kernel
theorem dX6_chute_0 : decode cX6_chute 0 = .ok (.iload_n 1, 1) := by decide +kernel
theorem dX6_chute_1 : decode cX6_chute 1 = .ok (.ifCond .lt 26, 3) := by decide +kernel
theorem dX6_chute_4 : decode cX6_chute 4 = .ok (.iload_n 1, 1) := by decide +kernel
theorem dX6_chute_5 : decode cX6_chute 5 = .ok (.aload_n 0, 1) := by decide +kernel
theorem dX6_chute_6 : decode cX6_chute 6 = .ok (.getfield 28, 3) := by decide +kernel
theorem dX6_chute_9 : decode cX6_chute 9 = .ok (.if_icmp .ge 18, 3) := by decide +kernel
theorem dX6_chute_12 : decode cX6_chute 12 = .ok (.iload_n 1, 1) := by decide +kernel
theorem dX6_chute_13 : decode cX6_chute 13 = .ok (.bipush 6, 2) := by decide +kernel
theorem dX6_chute_15 : decode cX6_chute 15 = .ok (.if_icmp .ge 12, 3) := by decide +kernel
theorem dX6_chute_18 : decode cX6_chute 18 = .ok (.aload_n 0, 1) := by decide +kernel
theorem dX6_chute_19 : decode cX6_chute 19 = .ok (.getfield 11, 3) := by decide +kernel
theorem dX6_chute_22 : decode cX6_chute 22 = .ok (.iload_n 1, 1) := by decide +kernel
theorem dX6_chute_23 : decode cX6_chute 23 = .ok (.aaload, 1) := by decide +kernel
theorem dX6_chute_24 : decode cX6_chute 24 = .ok (.goto 4, 3) := by decide +kernel
theorem dX6_chute_27 : decode cX6_chute 27 = .ok (.aconst_null, 1) := by decide +kernel
theorem dX6_chute_28 : decode cX6_chute 28 = .ok (.areturn, 1) := by decide +kernel
theorem dX6_numberAt_0 : decode cX6_numberAt 0 = .ok (.iconst 0, 1) := by decide +kernel
theorem dX6_numberAt_1 : decode cX6_numberAt 1 = .ok (.istore_n 2, 1) := by decide +kernel
theorem dX6_numberAt_2 : decode cX6_numberAt 2 = .ok (.iload_n 2, 1) := by decide +kernel
theorem dX6_numberAt_3 : decode cX6_numberAt 3 = .ok (.aload_n 0, 1) := by decide +kernel
theorem dX6_numberAt_4 : decode cX6_numberAt 4 = .ok (.getfield 28, 3) := by decide +kernel
theorem dX6_numberAt_7 : decode cX6_numberAt 7 = .ok (.if_icmp .ge 29, 3) := by decide +kernel
theorem dX6_numberAt_10 : decode cX6_numberAt 10 = .ok (.aload_n 0, 1) := by decide +kernel
theorem dX6_numberAt_11 : decode cX6_numberAt 11 = .ok (.iload_n 2, 1) := by decide +kernel
theorem dX6_numberAt_12 : decode cX6_numberAt 12 = .ok (.invokevirtual 34, 3) := by decide +kernel
theorem dX6_numberAt_15 : decode cX6_numberAt 15 = .ok (.astore_n 3, 1) := by decide +kernel
theorem dX6_numberAt_16 : decode cX6_numberAt 16 = .ok (.aload_n 3, 1) := by decide +kernel
theorem dX6_numberAt_17 : decode cX6_numberAt 17 = .ok (.ifnull 13, 3) := by decide +kernel
theorem dX6_numberAt_20 : decode cX6_numberAt 20 = .ok (.aload_n 3, 1) := by decide +kernel
theorem dX6_numberAt_21 : decode cX6_numberAt 21 = .ok (.getfield 38, 3) := by decide +kernel
theorem dX6_numberAt_24 : decode cX6_numberAt 24 = .ok (.iload_n 1, 1) := by decide +kernel
theorem dX6_numberAt_25 : decode cX6_numberAt 25 = .ok (.if_icmp .ne 5, 3) := by decide +kernel
theorem dX6_numberAt_28 : decode cX6_numberAt 28 = .ok (.iload_n 2, 1) := by decide +kernel
theorem dX6_numberAt_29 : decode cX6_numberAt 29 = .ok (.ireturn, 1) := by decide +kernel
theorem dX6_numberAt_30 : decode cX6_numberAt 30 = .ok (.iinc 2 1, 3) := by decide +kernel
theorem dX6_numberAt_33 : decode cX6_numberAt 33 = .ok (.goto (-31), 3) := by decide +kernel
theorem dX6_numberAt_36 : decode cX6_numberAt 36 = .ok (.iconst (-1), 1) := by decide +kernel
theorem dX6_numberAt_37 : decode cX6_numberAt 37 = .ok (.ireturn, 1) := by decide +kernel
theorem dX6_chuteAt_0 : decode cX6_chuteAt 0 = .ok (.aload_n 0, 1) := by decide +kernel
theorem dX6_chuteAt_1 : decode cX6_chuteAt 1 = .ok (.aload_n 0, 1) := by decide +kernel
theorem dX6_chuteAt_2 : decode cX6_chuteAt 2 = .ok (.iload_n 1, 1) := by decide +kernel
theorem dX6_chuteAt_3 : decode cX6_chuteAt 3 = .ok (.invokevirtual 41, 3) := by decide +kernel
theorem dX6_chuteAt_6 : decode cX6_chuteAt 6 = .ok (.invokevirtual 34, 3) := by decide +kernel
theorem dX6_chuteAt_9 : decode cX6_chuteAt 9 = .ok (.areturn, 1) := by decide +kernel
theorem dX6_kindAt_0 : decode cX6_kindAt 0 = .ok (.iload_n 1, 1) := by decide +kernel
theorem dX6_kindAt_1 : decode cX6_kindAt 1 = .ok (.ifCond .ne 6, 3) := by decide +kernel
theorem dX6_kindAt_4 : decode cX6_kindAt 4 = .ok (.bipush 105, 2) := by decide +kernel
theorem dX6_kindAt_6 : decode cX6_kindAt 6 = .ok (.ireturn, 1) := by decide +kernel
theorem dX6_kindAt_7 : decode cX6_kindAt 7 = .ok (.iload_n 1, 1) := by decide +kernel
theorem dX6_kindAt_8 : decode cX6_kindAt 8 = .ok (.aload_n 0, 1) := by decide +kernel
theorem dX6_kindAt_9 : decode cX6_kindAt 9 = .ok (.getfield 21, 3) := by decide +kernel
theorem dX6_kindAt_12 : decode cX6_kindAt 12 = .ok (.if_icmp .ne 6, 3) := by decide +kernel
theorem dX6_kindAt_15 : decode cX6_kindAt 15 = .ok (.bipush 111, 2) := by decide +kernel
theorem dX6_kindAt_17 : decode cX6_kindAt 17 = .ok (.ireturn, 1) := by decide +kernel
theorem dX6_kindAt_18 : decode cX6_kindAt 18 = .ok (.aload_n 0, 1) := by decide +kernel
theorem dX6_kindAt_19 : decode cX6_kindAt 19 = .ok (.iload_n 1, 1) := by decide +kernel
theorem dX6_kindAt_20 : decode cX6_kindAt 20 = .ok (.invokevirtual 45, 3) := by decide +kernel
theorem dX6_kindAt_23 : decode cX6_kindAt 23 = .ok (.ifnull 8, 3) := by decide +kernel
theorem dX6_kindAt_26 : decode cX6_kindAt 26 = .ok (.bipush 99, 2) := by decide +kernel
theorem dX6_kindAt_28 : decode cX6_kindAt 28 = .ok (.goto 5, 3) := by decide +kernel
theorem dX6_kindAt_31 : decode cX6_kindAt 31 = .ok (.bipush 45, 2) := by decide +kernel
theorem dX6_kindAt_33 : decode cX6_kindAt 33 = .ok (.ireturn, 1) := by decide +kernel
theorem dX6_isJammed_0 : decode cX6_isJammed 0 = .ok (.iload_n 1, 1) := by decide +kernel
theorem dX6_isJammed_1 : decode cX6_isJammed 1 = .ok (.ifCond .ne 8, 3) := by decide +kernel
theorem dX6_isJammed_4 : decode cX6_isJammed 4 = .ok (.aload_n 0, 1) := by decide +kernel
theorem dX6_isJammed_5 : decode cX6_isJammed 5 = .ok (.getfield 48, 3) := by decide +kernel
theorem dX6_isJammed_8 : decode cX6_isJammed 8 = .ok (.ireturn, 1) := by decide +kernel
theorem dX6_isJammed_9 : decode cX6_isJammed 9 = .ok (.iload_n 1, 1) := by decide +kernel
theorem dX6_isJammed_10 : decode cX6_isJammed 10 = .ok (.aload_n 0, 1) := by decide +kernel
theorem dX6_isJammed_11 : decode cX6_isJammed 11 = .ok (.getfield 21, 3) := by decide +kernel
theorem dX6_isJammed_14 : decode cX6_isJammed 14 = .ok (.if_icmp .ne 8, 3) := by decide +kernel
theorem dX6_isJammed_17 : decode cX6_isJammed 17 = .ok (.aload_n 0, 1) := by decide +kernel
theorem dX6_isJammed_18 : decode cX6_isJammed 18 = .ok (.getfield 52, 3) := by decide +kernel
theorem dX6_isJammed_21 : decode cX6_isJammed 21 = .ok (.ireturn, 1) := by decide +kernel
theorem dX6_isJammed_22 : decode cX6_isJammed 22 = .ok (.aload_n 0, 1) := by decide +kernel
theorem dX6_isJammed_23 : decode cX6_isJammed 23 = .ok (.iload_n 1, 1) := by decide +kernel
theorem dX6_isJammed_24 : decode cX6_isJammed 24 = .ok (.invokevirtual 45, 3) := by decide +kernel
theorem dX6_isJammed_27 : decode cX6_isJammed 27 = .ok (.astore_n 2, 1) := by decide +kernel
theorem dX6_isJammed_28 : decode cX6_isJammed 28 = .ok (.aload_n 2, 1) := by decide +kernel
theorem dX6_isJammed_29 : decode cX6_isJammed 29 = .ok (.ifnull 14, 3) := by decide +kernel
theorem dX6_isJammed_32 : decode cX6_isJammed 32 = .ok (.aload_n 2, 1) := by decide +kernel
theorem dX6_isJammed_33 : decode cX6_isJammed 33 = .ok (.getfield 55, 3) := by decide +kernel
theorem dX6_isJammed_36 : decode cX6_isJammed 36 = .ok (.ifCond .eq 7, 3) := by decide +kernel
theorem dX6_isJammed_39 : decode cX6_isJammed 39 = .ok (.iconst 1, 1) := by decide +kernel
theorem dX6_isJammed_40 : decode cX6_isJammed 40 = .ok (.goto 4, 3) := by decide +kernel
theorem dX6_isJammed_43 : decode cX6_isJammed 43 = .ok (.iconst 0, 1) := by decide +kernel
theorem dX6_isJammed_44 : decode cX6_isJammed 44 = .ok (.ireturn, 1) := by decide +kernel
theorem dX6_setJammed_0 : decode cX6_setJammed 0 = .ok (.aload_n 0, 1) := by decide +kernel
theorem dX6_setJammed_1 : decode cX6_setJammed 1 = .ok (.iload_n 1, 1) := by decide +kernel
theorem dX6_setJammed_2 : decode cX6_setJammed 2 = .ok (.invokevirtual 45, 3) := by decide +kernel
theorem dX6_setJammed_5 : decode cX6_setJammed 5 = .ok (.astore_n 3, 1) := by decide +kernel
theorem dX6_setJammed_6 : decode cX6_setJammed 6 = .ok (.iload_n 1, 1) := by decide +kernel
theorem dX6_setJammed_7 : decode cX6_setJammed 7 = .ok (.ifCond .ne 11, 3) := by decide +kernel
theorem dX6_setJammed_10 : decode cX6_setJammed 10 = .ok (.aload_n 0, 1) := by decide +kernel
theorem dX6_setJammed_11 : decode cX6_setJammed 11 = .ok (.iload_n 2, 1) := by decide +kernel
theorem dX6_setJammed_12 : decode cX6_setJammed 12 = .ok (.putfield 48, 3) := by decide +kernel
theorem dX6_setJammed_15 : decode cX6_setJammed 15 = .ok (.goto 28, 3) := by decide +kernel
theorem dX6_setJammed_18 : decode cX6_setJammed 18 = .ok (.iload_n 1, 1) := by decide +kernel
theorem dX6_setJammed_19 : decode cX6_setJammed 19 = .ok (.aload_n 0, 1) := by decide +kernel
theorem dX6_setJammed_20 : decode cX6_setJammed 20 = .ok (.getfield 21, 3) := by decide +kernel
theorem dX6_setJammed_23 : decode cX6_setJammed 23 = .ok (.if_icmp .ne 11, 3) := by decide +kernel
theorem dX6_setJammed_26 : decode cX6_setJammed 26 = .ok (.aload_n 0, 1) := by decide +kernel
theorem dX6_setJammed_27 : decode cX6_setJammed 27 = .ok (.iload_n 2, 1) := by decide +kernel
theorem dX6_setJammed_28 : decode cX6_setJammed 28 = .ok (.putfield 52, 3) := by decide +kernel
end
section
theorem dX6_setJammed_31 : decode cX6_setJammed 31 = .ok (.goto 12, 3) := by decide +kernel
theorem dX6_setJammed_34 : decode cX6_setJammed 34 = .ok (.aload_n 3, 1) := by decide +kernel
theorem dX6_setJammed_35 : decode cX6_setJammed 35 = .ok (.ifnull 8, 3) := by decide +kernel
theorem dX6_setJammed_38 : decode cX6_setJammed 38 = .ok (.aload_n 3, 1) := by decide +kernel
theorem dX6_setJammed_39 : decode cX6_setJammed 39 = .ok (.iload_n 2, 1) := by decide +kernel
theorem dX6_setJammed_40 : decode cX6_setJammed 40 = .ok (.putfield 55, 3) := by decide +kernel
theorem dX6_setJammed_43 : decode cX6_setJammed 43 = .ok (.return_, 1) := by decide +kernel
theorem dX6_jams_0 : decode cX6_jams 0 = .ok (.aload_n 0, 1) := by decide +kernel
theorem dX6_jams_1 : decode cX6_jams 1 = .ok (.getfield 48, 3) := by decide +kernel
theorem dX6_jams_4 : decode cX6_jams 4 = .ok (.ifCond .eq 7, 3) := by decide +kernel
theorem dX6_jams_7 : decode cX6_jams 7 = .ok (.iconst 1, 1) := by decide +kernel
theorem dX6_jams_8 : decode cX6_jams 8 = .ok (.goto 4, 3) := by decide +kernel
theorem dX6_jams_11 : decode cX6_jams 11 = .ok (.iconst 0, 1) := by decide +kernel
theorem dX6_jams_12 : decode cX6_jams 12 = .ok (.aload_n 0, 1) := by decide +kernel
theorem dX6_jams_13 : decode cX6_jams 13 = .ok (.getfield 52, 3) := by decide +kernel
theorem dX6_jams_16 : decode cX6_jams 16 = .ok (.ifCond .eq 7, 3) := by decide +kernel
theorem dX6_jams_19 : decode cX6_jams 19 = .ok (.iconst 1, 1) := by decide +kernel
theorem dX6_jams_20 : decode cX6_jams 20 = .ok (.goto 4, 3) := by decide +kernel
theorem dX6_jams_23 : decode cX6_jams 23 = .ok (.iconst 0, 1) := by decide +kernel
theorem dX6_jams_24 : decode cX6_jams 24 = .ok (.iadd, 1) := by decide +kernel
theorem dX6_jams_25 : decode cX6_jams 25 = .ok (.istore_n 1, 1) := by decide +kernel
theorem dX6_jams_26 : decode cX6_jams 26 = .ok (.iconst 0, 1) := by decide +kernel
theorem dX6_jams_27 : decode cX6_jams 27 = .ok (.istore_n 2, 1) := by decide +kernel
theorem dX6_jams_28 : decode cX6_jams 28 = .ok (.iload_n 2, 1) := by decide +kernel
theorem dX6_jams_29 : decode cX6_jams 29 = .ok (.aload_n 0, 1) := by decide +kernel
theorem dX6_jams_30 : decode cX6_jams 30 = .ok (.getfield 28, 3) := by decide +kernel
theorem dX6_jams_33 : decode cX6_jams 33 = .ok (.if_icmp .ge 29, 3) := by decide +kernel
theorem dX6_jams_36 : decode cX6_jams 36 = .ok (.aload_n 0, 1) := by decide +kernel
theorem dX6_jams_37 : decode cX6_jams 37 = .ok (.iload_n 2, 1) := by decide +kernel
theorem dX6_jams_38 : decode cX6_jams 38 = .ok (.invokevirtual 34, 3) := by decide +kernel
theorem dX6_jams_41 : decode cX6_jams 41 = .ok (.astore_n 3, 1) := by decide +kernel
theorem dX6_jams_42 : decode cX6_jams 42 = .ok (.aload_n 3, 1) := by decide +kernel
theorem dX6_jams_43 : decode cX6_jams 43 = .ok (.ifnull 13, 3) := by decide +kernel
theorem dX6_jams_46 : decode cX6_jams 46 = .ok (.aload_n 3, 1) := by decide +kernel
theorem dX6_jams_47 : decode cX6_jams 47 = .ok (.getfield 55, 3) := by decide +kernel
theorem dX6_jams_50 : decode cX6_jams 50 = .ok (.ifCond .eq 6, 3) := by decide +kernel
theorem dX6_jams_53 : decode cX6_jams 53 = .ok (.iinc 1 1, 3) := by decide +kernel
theorem dX6_jams_56 : decode cX6_jams 56 = .ok (.iinc 2 1, 3) := by decide +kernel
theorem dX6_jams_59 : decode cX6_jams 59 = .ok (.goto (-31), 3) := by decide +kernel
theorem dX6_jams_62 : decode cX6_jams 62 = .ok (.iload_n 1, 1) := by decide +kernel
theorem dX6_jams_63 : decode cX6_jams 63 = .ok (.ireturn, 1) := by decide +kernel
theorem dX6_chuteOfRoute_0 : decode cX6_chuteOfRoute 0 = .ok (.iload_n 1, 1) := by decide +kernel
theorem dX6_chuteOfRoute_1 : decode cX6_chuteOfRoute 1 = .ok (.invokestatic 58, 3) := by decide +kernel
theorem dX6_chuteOfRoute_4 : decode cX6_chuteOfRoute 4 = .ok (.ifCond .eq 12, 3) := by decide +kernel
theorem dX6_chuteOfRoute_7 : decode cX6_chuteOfRoute 7 = .ok (.aload_n 0, 1) := by decide +kernel
theorem dX6_chuteOfRoute_8 : decode cX6_chuteOfRoute 8 = .ok (.getfield 17, 3) := by decide +kernel
theorem dX6_chuteOfRoute_11 : decode cX6_chuteOfRoute 11 = .ok (.iload_n 1, 1) := by decide +kernel
theorem dX6_chuteOfRoute_12 : decode cX6_chuteOfRoute 12 = .ok (.iaload, 1) := by decide +kernel
theorem dX6_chuteOfRoute_13 : decode cX6_chuteOfRoute 13 = .ok (.goto 4, 3) := by decide +kernel
theorem dX6_chuteOfRoute_16 : decode cX6_chuteOfRoute 16 = .ok (.iconst (-1), 1) := by decide +kernel
theorem dX6_chuteOfRoute_17 : decode cX6_chuteOfRoute 17 = .ok (.ireturn, 1) := by decide +kernel
theorem dX6_send_0 : decode cX6_send 0 = .ok (.iload_n 1, 1) := by decide +kernel
theorem dX6_send_1 : decode cX6_send 1 = .ok (.invokestatic 58, 3) := by decide +kernel
theorem dX6_send_4 : decode cX6_send 4 = .ok (.ifCond .eq 10, 3) := by decide +kernel
theorem dX6_send_7 : decode cX6_send 7 = .ok (.aload_n 0, 1) := by decide +kernel
theorem dX6_send_8 : decode cX6_send 8 = .ok (.getfield 17, 3) := by decide +kernel
theorem dX6_send_11 : decode cX6_send 11 = .ok (.iload_n 1, 1) := by decide +kernel
theorem dX6_send_12 : decode cX6_send 12 = .ok (.iload_n 2, 1) := by decide +kernel
theorem dX6_send_13 : decode cX6_send 13 = .ok (.iastore, 1) := by decide +kernel
theorem dX6_send_14 : decode cX6_send 14 = .ok (.return_, 1) := by decide +kernel
theorem dX6_loaderPuts_0 : decode cX6_loaderPuts 0 = .ok (.aload_n 0, 1) := by decide +kernel
theorem dX6_loaderPuts_1 : decode cX6_loaderPuts 1 = .ok (.getfield 48, 3) := by decide +kernel
theorem dX6_loaderPuts_4 : decode cX6_loaderPuts 4 = .ok (.ifCond .ne 17, 3) := by decide +kernel
theorem dX6_loaderPuts_7 : decode cX6_loaderPuts 7 = .ok (.iload_n 1, 1) := by decide +kernel
theorem dX6_loaderPuts_8 : decode cX6_loaderPuts 8 = .ok (.iconst (-1), 1) := by decide +kernel
theorem dX6_loaderPuts_9 : decode cX6_loaderPuts 9 = .ok (.if_icmp .ne 12, 3) := by decide +kernel
theorem dX6_loaderPuts_12 : decode cX6_loaderPuts 12 = .ok (.iload_n 2, 1) := by decide +kernel
theorem dX6_loaderPuts_13 : decode cX6_loaderPuts 13 = .ok (.iload_n 3, 1) := by decide +kernel
theorem dX6_loaderPuts_14 : decode cX6_loaderPuts 14 = .ok (.if_icmp .ge 7, 3) := by decide +kernel
theorem dX6_loaderPuts_17 : decode cX6_loaderPuts 17 = .ok (.iconst 1, 1) := by decide +kernel
theorem dX6_loaderPuts_18 : decode cX6_loaderPuts 18 = .ok (.goto 4, 3) := by decide +kernel
theorem dX6_loaderPuts_21 : decode cX6_loaderPuts 21 = .ok (.iconst 0, 1) := by decide +kernel
theorem dX6_loaderPuts_22 : decode cX6_loaderPuts 22 = .ok (.ireturn, 1) := by decide +kernel
theorem dX6_chuteTakes_0 : decode cX6_chuteTakes 0 = .ok (.aload_n 0, 1) := by decide +kernel
theorem dX6_chuteTakes_1 : decode cX6_chuteTakes 1 = .ok (.iload_n 1, 1) := by decide +kernel
theorem dX6_chuteTakes_2 : decode cX6_chuteTakes 2 = .ok (.invokevirtual 34, 3) := by decide +kernel
theorem dX6_chuteTakes_5 : decode cX6_chuteTakes 5 = .ok (.astore 4, 2) := by decide +kernel
theorem dX6_chuteTakes_7 : decode cX6_chuteTakes 7 = .ok (.aload 4, 2) := by decide +kernel
theorem dX6_chuteTakes_9 : decode cX6_chuteTakes 9 = .ok (.ifnull 33, 3) := by decide +kernel
theorem dX6_chuteTakes_12 : decode cX6_chuteTakes 12 = .ok (.aload 4, 2) := by decide +kernel
theorem dX6_chuteTakes_14 : decode cX6_chuteTakes 14 = .ok (.getfield 55, 3) := by decide +kernel
theorem dX6_chuteTakes_17 : decode cX6_chuteTakes 17 = .ok (.ifCond .ne 25, 3) := by decide +kernel
theorem dX6_chuteTakes_20 : decode cX6_chuteTakes 20 = .ok (.iload_n 3, 1) := by decide +kernel
theorem dX6_chuteTakes_21 : decode cX6_chuteTakes 21 = .ok (.aload 4, 2) := by decide +kernel
theorem dX6_chuteTakes_23 : decode cX6_chuteTakes 23 = .ok (.getfield 62, 3) := by decide +kernel
theorem dX6_chuteTakes_26 : decode cX6_chuteTakes 26 = .ok (.if_icmp .ge 16, 3) := by decide +kernel
theorem dX6_chuteTakes_29 : decode cX6_chuteTakes 29 = .ok (.aload_n 0, 1) := by decide +kernel
theorem dX6_chuteTakes_30 : decode cX6_chuteTakes 30 = .ok (.iload_n 2, 1) := by decide +kernel
theorem dX6_chuteTakes_31 : decode cX6_chuteTakes 31 = .ok (.invokevirtual 65, 3) := by decide +kernel
theorem dX6_chuteTakes_34 : decode cX6_chuteTakes 34 = .ok (.iload_n 1, 1) := by decide +kernel
theorem dX6_chuteTakes_35 : decode cX6_chuteTakes 35 = .ok (.if_icmp .ne 7, 3) := by decide +kernel
theorem dX6_chuteTakes_38 : decode cX6_chuteTakes 38 = .ok (.iconst 1, 1) := by decide +kernel
theorem dX6_chuteTakes_39 : decode cX6_chuteTakes 39 = .ok (.goto 4, 3) := by decide +kernel
theorem dX6_chuteTakes_42 : decode cX6_chuteTakes 42 = .ok (.iconst 0, 1) := by decide +kernel
theorem dX6_chuteTakes_43 : decode cX6_chuteTakes 43 = .ok (.ireturn, 1) := by decide +kernel
theorem dX6_overflowTakes_0 : decode cX6_overflowTakes 0 = .ok (.aload_n 0, 1) := by decide +kernel
theorem dX6_overflowTakes_1 : decode cX6_overflowTakes 1 = .ok (.getfield 52, 3) := by decide +kernel
theorem dX6_overflowTakes_4 : decode cX6_overflowTakes 4 = .ok (.ifCond .ne 20, 3) := by decide +kernel
theorem dX6_overflowTakes_7 : decode cX6_overflowTakes 7 = .ok (.iload_n 1, 1) := by decide +kernel
theorem dX6_overflowTakes_8 : decode cX6_overflowTakes 8 = .ok (.iconst (-1), 1) := by decide +kernel
theorem dX6_overflowTakes_9 : decode cX6_overflowTakes 9 = .ok (.if_icmp .eq 15, 3) := by decide +kernel
theorem dX6_overflowTakes_12 : decode cX6_overflowTakes 12 = .ok (.iload_n 2, 1) := by decide +kernel
theorem dX6_overflowTakes_13 : decode cX6_overflowTakes 13 = .ok (.aload_n 0, 1) := by decide +kernel
theorem dX6_overflowTakes_14 : decode cX6_overflowTakes 14 = .ok (.getfield 25, 3) := by decide +kernel
theorem dX6_overflowTakes_17 : decode cX6_overflowTakes 17 = .ok (.if_icmp .lt 7, 3) := by decide +kernel
theorem dX6_overflowTakes_20 : decode cX6_overflowTakes 20 = .ok (.iconst 1, 1) := by decide +kernel
theorem dX6_overflowTakes_21 : decode cX6_overflowTakes 21 = .ok (.goto 4, 3) := by decide +kernel
theorem dX6_overflowTakes_24 : decode cX6_overflowTakes 24 = .ok (.iconst 0, 1) := by decide +kernel
theorem dX6_overflowTakes_25 : decode cX6_overflowTakes 25 = .ok (.ireturn, 1) := by decide +kernel
theorem dX6_sealsAgree_0 : decode cX6_sealsAgree 0 = .ok (.iconst 0, 1) := by decide +kernel
theorem dX6_sealsAgree_1 : decode cX6_sealsAgree 1 = .ok (.istore_n 1, 1) := by decide +kernel
theorem dX6_sealsAgree_2 : decode cX6_sealsAgree 2 = .ok (.iload_n 1, 1) := by decide +kernel
theorem dX6_sealsAgree_3 : decode cX6_sealsAgree 3 = .ok (.aload_n 0, 1) := by decide +kernel
theorem dX6_sealsAgree_4 : decode cX6_sealsAgree 4 = .ok (.getfield 28, 3) := by decide +kernel
theorem dX6_sealsAgree_7 : decode cX6_sealsAgree 7 = .ok (.if_icmp .ge 32, 3) := by decide +kernel
theorem dX6_sealsAgree_10 : decode cX6_sealsAgree 10 = .ok (.aload_n 0, 1) := by decide +kernel
theorem dX6_sealsAgree_11 : decode cX6_sealsAgree 11 = .ok (.iload_n 1, 1) := by decide +kernel
theorem dX6_sealsAgree_12 : decode cX6_sealsAgree 12 = .ok (.invokevirtual 34, 3) := by decide +kernel
theorem dX6_sealsAgree_15 : decode cX6_sealsAgree 15 = .ok (.astore_n 2, 1) := by decide +kernel
theorem dX6_sealsAgree_16 : decode cX6_sealsAgree 16 = .ok (.aload_n 2, 1) := by decide +kernel
theorem dX6_sealsAgree_17 : decode cX6_sealsAgree 17 = .ok (.ifnull 16, 3) := by decide +kernel
theorem dX6_sealsAgree_20 : decode cX6_sealsAgree 20 = .ok (.aload_n 2, 1) := by decide +kernel
theorem dX6_sealsAgree_21 : decode cX6_sealsAgree 21 = .ok (.invokevirtual 68, 3) := by decide +kernel
theorem dX6_sealsAgree_24 : decode cX6_sealsAgree 24 = .ok (.aload_n 2, 1) := by decide +kernel
theorem dX6_sealsAgree_25 : decode cX6_sealsAgree 25 = .ok (.invokevirtual 72, 3) := by decide +kernel
theorem dX6_sealsAgree_28 : decode cX6_sealsAgree 28 = .ok (.if_icmp .eq 5, 3) := by decide +kernel
theorem dX6_sealsAgree_31 : decode cX6_sealsAgree 31 = .ok (.iconst 0, 1) := by decide +kernel
theorem dX6_sealsAgree_32 : decode cX6_sealsAgree 32 = .ok (.ireturn, 1) := by decide +kernel
theorem dX6_sealsAgree_33 : decode cX6_sealsAgree 33 = .ok (.iinc 1 1, 3) := by decide +kernel
theorem dX6_sealsAgree_36 : decode cX6_sealsAgree 36 = .ok (.goto (-34), 3) := by decide +kernel
theorem dX6_sealsAgree_39 : decode cX6_sealsAgree 39 = .ok (.iconst 1, 1) := by decide +kernel
theorem dX6_sealsAgree_40 : decode cX6_sealsAgree 40 = .ok (.ireturn, 1) := by decide +kernel
theorem dX7_init_0 : decode cX7_init 0 = .ok (.aload_n 0, 1) := by decide +kernel
theorem dX7_init_1 : decode cX7_init 1 = .ok (.invokespecial 3, 3) := by decide +kernel
theorem dX7_init_4 : decode cX7_init 4 = .ok (.aload_n 0, 1) := by decide +kernel
theorem dX7_init_5 : decode cX7_init 5 = .ok (.bipush 8, 2) := by decide +kernel
theorem dX7_init_7 : decode cX7_init 7 = .ok (.newarray .int, 2) := by decide +kernel
theorem dX7_init_9 : decode cX7_init 9 = .ok (.putfield 9, 3) := by decide +kernel
theorem dX7_init_12 : decode cX7_init 12 = .ok (.aload_n 0, 1) := by decide +kernel
theorem dX7_init_13 : decode cX7_init 13 = .ok (.bipush 6, 2) := by decide +kernel
theorem dX7_init_15 : decode cX7_init 15 = .ok (.newarray .int, 2) := by decide +kernel
theorem dX7_init_17 : decode cX7_init 17 = .ok (.putfield 15, 3) := by decide +kernel
theorem dX7_init_20 : decode cX7_init 20 = .ok (.aload_n 0, 1) := by decide +kernel
theorem dX7_init_21 : decode cX7_init 21 = .ok (.aload_n 1, 1) := by decide +kernel
theorem dX7_init_22 : decode cX7_init 22 = .ok (.putfield 18, 3) := by decide +kernel
theorem dX7_init_25 : decode cX7_init 25 = .ok (.aload_n 0, 1) := by decide +kernel
theorem dX7_init_26 : decode cX7_init 26 = .ok (.aload_n 2, 1) := by decide +kernel
theorem dX7_init_27 : decode cX7_init 27 = .ok (.putfield 22, 3) := by decide +kernel
theorem dX7_init_30 : decode cX7_init 30 = .ok (.return_, 1) := by decide +kernel
theorem dX8_init_0 : decode cX8_init 0 = .ok (.aload_n 0, 1) := by decide +kernel
theorem dX8_init_1 : decode cX8_init 1 = .ok (.invokespecial 1, 3) := by decide +kernel
theorem dX8_init_4 : decode cX8_init 4 = .ok (.aload_n 0, 1) := by decide +kernel
theorem dX8_init_5 : decode cX8_init 5 = .ok (.new 7, 3) := by decide +kernel
theorem dX8_init_8 : decode cX8_init 8 = .ok (.dup, 1) := by decide +kernel
theorem dX8_init_9 : decode cX8_init 9 = .ok (.invokespecial 9, 3) := by decide +kernel
theorem dX8_init_12 : decode cX8_init 12 = .ok (.putfield 10, 3) := by decide +kernel
theorem dX8_init_15 : decode cX8_init 15 = .ok (.aload_n 0, 1) := by decide +kernel
theorem dX8_init_16 : decode cX8_init 16 = .ok (.new 16, 3) := by decide +kernel
theorem dX8_init_19 : decode cX8_init 19 = .ok (.dup, 1) := by decide +kernel
theorem dX8_init_20 : decode cX8_init 20 = .ok (.invokespecial 18, 3) := by decide +kernel
theorem dX8_init_23 : decode cX8_init 23 = .ok (.putfield 19, 3) := by decide +kernel
theorem dX8_init_26 : decode cX8_init 26 = .ok (.aload_n 0, 1) := by decide +kernel
theorem dX8_init_27 : decode cX8_init 27 = .ok (.new 23, 3) := by decide +kernel
theorem dX8_init_30 : decode cX8_init 30 = .ok (.dup, 1) := by decide +kernel
theorem dX8_init_31 : decode cX8_init 31 = .ok (.invokespecial 25, 3) := by decide +kernel
theorem dX8_init_34 : decode cX8_init 34 = .ok (.putfield 26, 3) := by decide +kernel
theorem dX8_init_37 : decode cX8_init 37 = .ok (.aload_n 0, 1) := by decide +kernel
theorem dX8_init_38 : decode cX8_init 38 = .ok (.new 30, 3) := by decide +kernel
theorem dX8_init_41 : decode cX8_init 41 = .ok (.dup, 1) := by decide +kernel
theorem dX8_init_42 : decode cX8_init 42 = .ok (.aload_n 0, 1) := by decide +kernel
theorem dX8_init_43 : decode cX8_init 43 = .ok (.getfield 26, 3) := by decide +kernel
theorem dX8_init_46 : decode cX8_init 46 = .ok (.aload_n 0, 1) := by decide +kernel
theorem dX8_init_47 : decode cX8_init 47 = .ok (.getfield 10, 3) := by decide +kernel
theorem dX8_init_50 : decode cX8_init 50 = .ok (.invokespecial 32, 3) := by decide +kernel
theorem dX8_init_53 : decode cX8_init 53 = .ok (.putfield 35, 3) := by decide +kernel
theorem dX8_init_56 : decode cX8_init 56 = .ok (.aload_n 0, 1) := by decide +kernel
theorem dX8_init_57 : decode cX8_init 57 = .ok (.new 39, 3) := by decide +kernel
theorem dX8_init_60 : decode cX8_init 60 = .ok (.dup, 1) := by decide +kernel
theorem dX8_init_61 : decode cX8_init 61 = .ok (.aload_n 0, 1) := by decide +kernel
theorem dX8_init_62 : decode cX8_init 62 = .ok (.getfield 26, 3) := by decide +kernel
theorem dX8_init_65 : decode cX8_init 65 = .ok (.aload_n 0, 1) := by decide +kernel
theorem dX8_init_66 : decode cX8_init 66 = .ok (.getfield 10, 3) := by decide +kernel
theorem dX8_init_69 : decode cX8_init 69 = .ok (.aload_n 0, 1) := by decide +kernel
theorem dX8_init_70 : decode cX8_init 70 = .ok (.getfield 19, 3) := by decide +kernel
theorem dX8_init_73 : decode cX8_init 73 = .ok (.invokespecial 41, 3) := by decide +kernel
theorem dX8_init_76 : decode cX8_init 76 = .ok (.putfield 44, 3) := by decide +kernel
theorem dX8_init_79 : decode cX8_init 79 = .ok (.aload_n 0, 1) := by decide +kernel
theorem dX8_init_80 : decode cX8_init 80 = .ok (.new 48, 3) := by decide +kernel
theorem dX8_init_83 : decode cX8_init 83 = .ok (.dup, 1) := by decide +kernel
theorem dX8_init_84 : decode cX8_init 84 = .ok (.sipush 300, 3) := by decide +kernel
theorem dX8_init_87 : decode cX8_init 87 = .ok (.invokespecial 50, 3) := by decide +kernel
theorem dX8_init_90 : decode cX8_init 90 = .ok (.putfield 53, 3) := by decide +kernel
theorem dX8_init_93 : decode cX8_init 93 = .ok (.aload_n 0, 1) := by decide +kernel
theorem dX8_init_94 : decode cX8_init 94 = .ok (.new 57, 3) := by decide +kernel
theorem dX8_init_97 : decode cX8_init 97 = .ok (.dup, 1) := by decide +kernel
theorem dX8_init_98 : decode cX8_init 98 = .ok (.invokespecial 59, 3) := by decide +kernel
theorem dX8_init_101 : decode cX8_init 101 = .ok (.putfield 60, 3) := by decide +kernel
theorem dX8_init_104 : decode cX8_init 104 = .ok (.aload_n 0, 1) := by decide +kernel
theorem dX8_init_105 : decode cX8_init 105 = .ok (.sipush 300, 3) := by decide +kernel
theorem dX8_init_108 : decode cX8_init 108 = .ok (.newarray .int, 2) := by decide +kernel
theorem dX8_init_110 : decode cX8_init 110 = .ok (.putfield 64, 3) := by decide +kernel
theorem dX8_init_113 : decode cX8_init 113 = .ok (.return_, 1) := by decide +kernel
theorem dX8_setLoop_0 : decode cX8_setLoop 0 = .ok (.iload_n 1, 1) := by decide +kernel
theorem dX8_setLoop_1 : decode cX8_setLoop 1 = .ok (.iconst 4, 1) := by decide +kernel
theorem dX8_setLoop_2 : decode cX8_setLoop 2 = .ok (.if_icmp .lt 9, 3) := by decide +kernel
theorem dX8_setLoop_5 : decode cX8_setLoop 5 = .ok (.iload_n 1, 1) := by decide +kernel
theorem dX8_setLoop_6 : decode cX8_setLoop 6 = .ok (.bipush 20, 2) := by decide +kernel
theorem dX8_setLoop_8 : decode cX8_setLoop 8 = .ok (.if_icmp .le 11, 3) := by decide +kernel
theorem dX8_setLoop_11 : decode cX8_setLoop 11 = .ok (.new 68, 3) := by decide +kernel
theorem dX8_setLoop_14 : decode cX8_setLoop 14 = .ok (.dup, 1) := by decide +kernel
theorem dX8_setLoop_15 : decode cX8_setLoop 15 = .ok (.invokespecial 70, 3) := by decide +kernel
theorem dX8_setLoop_18 : decode cX8_setLoop 18 = .ok (.athrow, 1) := by decide +kernel
theorem dX8_setLoop_19 : decode cX8_setLoop 19 = .ok (.aload_n 0, 1) := by decide +kernel
theorem dX8_setLoop_20 : decode cX8_setLoop 20 = .ok (.getfield 26, 3) := by decide +kernel
theorem dX8_setLoop_23 : decode cX8_setLoop 23 = .ok (.getfield 71, 3) := by decide +kernel
theorem dX8_setLoop_26 : decode cX8_setLoop 26 = .ok (.ifCond .gt 13, 3) := by decide +kernel
theorem dX8_setLoop_29 : decode cX8_setLoop 29 = .ok (.aload_n 0, 1) := by decide +kernel
theorem dX8_setLoop_30 : decode cX8_setLoop 30 = .ok (.getfield 10, 3) := by decide +kernel
theorem dX8_setLoop_33 : decode cX8_setLoop 33 = .ok (.getfield 75, 3) := by decide +kernel
theorem dX8_setLoop_36 : decode cX8_setLoop 36 = .ok (.ifCond .le 11, 3) := by decide +kernel
theorem dX8_setLoop_39 : decode cX8_setLoop 39 = .ok (.new 78, 3) := by decide +kernel
theorem dX8_setLoop_42 : decode cX8_setLoop 42 = .ok (.dup, 1) := by decide +kernel
theorem dX8_setLoop_43 : decode cX8_setLoop 43 = .ok (.invokespecial 80, 3) := by decide +kernel
theorem dX8_setLoop_46 : decode cX8_setLoop 46 = .ok (.athrow, 1) := by decide +kernel
theorem dX8_setLoop_47 : decode cX8_setLoop 47 = .ok (.aload_n 0, 1) := by decide +kernel
theorem dX8_setLoop_48 : decode cX8_setLoop 48 = .ok (.getfield 19, 3) := by decide +kernel
theorem dX8_setLoop_51 : decode cX8_setLoop 51 = .ok (.getfield 81, 3) := by decide +kernel
theorem dX8_setLoop_54 : decode cX8_setLoop 54 = .ok (.istore_n 2, 1) := by decide +kernel
theorem dX8_setLoop_55 : decode cX8_setLoop 55 = .ok (.aload_n 0, 1) := by decide +kernel
theorem dX8_setLoop_56 : decode cX8_setLoop 56 = .ok (.getfield 19, 3) := by decide +kernel
theorem dX8_setLoop_59 : decode cX8_setLoop 59 = .ok (.iload_n 1, 1) := by decide +kernel
theorem dX8_setLoop_60 : decode cX8_setLoop 60 = .ok (.invokevirtual 84, 3) := by decide +kernel
theorem dX8_setLoop_63 : decode cX8_setLoop 63 = .ok (.aload_n 0, 1) := by decide +kernel
theorem dX8_setLoop_64 : decode cX8_setLoop 64 = .ok (.getfield 26, 3) := by decide +kernel
theorem dX8_setLoop_67 : decode cX8_setLoop 67 = .ok (.iload_n 1, 1) := by decide +kernel
theorem dX8_setLoop_68 : decode cX8_setLoop 68 = .ok (.iconst 1, 1) := by decide +kernel
theorem dX8_setLoop_69 : decode cX8_setLoop 69 = .ok (.isub, 1) := by decide +kernel
theorem dX8_setLoop_70 : decode cX8_setLoop 70 = .ok (.putfield 87, 3) := by decide +kernel
theorem dX8_setLoop_73 : decode cX8_setLoop 73 = .ok (.iload_n 2, 1) := by decide +kernel
theorem dX8_setLoop_74 : decode cX8_setLoop 74 = .ok (.ireturn, 1) := by decide +kernel
theorem dX8_addChute_0 : decode cX8_addChute 0 = .ok (.iload_n 1, 1) := by decide +kernel
theorem dX8_addChute_1 : decode cX8_addChute 1 = .ok (.iconst 1, 1) := by decide +kernel
theorem dX8_addChute_2 : decode cX8_addChute 2 = .ok (.if_icmp .lt 21, 3) := by decide +kernel
theorem dX8_addChute_5 : decode cX8_addChute 5 = .ok (.iload_n 1, 1) := by decide +kernel
theorem dX8_addChute_6 : decode cX8_addChute 6 = .ok (.aload_n 0, 1) := by decide +kernel
theorem dX8_addChute_7 : decode cX8_addChute 7 = .ok (.getfield 26, 3) := by decide +kernel
theorem dX8_addChute_10 : decode cX8_addChute 10 = .ok (.getfield 87, 3) := by decide +kernel
theorem dX8_addChute_13 : decode cX8_addChute 13 = .ok (.if_icmp .ge 10, 3) := by decide +kernel
theorem dX8_addChute_16 : decode cX8_addChute 16 = .ok (.iload_n 2, 1) := by decide +kernel
theorem dX8_addChute_17 : decode cX8_addChute 17 = .ok (.invokestatic 90, 3) := by decide +kernel
theorem dX8_addChute_20 : decode cX8_addChute 20 = .ok (.ifCond .ne 11, 3) := by decide +kernel
theorem dX8_addChute_23 : decode cX8_addChute 23 = .ok (.new 68, 3) := by decide +kernel
theorem dX8_addChute_26 : decode cX8_addChute 26 = .ok (.dup, 1) := by decide +kernel
theorem dX8_addChute_27 : decode cX8_addChute 27 = .ok (.invokespecial 70, 3) := by decide +kernel
theorem dX8_addChute_30 : decode cX8_addChute 30 = .ok (.athrow, 1) := by decide +kernel
theorem dX8_addChute_31 : decode cX8_addChute 31 = .ok (.aload_n 0, 1) := by decide +kernel
theorem dX8_addChute_32 : decode cX8_addChute 32 = .ok (.getfield 26, 3) := by decide +kernel
theorem dX8_addChute_35 : decode cX8_addChute 35 = .ok (.iload_n 1, 1) := by decide +kernel
theorem dX8_addChute_36 : decode cX8_addChute 36 = .ok (.invokevirtual 94, 3) := by decide +kernel
theorem dX8_addChute_39 : decode cX8_addChute 39 = .ok (.ifnull 11, 3) := by decide +kernel
theorem dX8_addChute_42 : decode cX8_addChute 42 = .ok (.new 98, 3) := by decide +kernel
theorem dX8_addChute_45 : decode cX8_addChute 45 = .ok (.dup, 1) := by decide +kernel
theorem dX8_addChute_46 : decode cX8_addChute 46 = .ok (.invokespecial 100, 3) := by decide +kernel
theorem dX8_addChute_49 : decode cX8_addChute 49 = .ok (.athrow, 1) := by decide +kernel
theorem dX8_addChute_50 : decode cX8_addChute 50 = .ok (.aload_n 0, 1) := by decide +kernel
theorem dX8_addChute_51 : decode cX8_addChute 51 = .ok (.getfield 26, 3) := by decide +kernel
theorem dX8_addChute_54 : decode cX8_addChute 54 = .ok (.getfield 71, 3) := by decide +kernel
theorem dX8_addChute_57 : decode cX8_addChute 57 = .ok (.bipush 6, 2) := by decide +kernel
theorem dX8_addChute_59 : decode cX8_addChute 59 = .ok (.if_icmp .lt 11, 3) := by decide +kernel
theorem dX8_addChute_62 : decode cX8_addChute 62 = .ok (.new 78, 3) := by decide +kernel
theorem dX8_addChute_65 : decode cX8_addChute 65 = .ok (.dup, 1) := by decide +kernel
theorem dX8_addChute_66 : decode cX8_addChute 66 = .ok (.invokespecial 80, 3) := by decide +kernel
theorem dX8_addChute_69 : decode cX8_addChute 69 = .ok (.athrow, 1) := by decide +kernel
theorem dX8_addChute_70 : decode cX8_addChute 70 = .ok (.aload_n 0, 1) := by decide +kernel
theorem dX8_addChute_71 : decode cX8_addChute 71 = .ok (.getfield 26, 3) := by decide +kernel
theorem dX8_addChute_74 : decode cX8_addChute 74 = .ok (.iload_n 1, 1) := by decide +kernel
theorem dX8_addChute_75 : decode cX8_addChute 75 = .ok (.iload_n 2, 1) := by decide +kernel
theorem dX8_addChute_76 : decode cX8_addChute 76 = .ok (.invokevirtual 101, 3) := by decide +kernel
theorem dX8_addChute_79 : decode cX8_addChute 79 = .ok (.ireturn, 1) := by decide +kernel
theorem dX8_setCapacity_0 : decode cX8_setCapacity 0 = .ok (.aload_n 0, 1) := by decide +kernel
theorem dX8_setCapacity_1 : decode cX8_setCapacity 1 = .ok (.iload_n 1, 1) := by decide +kernel
theorem dX8_setCapacity_2 : decode cX8_setCapacity 2 = .ok (.invokevirtual 105, 3) := by decide +kernel
theorem dX8_setCapacity_5 : decode cX8_setCapacity 5 = .ok (.astore_n 3, 1) := by decide +kernel
theorem dX8_setCapacity_6 : decode cX8_setCapacity 6 = .ok (.iload_n 2, 1) := by decide +kernel
theorem dX8_setCapacity_7 : decode cX8_setCapacity 7 = .ok (.invokestatic 90, 3) := by decide +kernel
theorem dX8_setCapacity_10 : decode cX8_setCapacity 10 = .ok (.ifCond .ne 11, 3) := by decide +kernel
theorem dX8_setCapacity_13 : decode cX8_setCapacity 13 = .ok (.new 68, 3) := by decide +kernel
theorem dX8_setCapacity_16 : decode cX8_setCapacity 16 = .ok (.dup, 1) := by decide +kernel
theorem dX8_setCapacity_17 : decode cX8_setCapacity 17 = .ok (.invokespecial 70, 3) := by decide +kernel
theorem dX8_setCapacity_20 : decode cX8_setCapacity 20 = .ok (.athrow, 1) := by decide +kernel
theorem dX8_setCapacity_21 : decode cX8_setCapacity 21 = .ok (.aload_n 3, 1) := by decide +kernel
theorem dX8_setCapacity_22 : decode cX8_setCapacity 22 = .ok (.getfield 108, 3) := by decide +kernel
theorem dX8_setCapacity_25 : decode cX8_setCapacity 25 = .ok (.getfield 113, 3) := by decide +kernel
theorem dX8_setCapacity_28 : decode cX8_setCapacity 28 = .ok (.iload_n 2, 1) := by decide +kernel
theorem dX8_setCapacity_29 : decode cX8_setCapacity 29 = .ok (.if_icmp .le 11, 3) := by decide +kernel
theorem dX8_setCapacity_32 : decode cX8_setCapacity 32 = .ok (.new 78, 3) := by decide +kernel
theorem dX8_setCapacity_35 : decode cX8_setCapacity 35 = .ok (.dup, 1) := by decide +kernel
theorem dX8_setCapacity_36 : decode cX8_setCapacity 36 = .ok (.invokespecial 80, 3) := by decide +kernel
theorem dX8_setCapacity_39 : decode cX8_setCapacity 39 = .ok (.athrow, 1) := by decide +kernel
theorem dX8_setCapacity_40 : decode cX8_setCapacity 40 = .ok (.aload_n 3, 1) := by decide +kernel
theorem dX8_setCapacity_41 : decode cX8_setCapacity 41 = .ok (.getfield 116, 3) := by decide +kernel
theorem dX8_setCapacity_44 : decode cX8_setCapacity 44 = .ok (.istore 4, 2) := by decide +kernel
theorem dX8_setCapacity_46 : decode cX8_setCapacity 46 = .ok (.aload_n 3, 1) := by decide +kernel
theorem dX8_setCapacity_47 : decode cX8_setCapacity 47 = .ok (.iload_n 2, 1) := by decide +kernel
theorem dX8_setCapacity_48 : decode cX8_setCapacity 48 = .ok (.putfield 116, 3) := by decide +kernel
theorem dX8_setCapacity_51 : decode cX8_setCapacity 51 = .ok (.iload 4, 2) := by decide +kernel
theorem dX8_setCapacity_53 : decode cX8_setCapacity 53 = .ok (.ireturn, 1) := by decide +kernel
theorem dX8_setLimit_0 : decode cX8_setLimit 0 = .ok (.iload_n 1, 1) := by decide +kernel
theorem dX8_setLimit_1 : decode cX8_setLimit 1 = .ok (.iconst 1, 1) := by decide +kernel
theorem dX8_setLimit_2 : decode cX8_setLimit 2 = .ok (.if_icmp .lt 9, 3) := by decide +kernel
theorem dX8_setLimit_5 : decode cX8_setLimit 5 = .ok (.iload_n 1, 1) := by decide +kernel
theorem dX8_setLimit_6 : decode cX8_setLimit 6 = .ok (.bipush 9, 2) := by decide +kernel
theorem dX8_setLimit_8 : decode cX8_setLimit 8 = .ok (.if_icmp .le 11, 3) := by decide +kernel
theorem dX8_setLimit_11 : decode cX8_setLimit 11 = .ok (.new 68, 3) := by decide +kernel
theorem dX8_setLimit_14 : decode cX8_setLimit 14 = .ok (.dup, 1) := by decide +kernel
theorem dX8_setLimit_15 : decode cX8_setLimit 15 = .ok (.invokespecial 70, 3) := by decide +kernel
theorem dX8_setLimit_18 : decode cX8_setLimit 18 = .ok (.athrow, 1) := by decide +kernel
theorem dX8_setLimit_19 : decode cX8_setLimit 19 = .ok (.aload_n 0, 1) := by decide +kernel
theorem dX8_setLimit_20 : decode cX8_setLimit 20 = .ok (.getfield 26, 3) := by decide +kernel
theorem dX8_setLimit_23 : decode cX8_setLimit 23 = .ok (.getfield 119, 3) := by decide +kernel
theorem dX8_setLimit_26 : decode cX8_setLimit 26 = .ok (.istore_n 2, 1) := by decide +kernel
theorem dX8_setLimit_27 : decode cX8_setLimit 27 = .ok (.aload_n 0, 1) := by decide +kernel
theorem dX8_setLimit_28 : decode cX8_setLimit 28 = .ok (.getfield 26, 3) := by decide +kernel
theorem dX8_setLimit_31 : decode cX8_setLimit 31 = .ok (.iload_n 1, 1) := by decide +kernel
theorem dX8_setLimit_32 : decode cX8_setLimit 32 = .ok (.putfield 119, 3) := by decide +kernel
theorem dX8_setLimit_35 : decode cX8_setLimit 35 = .ok (.iload_n 2, 1) := by decide +kernel
theorem dX8_setLimit_36 : decode cX8_setLimit 36 = .ok (.ireturn, 1) := by decide +kernel
theorem dX8_jam_0 : decode cX8_jam 0 = .ok (.aload_n 0, 1) := by decide +kernel
theorem dX8_jam_1 : decode cX8_jam 1 = .ok (.iload_n 1, 1) := by decide +kernel
theorem dX8_jam_2 : decode cX8_jam 2 = .ok (.invokevirtual 122, 3) := by decide +kernel
theorem dX8_jam_5 : decode cX8_jam 5 = .ok (.aload_n 0, 1) := by decide +kernel
theorem dX8_jam_6 : decode cX8_jam 6 = .ok (.getfield 26, 3) := by decide +kernel
theorem dX8_jam_9 : decode cX8_jam 9 = .ok (.iload_n 1, 1) := by decide +kernel
theorem dX8_jam_10 : decode cX8_jam 10 = .ok (.invokevirtual 125, 3) := by decide +kernel
theorem dX8_jam_13 : decode cX8_jam 13 = .ok (.ifCond .eq 11, 3) := by decide +kernel
theorem dX8_jam_16 : decode cX8_jam 16 = .ok (.new 78, 3) := by decide +kernel
theorem dX8_jam_19 : decode cX8_jam 19 = .ok (.dup, 1) := by decide +kernel
theorem dX8_jam_20 : decode cX8_jam 20 = .ok (.invokespecial 80, 3) := by decide +kernel
theorem dX8_jam_23 : decode cX8_jam 23 = .ok (.athrow, 1) := by decide +kernel
theorem dX8_jam_24 : decode cX8_jam 24 = .ok (.aload_n 0, 1) := by decide +kernel
theorem dX8_jam_25 : decode cX8_jam 25 = .ok (.getfield 26, 3) := by decide +kernel
theorem dX8_jam_28 : decode cX8_jam 28 = .ok (.iload_n 1, 1) := by decide +kernel
theorem dX8_jam_29 : decode cX8_jam 29 = .ok (.iconst 1, 1) := by decide +kernel
theorem dX8_jam_30 : decode cX8_jam 30 = .ok (.invokevirtual 128, 3) := by decide +kernel
theorem dX8_jam_33 : decode cX8_jam 33 = .ok (.aload_n 0, 1) := by decide +kernel
theorem dX8_jam_34 : decode cX8_jam 34 = .ok (.getfield 26, 3) := by decide +kernel
theorem dX8_jam_37 : decode cX8_jam 37 = .ok (.invokevirtual 132, 3) := by decide +kernel
theorem dX8_jam_40 : decode cX8_jam 40 = .ok (.ireturn, 1) := by decide +kernel
theorem dX8_free_0 : decode cX8_free 0 = .ok (.aload_n 0, 1) := by decide +kernel
theorem dX8_free_1 : decode cX8_free 1 = .ok (.iload_n 1, 1) := by decide +kernel
theorem dX8_free_2 : decode cX8_free 2 = .ok (.invokevirtual 122, 3) := by decide +kernel
theorem dX8_free_5 : decode cX8_free 5 = .ok (.aload_n 0, 1) := by decide +kernel
theorem dX8_free_6 : decode cX8_free 6 = .ok (.getfield 26, 3) := by decide +kernel
theorem dX8_free_9 : decode cX8_free 9 = .ok (.iload_n 1, 1) := by decide +kernel
theorem dX8_free_10 : decode cX8_free 10 = .ok (.invokevirtual 125, 3) := by decide +kernel
theorem dX8_free_13 : decode cX8_free 13 = .ok (.ifCond .ne 11, 3) := by decide +kernel
theorem dX8_free_16 : decode cX8_free 16 = .ok (.new 78, 3) := by decide +kernel
theorem dX8_free_19 : decode cX8_free 19 = .ok (.dup, 1) := by decide +kernel
theorem dX8_free_20 : decode cX8_free 20 = .ok (.invokespecial 80, 3) := by decide +kernel
theorem dX8_free_23 : decode cX8_free 23 = .ok (.athrow, 1) := by decide +kernel
theorem dX8_free_24 : decode cX8_free 24 = .ok (.aload_n 0, 1) := by decide +kernel
theorem dX8_free_25 : decode cX8_free 25 = .ok (.getfield 26, 3) := by decide +kernel
theorem dX8_free_28 : decode cX8_free 28 = .ok (.iload_n 1, 1) := by decide +kernel
theorem dX8_free_29 : decode cX8_free 29 = .ok (.iconst 0, 1) := by decide +kernel
theorem dX8_free_30 : decode cX8_free 30 = .ok (.invokevirtual 128, 3) := by decide +kernel
theorem dX8_free_33 : decode cX8_free 33 = .ok (.aload_n 0, 1) := by decide +kernel
theorem dX8_free_34 : decode cX8_free 34 = .ok (.getfield 26, 3) := by decide +kernel
theorem dX8_free_37 : decode cX8_free 37 = .ok (.invokevirtual 132, 3) := by decide +kernel
theorem dX8_free_40 : decode cX8_free 40 = .ok (.ireturn, 1) := by decide +kernel
theorem dX8_stationAt_0 : decode cX8_stationAt 0 = .ok (.aload_n 0, 1) := by decide +kernel
theorem dX8_stationAt_1 : decode cX8_stationAt 1 = .ok (.iload_n 1, 1) := by decide +kernel
theorem dX8_stationAt_2 : decode cX8_stationAt 2 = .ok (.invokevirtual 136, 3) := by decide +kernel
theorem dX8_stationAt_5 : decode cX8_stationAt 5 = .ok (.aload_n 0, 1) := by decide +kernel
theorem dX8_stationAt_6 : decode cX8_stationAt 6 = .ok (.getfield 26, 3) := by decide +kernel
theorem dX8_stationAt_9 : decode cX8_stationAt 9 = .ok (.iload_n 1, 1) := by decide +kernel
theorem dX8_stationAt_10 : decode cX8_stationAt 10 = .ok (.invokevirtual 139, 3) := by decide +kernel
theorem dX8_stationAt_13 : decode cX8_stationAt 13 = .ok (.ireturn, 1) := by decide +kernel
theorem dX8_arrive_0 : decode cX8_arrive 0 = .ok (.iload_n 1, 1) := by decide +kernel
theorem dX8_arrive_1 : decode cX8_arrive 1 = .ok (.invokestatic 143, 3) := by decide +kernel
theorem dX8_arrive_4 : decode cX8_arrive 4 = .ok (.ifCond .eq 14, 3) := by decide +kernel
theorem dX8_arrive_7 : decode cX8_arrive 7 = .ok (.iload_n 2, 1) := by decide +kernel
theorem dX8_arrive_8 : decode cX8_arrive 8 = .ok (.iconst 1, 1) := by decide +kernel
theorem dX8_arrive_9 : decode cX8_arrive 9 = .ok (.if_icmp .lt 9, 3) := by decide +kernel
theorem dX8_arrive_12 : decode cX8_arrive 12 = .ok (.iload_n 2, 1) := by decide +kernel
theorem dX8_arrive_13 : decode cX8_arrive 13 = .ok (.bipush 9, 2) := by decide +kernel
theorem dX8_arrive_15 : decode cX8_arrive 15 = .ok (.if_icmp .le 11, 3) := by decide +kernel
theorem dX8_arrive_18 : decode cX8_arrive 18 = .ok (.new 68, 3) := by decide +kernel
theorem dX8_arrive_21 : decode cX8_arrive 21 = .ok (.dup, 1) := by decide +kernel
theorem dX8_arrive_22 : decode cX8_arrive 22 = .ok (.invokespecial 70, 3) := by decide +kernel
theorem dX8_arrive_25 : decode cX8_arrive 25 = .ok (.athrow, 1) := by decide +kernel
theorem dX8_arrive_26 : decode cX8_arrive 26 = .ok (.aload_n 0, 1) := by decide +kernel
theorem dX8_arrive_27 : decode cX8_arrive 27 = .ok (.getfield 10, 3) := by decide +kernel
theorem dX8_arrive_30 : decode cX8_arrive 30 = .ok (.getfield 75, 3) := by decide +kernel
theorem dX8_arrive_33 : decode cX8_arrive 33 = .ok (.sipush 300, 3) := by decide +kernel
theorem dX8_arrive_36 : decode cX8_arrive 36 = .ok (.if_icmp .lt 11, 3) := by decide +kernel
theorem dX8_arrive_39 : decode cX8_arrive 39 = .ok (.new 78, 3) := by decide +kernel
theorem dX8_arrive_42 : decode cX8_arrive 42 = .ok (.dup, 1) := by decide +kernel
theorem dX8_arrive_43 : decode cX8_arrive 43 = .ok (.invokespecial 80, 3) := by decide +kernel
theorem dX8_arrive_46 : decode cX8_arrive 46 = .ok (.athrow, 1) := by decide +kernel
theorem dX8_arrive_47 : decode cX8_arrive 47 = .ok (.aload_n 0, 1) := by decide +kernel
theorem dX8_arrive_48 : decode cX8_arrive 48 = .ok (.getfield 10, 3) := by decide +kernel
theorem dX8_arrive_51 : decode cX8_arrive 51 = .ok (.iload_n 1, 1) := by decide +kernel
theorem dX8_arrive_52 : decode cX8_arrive 52 = .ok (.iload_n 2, 1) := by decide +kernel
theorem dX8_arrive_53 : decode cX8_arrive 53 = .ok (.invokevirtual 146, 3) := by decide +kernel
theorem dX8_arrive_56 : decode cX8_arrive 56 = .ok (.ireturn, 1) := by decide +kernel
theorem dX8_pass_0 : decode cX8_pass 0 = .ok (.iload_n 1, 1) := by decide +kernel
theorem dX8_pass_1 : decode cX8_pass 1 = .ok (.invokestatic 149, 3) := by decide +kernel
theorem dX8_pass_4 : decode cX8_pass 4 = .ok (.iconst 0, 1) := by decide +kernel
theorem dX8_pass_5 : decode cX8_pass 5 = .ok (.istore_n 2, 1) := by decide +kernel
theorem dX8_pass_6 : decode cX8_pass 6 = .ok (.iconst 0, 1) := by decide +kernel
theorem dX8_pass_7 : decode cX8_pass 7 = .ok (.istore_n 3, 1) := by decide +kernel
theorem dX8_pass_8 : decode cX8_pass 8 = .ok (.iload_n 3, 1) := by decide +kernel
theorem dX8_pass_9 : decode cX8_pass 9 = .ok (.iload_n 1, 1) := by decide +kernel
theorem dX8_pass_10 : decode cX8_pass 10 = .ok (.if_icmp .ge 16, 3) := by decide +kernel
theorem dX8_pass_13 : decode cX8_pass 13 = .ok (.iload_n 2, 1) := by decide +kernel
theorem dX8_pass_14 : decode cX8_pass 14 = .ok (.aload_n 0, 1) := by decide +kernel
theorem dX8_pass_15 : decode cX8_pass 15 = .ok (.invokevirtual 152, 3) := by decide +kernel
theorem dX8_pass_18 : decode cX8_pass 18 = .ok (.iadd, 1) := by decide +kernel
theorem dX8_pass_19 : decode cX8_pass 19 = .ok (.istore_n 2, 1) := by decide +kernel
theorem dX8_pass_20 : decode cX8_pass 20 = .ok (.iinc 3 1, 3) := by decide +kernel
theorem dX8_pass_23 : decode cX8_pass 23 = .ok (.goto (-15), 3) := by decide +kernel
theorem dX8_pass_26 : decode cX8_pass 26 = .ok (.iload_n 2, 1) := by decide +kernel
theorem dX8_pass_27 : decode cX8_pass 27 = .ok (.ireturn, 1) := by decide +kernel
theorem dX8_tick_0 : decode cX8_tick 0 = .ok (.aload_n 0, 1) := by decide +kernel
theorem dX8_tick_1 : decode cX8_tick 1 = .ok (.getfield 155, 3) := by decide +kernel
theorem dX8_tick_4 : decode cX8_tick 4 = .ok (.lreturn, 1) := by decide +kernel
theorem dX8_stateOf_0 : decode cX8_stateOf 0 = .ok (.aload_n 0, 1) := by decide +kernel
theorem dX8_stateOf_1 : decode cX8_stateOf 1 = .ok (.iload_n 1, 1) := by decide +kernel
theorem dX8_stateOf_2 : decode cX8_stateOf 2 = .ok (.invokevirtual 159, 3) := by decide +kernel
theorem dX8_stateOf_5 : decode cX8_stateOf 5 = .ok (.aload_n 0, 1) := by decide +kernel
theorem dX8_stateOf_6 : decode cX8_stateOf 6 = .ok (.getfield 10, 3) := by decide +kernel
theorem dX8_stateOf_9 : decode cX8_stateOf 9 = .ok (.iload_n 1, 1) := by decide +kernel
theorem dX8_stateOf_10 : decode cX8_stateOf 10 = .ok (.invokevirtual 162, 3) := by decide +kernel
theorem dX8_stateOf_13 : decode cX8_stateOf 13 = .ok (.ireturn, 1) := by decide +kernel
theorem dX8_positionOf_0 : decode cX8_positionOf 0 = .ok (.aload_n 0, 1) := by decide +kernel
theorem dX8_positionOf_1 : decode cX8_positionOf 1 = .ok (.iload_n 1, 1) := by decide +kernel
theorem dX8_positionOf_2 : decode cX8_positionOf 2 = .ok (.invokevirtual 159, 3) := by decide +kernel
theorem dX8_positionOf_5 : decode cX8_positionOf 5 = .ok (.aload_n 0, 1) := by decide +kernel
theorem dX8_positionOf_6 : decode cX8_positionOf 6 = .ok (.getfield 19, 3) := by decide +kernel
theorem dX8_positionOf_9 : decode cX8_positionOf 9 = .ok (.iload_n 1, 1) := by decide +kernel
theorem dX8_positionOf_10 : decode cX8_positionOf 10 = .ok (.invokevirtual 165, 3) := by decide +kernel
theorem dX8_positionOf_13 : decode cX8_positionOf 13 = .ok (.istore_n 2, 1) := by decide +kernel
theorem dX8_positionOf_14 : decode cX8_positionOf 14 = .ok (.iload_n 2, 1) := by decide +kernel
theorem dX8_positionOf_15 : decode cX8_positionOf 15 = .ok (.iconst (-1), 1) := by decide +kernel
theorem dX8_positionOf_16 : decode cX8_positionOf 16 = .ok (.if_icmp .ne 11, 3) := by decide +kernel
theorem dX8_positionOf_19 : decode cX8_positionOf 19 = .ok (.new 78, 3) := by decide +kernel
theorem dX8_positionOf_22 : decode cX8_positionOf 22 = .ok (.dup, 1) := by decide +kernel
theorem dX8_positionOf_23 : decode cX8_positionOf 23 = .ok (.invokespecial 80, 3) := by decide +kernel
theorem dX8_positionOf_26 : decode cX8_positionOf 26 = .ok (.athrow, 1) := by decide +kernel
theorem dX8_positionOf_27 : decode cX8_positionOf 27 = .ok (.iload_n 2, 1) := by decide +kernel
theorem dX8_positionOf_28 : decode cX8_positionOf 28 = .ok (.ireturn, 1) := by decide +kernel
theorem dX8_roundsOf_0 : decode cX8_roundsOf 0 = .ok (.aload_n 0, 1) := by decide +kernel
theorem dX8_roundsOf_1 : decode cX8_roundsOf 1 = .ok (.iload_n 1, 1) := by decide +kernel
theorem dX8_roundsOf_2 : decode cX8_roundsOf 2 = .ok (.invokevirtual 159, 3) := by decide +kernel
theorem dX8_roundsOf_5 : decode cX8_roundsOf 5 = .ok (.aload_n 0, 1) := by decide +kernel
theorem dX8_roundsOf_6 : decode cX8_roundsOf 6 = .ok (.getfield 10, 3) := by decide +kernel
theorem dX8_roundsOf_9 : decode cX8_roundsOf 9 = .ok (.iload_n 1, 1) := by decide +kernel
theorem dX8_roundsOf_10 : decode cX8_roundsOf 10 = .ok (.invokevirtual 162, 3) := by decide +kernel
theorem dX8_roundsOf_13 : decode cX8_roundsOf 13 = .ok (.istore_n 2, 1) := by decide +kernel
theorem dX8_roundsOf_14 : decode cX8_roundsOf 14 = .ok (.iload_n 2, 1) := by decide +kernel
theorem dX8_roundsOf_15 : decode cX8_roundsOf 15 = .ok (.bipush 119, 2) := by decide +kernel
theorem dX8_roundsOf_17 : decode cX8_roundsOf 17 = .ok (.if_icmp .ne 11, 3) := by decide +kernel
theorem dX8_roundsOf_20 : decode cX8_roundsOf 20 = .ok (.new 78, 3) := by decide +kernel
theorem dX8_roundsOf_23 : decode cX8_roundsOf 23 = .ok (.dup, 1) := by decide +kernel
theorem dX8_roundsOf_24 : decode cX8_roundsOf 24 = .ok (.invokespecial 80, 3) := by decide +kernel
theorem dX8_roundsOf_27 : decode cX8_roundsOf 27 = .ok (.athrow, 1) := by decide +kernel
theorem dX8_roundsOf_28 : decode cX8_roundsOf 28 = .ok (.iload_n 2, 1) := by decide +kernel
theorem dX8_roundsOf_29 : decode cX8_roundsOf 29 = .ok (.bipush 108, 2) := by decide +kernel
theorem dX8_roundsOf_31 : decode cX8_roundsOf 31 = .ok (.if_icmp .ne 19, 3) := by decide +kernel
theorem dX8_roundsOf_34 : decode cX8_roundsOf 34 = .ok (.aload_n 0, 1) := by decide +kernel
theorem dX8_roundsOf_35 : decode cX8_roundsOf 35 = .ok (.getfield 19, 3) := by decide +kernel
theorem dX8_roundsOf_38 : decode cX8_roundsOf 38 = .ok (.aload_n 0, 1) := by decide +kernel
theorem dX8_roundsOf_39 : decode cX8_roundsOf 39 = .ok (.getfield 19, 3) := by decide +kernel
theorem dX8_roundsOf_42 : decode cX8_roundsOf 42 = .ok (.iload_n 1, 1) := by decide +kernel
theorem dX8_roundsOf_43 : decode cX8_roundsOf 43 = .ok (.invokevirtual 165, 3) := by decide +kernel
theorem dX8_roundsOf_46 : decode cX8_roundsOf 46 = .ok (.invokevirtual 169, 3) := by decide +kernel
theorem dX8_roundsOf_49 : decode cX8_roundsOf 49 = .ok (.ireturn, 1) := by decide +kernel
theorem dX8_roundsOf_50 : decode cX8_roundsOf 50 = .ok (.aload_n 0, 1) := by decide +kernel
theorem dX8_roundsOf_51 : decode cX8_roundsOf 51 = .ok (.getfield 10, 3) := by decide +kernel
theorem dX8_roundsOf_54 : decode cX8_roundsOf 54 = .ok (.iload_n 1, 1) := by decide +kernel
theorem dX8_roundsOf_55 : decode cX8_roundsOf 55 = .ok (.invokevirtual 172, 3) := by decide +kernel
theorem dX8_roundsOf_58 : decode cX8_roundsOf 58 = .ok (.ireturn, 1) := by decide +kernel
theorem dX8_trayAt_0 : decode cX8_trayAt 0 = .ok (.aload_n 0, 1) := by decide +kernel
theorem dX8_trayAt_1 : decode cX8_trayAt 1 = .ok (.iload_n 1, 1) := by decide +kernel
theorem dX8_trayAt_2 : decode cX8_trayAt 2 = .ok (.invokevirtual 136, 3) := by decide +kernel
theorem dX8_trayAt_5 : decode cX8_trayAt 5 = .ok (.aload_n 0, 1) := by decide +kernel
theorem dX8_trayAt_6 : decode cX8_trayAt 6 = .ok (.getfield 19, 3) := by decide +kernel
theorem dX8_trayAt_9 : decode cX8_trayAt 9 = .ok (.iload_n 1, 1) := by decide +kernel
theorem dX8_trayAt_10 : decode cX8_trayAt 10 = .ok (.invokevirtual 175, 3) := by decide +kernel
theorem dX8_trayAt_13 : decode cX8_trayAt 13 = .ok (.istore_n 2, 1) := by decide +kernel
theorem dX8_trayAt_14 : decode cX8_trayAt 14 = .ok (.iload_n 2, 1) := by decide +kernel
theorem dX8_trayAt_15 : decode cX8_trayAt 15 = .ok (.iconst (-1), 1) := by decide +kernel
theorem dX8_trayAt_16 : decode cX8_trayAt 16 = .ok (.if_icmp .ne 11, 3) := by decide +kernel
theorem dX8_trayAt_19 : decode cX8_trayAt 19 = .ok (.new 178, 3) := by decide +kernel
theorem dX8_trayAt_22 : decode cX8_trayAt 22 = .ok (.dup, 1) := by decide +kernel
theorem dX8_trayAt_23 : decode cX8_trayAt 23 = .ok (.invokespecial 180, 3) := by decide +kernel
theorem dX8_trayAt_26 : decode cX8_trayAt 26 = .ok (.athrow, 1) := by decide +kernel
theorem dX8_trayAt_27 : decode cX8_trayAt 27 = .ok (.iload_n 2, 1) := by decide +kernel
theorem dX8_trayAt_28 : decode cX8_trayAt 28 = .ok (.ireturn, 1) := by decide +kernel
theorem dX8_waiting_0 : decode cX8_waiting 0 = .ok (.aload_n 0, 1) := by decide +kernel
theorem dX8_waiting_1 : decode cX8_waiting 1 = .ok (.getfield 10, 3) := by decide +kernel
theorem dX8_waiting_4 : decode cX8_waiting 4 = .ok (.getfield 75, 3) := by decide +kernel
theorem dX8_waiting_7 : decode cX8_waiting 7 = .ok (.aload_n 0, 1) := by decide +kernel
theorem dX8_waiting_8 : decode cX8_waiting 8 = .ok (.getfield 10, 3) := by decide +kernel
theorem dX8_waiting_11 : decode cX8_waiting 11 = .ok (.getfield 181, 3) := by decide +kernel
theorem dX8_waiting_14 : decode cX8_waiting 14 = .ok (.isub, 1) := by decide +kernel
theorem dX8_waiting_15 : decode cX8_waiting 15 = .ok (.ireturn, 1) := by decide +kernel
theorem dX8_onLoop_0 : decode cX8_onLoop 0 = .ok (.aload_n 0, 1) := by decide +kernel
theorem dX8_onLoop_1 : decode cX8_onLoop 1 = .ok (.getfield 10, 3) := by decide +kernel
theorem dX8_onLoop_4 : decode cX8_onLoop 4 = .ok (.getfield 181, 3) := by decide +kernel
theorem dX8_onLoop_7 : decode cX8_onLoop 7 = .ok (.aload_n 0, 1) := by decide +kernel
theorem dX8_onLoop_8 : decode cX8_onLoop 8 = .ok (.getfield 10, 3) := by decide +kernel
theorem dX8_onLoop_11 : decode cX8_onLoop 11 = .ok (.getfield 184, 3) := by decide +kernel
theorem dX8_onLoop_14 : decode cX8_onLoop 14 = .ok (.isub, 1) := by decide +kernel
theorem dX8_onLoop_15 : decode cX8_onLoop 15 = .ok (.ireturn, 1) := by decide +kernel
theorem dX8_overflowed_0 : decode cX8_overflowed 0 = .ok (.aload_n 0, 1) := by decide +kernel
theorem dX8_overflowed_1 : decode cX8_overflowed 1 = .ok (.getfield 53, 3) := by decide +kernel
theorem dX8_overflowed_4 : decode cX8_overflowed 4 = .ok (.getfield 113, 3) := by decide +kernel
theorem dX8_overflowed_7 : decode cX8_overflowed 7 = .ok (.ireturn, 1) := by decide +kernel
theorem dX8_leavingAhead_0 : decode cX8_leavingAhead 0 = .ok (.iload_n 1, 1) := by decide +kernel
theorem dX8_leavingAhead_1 : decode cX8_leavingAhead 1 = .ok (.invokestatic 149, 3) := by decide +kernel
theorem dX8_leavingAhead_4 : decode cX8_leavingAhead 4 = .ok (.aload_n 0, 1) := by decide +kernel
theorem dX8_leavingAhead_5 : decode cX8_leavingAhead 5 = .ok (.getfield 44, 3) := by decide +kernel
theorem dX8_leavingAhead_8 : decode cX8_leavingAhead 8 = .ok (.iload_n 1, 1) := by decide +kernel
theorem dX8_leavingAhead_9 : decode cX8_leavingAhead 9 = .ok (.invokevirtual 187, 3) := by decide +kernel
theorem dX8_leavingAhead_12 : decode cX8_leavingAhead 12 = .ok (.ireturn, 1) := by decide +kernel
theorem dX8_leavingByTrays_0 : decode cX8_leavingByTrays 0 = .ok (.iload_n 1, 1) := by decide +kernel
theorem dX8_leavingByTrays_1 : decode cX8_leavingByTrays 1 = .ok (.invokestatic 149, 3) := by decide +kernel
theorem dX8_leavingByTrays_4 : decode cX8_leavingByTrays 4 = .ok (.aload_n 0, 1) := by decide +kernel
theorem dX8_leavingByTrays_5 : decode cX8_leavingByTrays 5 = .ok (.getfield 44, 3) := by decide +kernel
theorem dX8_leavingByTrays_8 : decode cX8_leavingByTrays 8 = .ok (.iload_n 1, 1) := by decide +kernel
theorem dX8_leavingByTrays_9 : decode cX8_leavingByTrays 9 = .ok (.invokevirtual 190, 3) := by decide +kernel
theorem dX8_leavingByTrays_12 : decode cX8_leavingByTrays 12 = .ok (.ireturn, 1) := by decide +kernel
theorem dX8_assign_0 : decode cX8_assign 0 = .ok (.iload_n 1, 1) := by decide +kernel
theorem dX8_assign_1 : decode cX8_assign 1 = .ok (.invokestatic 200, 3) := by decide +kernel
theorem dX8_assign_4 : decode cX8_assign 4 = .ok (.aload_n 0, 1) := by decide +kernel
theorem dX8_assign_5 : decode cX8_assign 5 = .ok (.iload_n 2, 1) := by decide +kernel
theorem dX8_assign_6 : decode cX8_assign 6 = .ok (.invokevirtual 105, 3) := by decide +kernel
theorem dX8_assign_9 : decode cX8_assign 9 = .ok (.pop, 1) := by decide +kernel
theorem dX8_assign_10 : decode cX8_assign 10 = .ok (.aload_n 0, 1) := by decide +kernel
theorem dX8_assign_11 : decode cX8_assign 11 = .ok (.getfield 26, 3) := by decide +kernel
theorem dX8_assign_14 : decode cX8_assign 14 = .ok (.iload_n 1, 1) := by decide +kernel
theorem dX8_assign_15 : decode cX8_assign 15 = .ok (.invokevirtual 203, 3) := by decide +kernel
theorem dX8_assign_18 : decode cX8_assign 18 = .ok (.istore_n 3, 1) := by decide +kernel
theorem dX8_assign_19 : decode cX8_assign 19 = .ok (.aload_n 0, 1) := by decide +kernel
theorem dX8_assign_20 : decode cX8_assign 20 = .ok (.getfield 26, 3) := by decide +kernel
theorem dX8_assign_23 : decode cX8_assign 23 = .ok (.iload_n 1, 1) := by decide +kernel
theorem dX8_assign_24 : decode cX8_assign 24 = .ok (.iload_n 2, 1) := by decide +kernel
theorem dX8_assign_25 : decode cX8_assign 25 = .ok (.invokevirtual 206, 3) := by decide +kernel
theorem dX8_assign_28 : decode cX8_assign 28 = .ok (.iload_n 3, 1) := by decide +kernel
theorem dX8_assign_29 : decode cX8_assign 29 = .ok (.ireturn, 1) := by decide +kernel
theorem dX8_unassign_0 : decode cX8_unassign 0 = .ok (.iload_n 1, 1) := by decide +kernel
theorem dX8_unassign_1 : decode cX8_unassign 1 = .ok (.invokestatic 200, 3) := by decide +kernel
theorem dX8_unassign_4 : decode cX8_unassign 4 = .ok (.aload_n 0, 1) := by decide +kernel
theorem dX8_unassign_5 : decode cX8_unassign 5 = .ok (.getfield 26, 3) := by decide +kernel
theorem dX8_unassign_8 : decode cX8_unassign 8 = .ok (.iload_n 1, 1) := by decide +kernel
theorem dX8_unassign_9 : decode cX8_unassign 9 = .ok (.invokevirtual 203, 3) := by decide +kernel
theorem dX8_unassign_12 : decode cX8_unassign 12 = .ok (.istore_n 2, 1) := by decide +kernel
theorem dX8_unassign_13 : decode cX8_unassign 13 = .ok (.iload_n 2, 1) := by decide +kernel
theorem dX8_unassign_14 : decode cX8_unassign 14 = .ok (.iconst (-1), 1) := by decide +kernel
theorem dX8_unassign_15 : decode cX8_unassign 15 = .ok (.if_icmp .ne 11, 3) := by decide +kernel
theorem dX8_unassign_18 : decode cX8_unassign 18 = .ok (.new 78, 3) := by decide +kernel
theorem dX8_unassign_21 : decode cX8_unassign 21 = .ok (.dup, 1) := by decide +kernel
theorem dX8_unassign_22 : decode cX8_unassign 22 = .ok (.invokespecial 80, 3) := by decide +kernel
theorem dX8_unassign_25 : decode cX8_unassign 25 = .ok (.athrow, 1) := by decide +kernel
theorem dX8_unassign_26 : decode cX8_unassign 26 = .ok (.aload_n 0, 1) := by decide +kernel
theorem dX8_unassign_27 : decode cX8_unassign 27 = .ok (.getfield 26, 3) := by decide +kernel
theorem dX8_unassign_30 : decode cX8_unassign 30 = .ok (.iload_n 1, 1) := by decide +kernel
theorem dX8_unassign_31 : decode cX8_unassign 31 = .ok (.iconst (-1), 1) := by decide +kernel
theorem dX8_unassign_32 : decode cX8_unassign 32 = .ok (.invokevirtual 206, 3) := by decide +kernel
theorem dX8_unassign_35 : decode cX8_unassign 35 = .ok (.iload_n 2, 1) := by decide +kernel
theorem dX8_unassign_36 : decode cX8_unassign 36 = .ok (.ireturn, 1) := by decide +kernel
theorem dX8_chuteFor_0 : decode cX8_chuteFor 0 = .ok (.iload_n 1, 1) := by decide +kernel
theorem dX8_chuteFor_1 : decode cX8_chuteFor 1 = .ok (.invokestatic 200, 3) := by decide +kernel
theorem dX8_chuteFor_4 : decode cX8_chuteFor 4 = .ok (.aload_n 0, 1) := by decide +kernel
theorem dX8_chuteFor_5 : decode cX8_chuteFor 5 = .ok (.getfield 26, 3) := by decide +kernel
theorem dX8_chuteFor_8 : decode cX8_chuteFor 8 = .ok (.iload_n 1, 1) := by decide +kernel
theorem dX8_chuteFor_9 : decode cX8_chuteFor 9 = .ok (.invokevirtual 203, 3) := by decide +kernel
theorem dX8_chuteFor_12 : decode cX8_chuteFor 12 = .ok (.istore_n 2, 1) := by decide +kernel
theorem dX8_chuteFor_13 : decode cX8_chuteFor 13 = .ok (.iload_n 2, 1) := by decide +kernel
theorem dX8_chuteFor_14 : decode cX8_chuteFor 14 = .ok (.iconst (-1), 1) := by decide +kernel
theorem dX8_chuteFor_15 : decode cX8_chuteFor 15 = .ok (.if_icmp .ne 11, 3) := by decide +kernel
theorem dX8_chuteFor_18 : decode cX8_chuteFor 18 = .ok (.new 178, 3) := by decide +kernel
theorem dX8_chuteFor_21 : decode cX8_chuteFor 21 = .ok (.dup, 1) := by decide +kernel
theorem dX8_chuteFor_22 : decode cX8_chuteFor 22 = .ok (.invokespecial 180, 3) := by decide +kernel
theorem dX8_chuteFor_25 : decode cX8_chuteFor 25 = .ok (.athrow, 1) := by decide +kernel
theorem dX8_chuteFor_26 : decode cX8_chuteFor 26 = .ok (.iload_n 2, 1) := by decide +kernel
theorem dX8_chuteFor_27 : decode cX8_chuteFor 27 = .ok (.ireturn, 1) := by decide +kernel
theorem dX8_load_0 : decode cX8_load 0 = .ok (.iload_n 1, 1) := by decide +kernel
theorem dX8_load_1 : decode cX8_load 1 = .ok (.invokestatic 200, 3) := by decide +kernel
theorem dX8_load_4 : decode cX8_load 4 = .ok (.aload_n 0, 1) := by decide +kernel
theorem dX8_load_5 : decode cX8_load 5 = .ok (.getfield 10, 3) := by decide +kernel
theorem dX8_load_8 : decode cX8_load 8 = .ok (.iload_n 1, 1) := by decide +kernel
theorem dX8_load_9 : decode cX8_load 9 = .ok (.invokevirtual 210, 3) := by decide +kernel
theorem dX8_load_12 : decode cX8_load 12 = .ok (.ireturn, 1) := by decide +kernel
theorem dX8_inChute_0 : decode cX8_inChute 0 = .ok (.aload_n 0, 1) := by decide +kernel
theorem dX8_inChute_1 : decode cX8_inChute 1 = .ok (.iload_n 1, 1) := by decide +kernel
theorem dX8_inChute_2 : decode cX8_inChute 2 = .ok (.invokevirtual 105, 3) := by decide +kernel
theorem dX8_inChute_5 : decode cX8_inChute 5 = .ok (.getfield 108, 3) := by decide +kernel
theorem dX8_inChute_8 : decode cX8_inChute 8 = .ok (.getfield 113, 3) := by decide +kernel
theorem dX8_inChute_11 : decode cX8_inChute 11 = .ok (.ireturn, 1) := by decide +kernel
theorem dX8_seal_0 : decode cX8_seal 0 = .ok (.aload_n 0, 1) := by decide +kernel
theorem dX8_seal_1 : decode cX8_seal 1 = .ok (.iload_n 1, 1) := by decide +kernel
theorem dX8_seal_2 : decode cX8_seal 2 = .ok (.invokevirtual 105, 3) := by decide +kernel
theorem dX8_seal_5 : decode cX8_seal 5 = .ok (.invokevirtual 213, 3) := by decide +kernel
theorem dX8_seal_8 : decode cX8_seal 8 = .ok (.ireturn, 1) := by decide +kernel
theorem dX8_sealByParcels_0 : decode cX8_sealByParcels 0 = .ok (.aload_n 0, 1) := by decide +kernel
theorem dX8_sealByParcels_1 : decode cX8_sealByParcels 1 = .ok (.iload_n 1, 1) := by decide +kernel
theorem dX8_sealByParcels_2 : decode cX8_sealByParcels 2 = .ok (.invokevirtual 105, 3) := by decide +kernel
theorem dX8_sealByParcels_5 : decode cX8_sealByParcels 5 = .ok (.invokevirtual 216, 3) := by decide +kernel
theorem dX8_sealByParcels_8 : decode cX8_sealByParcels 8 = .ok (.ireturn, 1) := by decide +kernel
theorem dX8_dispatch_0 : decode cX8_dispatch 0 = .ok (.aload_n 0, 1) := by decide +kernel
theorem dX8_dispatch_1 : decode cX8_dispatch 1 = .ok (.iload_n 1, 1) := by decide +kernel
theorem dX8_dispatch_2 : decode cX8_dispatch 2 = .ok (.invokevirtual 105, 3) := by decide +kernel
theorem dX8_dispatch_5 : decode cX8_dispatch 5 = .ok (.astore_n 2, 1) := by decide +kernel
theorem dX8_dispatch_6 : decode cX8_dispatch 6 = .ok (.aload_n 2, 1) := by decide +kernel
theorem dX8_dispatch_7 : decode cX8_dispatch 7 = .ok (.getfield 108, 3) := by decide +kernel
theorem dX8_dispatch_10 : decode cX8_dispatch 10 = .ok (.getfield 113, 3) := by decide +kernel
theorem dX8_dispatch_13 : decode cX8_dispatch 13 = .ok (.ifCond .ne 11, 3) := by decide +kernel
theorem dX8_dispatch_16 : decode cX8_dispatch 16 = .ok (.new 78, 3) := by decide +kernel
theorem dX8_dispatch_19 : decode cX8_dispatch 19 = .ok (.dup, 1) := by decide +kernel
theorem dX8_dispatch_20 : decode cX8_dispatch 20 = .ok (.invokespecial 80, 3) := by decide +kernel
theorem dX8_dispatch_23 : decode cX8_dispatch 23 = .ok (.athrow, 1) := by decide +kernel
theorem dX8_dispatch_24 : decode cX8_dispatch 24 = .ok (.aload_n 2, 1) := by decide +kernel
theorem dX8_dispatch_25 : decode cX8_dispatch 25 = .ok (.invokevirtual 213, 3) := by decide +kernel
theorem dX8_dispatch_28 : decode cX8_dispatch 28 = .ok (.istore_n 3, 1) := by decide +kernel
theorem dX8_dispatch_29 : decode cX8_dispatch 29 = .ok (.aload_n 0, 1) := by decide +kernel
theorem dX8_dispatch_30 : decode cX8_dispatch 30 = .ok (.getfield 60, 3) := by decide +kernel
theorem dX8_dispatch_33 : decode cX8_dispatch 33 = .ok (.aload_n 2, 1) := by decide +kernel
theorem dX8_dispatch_34 : decode cX8_dispatch 34 = .ok (.getfield 108, 3) := by decide +kernel
theorem dX8_dispatch_37 : decode cX8_dispatch 37 = .ok (.invokevirtual 219, 3) := by decide +kernel
theorem dX8_dispatch_40 : decode cX8_dispatch 40 = .ok (.istore 4, 2) := by decide +kernel
theorem dX8_dispatch_42 : decode cX8_dispatch 42 = .ok (.iconst 0, 1) := by decide +kernel
theorem dX8_dispatch_43 : decode cX8_dispatch 43 = .ok (.istore 5, 2) := by decide +kernel
theorem dX8_dispatch_45 : decode cX8_dispatch 45 = .ok (.iload 5, 2) := by decide +kernel
theorem dX8_dispatch_47 : decode cX8_dispatch 47 = .ok (.aload_n 2, 1) := by decide +kernel
theorem dX8_dispatch_48 : decode cX8_dispatch 48 = .ok (.getfield 108, 3) := by decide +kernel
theorem dX8_dispatch_51 : decode cX8_dispatch 51 = .ok (.getfield 113, 3) := by decide +kernel
theorem dX8_dispatch_54 : decode cX8_dispatch 54 = .ok (.if_icmp .ge 27, 3) := by decide +kernel
theorem dX8_dispatch_57 : decode cX8_dispatch 57 = .ok (.aload_n 0, 1) := by decide +kernel
theorem dX8_dispatch_58 : decode cX8_dispatch 58 = .ok (.getfield 10, 3) := by decide +kernel
theorem dX8_dispatch_61 : decode cX8_dispatch 61 = .ok (.aload_n 2, 1) := by decide +kernel
theorem dX8_dispatch_62 : decode cX8_dispatch 62 = .ok (.getfield 108, 3) := by decide +kernel
theorem dX8_dispatch_65 : decode cX8_dispatch 65 = .ok (.iload 5, 2) := by decide +kernel
theorem dX8_dispatch_67 : decode cX8_dispatch 67 = .ok (.invokevirtual 223, 3) := by decide +kernel
theorem dX8_dispatch_70 : decode cX8_dispatch 70 = .ok (.iload 4, 2) := by decide +kernel
theorem dX8_dispatch_72 : decode cX8_dispatch 72 = .ok (.invokevirtual 226, 3) := by decide +kernel
theorem dX8_dispatch_75 : decode cX8_dispatch 75 = .ok (.iinc 5 1, 3) := by decide +kernel
theorem dX8_dispatch_78 : decode cX8_dispatch 78 = .ok (.goto (-33), 3) := by decide +kernel
theorem dX8_dispatch_81 : decode cX8_dispatch 81 = .ok (.aload_n 2, 1) := by decide +kernel
theorem dX8_dispatch_82 : decode cX8_dispatch 82 = .ok (.invokevirtual 229, 3) := by decide +kernel
theorem dX8_dispatch_85 : decode cX8_dispatch 85 = .ok (.iload_n 3, 1) := by decide +kernel
theorem dX8_dispatch_86 : decode cX8_dispatch 86 = .ok (.ireturn, 1) := by decide +kernel
theorem dX8_trucks_0 : decode cX8_trucks 0 = .ok (.aload_n 0, 1) := by decide +kernel
theorem dX8_trucks_1 : decode cX8_trucks 1 = .ok (.getfield 60, 3) := by decide +kernel
theorem dX8_trucks_4 : decode cX8_trucks 4 = .ok (.getfield 232, 3) := by decide +kernel
theorem dX8_trucks_7 : decode cX8_trucks 7 = .ok (.ireturn, 1) := by decide +kernel
theorem dX8_sealOfTruck_0 : decode cX8_sealOfTruck 0 = .ok (.aload_n 0, 1) := by decide +kernel
theorem dX8_sealOfTruck_1 : decode cX8_sealOfTruck 1 = .ok (.iload_n 1, 1) := by decide +kernel
theorem dX8_sealOfTruck_2 : decode cX8_sealOfTruck 2 = .ok (.invokevirtual 233, 3) := by decide +kernel
theorem dX8_sealOfTruck_5 : decode cX8_sealOfTruck 5 = .ok (.aload_n 0, 1) := by decide +kernel
theorem dX8_sealOfTruck_6 : decode cX8_sealOfTruck 6 = .ok (.getfield 60, 3) := by decide +kernel
theorem dX8_sealOfTruck_9 : decode cX8_sealOfTruck 9 = .ok (.iload_n 1, 1) := by decide +kernel
theorem dX8_sealOfTruck_10 : decode cX8_sealOfTruck 10 = .ok (.invokevirtual 236, 3) := by decide +kernel
theorem dX8_sealOfTruck_13 : decode cX8_sealOfTruck 13 = .ok (.ireturn, 1) := by decide +kernel
theorem dX8_parcelIn_0 : decode cX8_parcelIn 0 = .ok (.aload_n 0, 1) := by decide +kernel
theorem dX8_parcelIn_1 : decode cX8_parcelIn 1 = .ok (.iload_n 1, 1) := by decide +kernel
theorem dX8_parcelIn_2 : decode cX8_parcelIn 2 = .ok (.invokevirtual 233, 3) := by decide +kernel
theorem dX8_parcelIn_5 : decode cX8_parcelIn 5 = .ok (.iload_n 2, 1) := by decide +kernel
theorem dX8_parcelIn_6 : decode cX8_parcelIn 6 = .ok (.ifCond .lt 15, 3) := by decide +kernel
theorem dX8_parcelIn_9 : decode cX8_parcelIn 9 = .ok (.iload_n 2, 1) := by decide +kernel
theorem dX8_parcelIn_10 : decode cX8_parcelIn 10 = .ok (.aload_n 0, 1) := by decide +kernel
theorem dX8_parcelIn_11 : decode cX8_parcelIn 11 = .ok (.getfield 60, 3) := by decide +kernel
theorem dX8_parcelIn_14 : decode cX8_parcelIn 14 = .ok (.iload_n 1, 1) := by decide +kernel
theorem dX8_parcelIn_15 : decode cX8_parcelIn 15 = .ok (.invokevirtual 239, 3) := by decide +kernel
theorem dX8_parcelIn_18 : decode cX8_parcelIn 18 = .ok (.if_icmp .lt 11, 3) := by decide +kernel
theorem dX8_parcelIn_21 : decode cX8_parcelIn 21 = .ok (.new 178, 3) := by decide +kernel
theorem dX8_parcelIn_24 : decode cX8_parcelIn 24 = .ok (.dup, 1) := by decide +kernel
theorem dX8_parcelIn_25 : decode cX8_parcelIn 25 = .ok (.invokespecial 180, 3) := by decide +kernel
theorem dX8_parcelIn_28 : decode cX8_parcelIn 28 = .ok (.athrow, 1) := by decide +kernel
theorem dX8_parcelIn_29 : decode cX8_parcelIn 29 = .ok (.aload_n 0, 1) := by decide +kernel
theorem dX8_parcelIn_30 : decode cX8_parcelIn 30 = .ok (.getfield 60, 3) := by decide +kernel
theorem dX8_parcelIn_33 : decode cX8_parcelIn 33 = .ok (.iload_n 1, 1) := by decide +kernel
theorem dX8_parcelIn_34 : decode cX8_parcelIn 34 = .ok (.iload_n 2, 1) := by decide +kernel
theorem dX8_parcelIn_35 : decode cX8_parcelIn 35 = .ok (.invokevirtual 242, 3) := by decide +kernel
theorem dX8_parcelIn_38 : decode cX8_parcelIn 38 = .ok (.ireturn, 1) := by decide +kernel
theorem dX8_truckOf_0 : decode cX8_truckOf 0 = .ok (.aload_n 0, 1) := by decide +kernel
theorem dX8_truckOf_1 : decode cX8_truckOf 1 = .ok (.iload_n 1, 1) := by decide +kernel
theorem dX8_truckOf_2 : decode cX8_truckOf 2 = .ok (.invokevirtual 159, 3) := by decide +kernel
theorem dX8_truckOf_5 : decode cX8_truckOf 5 = .ok (.aload_n 0, 1) := by decide +kernel
theorem dX8_truckOf_6 : decode cX8_truckOf 6 = .ok (.getfield 10, 3) := by decide +kernel
theorem dX8_truckOf_9 : decode cX8_truckOf 9 = .ok (.iload_n 1, 1) := by decide +kernel
theorem dX8_truckOf_10 : decode cX8_truckOf 10 = .ok (.invokevirtual 162, 3) := by decide +kernel
theorem dX8_truckOf_13 : decode cX8_truckOf 13 = .ok (.bipush 116, 2) := by decide +kernel
theorem dX8_truckOf_15 : decode cX8_truckOf 15 = .ok (.if_icmp .eq 11, 3) := by decide +kernel
theorem dX8_truckOf_18 : decode cX8_truckOf 18 = .ok (.new 78, 3) := by decide +kernel
theorem dX8_truckOf_21 : decode cX8_truckOf 21 = .ok (.dup, 1) := by decide +kernel
theorem dX8_truckOf_22 : decode cX8_truckOf 22 = .ok (.invokespecial 80, 3) := by decide +kernel
theorem dX8_truckOf_25 : decode cX8_truckOf 25 = .ok (.athrow, 1) := by decide +kernel
theorem dX8_truckOf_26 : decode cX8_truckOf 26 = .ok (.aload_n 0, 1) := by decide +kernel
theorem dX8_truckOf_27 : decode cX8_truckOf 27 = .ok (.getfield 10, 3) := by decide +kernel
theorem dX8_truckOf_30 : decode cX8_truckOf 30 = .ok (.iload_n 1, 1) := by decide +kernel
theorem dX8_truckOf_31 : decode cX8_truckOf 31 = .ok (.invokevirtual 244, 3) := by decide +kernel
theorem dX8_truckOf_34 : decode cX8_truckOf 34 = .ok (.ireturn, 1) := by decide +kernel
theorem dX8_shipped_0 : decode cX8_shipped 0 = .ok (.aload_n 0, 1) := by decide +kernel
theorem dX8_shipped_1 : decode cX8_shipped 1 = .ok (.getfield 10, 3) := by decide +kernel
theorem dX8_shipped_4 : decode cX8_shipped 4 = .ok (.getfield 247, 3) := by decide +kernel
theorem dX8_shipped_7 : decode cX8_shipped 7 = .ok (.lreturn, 1) := by decide +kernel
theorem dX8_meanRounds_0 : decode cX8_meanRounds 0 = .ok (.aload_n 0, 1) := by decide +kernel
theorem dX8_meanRounds_1 : decode cX8_meanRounds 1 = .ok (.invokevirtual 250, 3) := by decide +kernel
theorem dX8_meanRounds_4 : decode cX8_meanRounds 4 = .ok (.aload_n 0, 1) := by decide +kernel
theorem dX8_meanRounds_5 : decode cX8_meanRounds 5 = .ok (.getfield 10, 3) := by decide +kernel
theorem dX8_meanRounds_8 : decode cX8_meanRounds 8 = .ok (.getfield 253, 3) := by decide +kernel
theorem dX8_meanRounds_11 : decode cX8_meanRounds 11 = .ok (.l2d, 1) := by decide +kernel
theorem dX8_meanRounds_12 : decode cX8_meanRounds 12 = .ok (.aload_n 0, 1) := by decide +kernel
theorem dX8_meanRounds_13 : decode cX8_meanRounds 13 = .ok (.getfield 10, 3) := by decide +kernel
theorem dX8_meanRounds_16 : decode cX8_meanRounds 16 = .ok (.getfield 184, 3) := by decide +kernel
theorem dX8_meanRounds_19 : decode cX8_meanRounds 19 = .ok (.i2d, 1) := by decide +kernel
theorem dX8_meanRounds_20 : decode cX8_meanRounds 20 = .ok (.ddiv, 1) := by decide +kernel
theorem dX8_meanRounds_21 : decode cX8_meanRounds 21 = .ok (.dreturn, 1) := by decide +kernel
theorem dX8_overflowShare_0 : decode cX8_overflowShare 0 = .ok (.aload_n 0, 1) := by decide +kernel
theorem dX8_overflowShare_1 : decode cX8_overflowShare 1 = .ok (.invokevirtual 250, 3) := by decide +kernel
theorem dX8_overflowShare_4 : decode cX8_overflowShare 4 = .ok (.aload_n 0, 1) := by decide +kernel
theorem dX8_overflowShare_5 : decode cX8_overflowShare 5 = .ok (.getfield 53, 3) := by decide +kernel
theorem dX8_overflowShare_8 : decode cX8_overflowShare 8 = .ok (.getfield 113, 3) := by decide +kernel
theorem dX8_overflowShare_11 : decode cX8_overflowShare 11 = .ok (.i2f, 1) := by decide +kernel
theorem dX8_overflowShare_12 : decode cX8_overflowShare 12 = .ok (.aload_n 0, 1) := by decide +kernel
theorem dX8_overflowShare_13 : decode cX8_overflowShare 13 = .ok (.getfield 10, 3) := by decide +kernel
theorem dX8_overflowShare_16 : decode cX8_overflowShare 16 = .ok (.getfield 184, 3) := by decide +kernel
theorem dX8_overflowShare_19 : decode cX8_overflowShare 19 = .ok (.i2f, 1) := by decide +kernel
theorem dX8_overflowShare_20 : decode cX8_overflowShare 20 = .ok (.fdiv, 1) := by decide +kernel
theorem dX8_overflowShare_21 : decode cX8_overflowShare 21 = .ok (.freturn, 1) := by decide +kernel
theorem dX8_isOnce_0 : decode cX8_isOnce 0 = .ok (.aload_n 0, 1) := by decide +kernel
theorem dX8_isOnce_1 : decode cX8_isOnce 1 = .ok (.invokevirtual 256, 3) := by decide +kernel
theorem dX8_isOnce_4 : decode cX8_isOnce 4 = .ok (.ifCond .eq 38, 3) := by decide +kernel
theorem dX8_isOnce_7 : decode cX8_isOnce 7 = .ok (.aload_n 0, 1) := by decide +kernel
theorem dX8_isOnce_8 : decode cX8_isOnce 8 = .ok (.getfield 26, 3) := by decide +kernel
theorem dX8_isOnce_11 : decode cX8_isOnce 11 = .ok (.invokevirtual 259, 3) := by decide +kernel
theorem dX8_isOnce_14 : decode cX8_isOnce 14 = .ok (.ifCond .eq 28, 3) := by decide +kernel
theorem dX8_isOnce_17 : decode cX8_isOnce 17 = .ok (.aload_n 0, 1) := by decide +kernel
theorem dX8_isOnce_18 : decode cX8_isOnce 18 = .ok (.getfield 44, 3) := by decide +kernel
theorem dX8_isOnce_21 : decode cX8_isOnce 21 = .ok (.bipush 60, 2) := by decide +kernel
theorem dX8_isOnce_23 : decode cX8_isOnce 23 = .ok (.invokevirtual 187, 3) := by decide +kernel
theorem dX8_isOnce_26 : decode cX8_isOnce 26 = .ok (.aload_n 0, 1) := by decide +kernel
theorem dX8_isOnce_27 : decode cX8_isOnce 27 = .ok (.getfield 44, 3) := by decide +kernel
theorem dX8_isOnce_30 : decode cX8_isOnce 30 = .ok (.bipush 60, 2) := by decide +kernel
theorem dX8_isOnce_32 : decode cX8_isOnce 32 = .ok (.invokevirtual 190, 3) := by decide +kernel
theorem dX8_isOnce_35 : decode cX8_isOnce 35 = .ok (.if_icmp .ne 7, 3) := by decide +kernel
theorem dX8_isOnce_38 : decode cX8_isOnce 38 = .ok (.iconst 1, 1) := by decide +kernel
theorem dX8_isOnce_39 : decode cX8_isOnce 39 = .ok (.goto 4, 3) := by decide +kernel
theorem dX8_isOnce_42 : decode cX8_isOnce 42 = .ok (.iconst 0, 1) := by decide +kernel
theorem dX8_isOnce_43 : decode cX8_isOnce 43 = .ok (.ireturn, 1) := by decide +kernel
theorem dX8_isCapacity_0 : decode cX8_isCapacity 0 = .ok (.iload_n 0, 1) := by decide +kernel
theorem dX8_isCapacity_1 : decode cX8_isCapacity 1 = .ok (.iconst 1, 1) := by decide +kernel
theorem dX8_isCapacity_2 : decode cX8_isCapacity 2 = .ok (.if_icmp .lt 13, 3) := by decide +kernel
theorem dX8_isCapacity_5 : decode cX8_isCapacity 5 = .ok (.iload_n 0, 1) := by decide +kernel
theorem dX8_isCapacity_6 : decode cX8_isCapacity 6 = .ok (.bipush 30, 2) := by decide +kernel
theorem dX8_isCapacity_8 : decode cX8_isCapacity 8 = .ok (.if_icmp .gt 7, 3) := by decide +kernel
theorem dX8_isCapacity_11 : decode cX8_isCapacity 11 = .ok (.iconst 1, 1) := by decide +kernel
theorem dX8_isCapacity_12 : decode cX8_isCapacity 12 = .ok (.goto 4, 3) := by decide +kernel
theorem dX8_isCapacity_15 : decode cX8_isCapacity 15 = .ok (.iconst 0, 1) := by decide +kernel
theorem dX8_isCapacity_16 : decode cX8_isCapacity 16 = .ok (.ireturn, 1) := by decide +kernel
theorem dX8_isRoute_0 : decode cX8_isRoute 0 = .ok (.iload_n 0, 1) := by decide +kernel
theorem dX8_isRoute_1 : decode cX8_isRoute 1 = .ok (.ifCond .lt 13, 3) := by decide +kernel
theorem dX8_isRoute_4 : decode cX8_isRoute 4 = .ok (.iload_n 0, 1) := by decide +kernel
theorem dX8_isRoute_5 : decode cX8_isRoute 5 = .ok (.bipush 8, 2) := by decide +kernel
theorem dX8_isRoute_7 : decode cX8_isRoute 7 = .ok (.if_icmp .ge 7, 3) := by decide +kernel
theorem dX8_isRoute_10 : decode cX8_isRoute 10 = .ok (.iconst 1, 1) := by decide +kernel
theorem dX8_isRoute_11 : decode cX8_isRoute 11 = .ok (.goto 4, 3) := by decide +kernel
theorem dX8_isRoute_14 : decode cX8_isRoute 14 = .ok (.iconst 0, 1) := by decide +kernel
theorem dX8_isRoute_15 : decode cX8_isRoute 15 = .ok (.ireturn, 1) := by decide +kernel
theorem dX8_requireRoute_0 : decode cX8_requireRoute 0 = .ok (.iload_n 0, 1) := by decide +kernel
theorem dX8_requireRoute_1 : decode cX8_requireRoute 1 = .ok (.invokestatic 143, 3) := by decide +kernel
theorem dX8_requireRoute_4 : decode cX8_requireRoute 4 = .ok (.ifCond .ne 11, 3) := by decide +kernel
theorem dX8_requireRoute_7 : decode cX8_requireRoute 7 = .ok (.new 68, 3) := by decide +kernel
theorem dX8_requireRoute_10 : decode cX8_requireRoute 10 = .ok (.dup, 1) := by decide +kernel
theorem dX8_requireRoute_11 : decode cX8_requireRoute 11 = .ok (.invokespecial 70, 3) := by decide +kernel
theorem dX8_requireRoute_14 : decode cX8_requireRoute 14 = .ok (.athrow, 1) := by decide +kernel
theorem dX8_requireRoute_15 : decode cX8_requireRoute 15 = .ok (.return_, 1) := by decide +kernel
theorem dX8_requireTicks_0 : decode cX8_requireTicks 0 = .ok (.iload_n 0, 1) := by decide +kernel
theorem dX8_requireTicks_1 : decode cX8_requireTicks 1 = .ok (.iconst 1, 1) := by decide +kernel
theorem dX8_requireTicks_2 : decode cX8_requireTicks 2 = .ok (.if_icmp .lt 10, 3) := by decide +kernel
theorem dX8_requireTicks_5 : decode cX8_requireTicks 5 = .ok (.iload_n 0, 1) := by decide +kernel
theorem dX8_requireTicks_6 : decode cX8_requireTicks 6 = .ok (.sipush 200, 3) := by decide +kernel
theorem dX8_requireTicks_9 : decode cX8_requireTicks 9 = .ok (.if_icmp .le 11, 3) := by decide +kernel
theorem dX8_requireTicks_12 : decode cX8_requireTicks 12 = .ok (.new 68, 3) := by decide +kernel
theorem dX8_requireTicks_15 : decode cX8_requireTicks 15 = .ok (.dup, 1) := by decide +kernel
theorem dX8_requireTicks_16 : decode cX8_requireTicks 16 = .ok (.invokespecial 70, 3) := by decide +kernel
theorem dX8_requireTicks_19 : decode cX8_requireTicks 19 = .ok (.athrow, 1) := by decide +kernel
theorem dX8_requireTicks_20 : decode cX8_requireTicks 20 = .ok (.return_, 1) := by decide +kernel
theorem dX8_requirePosition_0 : decode cX8_requirePosition 0 = .ok (.aload_n 0, 1) := by decide +kernel
theorem dX8_requirePosition_1 : decode cX8_requirePosition 1 = .ok (.getfield 19, 3) := by decide +kernel
theorem dX8_requirePosition_4 : decode cX8_requirePosition 4 = .ok (.iload_n 1, 1) := by decide +kernel
theorem dX8_requirePosition_5 : decode cX8_requirePosition 5 = .ok (.invokevirtual 262, 3) := by decide +kernel
theorem dX8_requirePosition_8 : decode cX8_requirePosition 8 = .ok (.ifCond .ne 11, 3) := by decide +kernel
theorem dX8_requirePosition_11 : decode cX8_requirePosition 11 = .ok (.new 68, 3) := by decide +kernel
theorem dX8_requirePosition_14 : decode cX8_requirePosition 14 = .ok (.dup, 1) := by decide +kernel
theorem dX8_requirePosition_15 : decode cX8_requirePosition 15 = .ok (.invokespecial 70, 3) := by decide +kernel
theorem dX8_requirePosition_18 : decode cX8_requirePosition 18 = .ok (.athrow, 1) := by decide +kernel
theorem dX8_requirePosition_19 : decode cX8_requirePosition 19 = .ok (.return_, 1) := by decide +kernel
theorem dX8_requireStation_0 : decode cX8_requireStation 0 = .ok (.aload_n 0, 1) := by decide +kernel
theorem dX8_requireStation_1 : decode cX8_requireStation 1 = .ok (.getfield 26, 3) := by decide +kernel
theorem dX8_requireStation_4 : decode cX8_requireStation 4 = .ok (.iload_n 1, 1) := by decide +kernel
theorem dX8_requireStation_5 : decode cX8_requireStation 5 = .ok (.invokevirtual 139, 3) := by decide +kernel
theorem dX8_requireStation_8 : decode cX8_requireStation 8 = .ok (.bipush 45, 2) := by decide +kernel
theorem dX8_requireStation_10 : decode cX8_requireStation 10 = .ok (.if_icmp .ne 11, 3) := by decide +kernel
theorem dX8_requireStation_13 : decode cX8_requireStation 13 = .ok (.new 178, 3) := by decide +kernel
theorem dX8_requireStation_16 : decode cX8_requireStation 16 = .ok (.dup, 1) := by decide +kernel
theorem dX8_requireStation_17 : decode cX8_requireStation 17 = .ok (.invokespecial 180, 3) := by decide +kernel
theorem dX8_requireStation_20 : decode cX8_requireStation 20 = .ok (.athrow, 1) := by decide +kernel
theorem dX8_requireStation_21 : decode cX8_requireStation 21 = .ok (.return_, 1) := by decide +kernel
theorem dX8_requireParcel_0 : decode cX8_requireParcel 0 = .ok (.aload_n 0, 1) := by decide +kernel
theorem dX8_requireParcel_1 : decode cX8_requireParcel 1 = .ok (.getfield 10, 3) := by decide +kernel
theorem dX8_requireParcel_4 : decode cX8_requireParcel 4 = .ok (.iload_n 1, 1) := by decide +kernel
theorem dX8_requireParcel_5 : decode cX8_requireParcel 5 = .ok (.invokevirtual 265, 3) := by decide +kernel
theorem dX8_requireParcel_8 : decode cX8_requireParcel 8 = .ok (.ifCond .ne 11, 3) := by decide +kernel
theorem dX8_requireParcel_11 : decode cX8_requireParcel 11 = .ok (.new 178, 3) := by decide +kernel
theorem dX8_requireParcel_14 : decode cX8_requireParcel 14 = .ok (.dup, 1) := by decide +kernel
theorem dX8_requireParcel_15 : decode cX8_requireParcel 15 = .ok (.invokespecial 180, 3) := by decide +kernel
theorem dX8_requireParcel_18 : decode cX8_requireParcel 18 = .ok (.athrow, 1) := by decide +kernel
theorem dX8_requireParcel_19 : decode cX8_requireParcel 19 = .ok (.return_, 1) := by decide +kernel
theorem dX8_requireChute_0 : decode cX8_requireChute 0 = .ok (.aload_n 0, 1) := by decide +kernel
theorem dX8_requireChute_1 : decode cX8_requireChute 1 = .ok (.getfield 26, 3) := by decide +kernel
theorem dX8_requireChute_4 : decode cX8_requireChute 4 = .ok (.iload_n 1, 1) := by decide +kernel
theorem dX8_requireChute_5 : decode cX8_requireChute 5 = .ok (.invokevirtual 266, 3) := by decide +kernel
theorem dX8_requireChute_8 : decode cX8_requireChute 8 = .ok (.astore_n 2, 1) := by decide +kernel
theorem dX8_requireChute_9 : decode cX8_requireChute 9 = .ok (.aload_n 2, 1) := by decide +kernel
theorem dX8_requireChute_10 : decode cX8_requireChute 10 = .ok (.ifnonnull 11, 3) := by decide +kernel
theorem dX8_requireChute_13 : decode cX8_requireChute 13 = .ok (.new 269, 3) := by decide +kernel
theorem dX8_requireChute_16 : decode cX8_requireChute 16 = .ok (.dup, 1) := by decide +kernel
theorem dX8_requireChute_17 : decode cX8_requireChute 17 = .ok (.invokespecial 271, 3) := by decide +kernel
theorem dX8_requireChute_20 : decode cX8_requireChute 20 = .ok (.athrow, 1) := by decide +kernel
theorem dX8_requireChute_21 : decode cX8_requireChute 21 = .ok (.aload_n 2, 1) := by decide +kernel
theorem dX8_requireChute_22 : decode cX8_requireChute 22 = .ok (.areturn, 1) := by decide +kernel
theorem dX8_requireTruck_0 : decode cX8_requireTruck 0 = .ok (.aload_n 0, 1) := by decide +kernel
theorem dX8_requireTruck_1 : decode cX8_requireTruck 1 = .ok (.getfield 60, 3) := by decide +kernel
theorem dX8_requireTruck_4 : decode cX8_requireTruck 4 = .ok (.iload_n 1, 1) := by decide +kernel
theorem dX8_requireTruck_5 : decode cX8_requireTruck 5 = .ok (.invokevirtual 272, 3) := by decide +kernel
theorem dX8_requireTruck_8 : decode cX8_requireTruck 8 = .ok (.ifCond .ne 11, 3) := by decide +kernel
theorem dX8_requireTruck_11 : decode cX8_requireTruck 11 = .ok (.new 269, 3) := by decide +kernel
theorem dX8_requireTruck_14 : decode cX8_requireTruck 14 = .ok (.dup, 1) := by decide +kernel
theorem dX8_requireTruck_15 : decode cX8_requireTruck 15 = .ok (.invokespecial 271, 3) := by decide +kernel
theorem dX8_requireTruck_18 : decode cX8_requireTruck 18 = .ok (.athrow, 1) := by decide +kernel
theorem dX8_requireTruck_19 : decode cX8_requireTruck 19 = .ok (.return_, 1) := by decide +kernel
theorem dX8_requireSomeLeft_0 : decode cX8_requireSomeLeft 0 = .ok (.aload_n 0, 1) := by decide +kernel
theorem dX8_requireSomeLeft_1 : decode cX8_requireSomeLeft 1 = .ok (.getfield 10, 3) := by decide +kernel
theorem dX8_requireSomeLeft_4 : decode cX8_requireSomeLeft 4 = .ok (.getfield 184, 3) := by decide +kernel
theorem dX8_requireSomeLeft_7 : decode cX8_requireSomeLeft 7 = .ok (.ifCond .gt 11, 3) := by decide +kernel
theorem dX8_requireSomeLeft_10 : decode cX8_requireSomeLeft 10 = .ok (.new 273, 3) := by decide +kernel
theorem dX8_requireSomeLeft_13 : decode cX8_requireSomeLeft 13 = .ok (.dup, 1) := by decide +kernel
theorem dX8_requireSomeLeft_14 : decode cX8_requireSomeLeft 14 = .ok (.invokespecial 275, 3) := by decide +kernel
theorem dX8_requireSomeLeft_17 : decode cX8_requireSomeLeft 17 = .ok (.athrow, 1) := by decide +kernel
theorem dX8_requireSomeLeft_18 : decode cX8_requireSomeLeft 18 = .ok (.return_, 1) := by decide +kernel
theorem dX8_passOneTick_0 : decode cX8_passOneTick 0 = .ok (.aload_n 0, 1) := by decide +kernel
theorem dX8_passOneTick_1 : decode cX8_passOneTick 1 = .ok (.dup, 1) := by decide +kernel
theorem dX8_passOneTick_2 : decode cX8_passOneTick 2 = .ok (.getfield 155, 3) := by decide +kernel
theorem dX8_passOneTick_5 : decode cX8_passOneTick 5 = .ok (.lconst 1, 1) := by decide +kernel
theorem dX8_passOneTick_6 : decode cX8_passOneTick 6 = .ok (.ladd, 1) := by decide +kernel
theorem dX8_passOneTick_7 : decode cX8_passOneTick 7 = .ok (.putfield 155, 3) := by decide +kernel
theorem dX8_passOneTick_10 : decode cX8_passOneTick 10 = .ok (.aload_n 0, 1) := by decide +kernel
theorem dX8_passOneTick_11 : decode cX8_passOneTick 11 = .ok (.getfield 19, 3) := by decide +kernel
theorem dX8_passOneTick_14 : decode cX8_passOneTick 14 = .ok (.invokevirtual 276, 3) := by decide +kernel
theorem dX8_passOneTick_17 : decode cX8_passOneTick 17 = .ok (.aload_n 0, 1) := by decide +kernel
theorem dX8_passOneTick_18 : decode cX8_passOneTick 18 = .ok (.getfield 26, 3) := by decide +kernel
theorem dX8_passOneTick_21 : decode cX8_passOneTick 21 = .ok (.aload_n 0, 1) := by decide +kernel
theorem dX8_passOneTick_22 : decode cX8_passOneTick 22 = .ok (.getfield 19, 3) := by decide +kernel
theorem dX8_passOneTick_25 : decode cX8_passOneTick 25 = .ok (.iconst 0, 1) := by decide +kernel
theorem dX8_passOneTick_26 : decode cX8_passOneTick 26 = .ok (.invokevirtual 175, 3) := by decide +kernel
theorem dX8_passOneTick_29 : decode cX8_passOneTick 29 = .ok (.aload_n 0, 1) := by decide +kernel
theorem dX8_passOneTick_30 : decode cX8_passOneTick 30 = .ok (.getfield 10, 3) := by decide +kernel
theorem dX8_passOneTick_33 : decode cX8_passOneTick 33 = .ok (.getfield 181, 3) := by decide +kernel
theorem dX8_passOneTick_36 : decode cX8_passOneTick 36 = .ok (.aload_n 0, 1) := by decide +kernel
theorem dX8_passOneTick_37 : decode cX8_passOneTick 37 = .ok (.getfield 10, 3) := by decide +kernel
theorem dX8_passOneTick_40 : decode cX8_passOneTick 40 = .ok (.getfield 75, 3) := by decide +kernel
theorem dX8_passOneTick_43 : decode cX8_passOneTick 43 = .ok (.invokevirtual 279, 3) := by decide +kernel
theorem dX8_passOneTick_46 : decode cX8_passOneTick 46 = .ok (.ifCond .eq 18, 3) := by decide +kernel
theorem dX8_passOneTick_49 : decode cX8_passOneTick 49 = .ok (.aload_n 0, 1) := by decide +kernel
theorem dX8_passOneTick_50 : decode cX8_passOneTick 50 = .ok (.getfield 19, 3) := by decide +kernel
theorem dX8_passOneTick_53 : decode cX8_passOneTick 53 = .ok (.iconst 0, 1) := by decide +kernel
theorem dX8_passOneTick_54 : decode cX8_passOneTick 54 = .ok (.aload_n 0, 1) := by decide +kernel
theorem dX8_passOneTick_55 : decode cX8_passOneTick 55 = .ok (.getfield 10, 3) := by decide +kernel
theorem dX8_passOneTick_58 : decode cX8_passOneTick 58 = .ok (.invokevirtual 283, 3) := by decide +kernel
theorem dX8_passOneTick_61 : decode cX8_passOneTick 61 = .ok (.invokevirtual 286, 3) := by decide +kernel
theorem dX8_passOneTick_64 : decode cX8_passOneTick 64 = .ok (.iconst 0, 1) := by decide +kernel
theorem dX8_passOneTick_65 : decode cX8_passOneTick 65 = .ok (.istore_n 1, 1) := by decide +kernel
theorem dX8_passOneTick_66 : decode cX8_passOneTick 66 = .ok (.iconst 0, 1) := by decide +kernel
theorem dX8_passOneTick_67 : decode cX8_passOneTick 67 = .ok (.istore_n 2, 1) := by decide +kernel
theorem dX8_passOneTick_68 : decode cX8_passOneTick 68 = .ok (.iload_n 2, 1) := by decide +kernel
theorem dX8_passOneTick_69 : decode cX8_passOneTick 69 = .ok (.aload_n 0, 1) := by decide +kernel
theorem dX8_passOneTick_70 : decode cX8_passOneTick 70 = .ok (.getfield 26, 3) := by decide +kernel
theorem dX8_passOneTick_73 : decode cX8_passOneTick 73 = .ok (.getfield 71, 3) := by decide +kernel
theorem dX8_passOneTick_76 : decode cX8_passOneTick 76 = .ok (.if_icmp .ge 17, 3) := by decide +kernel
theorem dX8_passOneTick_79 : decode cX8_passOneTick 79 = .ok (.iload_n 1, 1) := by decide +kernel
theorem dX8_passOneTick_80 : decode cX8_passOneTick 80 = .ok (.aload_n 0, 1) := by decide +kernel
theorem dX8_passOneTick_81 : decode cX8_passOneTick 81 = .ok (.iload_n 2, 1) := by decide +kernel
theorem dX8_passOneTick_82 : decode cX8_passOneTick 82 = .ok (.invokevirtual 289, 3) := by decide +kernel
theorem dX8_passOneTick_85 : decode cX8_passOneTick 85 = .ok (.iadd, 1) := by decide +kernel
theorem dX8_passOneTick_86 : decode cX8_passOneTick 86 = .ok (.istore_n 1, 1) := by decide +kernel
theorem dX8_passOneTick_87 : decode cX8_passOneTick 87 = .ok (.iinc 2 1, 3) := by decide +kernel
theorem dX8_passOneTick_90 : decode cX8_passOneTick 90 = .ok (.goto (-22), 3) := by decide +kernel
theorem dX8_passOneTick_93 : decode cX8_passOneTick 93 = .ok (.iload_n 1, 1) := by decide +kernel
theorem dX8_passOneTick_94 : decode cX8_passOneTick 94 = .ok (.aload_n 0, 1) := by decide +kernel
theorem dX8_passOneTick_95 : decode cX8_passOneTick 95 = .ok (.invokevirtual 292, 3) := by decide +kernel
theorem dX8_passOneTick_98 : decode cX8_passOneTick 98 = .ok (.iadd, 1) := by decide +kernel
theorem dX8_passOneTick_99 : decode cX8_passOneTick 99 = .ok (.ireturn, 1) := by decide +kernel
theorem dX8_dropInto_0 : decode cX8_dropInto 0 = .ok (.aload_n 0, 1) := by decide +kernel
theorem dX8_dropInto_1 : decode cX8_dropInto 1 = .ok (.getfield 26, 3) := by decide +kernel
theorem dX8_dropInto_4 : decode cX8_dropInto 4 = .ok (.iload_n 1, 1) := by decide +kernel
theorem dX8_dropInto_5 : decode cX8_dropInto 5 = .ok (.invokevirtual 266, 3) := by decide +kernel
theorem dX8_dropInto_8 : decode cX8_dropInto 8 = .ok (.astore_n 2, 1) := by decide +kernel
theorem dX8_dropInto_9 : decode cX8_dropInto 9 = .ok (.aload_n 2, 1) := by decide +kernel
theorem dX8_dropInto_10 : decode cX8_dropInto 10 = .ok (.ifnonnull 5, 3) := by decide +kernel
theorem dX8_dropInto_13 : decode cX8_dropInto 13 = .ok (.iconst 0, 1) := by decide +kernel
theorem dX8_dropInto_14 : decode cX8_dropInto 14 = .ok (.ireturn, 1) := by decide +kernel
theorem dX8_dropInto_15 : decode cX8_dropInto 15 = .ok (.aload_n 0, 1) := by decide +kernel
theorem dX8_dropInto_16 : decode cX8_dropInto 16 = .ok (.getfield 19, 3) := by decide +kernel
theorem dX8_dropInto_19 : decode cX8_dropInto 19 = .ok (.aload_n 2, 1) := by decide +kernel
theorem dX8_dropInto_20 : decode cX8_dropInto 20 = .ok (.getfield 295, 3) := by decide +kernel
theorem dX8_dropInto_23 : decode cX8_dropInto 23 = .ok (.invokevirtual 175, 3) := by decide +kernel
theorem dX8_dropInto_26 : decode cX8_dropInto 26 = .ok (.istore_n 3, 1) := by decide +kernel
theorem dX8_dropInto_27 : decode cX8_dropInto 27 = .ok (.aload_n 0, 1) := by decide +kernel
theorem dX8_dropInto_28 : decode cX8_dropInto 28 = .ok (.getfield 26, 3) := by decide +kernel
theorem dX8_dropInto_31 : decode cX8_dropInto 31 = .ok (.iload_n 1, 1) := by decide +kernel
theorem dX8_dropInto_32 : decode cX8_dropInto 32 = .ok (.aload_n 0, 1) := by decide +kernel
theorem dX8_dropInto_33 : decode cX8_dropInto 33 = .ok (.getfield 10, 3) := by decide +kernel
theorem dX8_dropInto_36 : decode cX8_dropInto 36 = .ok (.iload_n 3, 1) := by decide +kernel
theorem dX8_dropInto_37 : decode cX8_dropInto 37 = .ok (.invokevirtual 298, 3) := by decide +kernel
theorem dX8_dropInto_40 : decode cX8_dropInto 40 = .ok (.aload_n 2, 1) := by decide +kernel
theorem dX8_dropInto_41 : decode cX8_dropInto 41 = .ok (.getfield 108, 3) := by decide +kernel
theorem dX8_dropInto_44 : decode cX8_dropInto 44 = .ok (.getfield 113, 3) := by decide +kernel
theorem dX8_dropInto_47 : decode cX8_dropInto 47 = .ok (.invokevirtual 301, 3) := by decide +kernel
theorem dX8_dropInto_50 : decode cX8_dropInto 50 = .ok (.ifCond .ne 5, 3) := by decide +kernel
theorem dX8_dropInto_53 : decode cX8_dropInto 53 = .ok (.iconst 0, 1) := by decide +kernel
theorem dX8_dropInto_54 : decode cX8_dropInto 54 = .ok (.ireturn, 1) := by decide +kernel
theorem dX8_dropInto_55 : decode cX8_dropInto 55 = .ok (.aload_n 0, 1) := by decide +kernel
theorem dX8_dropInto_56 : decode cX8_dropInto 56 = .ok (.getfield 10, 3) := by decide +kernel
theorem dX8_dropInto_59 : decode cX8_dropInto 59 = .ok (.iload_n 3, 1) := by decide +kernel
theorem dX8_dropInto_60 : decode cX8_dropInto 60 = .ok (.bipush 99, 2) := by decide +kernel
theorem dX8_dropInto_62 : decode cX8_dropInto 62 = .ok (.aload_n 0, 1) := by decide +kernel
theorem dX8_dropInto_63 : decode cX8_dropInto 63 = .ok (.getfield 19, 3) := by decide +kernel
theorem dX8_dropInto_66 : decode cX8_dropInto 66 = .ok (.aload_n 2, 1) := by decide +kernel
theorem dX8_dropInto_67 : decode cX8_dropInto 67 = .ok (.getfield 295, 3) := by decide +kernel
theorem dX8_dropInto_70 : decode cX8_dropInto 70 = .ok (.invokevirtual 169, 3) := by decide +kernel
theorem dX8_dropInto_73 : decode cX8_dropInto 73 = .ok (.invokevirtual 304, 3) := by decide +kernel
theorem dX8_dropInto_76 : decode cX8_dropInto 76 = .ok (.aload_n 0, 1) := by decide +kernel
theorem dX8_dropInto_77 : decode cX8_dropInto 77 = .ok (.getfield 19, 3) := by decide +kernel
theorem dX8_dropInto_80 : decode cX8_dropInto 80 = .ok (.aload_n 2, 1) := by decide +kernel
theorem dX8_dropInto_81 : decode cX8_dropInto 81 = .ok (.getfield 295, 3) := by decide +kernel
theorem dX8_dropInto_84 : decode cX8_dropInto 84 = .ok (.invokevirtual 308, 3) := by decide +kernel
theorem dX8_dropInto_87 : decode cX8_dropInto 87 = .ok (.aload_n 2, 1) := by decide +kernel
theorem dX8_dropInto_88 : decode cX8_dropInto 88 = .ok (.iload_n 3, 1) := by decide +kernel
theorem dX8_dropInto_89 : decode cX8_dropInto 89 = .ok (.invokevirtual 311, 3) := by decide +kernel
theorem dX8_dropInto_92 : decode cX8_dropInto 92 = .ok (.iconst 1, 1) := by decide +kernel
theorem dX8_dropInto_93 : decode cX8_dropInto 93 = .ok (.ireturn, 1) := by decide +kernel
theorem dX8_dropIntoOverflow_0 : decode cX8_dropIntoOverflow 0 = .ok (.aload_n 0, 1) := by decide +kernel
theorem dX8_dropIntoOverflow_1 : decode cX8_dropIntoOverflow 1 = .ok (.getfield 19, 3) := by decide +kernel
theorem dX8_dropIntoOverflow_4 : decode cX8_dropIntoOverflow 4 = .ok (.aload_n 0, 1) := by decide +kernel
theorem dX8_dropIntoOverflow_5 : decode cX8_dropIntoOverflow 5 = .ok (.getfield 26, 3) := by decide +kernel
theorem dX8_dropIntoOverflow_8 : decode cX8_dropIntoOverflow 8 = .ok (.getfield 87, 3) := by decide +kernel
theorem dX8_dropIntoOverflow_11 : decode cX8_dropIntoOverflow 11 = .ok (.invokevirtual 175, 3) := by decide +kernel
theorem dX8_dropIntoOverflow_14 : decode cX8_dropIntoOverflow 14 = .ok (.istore_n 1, 1) := by decide +kernel
theorem dX8_dropIntoOverflow_15 : decode cX8_dropIntoOverflow 15 = .ok (.aload_n 0, 1) := by decide +kernel
theorem dX8_dropIntoOverflow_16 : decode cX8_dropIntoOverflow 16 = .ok (.getfield 19, 3) := by decide +kernel
theorem dX8_dropIntoOverflow_19 : decode cX8_dropIntoOverflow 19 = .ok (.aload_n 0, 1) := by decide +kernel
theorem dX8_dropIntoOverflow_20 : decode cX8_dropIntoOverflow 20 = .ok (.getfield 26, 3) := by decide +kernel
theorem dX8_dropIntoOverflow_23 : decode cX8_dropIntoOverflow 23 = .ok (.getfield 87, 3) := by decide +kernel
theorem dX8_dropIntoOverflow_26 : decode cX8_dropIntoOverflow 26 = .ok (.invokevirtual 169, 3) := by decide +kernel
theorem dX8_dropIntoOverflow_29 : decode cX8_dropIntoOverflow 29 = .ok (.istore_n 2, 1) := by decide +kernel
theorem dX8_dropIntoOverflow_30 : decode cX8_dropIntoOverflow 30 = .ok (.aload_n 0, 1) := by decide +kernel
theorem dX8_dropIntoOverflow_31 : decode cX8_dropIntoOverflow 31 = .ok (.getfield 26, 3) := by decide +kernel
theorem dX8_dropIntoOverflow_34 : decode cX8_dropIntoOverflow 34 = .ok (.iload_n 1, 1) := by decide +kernel
theorem dX8_dropIntoOverflow_35 : decode cX8_dropIntoOverflow 35 = .ok (.iload_n 2, 1) := by decide +kernel
theorem dX8_dropIntoOverflow_36 : decode cX8_dropIntoOverflow 36 = .ok (.invokevirtual 314, 3) := by decide +kernel
theorem dX8_dropIntoOverflow_39 : decode cX8_dropIntoOverflow 39 = .ok (.ifCond .ne 5, 3) := by decide +kernel
theorem dX8_dropIntoOverflow_42 : decode cX8_dropIntoOverflow 42 = .ok (.iconst 0, 1) := by decide +kernel
theorem dX8_dropIntoOverflow_43 : decode cX8_dropIntoOverflow 43 = .ok (.ireturn, 1) := by decide +kernel
theorem dX8_dropIntoOverflow_44 : decode cX8_dropIntoOverflow 44 = .ok (.aload_n 0, 1) := by decide +kernel
theorem dX8_dropIntoOverflow_45 : decode cX8_dropIntoOverflow 45 = .ok (.getfield 10, 3) := by decide +kernel
theorem dX8_dropIntoOverflow_48 : decode cX8_dropIntoOverflow 48 = .ok (.iload_n 1, 1) := by decide +kernel
theorem dX8_dropIntoOverflow_49 : decode cX8_dropIntoOverflow 49 = .ok (.bipush 111, 2) := by decide +kernel
theorem dX8_dropIntoOverflow_51 : decode cX8_dropIntoOverflow 51 = .ok (.iload_n 2, 1) := by decide +kernel
theorem dX8_dropIntoOverflow_52 : decode cX8_dropIntoOverflow 52 = .ok (.invokevirtual 304, 3) := by decide +kernel
theorem dX8_dropIntoOverflow_55 : decode cX8_dropIntoOverflow 55 = .ok (.aload_n 0, 1) := by decide +kernel
theorem dX8_dropIntoOverflow_56 : decode cX8_dropIntoOverflow 56 = .ok (.getfield 19, 3) := by decide +kernel
theorem dX8_dropIntoOverflow_59 : decode cX8_dropIntoOverflow 59 = .ok (.aload_n 0, 1) := by decide +kernel
theorem dX8_dropIntoOverflow_60 : decode cX8_dropIntoOverflow 60 = .ok (.getfield 26, 3) := by decide +kernel
theorem dX8_dropIntoOverflow_63 : decode cX8_dropIntoOverflow 63 = .ok (.getfield 87, 3) := by decide +kernel
theorem dX8_dropIntoOverflow_66 : decode cX8_dropIntoOverflow 66 = .ok (.invokevirtual 308, 3) := by decide +kernel
theorem dX8_dropIntoOverflow_69 : decode cX8_dropIntoOverflow 69 = .ok (.aload_n 0, 1) := by decide +kernel
theorem dX8_dropIntoOverflow_70 : decode cX8_dropIntoOverflow 70 = .ok (.getfield 53, 3) := by decide +kernel
theorem dX8_dropIntoOverflow_73 : decode cX8_dropIntoOverflow 73 = .ok (.iload_n 1, 1) := by decide +kernel
theorem dX8_dropIntoOverflow_74 : decode cX8_dropIntoOverflow 74 = .ok (.invokevirtual 318, 3) := by decide +kernel
theorem dX8_dropIntoOverflow_77 : decode cX8_dropIntoOverflow 77 = .ok (.iconst 1, 1) := by decide +kernel
theorem dX8_dropIntoOverflow_78 : decode cX8_dropIntoOverflow 78 = .ok (.ireturn, 1) := by decide +kernel
theorem dX8_eachParcelIsOnce_0 : decode cX8_eachParcelIsOnce 0 = .ok (.iconst 0, 1) := by decide +kernel
theorem dX8_eachParcelIsOnce_1 : decode cX8_eachParcelIsOnce 1 = .ok (.istore_n 1, 1) := by decide +kernel
theorem dX8_eachParcelIsOnce_2 : decode cX8_eachParcelIsOnce 2 = .ok (.iload_n 1, 1) := by decide +kernel
theorem dX8_eachParcelIsOnce_3 : decode cX8_eachParcelIsOnce 3 = .ok (.aload_n 0, 1) := by decide +kernel
theorem dX8_eachParcelIsOnce_4 : decode cX8_eachParcelIsOnce 4 = .ok (.getfield 64, 3) := by decide +kernel
theorem dX8_eachParcelIsOnce_7 : decode cX8_eachParcelIsOnce 7 = .ok (.arraylength, 1) := by decide +kernel
theorem dX8_eachParcelIsOnce_8 : decode cX8_eachParcelIsOnce 8 = .ok (.if_icmp .ge 16, 3) := by decide +kernel
theorem dX8_eachParcelIsOnce_11 : decode cX8_eachParcelIsOnce 11 = .ok (.aload_n 0, 1) := by decide +kernel
theorem dX8_eachParcelIsOnce_12 : decode cX8_eachParcelIsOnce 12 = .ok (.getfield 64, 3) := by decide +kernel
theorem dX8_eachParcelIsOnce_15 : decode cX8_eachParcelIsOnce 15 = .ok (.iload_n 1, 1) := by decide +kernel
theorem dX8_eachParcelIsOnce_16 : decode cX8_eachParcelIsOnce 16 = .ok (.iconst 0, 1) := by decide +kernel
theorem dX8_eachParcelIsOnce_17 : decode cX8_eachParcelIsOnce 17 = .ok (.iastore, 1) := by decide +kernel
theorem dX8_eachParcelIsOnce_18 : decode cX8_eachParcelIsOnce 18 = .ok (.iinc 1 1, 3) := by decide +kernel
theorem dX8_eachParcelIsOnce_21 : decode cX8_eachParcelIsOnce 21 = .ok (.goto (-19), 3) := by decide +kernel
theorem dX8_eachParcelIsOnce_24 : decode cX8_eachParcelIsOnce 24 = .ok (.aload_n 0, 1) := by decide +kernel
theorem dX8_eachParcelIsOnce_25 : decode cX8_eachParcelIsOnce 25 = .ok (.getfield 10, 3) := by decide +kernel
theorem dX8_eachParcelIsOnce_28 : decode cX8_eachParcelIsOnce 28 = .ok (.getfield 181, 3) := by decide +kernel
theorem dX8_eachParcelIsOnce_31 : decode cX8_eachParcelIsOnce 31 = .ok (.istore_n 1, 1) := by decide +kernel
theorem dX8_eachParcelIsOnce_32 : decode cX8_eachParcelIsOnce 32 = .ok (.iload_n 1, 1) := by decide +kernel
theorem dX8_eachParcelIsOnce_33 : decode cX8_eachParcelIsOnce 33 = .ok (.aload_n 0, 1) := by decide +kernel
theorem dX8_eachParcelIsOnce_34 : decode cX8_eachParcelIsOnce 34 = .ok (.getfield 10, 3) := by decide +kernel
theorem dX8_eachParcelIsOnce_37 : decode cX8_eachParcelIsOnce 37 = .ok (.getfield 75, 3) := by decide +kernel
theorem dX8_eachParcelIsOnce_40 : decode cX8_eachParcelIsOnce 40 = .ok (.if_icmp .ge 14, 3) := by decide +kernel
theorem dX8_eachParcelIsOnce_43 : decode cX8_eachParcelIsOnce 43 = .ok (.aload_n 0, 1) := by decide +kernel
theorem dX8_eachParcelIsOnce_44 : decode cX8_eachParcelIsOnce 44 = .ok (.iload_n 1, 1) := by decide +kernel
theorem dX8_eachParcelIsOnce_45 : decode cX8_eachParcelIsOnce 45 = .ok (.invokevirtual 320, 3) := by decide +kernel
theorem dX8_eachParcelIsOnce_48 : decode cX8_eachParcelIsOnce 48 = .ok (.iinc 1 1, 3) := by decide +kernel
theorem dX8_eachParcelIsOnce_51 : decode cX8_eachParcelIsOnce 51 = .ok (.goto (-19), 3) := by decide +kernel
theorem dX8_eachParcelIsOnce_54 : decode cX8_eachParcelIsOnce 54 = .ok (.iconst 0, 1) := by decide +kernel
theorem dX8_eachParcelIsOnce_55 : decode cX8_eachParcelIsOnce 55 = .ok (.istore_n 1, 1) := by decide +kernel
theorem dX8_eachParcelIsOnce_56 : decode cX8_eachParcelIsOnce 56 = .ok (.iload_n 1, 1) := by decide +kernel
theorem dX8_eachParcelIsOnce_57 : decode cX8_eachParcelIsOnce 57 = .ok (.aload_n 0, 1) := by decide +kernel
theorem dX8_eachParcelIsOnce_58 : decode cX8_eachParcelIsOnce 58 = .ok (.getfield 19, 3) := by decide +kernel
theorem dX8_eachParcelIsOnce_61 : decode cX8_eachParcelIsOnce 61 = .ok (.getfield 81, 3) := by decide +kernel
theorem dX8_eachParcelIsOnce_64 : decode cX8_eachParcelIsOnce 64 = .ok (.if_icmp .ge 21, 3) := by decide +kernel
theorem dX8_eachParcelIsOnce_67 : decode cX8_eachParcelIsOnce 67 = .ok (.aload_n 0, 1) := by decide +kernel
theorem dX8_eachParcelIsOnce_68 : decode cX8_eachParcelIsOnce 68 = .ok (.aload_n 0, 1) := by decide +kernel
theorem dX8_eachParcelIsOnce_69 : decode cX8_eachParcelIsOnce 69 = .ok (.getfield 19, 3) := by decide +kernel
theorem dX8_eachParcelIsOnce_72 : decode cX8_eachParcelIsOnce 72 = .ok (.iload_n 1, 1) := by decide +kernel
theorem dX8_eachParcelIsOnce_73 : decode cX8_eachParcelIsOnce 73 = .ok (.invokevirtual 175, 3) := by decide +kernel
theorem dX8_eachParcelIsOnce_76 : decode cX8_eachParcelIsOnce 76 = .ok (.invokevirtual 320, 3) := by decide +kernel
theorem dX8_eachParcelIsOnce_79 : decode cX8_eachParcelIsOnce 79 = .ok (.iinc 1 1, 3) := by decide +kernel
theorem dX8_eachParcelIsOnce_82 : decode cX8_eachParcelIsOnce 82 = .ok (.goto (-26), 3) := by decide +kernel
theorem dX8_eachParcelIsOnce_85 : decode cX8_eachParcelIsOnce 85 = .ok (.iconst 0, 1) := by decide +kernel
theorem dX8_eachParcelIsOnce_86 : decode cX8_eachParcelIsOnce 86 = .ok (.istore_n 1, 1) := by decide +kernel
theorem dX8_eachParcelIsOnce_87 : decode cX8_eachParcelIsOnce 87 = .ok (.iload_n 1, 1) := by decide +kernel
theorem dX8_eachParcelIsOnce_88 : decode cX8_eachParcelIsOnce 88 = .ok (.aload_n 0, 1) := by decide +kernel
theorem dX8_eachParcelIsOnce_89 : decode cX8_eachParcelIsOnce 89 = .ok (.getfield 26, 3) := by decide +kernel
theorem dX8_eachParcelIsOnce_92 : decode cX8_eachParcelIsOnce 92 = .ok (.getfield 71, 3) := by decide +kernel
theorem dX8_eachParcelIsOnce_95 : decode cX8_eachParcelIsOnce 95 = .ok (.if_icmp .ge 30, 3) := by decide +kernel
theorem dX8_eachParcelIsOnce_98 : decode cX8_eachParcelIsOnce 98 = .ok (.aload_n 0, 1) := by decide +kernel
theorem dX8_eachParcelIsOnce_99 : decode cX8_eachParcelIsOnce 99 = .ok (.getfield 26, 3) := by decide +kernel
theorem dX8_eachParcelIsOnce_102 : decode cX8_eachParcelIsOnce 102 = .ok (.iload_n 1, 1) := by decide +kernel
theorem dX8_eachParcelIsOnce_103 : decode cX8_eachParcelIsOnce 103 = .ok (.invokevirtual 266, 3) := by decide +kernel
theorem dX8_eachParcelIsOnce_106 : decode cX8_eachParcelIsOnce 106 = .ok (.astore_n 2, 1) := by decide +kernel
theorem dX8_eachParcelIsOnce_107 : decode cX8_eachParcelIsOnce 107 = .ok (.aload_n 2, 1) := by decide +kernel
theorem dX8_eachParcelIsOnce_108 : decode cX8_eachParcelIsOnce 108 = .ok (.ifnull 11, 3) := by decide +kernel
theorem dX8_eachParcelIsOnce_111 : decode cX8_eachParcelIsOnce 111 = .ok (.aload_n 0, 1) := by decide +kernel
theorem dX8_eachParcelIsOnce_112 : decode cX8_eachParcelIsOnce 112 = .ok (.aload_n 2, 1) := by decide +kernel
theorem dX8_eachParcelIsOnce_113 : decode cX8_eachParcelIsOnce 113 = .ok (.getfield 108, 3) := by decide +kernel
theorem dX8_eachParcelIsOnce_116 : decode cX8_eachParcelIsOnce 116 = .ok (.invokevirtual 323, 3) := by decide +kernel
theorem dX8_eachParcelIsOnce_119 : decode cX8_eachParcelIsOnce 119 = .ok (.iinc 1 1, 3) := by decide +kernel
theorem dX8_eachParcelIsOnce_122 : decode cX8_eachParcelIsOnce 122 = .ok (.goto (-35), 3) := by decide +kernel
theorem dX8_eachParcelIsOnce_125 : decode cX8_eachParcelIsOnce 125 = .ok (.aload_n 0, 1) := by decide +kernel
theorem dX8_eachParcelIsOnce_126 : decode cX8_eachParcelIsOnce 126 = .ok (.aload_n 0, 1) := by decide +kernel
theorem dX8_eachParcelIsOnce_127 : decode cX8_eachParcelIsOnce 127 = .ok (.getfield 60, 3) := by decide +kernel
theorem dX8_eachParcelIsOnce_130 : decode cX8_eachParcelIsOnce 130 = .ok (.getfield 327, 3) := by decide +kernel
theorem dX8_eachParcelIsOnce_133 : decode cX8_eachParcelIsOnce 133 = .ok (.invokevirtual 323, 3) := by decide +kernel
theorem dX8_eachParcelIsOnce_136 : decode cX8_eachParcelIsOnce 136 = .ok (.aload_n 0, 1) := by decide +kernel
theorem dX8_eachParcelIsOnce_137 : decode cX8_eachParcelIsOnce 137 = .ok (.aload_n 0, 1) := by decide +kernel
theorem dX8_eachParcelIsOnce_138 : decode cX8_eachParcelIsOnce 138 = .ok (.getfield 53, 3) := by decide +kernel
theorem dX8_eachParcelIsOnce_141 : decode cX8_eachParcelIsOnce 141 = .ok (.invokevirtual 323, 3) := by decide +kernel
theorem dX8_eachParcelIsOnce_144 : decode cX8_eachParcelIsOnce 144 = .ok (.iconst 0, 1) := by decide +kernel
theorem dX8_eachParcelIsOnce_145 : decode cX8_eachParcelIsOnce 145 = .ok (.istore_n 1, 1) := by decide +kernel
theorem dX8_eachParcelIsOnce_146 : decode cX8_eachParcelIsOnce 146 = .ok (.iload_n 1, 1) := by decide +kernel
theorem dX8_eachParcelIsOnce_147 : decode cX8_eachParcelIsOnce 147 = .ok (.aload_n 0, 1) := by decide +kernel
theorem dX8_eachParcelIsOnce_148 : decode cX8_eachParcelIsOnce 148 = .ok (.getfield 64, 3) := by decide +kernel
theorem dX8_eachParcelIsOnce_151 : decode cX8_eachParcelIsOnce 151 = .ok (.arraylength, 1) := by decide +kernel
theorem dX8_eachParcelIsOnce_152 : decode cX8_eachParcelIsOnce 152 = .ok (.if_icmp .ge 36, 3) := by decide +kernel
theorem dX8_eachParcelIsOnce_155 : decode cX8_eachParcelIsOnce 155 = .ok (.aload_n 0, 1) := by decide +kernel
theorem dX8_eachParcelIsOnce_156 : decode cX8_eachParcelIsOnce 156 = .ok (.getfield 64, 3) := by decide +kernel
theorem dX8_eachParcelIsOnce_159 : decode cX8_eachParcelIsOnce 159 = .ok (.iload_n 1, 1) := by decide +kernel
theorem dX8_eachParcelIsOnce_160 : decode cX8_eachParcelIsOnce 160 = .ok (.iaload, 1) := by decide +kernel
theorem dX8_eachParcelIsOnce_161 : decode cX8_eachParcelIsOnce 161 = .ok (.aload_n 0, 1) := by decide +kernel
theorem dX8_eachParcelIsOnce_162 : decode cX8_eachParcelIsOnce 162 = .ok (.getfield 10, 3) := by decide +kernel
theorem dX8_eachParcelIsOnce_165 : decode cX8_eachParcelIsOnce 165 = .ok (.iload_n 1, 1) := by decide +kernel
theorem dX8_eachParcelIsOnce_166 : decode cX8_eachParcelIsOnce 166 = .ok (.invokevirtual 265, 3) := by decide +kernel
theorem dX8_eachParcelIsOnce_169 : decode cX8_eachParcelIsOnce 169 = .ok (.ifCond .eq 7, 3) := by decide +kernel
theorem dX8_eachParcelIsOnce_172 : decode cX8_eachParcelIsOnce 172 = .ok (.iconst 1, 1) := by decide +kernel
theorem dX8_eachParcelIsOnce_173 : decode cX8_eachParcelIsOnce 173 = .ok (.goto 4, 3) := by decide +kernel
theorem dX8_eachParcelIsOnce_176 : decode cX8_eachParcelIsOnce 176 = .ok (.iconst 0, 1) := by decide +kernel
theorem dX8_eachParcelIsOnce_177 : decode cX8_eachParcelIsOnce 177 = .ok (.if_icmp .eq 5, 3) := by decide +kernel
theorem dX8_eachParcelIsOnce_180 : decode cX8_eachParcelIsOnce 180 = .ok (.iconst 0, 1) := by decide +kernel
theorem dX8_eachParcelIsOnce_181 : decode cX8_eachParcelIsOnce 181 = .ok (.ireturn, 1) := by decide +kernel
theorem dX8_eachParcelIsOnce_182 : decode cX8_eachParcelIsOnce 182 = .ok (.iinc 1 1, 3) := by decide +kernel
theorem dX8_eachParcelIsOnce_185 : decode cX8_eachParcelIsOnce 185 = .ok (.goto (-39), 3) := by decide +kernel
theorem dX8_eachParcelIsOnce_188 : decode cX8_eachParcelIsOnce 188 = .ok (.iconst 1, 1) := by decide +kernel
theorem dX8_eachParcelIsOnce_189 : decode cX8_eachParcelIsOnce 189 = .ok (.ireturn, 1) := by decide +kernel
theorem dX8_seeAll_0 : decode cX8_seeAll 0 = .ok (.iconst 0, 1) := by decide +kernel
theorem dX8_seeAll_1 : decode cX8_seeAll 1 = .ok (.istore_n 2, 1) := by decide +kernel
theorem dX8_seeAll_2 : decode cX8_seeAll 2 = .ok (.iload_n 2, 1) := by decide +kernel
theorem dX8_seeAll_3 : decode cX8_seeAll 3 = .ok (.aload_n 1, 1) := by decide +kernel
theorem dX8_seeAll_4 : decode cX8_seeAll 4 = .ok (.getfield 113, 3) := by decide +kernel
theorem dX8_seeAll_7 : decode cX8_seeAll 7 = .ok (.if_icmp .ge 18, 3) := by decide +kernel
theorem dX8_seeAll_10 : decode cX8_seeAll 10 = .ok (.aload_n 0, 1) := by decide +kernel
theorem dX8_seeAll_11 : decode cX8_seeAll 11 = .ok (.aload_n 1, 1) := by decide +kernel
theorem dX8_seeAll_12 : decode cX8_seeAll 12 = .ok (.iload_n 2, 1) := by decide +kernel
theorem dX8_seeAll_13 : decode cX8_seeAll 13 = .ok (.invokevirtual 223, 3) := by decide +kernel
theorem dX8_seeAll_16 : decode cX8_seeAll 16 = .ok (.invokevirtual 320, 3) := by decide +kernel
theorem dX8_seeAll_19 : decode cX8_seeAll 19 = .ok (.iinc 2 1, 3) := by decide +kernel
theorem dX8_seeAll_22 : decode cX8_seeAll 22 = .ok (.goto (-20), 3) := by decide +kernel
theorem dX8_seeAll_25 : decode cX8_seeAll 25 = .ok (.return_, 1) := by decide +kernel
theorem dX8_see_0 : decode cX8_see 0 = .ok (.iload_n 1, 1) := by decide +kernel
theorem dX8_see_1 : decode cX8_see 1 = .ok (.ifCond .lt 22, 3) := by decide +kernel
theorem dX8_see_4 : decode cX8_see 4 = .ok (.iload_n 1, 1) := by decide +kernel
theorem dX8_see_5 : decode cX8_see 5 = .ok (.aload_n 0, 1) := by decide +kernel
theorem dX8_see_6 : decode cX8_see 6 = .ok (.getfield 64, 3) := by decide +kernel
theorem dX8_see_9 : decode cX8_see 9 = .ok (.arraylength, 1) := by decide +kernel
theorem dX8_see_10 : decode cX8_see 10 = .ok (.if_icmp .ge 13, 3) := by decide +kernel
theorem dX8_see_13 : decode cX8_see 13 = .ok (.aload_n 0, 1) := by decide +kernel
theorem dX8_see_14 : decode cX8_see 14 = .ok (.getfield 64, 3) := by decide +kernel
theorem dX8_see_17 : decode cX8_see 17 = .ok (.iload_n 1, 1) := by decide +kernel
theorem dX8_see_18 : decode cX8_see 18 = .ok (.dup2, 1) := by decide +kernel
theorem dX8_see_19 : decode cX8_see 19 = .ok (.iaload, 1) := by decide +kernel
theorem dX8_see_20 : decode cX8_see 20 = .ok (.iconst 1, 1) := by decide +kernel
theorem dX8_see_21 : decode cX8_see 21 = .ok (.iadd, 1) := by decide +kernel
theorem dX8_see_22 : decode cX8_see 22 = .ok (.iastore, 1) := by decide +kernel
theorem dX8_see_23 : decode cX8_see 23 = .ok (.return_, 1) := by decide +kernel
theorem dX9_init_0 : decode cX9_init 0 = .ok (.aload_n 0, 1) := by decide +kernel
theorem dX9_init_1 : decode cX9_init 1 = .ok (.invokespecial 1, 3) := by decide +kernel
theorem dX9_init_4 : decode cX9_init 4 = .ok (.aload_n 0, 1) := by decide +kernel
theorem dX9_init_5 : decode cX9_init 5 = .ok (.bipush 20, 2) := by decide +kernel
theorem dX9_init_7 : decode cX9_init 7 = .ok (.newarray .int, 2) := by decide +kernel
theorem dX9_init_9 : decode cX9_init 9 = .ok (.putfield 7, 3) := by decide +kernel
theorem dX9_init_12 : decode cX9_init 12 = .ok (.aload_n 0, 1) := by decide +kernel
theorem dX9_init_13 : decode cX9_init 13 = .ok (.bipush 20, 2) := by decide +kernel
theorem dX9_init_15 : decode cX9_init 15 = .ok (.newarray .int, 2) := by decide +kernel
theorem dX9_init_17 : decode cX9_init 17 = .ok (.putfield 13, 3) := by decide +kernel
theorem dX9_init_20 : decode cX9_init 20 = .ok (.aload_n 0, 1) := by decide +kernel
theorem dX9_init_21 : decode cX9_init 21 = .ok (.bipush 20, 2) := by decide +kernel
theorem dX9_init_23 : decode cX9_init 23 = .ok (.newarray .boolean, 2) := by decide +kernel
theorem dX9_init_25 : decode cX9_init 25 = .ok (.putfield 16, 3) := by decide +kernel
theorem dX9_init_28 : decode cX9_init 28 = .ok (.aload_n 0, 1) := by decide +kernel
theorem dX9_init_29 : decode cX9_init 29 = .ok (.bipush 6, 2) := by decide +kernel
theorem dX9_init_31 : decode cX9_init 31 = .ok (.newarray .int, 2) := by decide +kernel
theorem dX9_init_33 : decode cX9_init 33 = .ok (.putfield 20, 3) := by decide +kernel
theorem dX9_init_36 : decode cX9_init 36 = .ok (.aload_n 0, 1) := by decide +kernel
theorem dX9_init_37 : decode cX9_init 37 = .ok (.bipush 6, 2) := by decide +kernel
theorem dX9_init_39 : decode cX9_init 39 = .ok (.bipush 30, 2) := by decide +kernel
theorem dX9_init_41 : decode cX9_init 41 = .ok (.multianewarray 23 2, 4) := by decide +kernel
theorem dX9_init_45 : decode cX9_init 45 = .ok (.putfield 25, 3) := by decide +kernel
theorem dX9_init_48 : decode cX9_init 48 = .ok (.aload_n 0, 1) := by decide +kernel
theorem dX9_init_49 : decode cX9_init 49 = .ok (.bipush 6, 2) := by decide +kernel
theorem dX9_init_51 : decode cX9_init 51 = .ok (.newarray .int, 2) := by decide +kernel
theorem dX9_init_53 : decode cX9_init 53 = .ok (.putfield 28, 3) := by decide +kernel
theorem dX9_init_56 : decode cX9_init 56 = .ok (.aload_n 0, 1) := by decide +kernel
theorem dX9_init_57 : decode cX9_init 57 = .ok (.bipush 8, 2) := by decide +kernel
theorem dX9_init_59 : decode cX9_init 59 = .ok (.newarray .int, 2) := by decide +kernel
theorem dX9_init_61 : decode cX9_init 61 = .ok (.putfield 31, 3) := by decide +kernel
theorem dX9_init_64 : decode cX9_init 64 = .ok (.aload_n 0, 1) := by decide +kernel
theorem dX9_init_65 : decode cX9_init 65 = .ok (.iconst 2, 1) := by decide +kernel
theorem dX9_init_66 : decode cX9_init 66 = .ok (.putfield 34, 3) := by decide +kernel
theorem dX9_init_69 : decode cX9_init 69 = .ok (.aload_n 0, 1) := by decide +kernel
theorem dX9_init_70 : decode cX9_init 70 = .ok (.bipush 60, 2) := by decide +kernel
theorem dX9_init_72 : decode cX9_init 72 = .ok (.newarray .int, 2) := by decide +kernel
theorem dX9_init_74 : decode cX9_init 74 = .ok (.putfield 38, 3) := by decide +kernel
theorem dX9_init_77 : decode cX9_init 77 = .ok (.aload_n 0, 1) := by decide +kernel
theorem dX9_init_78 : decode cX9_init 78 = .ok (.bipush 60, 2) := by decide +kernel
theorem dX9_init_80 : decode cX9_init 80 = .ok (.newarray .int, 2) := by decide +kernel
theorem dX9_init_82 : decode cX9_init 82 = .ok (.putfield 41, 3) := by decide +kernel
theorem dX9_init_85 : decode cX9_init 85 = .ok (.aload_n 0, 1) := by decide +kernel
theorem dX9_init_86 : decode cX9_init 86 = .ok (.bipush 60, 2) := by decide +kernel
theorem dX9_init_88 : decode cX9_init 88 = .ok (.newarray .int, 2) := by decide +kernel
theorem dX9_init_90 : decode cX9_init 90 = .ok (.putfield 44, 3) := by decide +kernel
theorem dX9_init_93 : decode cX9_init 93 = .ok (.aload_n 0, 1) := by decide +kernel
theorem dX9_init_94 : decode cX9_init 94 = .ok (.bipush 60, 2) := by decide +kernel
theorem dX9_init_96 : decode cX9_init 96 = .ok (.newarray .char, 2) := by decide +kernel
theorem dX9_init_98 : decode cX9_init 98 = .ok (.putfield 47, 3) := by decide +kernel
theorem dX9_init_101 : decode cX9_init 101 = .ok (.aload_n 0, 1) := by decide +kernel
theorem dX9_init_102 : decode cX9_init 102 = .ok (.bipush 60, 2) := by decide +kernel
theorem dX9_init_104 : decode cX9_init 104 = .ok (.newarray .int, 2) := by decide +kernel
theorem dX9_init_106 : decode cX9_init 106 = .ok (.putfield 51, 3) := by decide +kernel
theorem dX9_init_109 : decode cX9_init 109 = .ok (.aload_n 0, 1) := by decide +kernel
theorem dX9_init_110 : decode cX9_init 110 = .ok (.iload_n 1, 1) := by decide +kernel
theorem dX9_init_111 : decode cX9_init 111 = .ok (.putfield 54, 3) := by decide +kernel
theorem dX9_init_114 : decode cX9_init 114 = .ok (.iconst 0, 1) := by decide +kernel
theorem dX9_init_115 : decode cX9_init 115 = .ok (.istore_n 2, 1) := by decide +kernel
theorem dX9_init_116 : decode cX9_init 116 = .ok (.iload_n 2, 1) := by decide +kernel
theorem dX9_init_117 : decode cX9_init 117 = .ok (.bipush 20, 2) := by decide +kernel
theorem dX9_init_119 : decode cX9_init 119 = .ok (.if_icmp .ge 23, 3) := by decide +kernel
theorem dX9_init_122 : decode cX9_init 122 = .ok (.aload_n 0, 1) := by decide +kernel
theorem dX9_init_123 : decode cX9_init 123 = .ok (.getfield 7, 3) := by decide +kernel
theorem dX9_init_126 : decode cX9_init 126 = .ok (.iload_n 2, 1) := by decide +kernel
theorem dX9_init_127 : decode cX9_init 127 = .ok (.iconst (-1), 1) := by decide +kernel
theorem dX9_init_128 : decode cX9_init 128 = .ok (.iastore, 1) := by decide +kernel
theorem dX9_init_129 : decode cX9_init 129 = .ok (.aload_n 0, 1) := by decide +kernel
theorem dX9_init_130 : decode cX9_init 130 = .ok (.getfield 13, 3) := by decide +kernel
theorem dX9_init_133 : decode cX9_init 133 = .ok (.iload_n 2, 1) := by decide +kernel
theorem dX9_init_134 : decode cX9_init 134 = .ok (.iconst (-1), 1) := by decide +kernel
theorem dX9_init_135 : decode cX9_init 135 = .ok (.iastore, 1) := by decide +kernel
theorem dX9_init_136 : decode cX9_init 136 = .ok (.iinc 2 1, 3) := by decide +kernel
theorem dX9_init_139 : decode cX9_init 139 = .ok (.goto (-23), 3) := by decide +kernel
theorem dX9_init_142 : decode cX9_init 142 = .ok (.iconst 0, 1) := by decide +kernel
theorem dX9_init_143 : decode cX9_init 143 = .ok (.istore_n 2, 1) := by decide +kernel
theorem dX9_init_144 : decode cX9_init 144 = .ok (.iload_n 2, 1) := by decide +kernel
theorem dX9_init_145 : decode cX9_init 145 = .ok (.bipush 8, 2) := by decide +kernel
theorem dX9_init_147 : decode cX9_init 147 = .ok (.if_icmp .ge 16, 3) := by decide +kernel
theorem dX9_init_150 : decode cX9_init 150 = .ok (.aload_n 0, 1) := by decide +kernel
theorem dX9_init_151 : decode cX9_init 151 = .ok (.getfield 31, 3) := by decide +kernel
theorem dX9_init_154 : decode cX9_init 154 = .ok (.iload_n 2, 1) := by decide +kernel
theorem dX9_init_155 : decode cX9_init 155 = .ok (.iconst (-1), 1) := by decide +kernel
theorem dX9_init_156 : decode cX9_init 156 = .ok (.iastore, 1) := by decide +kernel
theorem dX9_init_157 : decode cX9_init 157 = .ok (.iinc 2 1, 3) := by decide +kernel
theorem dX9_init_160 : decode cX9_init 160 = .ok (.goto (-16), 3) := by decide +kernel
theorem dX9_init_163 : decode cX9_init 163 = .ok (.return_, 1) := by decide +kernel
theorem dX9_trayAt_0 : decode cX9_trayAt 0 = .ok (.iload_n 1, 1) := by decide +kernel
theorem dX9_trayAt_1 : decode cX9_trayAt 1 = .ok (.aload_n 0, 1) := by decide +kernel
theorem dX9_trayAt_2 : decode cX9_trayAt 2 = .ok (.getfield 57, 3) := by decide +kernel
theorem dX9_trayAt_5 : decode cX9_trayAt 5 = .ok (.aload_n 0, 1) := by decide +kernel
theorem dX9_trayAt_6 : decode cX9_trayAt 6 = .ok (.getfield 54, 3) := by decide +kernel
theorem dX9_trayAt_9 : decode cX9_trayAt 9 = .ok (.irem, 1) := by decide +kernel
theorem dX9_trayAt_10 : decode cX9_trayAt 10 = .ok (.isub, 1) := by decide +kernel
theorem dX9_trayAt_11 : decode cX9_trayAt 11 = .ok (.aload_n 0, 1) := by decide +kernel
theorem dX9_trayAt_12 : decode cX9_trayAt 12 = .ok (.getfield 54, 3) := by decide +kernel
theorem dX9_trayAt_15 : decode cX9_trayAt 15 = .ok (.iadd, 1) := by decide +kernel
theorem dX9_trayAt_16 : decode cX9_trayAt 16 = .ok (.aload_n 0, 1) := by decide +kernel
theorem dX9_trayAt_17 : decode cX9_trayAt 17 = .ok (.getfield 54, 3) := by decide +kernel
theorem dX9_trayAt_20 : decode cX9_trayAt 20 = .ok (.irem, 1) := by decide +kernel
theorem dX9_trayAt_21 : decode cX9_trayAt 21 = .ok (.ireturn, 1) := by decide +kernel
theorem dX9_leave_0 : decode cX9_leave 0 = .ok (.aload_n 0, 1) := by decide +kernel
theorem dX9_leave_1 : decode cX9_leave 1 = .ok (.getfield 47, 3) := by decide +kernel
theorem dX9_leave_4 : decode cX9_leave 4 = .ok (.iload_n 1, 1) := by decide +kernel
theorem dX9_leave_5 : decode cX9_leave 5 = .ok (.iload_n 2, 1) := by decide +kernel
theorem dX9_leave_6 : decode cX9_leave 6 = .ok (.castore, 1) := by decide +kernel
theorem dX9_leave_7 : decode cX9_leave 7 = .ok (.aload_n 0, 1) := by decide +kernel
theorem dX9_leave_8 : decode cX9_leave 8 = .ok (.dup, 1) := by decide +kernel
theorem dX9_leave_9 : decode cX9_leave 9 = .ok (.getfield 60, 3) := by decide +kernel
theorem dX9_leave_12 : decode cX9_leave 12 = .ok (.iconst 1, 1) := by decide +kernel
theorem dX9_leave_13 : decode cX9_leave 13 = .ok (.iadd, 1) := by decide +kernel
theorem dX9_leave_14 : decode cX9_leave 14 = .ok (.putfield 60, 3) := by decide +kernel
theorem dX9_leave_17 : decode cX9_leave 17 = .ok (.aload_n 0, 1) := by decide +kernel
theorem dX9_leave_18 : decode cX9_leave 18 = .ok (.dup, 1) := by decide +kernel
theorem dX9_leave_19 : decode cX9_leave 19 = .ok (.getfield 63, 3) := by decide +kernel
theorem dX9_leave_22 : decode cX9_leave 22 = .ok (.aload_n 0, 1) := by decide +kernel
theorem dX9_leave_23 : decode cX9_leave 23 = .ok (.getfield 44, 3) := by decide +kernel
theorem dX9_leave_26 : decode cX9_leave 26 = .ok (.iload_n 1, 1) := by decide +kernel
theorem dX9_leave_27 : decode cX9_leave 27 = .ok (.iaload, 1) := by decide +kernel
theorem dX9_leave_28 : decode cX9_leave 28 = .ok (.iadd, 1) := by decide +kernel
theorem dX9_leave_29 : decode cX9_leave 29 = .ok (.putfield 63, 3) := by decide +kernel
theorem dX9_leave_32 : decode cX9_leave 32 = .ok (.return_, 1) := by decide +kernel
theorem dX9_serve_0 : decode cX9_serve 0 = .ok (.aload_n 0, 1) := by decide +kernel
theorem dX9_serve_1 : decode cX9_serve 1 = .ok (.iload_n 1, 1) := by decide +kernel
theorem dX9_serve_2 : decode cX9_serve 2 = .ok (.invokevirtual 66, 3) := by decide +kernel
theorem dX9_serve_5 : decode cX9_serve 5 = .ok (.istore_n 2, 1) := by decide +kernel
theorem dX9_serve_6 : decode cX9_serve 6 = .ok (.aload_n 0, 1) := by decide +kernel
theorem dX9_serve_7 : decode cX9_serve 7 = .ok (.getfield 7, 3) := by decide +kernel
end
section
theorem dX9_serve_10 : decode cX9_serve 10 = .ok (.iload_n 2, 1) := by decide +kernel
theorem dX9_serve_11 : decode cX9_serve 11 = .ok (.iaload, 1) := by decide +kernel
theorem dX9_serve_12 : decode cX9_serve 12 = .ok (.istore_n 3, 1) := by decide +kernel
theorem dX9_serve_13 : decode cX9_serve 13 = .ok (.aload_n 0, 1) := by decide +kernel
theorem dX9_serve_14 : decode cX9_serve 14 = .ok (.getfield 16, 3) := by decide +kernel
theorem dX9_serve_17 : decode cX9_serve 17 = .ok (.iload_n 1, 1) := by decide +kernel
theorem dX9_serve_18 : decode cX9_serve 18 = .ok (.baload, 1) := by decide +kernel
theorem dX9_serve_19 : decode cX9_serve 19 = .ok (.ifCond .eq 4, 3) := by decide +kernel
theorem dX9_serve_22 : decode cX9_serve 22 = .ok (.return_, 1) := by decide +kernel
theorem dX9_serve_23 : decode cX9_serve 23 = .ok (.iload_n 1, 1) := by decide +kernel
theorem dX9_serve_24 : decode cX9_serve 24 = .ok (.ifCond .ne 52, 3) := by decide +kernel
theorem dX9_serve_27 : decode cX9_serve 27 = .ok (.iload_n 3, 1) := by decide +kernel
theorem dX9_serve_28 : decode cX9_serve 28 = .ok (.ifCond .ge 203, 3) := by decide +kernel
theorem dX9_serve_31 : decode cX9_serve 31 = .ok (.aload_n 0, 1) := by decide +kernel
theorem dX9_serve_32 : decode cX9_serve 32 = .ok (.getfield 70, 3) := by decide +kernel
theorem dX9_serve_35 : decode cX9_serve 35 = .ok (.aload_n 0, 1) := by decide +kernel
theorem dX9_serve_36 : decode cX9_serve 36 = .ok (.getfield 73, 3) := by decide +kernel
theorem dX9_serve_39 : decode cX9_serve 39 = .ok (.if_icmp .ge 192, 3) := by decide +kernel
theorem dX9_serve_42 : decode cX9_serve 42 = .ok (.aload_n 0, 1) := by decide +kernel
theorem dX9_serve_43 : decode cX9_serve 43 = .ok (.getfield 7, 3) := by decide +kernel
theorem dX9_serve_46 : decode cX9_serve 46 = .ok (.iload_n 2, 1) := by decide +kernel
theorem dX9_serve_47 : decode cX9_serve 47 = .ok (.aload_n 0, 1) := by decide +kernel
theorem dX9_serve_48 : decode cX9_serve 48 = .ok (.getfield 70, 3) := by decide +kernel
theorem dX9_serve_51 : decode cX9_serve 51 = .ok (.iastore, 1) := by decide +kernel
theorem dX9_serve_52 : decode cX9_serve 52 = .ok (.aload_n 0, 1) := by decide +kernel
theorem dX9_serve_53 : decode cX9_serve 53 = .ok (.getfield 47, 3) := by decide +kernel
theorem dX9_serve_56 : decode cX9_serve 56 = .ok (.aload_n 0, 1) := by decide +kernel
theorem dX9_serve_57 : decode cX9_serve 57 = .ok (.getfield 70, 3) := by decide +kernel
theorem dX9_serve_60 : decode cX9_serve 60 = .ok (.bipush 108, 2) := by decide +kernel
theorem dX9_serve_62 : decode cX9_serve 62 = .ok (.castore, 1) := by decide +kernel
theorem dX9_serve_63 : decode cX9_serve 63 = .ok (.aload_n 0, 1) := by decide +kernel
theorem dX9_serve_64 : decode cX9_serve 64 = .ok (.dup, 1) := by decide +kernel
theorem dX9_serve_65 : decode cX9_serve 65 = .ok (.getfield 70, 3) := by decide +kernel
theorem dX9_serve_68 : decode cX9_serve 68 = .ok (.iconst 1, 1) := by decide +kernel
theorem dX9_serve_69 : decode cX9_serve 69 = .ok (.iadd, 1) := by decide +kernel
theorem dX9_serve_70 : decode cX9_serve 70 = .ok (.putfield 70, 3) := by decide +kernel
theorem dX9_serve_73 : decode cX9_serve 73 = .ok (.goto 158, 3) := by decide +kernel
theorem dX9_serve_76 : decode cX9_serve 76 = .ok (.iload_n 3, 1) := by decide +kernel
theorem dX9_serve_77 : decode cX9_serve 77 = .ok (.ifCond .lt 53, 3) := by decide +kernel
theorem dX9_serve_80 : decode cX9_serve 80 = .ok (.iload_n 1, 1) := by decide +kernel
theorem dX9_serve_81 : decode cX9_serve 81 = .ok (.aload_n 0, 1) := by decide +kernel
theorem dX9_serve_82 : decode cX9_serve 82 = .ok (.getfield 54, 3) := by decide +kernel
theorem dX9_serve_85 : decode cX9_serve 85 = .ok (.iconst 1, 1) := by decide +kernel
theorem dX9_serve_86 : decode cX9_serve 86 = .ok (.isub, 1) := by decide +kernel
theorem dX9_serve_87 : decode cX9_serve 87 = .ok (.if_icmp .ne 43, 3) := by decide +kernel
theorem dX9_serve_90 : decode cX9_serve 90 = .ok (.aload_n 0, 1) := by decide +kernel
theorem dX9_serve_91 : decode cX9_serve 91 = .ok (.getfield 44, 3) := by decide +kernel
theorem dX9_serve_94 : decode cX9_serve 94 = .ok (.iload_n 3, 1) := by decide +kernel
theorem dX9_serve_95 : decode cX9_serve 95 = .ok (.iaload, 1) := by decide +kernel
theorem dX9_serve_96 : decode cX9_serve 96 = .ok (.aload_n 0, 1) := by decide +kernel
theorem dX9_serve_97 : decode cX9_serve 97 = .ok (.getfield 34, 3) := by decide +kernel
theorem dX9_serve_100 : decode cX9_serve 100 = .ok (.if_icmp .lt 30, 3) := by decide +kernel
theorem dX9_serve_103 : decode cX9_serve 103 = .ok (.aload_n 0, 1) := by decide +kernel
theorem dX9_serve_104 : decode cX9_serve 104 = .ok (.iload_n 3, 1) := by decide +kernel
theorem dX9_serve_105 : decode cX9_serve 105 = .ok (.bipush 111, 2) := by decide +kernel
theorem dX9_serve_107 : decode cX9_serve 107 = .ok (.invokevirtual 76, 3) := by decide +kernel
theorem dX9_serve_110 : decode cX9_serve 110 = .ok (.aload_n 0, 1) := by decide +kernel
theorem dX9_serve_111 : decode cX9_serve 111 = .ok (.dup, 1) := by decide +kernel
theorem dX9_serve_112 : decode cX9_serve 112 = .ok (.getfield 80, 3) := by decide +kernel
theorem dX9_serve_115 : decode cX9_serve 115 = .ok (.iconst 1, 1) := by decide +kernel
theorem dX9_serve_116 : decode cX9_serve 116 = .ok (.iadd, 1) := by decide +kernel
theorem dX9_serve_117 : decode cX9_serve 117 = .ok (.putfield 80, 3) := by decide +kernel
theorem dX9_serve_120 : decode cX9_serve 120 = .ok (.aload_n 0, 1) := by decide +kernel
theorem dX9_serve_121 : decode cX9_serve 121 = .ok (.getfield 7, 3) := by decide +kernel
theorem dX9_serve_124 : decode cX9_serve 124 = .ok (.iload_n 2, 1) := by decide +kernel
theorem dX9_serve_125 : decode cX9_serve 125 = .ok (.iconst (-1), 1) := by decide +kernel
theorem dX9_serve_126 : decode cX9_serve 126 = .ok (.iastore, 1) := by decide +kernel
theorem dX9_serve_127 : decode cX9_serve 127 = .ok (.goto 104, 3) := by decide +kernel
theorem dX9_serve_130 : decode cX9_serve 130 = .ok (.iload_n 3, 1) := by decide +kernel
theorem dX9_serve_131 : decode cX9_serve 131 = .ok (.ifCond .lt 100, 3) := by decide +kernel
theorem dX9_serve_134 : decode cX9_serve 134 = .ok (.aload_n 0, 1) := by decide +kernel
theorem dX9_serve_135 : decode cX9_serve 135 = .ok (.getfield 13, 3) := by decide +kernel
theorem dX9_serve_138 : decode cX9_serve 138 = .ok (.iload_n 1, 1) := by decide +kernel
theorem dX9_serve_139 : decode cX9_serve 139 = .ok (.iaload, 1) := by decide +kernel
theorem dX9_serve_140 : decode cX9_serve 140 = .ok (.ifCond .lt 91, 3) := by decide +kernel
theorem dX9_serve_143 : decode cX9_serve 143 = .ok (.aload_n 0, 1) := by decide +kernel
theorem dX9_serve_144 : decode cX9_serve 144 = .ok (.getfield 31, 3) := by decide +kernel
theorem dX9_serve_147 : decode cX9_serve 147 = .ok (.aload_n 0, 1) := by decide +kernel
theorem dX9_serve_148 : decode cX9_serve 148 = .ok (.getfield 38, 3) := by decide +kernel
theorem dX9_serve_151 : decode cX9_serve 151 = .ok (.iload_n 3, 1) := by decide +kernel
theorem dX9_serve_152 : decode cX9_serve 152 = .ok (.iaload, 1) := by decide +kernel
theorem dX9_serve_153 : decode cX9_serve 153 = .ok (.iaload, 1) := by decide +kernel
theorem dX9_serve_154 : decode cX9_serve 154 = .ok (.aload_n 0, 1) := by decide +kernel
theorem dX9_serve_155 : decode cX9_serve 155 = .ok (.getfield 13, 3) := by decide +kernel
theorem dX9_serve_158 : decode cX9_serve 158 = .ok (.iload_n 1, 1) := by decide +kernel
theorem dX9_serve_159 : decode cX9_serve 159 = .ok (.iaload, 1) := by decide +kernel
theorem dX9_serve_160 : decode cX9_serve 160 = .ok (.if_icmp .ne 71, 3) := by decide +kernel
theorem dX9_serve_163 : decode cX9_serve 163 = .ok (.aload_n 0, 1) := by decide +kernel
theorem dX9_serve_164 : decode cX9_serve 164 = .ok (.getfield 28, 3) := by decide +kernel
theorem dX9_serve_167 : decode cX9_serve 167 = .ok (.aload_n 0, 1) := by decide +kernel
theorem dX9_serve_168 : decode cX9_serve 168 = .ok (.getfield 13, 3) := by decide +kernel
theorem dX9_serve_171 : decode cX9_serve 171 = .ok (.iload_n 1, 1) := by decide +kernel
theorem dX9_serve_172 : decode cX9_serve 172 = .ok (.iaload, 1) := by decide +kernel
theorem dX9_serve_173 : decode cX9_serve 173 = .ok (.iaload, 1) := by decide +kernel
theorem dX9_serve_174 : decode cX9_serve 174 = .ok (.aload_n 0, 1) := by decide +kernel
theorem dX9_serve_175 : decode cX9_serve 175 = .ok (.getfield 20, 3) := by decide +kernel
theorem dX9_serve_178 : decode cX9_serve 178 = .ok (.aload_n 0, 1) := by decide +kernel
theorem dX9_serve_179 : decode cX9_serve 179 = .ok (.getfield 13, 3) := by decide +kernel
theorem dX9_serve_182 : decode cX9_serve 182 = .ok (.iload_n 1, 1) := by decide +kernel
theorem dX9_serve_183 : decode cX9_serve 183 = .ok (.iaload, 1) := by decide +kernel
theorem dX9_serve_184 : decode cX9_serve 184 = .ok (.iaload, 1) := by decide +kernel
theorem dX9_serve_185 : decode cX9_serve 185 = .ok (.if_icmp .ge 46, 3) := by decide +kernel
theorem dX9_serve_188 : decode cX9_serve 188 = .ok (.aload_n 0, 1) := by decide +kernel
theorem dX9_serve_189 : decode cX9_serve 189 = .ok (.getfield 13, 3) := by decide +kernel
theorem dX9_serve_192 : decode cX9_serve 192 = .ok (.iload_n 1, 1) := by decide +kernel
theorem dX9_serve_193 : decode cX9_serve 193 = .ok (.iaload, 1) := by decide +kernel
theorem dX9_serve_194 : decode cX9_serve 194 = .ok (.istore 4, 2) := by decide +kernel
theorem dX9_serve_196 : decode cX9_serve 196 = .ok (.aload_n 0, 1) := by decide +kernel
theorem dX9_serve_197 : decode cX9_serve 197 = .ok (.getfield 25, 3) := by decide +kernel
theorem dX9_serve_200 : decode cX9_serve 200 = .ok (.iload 4, 2) := by decide +kernel
theorem dX9_serve_202 : decode cX9_serve 202 = .ok (.aaload, 1) := by decide +kernel
theorem dX9_serve_203 : decode cX9_serve 203 = .ok (.aload_n 0, 1) := by decide +kernel
theorem dX9_serve_204 : decode cX9_serve 204 = .ok (.getfield 28, 3) := by decide +kernel
theorem dX9_serve_207 : decode cX9_serve 207 = .ok (.iload 4, 2) := by decide +kernel
theorem dX9_serve_209 : decode cX9_serve 209 = .ok (.dup2, 1) := by decide +kernel
theorem dX9_serve_210 : decode cX9_serve 210 = .ok (.iaload, 1) := by decide +kernel
theorem dX9_serve_211 : decode cX9_serve 211 = .ok (.dup_x2, 1) := by decide +kernel
theorem dX9_serve_212 : decode cX9_serve 212 = .ok (.iconst 1, 1) := by decide +kernel
theorem dX9_serve_213 : decode cX9_serve 213 = .ok (.iadd, 1) := by decide +kernel
theorem dX9_serve_214 : decode cX9_serve 214 = .ok (.iastore, 1) := by decide +kernel
theorem dX9_serve_215 : decode cX9_serve 215 = .ok (.iload_n 3, 1) := by decide +kernel
theorem dX9_serve_216 : decode cX9_serve 216 = .ok (.iastore, 1) := by decide +kernel
theorem dX9_serve_217 : decode cX9_serve 217 = .ok (.aload_n 0, 1) := by decide +kernel
theorem dX9_serve_218 : decode cX9_serve 218 = .ok (.iload_n 3, 1) := by decide +kernel
theorem dX9_serve_219 : decode cX9_serve 219 = .ok (.bipush 99, 2) := by decide +kernel
theorem dX9_serve_221 : decode cX9_serve 221 = .ok (.invokevirtual 76, 3) := by decide +kernel
theorem dX9_serve_224 : decode cX9_serve 224 = .ok (.aload_n 0, 1) := by decide +kernel
theorem dX9_serve_225 : decode cX9_serve 225 = .ok (.getfield 7, 3) := by decide +kernel
theorem dX9_serve_228 : decode cX9_serve 228 = .ok (.iload_n 2, 1) := by decide +kernel
theorem dX9_serve_229 : decode cX9_serve 229 = .ok (.iconst (-1), 1) := by decide +kernel
theorem dX9_serve_230 : decode cX9_serve 230 = .ok (.iastore, 1) := by decide +kernel
theorem dX9_serve_231 : decode cX9_serve 231 = .ok (.return_, 1) := by decide +kernel
theorem dX9_tick_0 : decode cX9_tick 0 = .ok (.aload_n 0, 1) := by decide +kernel
theorem dX9_tick_1 : decode cX9_tick 1 = .ok (.getfield 60, 3) := by decide +kernel
theorem dX9_tick_4 : decode cX9_tick 4 = .ok (.istore_n 1, 1) := by decide +kernel
theorem dX9_tick_5 : decode cX9_tick 5 = .ok (.aload_n 0, 1) := by decide +kernel
theorem dX9_tick_6 : decode cX9_tick 6 = .ok (.dup, 1) := by decide +kernel
theorem dX9_tick_7 : decode cX9_tick 7 = .ok (.getfield 57, 3) := by decide +kernel
theorem dX9_tick_10 : decode cX9_tick 10 = .ok (.iconst 1, 1) := by decide +kernel
theorem dX9_tick_11 : decode cX9_tick 11 = .ok (.iadd, 1) := by decide +kernel
theorem dX9_tick_12 : decode cX9_tick 12 = .ok (.putfield 57, 3) := by decide +kernel
theorem dX9_tick_15 : decode cX9_tick 15 = .ok (.aload_n 0, 1) := by decide +kernel
theorem dX9_tick_16 : decode cX9_tick 16 = .ok (.getfield 7, 3) := by decide +kernel
theorem dX9_tick_19 : decode cX9_tick 19 = .ok (.aload_n 0, 1) := by decide +kernel
theorem dX9_tick_20 : decode cX9_tick 20 = .ok (.iconst 0, 1) := by decide +kernel
theorem dX9_tick_21 : decode cX9_tick 21 = .ok (.invokevirtual 66, 3) := by decide +kernel
theorem dX9_tick_24 : decode cX9_tick 24 = .ok (.iaload, 1) := by decide +kernel
theorem dX9_tick_25 : decode cX9_tick 25 = .ok (.istore_n 2, 1) := by decide +kernel
theorem dX9_tick_26 : decode cX9_tick 26 = .ok (.aload_n 0, 1) := by decide +kernel
theorem dX9_tick_27 : decode cX9_tick 27 = .ok (.getfield 44, 3) := by decide +kernel
theorem dX9_tick_30 : decode cX9_tick 30 = .ok (.iload_n 2, 1) := by decide +kernel
theorem dX9_tick_31 : decode cX9_tick 31 = .ok (.iconst 0, 1) := by decide +kernel
theorem dX9_tick_32 : decode cX9_tick 32 = .ok (.invokestatic 83, 3) := by decide +kernel
theorem dX9_tick_35 : decode cX9_tick 35 = .ok (.dup2, 1) := by decide +kernel
theorem dX9_tick_36 : decode cX9_tick 36 = .ok (.iaload, 1) := by decide +kernel
theorem dX9_tick_37 : decode cX9_tick 37 = .ok (.iload_n 2, 1) := by decide +kernel
theorem dX9_tick_38 : decode cX9_tick 38 = .ok (.ifCond .ge 7, 3) := by decide +kernel
theorem dX9_tick_41 : decode cX9_tick 41 = .ok (.iconst 0, 1) := by decide +kernel
theorem dX9_tick_42 : decode cX9_tick 42 = .ok (.goto 4, 3) := by decide +kernel
theorem dX9_tick_45 : decode cX9_tick 45 = .ok (.iconst 1, 1) := by decide +kernel
theorem dX9_tick_46 : decode cX9_tick 46 = .ok (.iadd, 1) := by decide +kernel
theorem dX9_tick_47 : decode cX9_tick 47 = .ok (.iastore, 1) := by decide +kernel
theorem dX9_tick_48 : decode cX9_tick 48 = .ok (.iconst 0, 1) := by decide +kernel
theorem dX9_tick_49 : decode cX9_tick 49 = .ok (.istore_n 3, 1) := by decide +kernel
theorem dX9_tick_50 : decode cX9_tick 50 = .ok (.iload_n 3, 1) := by decide +kernel
theorem dX9_tick_51 : decode cX9_tick 51 = .ok (.aload_n 0, 1) := by decide +kernel
theorem dX9_tick_52 : decode cX9_tick 52 = .ok (.getfield 54, 3) := by decide +kernel
theorem dX9_tick_55 : decode cX9_tick 55 = .ok (.if_icmp .ge 14, 3) := by decide +kernel
theorem dX9_tick_58 : decode cX9_tick 58 = .ok (.aload_n 0, 1) := by decide +kernel
theorem dX9_tick_59 : decode cX9_tick 59 = .ok (.iload_n 3, 1) := by decide +kernel
theorem dX9_tick_60 : decode cX9_tick 60 = .ok (.invokevirtual 89, 3) := by decide +kernel
theorem dX9_tick_63 : decode cX9_tick 63 = .ok (.iinc 3 1, 3) := by decide +kernel
theorem dX9_tick_66 : decode cX9_tick 66 = .ok (.goto (-16), 3) := by decide +kernel
theorem dX9_tick_69 : decode cX9_tick 69 = .ok (.aload_n 0, 1) := by decide +kernel
theorem dX9_tick_70 : decode cX9_tick 70 = .ok (.getfield 60, 3) := by decide +kernel
theorem dX9_tick_73 : decode cX9_tick 73 = .ok (.iload_n 1, 1) := by decide +kernel
theorem dX9_tick_74 : decode cX9_tick 74 = .ok (.isub, 1) := by decide +kernel
theorem dX9_tick_75 : decode cX9_tick 75 = .ok (.ireturn, 1) := by decide +kernel
theorem dX9_seal_0 : decode cX9_seal 0 = .ok (.lconst 0, 1) := by decide +kernel
theorem dX9_seal_1 : decode cX9_seal 1 = .ok (.lstore_n 2, 1) := by decide +kernel
theorem dX9_seal_2 : decode cX9_seal 2 = .ok (.lconst 0, 1) := by decide +kernel
theorem dX9_seal_3 : decode cX9_seal 3 = .ok (.lstore 4, 2) := by decide +kernel
theorem dX9_seal_5 : decode cX9_seal 5 = .ok (.iconst 0, 1) := by decide +kernel
theorem dX9_seal_6 : decode cX9_seal 6 = .ok (.istore 6, 2) := by decide +kernel
theorem dX9_seal_8 : decode cX9_seal 8 = .ok (.iload 6, 2) := by decide +kernel
theorem dX9_seal_10 : decode cX9_seal 10 = .ok (.aload_n 0, 1) := by decide +kernel
theorem dX9_seal_11 : decode cX9_seal 11 = .ok (.getfield 28, 3) := by decide +kernel
theorem dX9_seal_14 : decode cX9_seal 14 = .ok (.iload_n 1, 1) := by decide +kernel
theorem dX9_seal_15 : decode cX9_seal 15 = .ok (.iaload, 1) := by decide +kernel
theorem dX9_seal_16 : decode cX9_seal 16 = .ok (.if_icmp .ge 30, 3) := by decide +kernel
theorem dX9_seal_19 : decode cX9_seal 19 = .ok (.lload_n 2, 1) := by decide +kernel
theorem dX9_seal_20 : decode cX9_seal 20 = .ok (.aload_n 0, 1) := by decide +kernel
theorem dX9_seal_21 : decode cX9_seal 21 = .ok (.getfield 25, 3) := by decide +kernel
theorem dX9_seal_24 : decode cX9_seal 24 = .ok (.iload_n 1, 1) := by decide +kernel
theorem dX9_seal_25 : decode cX9_seal 25 = .ok (.aaload, 1) := by decide +kernel
theorem dX9_seal_26 : decode cX9_seal 26 = .ok (.iload 6, 2) := by decide +kernel
theorem dX9_seal_28 : decode cX9_seal 28 = .ok (.iaload, 1) := by decide +kernel
theorem dX9_seal_29 : decode cX9_seal 29 = .ok (.iconst 1, 1) := by decide +kernel
theorem dX9_seal_30 : decode cX9_seal 30 = .ok (.iadd, 1) := by decide +kernel
theorem dX9_seal_31 : decode cX9_seal 31 = .ok (.i2l, 1) := by decide +kernel
theorem dX9_seal_32 : decode cX9_seal 32 = .ok (.ladd, 1) := by decide +kernel
theorem dX9_seal_33 : decode cX9_seal 33 = .ok (.lstore_n 2, 1) := by decide +kernel
theorem dX9_seal_34 : decode cX9_seal 34 = .ok (.lload 4, 2) := by decide +kernel
theorem dX9_seal_36 : decode cX9_seal 36 = .ok (.lload_n 2, 1) := by decide +kernel
theorem dX9_seal_37 : decode cX9_seal 37 = .ok (.ladd, 1) := by decide +kernel
theorem dX9_seal_38 : decode cX9_seal 38 = .ok (.lstore 4, 2) := by decide +kernel
theorem dX9_seal_40 : decode cX9_seal 40 = .ok (.iinc 6 1, 3) := by decide +kernel
theorem dX9_seal_43 : decode cX9_seal 43 = .ok (.goto (-35), 3) := by decide +kernel
theorem dX9_seal_46 : decode cX9_seal 46 = .ok (.ldc2_w 93, 3) := by decide +kernel
theorem dX9_seal_49 : decode cX9_seal 49 = .ok (.lload 4, 2) := by decide +kernel
theorem dX9_seal_51 : decode cX9_seal 51 = .ok (.ldc2_w 95, 3) := by decide +kernel
theorem dX9_seal_54 : decode cX9_seal 54 = .ok (.lrem, 1) := by decide +kernel
theorem dX9_seal_55 : decode cX9_seal 55 = .ok (.lmul, 1) := by decide +kernel
theorem dX9_seal_56 : decode cX9_seal 56 = .ok (.lload_n 2, 1) := by decide +kernel
theorem dX9_seal_57 : decode cX9_seal 57 = .ok (.ldc2_w 95, 3) := by decide +kernel
theorem dX9_seal_60 : decode cX9_seal 60 = .ok (.lrem, 1) := by decide +kernel
theorem dX9_seal_61 : decode cX9_seal 61 = .ok (.ladd, 1) := by decide +kernel
theorem dX9_seal_62 : decode cX9_seal 62 = .ok (.l2i, 1) := by decide +kernel
theorem dX9_seal_63 : decode cX9_seal 63 = .ok (.ireturn, 1) := by decide +kernel
theorem dX9_load_0 : decode cX9_load 0 = .ok (.iconst 0, 1) := by decide +kernel
theorem dX9_load_1 : decode cX9_load 1 = .ok (.istore_n 2, 1) := by decide +kernel
theorem dX9_load_2 : decode cX9_load 2 = .ok (.iconst 0, 1) := by decide +kernel
theorem dX9_load_3 : decode cX9_load 3 = .ok (.istore_n 3, 1) := by decide +kernel
theorem dX9_load_4 : decode cX9_load 4 = .ok (.iload_n 3, 1) := by decide +kernel
theorem dX9_load_5 : decode cX9_load 5 = .ok (.aload_n 0, 1) := by decide +kernel
theorem dX9_load_6 : decode cX9_load 6 = .ok (.getfield 73, 3) := by decide +kernel
theorem dX9_load_9 : decode cX9_load 9 = .ok (.if_icmp .ge 54, 3) := by decide +kernel
theorem dX9_load_12 : decode cX9_load 12 = .ok (.iload_n 2, 1) := by decide +kernel
theorem dX9_load_13 : decode cX9_load 13 = .ok (.aload_n 0, 1) := by decide +kernel
theorem dX9_load_14 : decode cX9_load 14 = .ok (.getfield 38, 3) := by decide +kernel
theorem dX9_load_17 : decode cX9_load 17 = .ok (.iload_n 3, 1) := by decide +kernel
theorem dX9_load_18 : decode cX9_load 18 = .ok (.iaload, 1) := by decide +kernel
theorem dX9_load_19 : decode cX9_load 19 = .ok (.iload_n 1, 1) := by decide +kernel
theorem dX9_load_20 : decode cX9_load 20 = .ok (.if_icmp .ne 34, 3) := by decide +kernel
theorem dX9_load_23 : decode cX9_load 23 = .ok (.aload_n 0, 1) := by decide +kernel
theorem dX9_load_24 : decode cX9_load 24 = .ok (.getfield 47, 3) := by decide +kernel
theorem dX9_load_27 : decode cX9_load 27 = .ok (.iload_n 3, 1) := by decide +kernel
theorem dX9_load_28 : decode cX9_load 28 = .ok (.caload, 1) := by decide +kernel
theorem dX9_load_29 : decode cX9_load 29 = .ok (.bipush 119, 2) := by decide +kernel
theorem dX9_load_31 : decode cX9_load 31 = .ok (.if_icmp .eq 14, 3) := by decide +kernel
theorem dX9_load_34 : decode cX9_load 34 = .ok (.aload_n 0, 1) := by decide +kernel
theorem dX9_load_35 : decode cX9_load 35 = .ok (.getfield 47, 3) := by decide +kernel
theorem dX9_load_38 : decode cX9_load 38 = .ok (.iload_n 3, 1) := by decide +kernel
theorem dX9_load_39 : decode cX9_load 39 = .ok (.caload, 1) := by decide +kernel
theorem dX9_load_40 : decode cX9_load 40 = .ok (.bipush 108, 2) := by decide +kernel
theorem dX9_load_42 : decode cX9_load 42 = .ok (.if_icmp .ne 12, 3) := by decide +kernel
theorem dX9_load_45 : decode cX9_load 45 = .ok (.aload_n 0, 1) := by decide +kernel
theorem dX9_load_46 : decode cX9_load 46 = .ok (.getfield 41, 3) := by decide +kernel
theorem dX9_load_49 : decode cX9_load 49 = .ok (.iload_n 3, 1) := by decide +kernel
theorem dX9_load_50 : decode cX9_load 50 = .ok (.iaload, 1) := by decide +kernel
theorem dX9_load_51 : decode cX9_load 51 = .ok (.goto 4, 3) := by decide +kernel
theorem dX9_load_54 : decode cX9_load 54 = .ok (.iconst 0, 1) := by decide +kernel
theorem dX9_load_55 : decode cX9_load 55 = .ok (.iadd, 1) := by decide +kernel
theorem dX9_load_56 : decode cX9_load 56 = .ok (.istore_n 2, 1) := by decide +kernel
theorem dX9_load_57 : decode cX9_load 57 = .ok (.iinc 3 1, 3) := by decide +kernel
theorem dX9_load_60 : decode cX9_load 60 = .ok (.goto (-56), 3) := by decide +kernel
theorem dX9_load_63 : decode cX9_load 63 = .ok (.iload_n 2, 1) := by decide +kernel
theorem dX9_load_64 : decode cX9_load 64 = .ok (.ireturn, 1) := by decide +kernel
theorem dX9_jams_0 : decode cX9_jams 0 = .ok (.iconst 0, 1) := by decide +kernel
theorem dX9_jams_1 : decode cX9_jams 1 = .ok (.istore_n 1, 1) := by decide +kernel
theorem dX9_jams_2 : decode cX9_jams 2 = .ok (.aload_n 0, 1) := by decide +kernel
theorem dX9_jams_3 : decode cX9_jams 3 = .ok (.getfield 16, 3) := by decide +kernel
theorem dX9_jams_6 : decode cX9_jams 6 = .ok (.astore_n 2, 1) := by decide +kernel
theorem dX9_jams_7 : decode cX9_jams 7 = .ok (.aload_n 2, 1) := by decide +kernel
theorem dX9_jams_8 : decode cX9_jams 8 = .ok (.arraylength, 1) := by decide +kernel
theorem dX9_jams_9 : decode cX9_jams 9 = .ok (.istore_n 3, 1) := by decide +kernel
theorem dX9_jams_10 : decode cX9_jams 10 = .ok (.iconst 0, 1) := by decide +kernel
theorem dX9_jams_11 : decode cX9_jams 11 = .ok (.istore 4, 2) := by decide +kernel
theorem dX9_jams_13 : decode cX9_jams 13 = .ok (.iload 4, 2) := by decide +kernel
theorem dX9_jams_15 : decode cX9_jams 15 = .ok (.iload_n 3, 1) := by decide +kernel
theorem dX9_jams_16 : decode cX9_jams 16 = .ok (.if_icmp .ge 28, 3) := by decide +kernel
theorem dX9_jams_19 : decode cX9_jams 19 = .ok (.aload_n 2, 1) := by decide +kernel
theorem dX9_jams_20 : decode cX9_jams 20 = .ok (.iload 4, 2) := by decide +kernel
theorem dX9_jams_22 : decode cX9_jams 22 = .ok (.baload, 1) := by decide +kernel
theorem dX9_jams_23 : decode cX9_jams 23 = .ok (.istore 5, 2) := by decide +kernel
theorem dX9_jams_25 : decode cX9_jams 25 = .ok (.iload_n 1, 1) := by decide +kernel
theorem dX9_jams_26 : decode cX9_jams 26 = .ok (.iload 5, 2) := by decide +kernel
theorem dX9_jams_28 : decode cX9_jams 28 = .ok (.ifCond .eq 7, 3) := by decide +kernel
theorem dX9_jams_31 : decode cX9_jams 31 = .ok (.iconst 1, 1) := by decide +kernel
theorem dX9_jams_32 : decode cX9_jams 32 = .ok (.goto 4, 3) := by decide +kernel
theorem dX9_jams_35 : decode cX9_jams 35 = .ok (.iconst 0, 1) := by decide +kernel
theorem dX9_jams_36 : decode cX9_jams 36 = .ok (.iadd, 1) := by decide +kernel
theorem dX9_jams_37 : decode cX9_jams 37 = .ok (.istore_n 1, 1) := by decide +kernel
theorem dX9_jams_38 : decode cX9_jams 38 = .ok (.iinc 4 1, 3) := by decide +kernel
theorem dX9_jams_41 : decode cX9_jams 41 = .ok (.goto (-28), 3) := by decide +kernel
theorem dX9_jams_44 : decode cX9_jams 44 = .ok (.iload_n 1, 1) := by decide +kernel
theorem dX9_jams_45 : decode cX9_jams 45 = .ok (.ireturn, 1) := by decide +kernel
theorem dJ9_max_7cf53_0 : decode cJ9_max_7cf53 0 = .ok (.iload_n 0, 1) := by decide +kernel
theorem dJ9_max_7cf53_1 : decode cJ9_max_7cf53 1 = .ok (.iload_n 1, 1) := by decide +kernel
theorem dJ9_max_7cf53_2 : decode cJ9_max_7cf53 2 = .ok (.if_icmp .lt 7, 3) := by decide +kernel
theorem dJ9_max_7cf53_5 : decode cJ9_max_7cf53 5 = .ok (.iload_n 0, 1) := by decide +kernel
theorem dJ9_max_7cf53_6 : decode cJ9_max_7cf53 6 = .ok (.goto 4, 3) := by decide +kernel
theorem dJ9_max_7cf53_9 : decode cJ9_max_7cf53 9 = .ok (.iload_n 1, 1) := by decide +kernel
theorem dJ9_max_7cf53_10 : decode cJ9_max_7cf53 10 = .ok (.ireturn, 1) := by decide +kernel
theorem dJ9_min_7cf53_0 : decode cJ9_min_7cf53 0 = .ok (.iload_n 0, 1) := by decide +kernel
theorem dJ9_min_7cf53_1 : decode cJ9_min_7cf53 1 = .ok (.iload_n 1, 1) := by decide +kernel
theorem dJ9_min_7cf53_2 : decode cJ9_min_7cf53 2 = .ok (.if_icmp .gt 7, 3) := by decide +kernel
theorem dJ9_min_7cf53_5 : decode cJ9_min_7cf53 5 = .ok (.iload_n 0, 1) := by decide +kernel
theorem dJ9_min_7cf53_6 : decode cJ9_min_7cf53 6 = .ok (.goto 4, 3) := by decide +kernel
theorem dJ9_min_7cf53_9 : decode cJ9_min_7cf53 9 = .ok (.iload_n 1, 1) := by decide +kernel
theorem dJ9_min_7cf53_10 : decode cJ9_min_7cf53 10 = .ok (.ireturn, 1) := by decide +kernel
theorem dL_cell_0 : decode cL_cell 0 = .ok (.iload_n 1, 1) := by decide +kernel
theorem dL_cell_1 : decode cL_cell 1 = .ok (.aload_n 0, 1) := by decide +kernel
theorem dL_cell_2 : decode cL_cell 2 = .ok (.arraylength, 1) := by decide +kernel
theorem dL_cell_3 : decode cL_cell 3 = .ok (.if_icmp .ge 9, 3) := by decide +kernel
theorem dL_cell_6 : decode cL_cell 6 = .ok (.aload_n 0, 1) := by decide +kernel
theorem dL_cell_7 : decode cL_cell 7 = .ok (.iload_n 1, 1) := by decide +kernel
theorem dL_cell_8 : decode cL_cell 8 = .ok (.iaload, 1) := by decide +kernel
theorem dL_cell_9 : decode cL_cell 9 = .ok (.goto 11, 3) := by decide +kernel
theorem dL_cell_12 : decode cL_cell 12 = .ok (.ldc 7, 2) := by decide +kernel
theorem dL_cell_14 : decode cL_cell 14 = .ok (.iload_n 1, 1) := by decide +kernel
theorem dL_cell_15 : decode cL_cell 15 = .ok (.imul, 1) := by decide +kernel
theorem dL_cell_16 : decode cL_cell 16 = .ok (.sipush 619, 3) := by decide +kernel
theorem dL_cell_19 : decode cL_cell 19 = .ok (.iadd, 1) := by decide +kernel
theorem dL_cell_20 : decode cL_cell 20 = .ok (.ireturn, 1) := by decide +kernel
theorem dL_low_0 : decode cL_low 0 = .ok (.iload_n 0, 1) := by decide +kernel
theorem dL_low_1 : decode cL_low 1 = .ok (.ldc 8, 2) := by decide +kernel
theorem dL_low_3 : decode cL_low 3 = .ok (.iand, 1) := by decide +kernel
theorem dL_low_4 : decode cL_low 4 = .ok (.iload_n 1, 1) := by decide +kernel
theorem dL_low_5 : decode cL_low 5 = .ok (.irem, 1) := by decide +kernel
theorem dL_low_6 : decode cL_low 6 = .ok (.ireturn, 1) := by decide +kernel
theorem dL_chuteFor_0 : decode cL_chuteFor 0 = .ok (.aload_n 0, 1) := by decide +kernel
theorem dL_chuteFor_1 : decode cL_chuteFor 1 = .ok (.iload_n 1, 1) := by decide +kernel
theorem dL_chuteFor_2 : decode cL_chuteFor 2 = .ok (.invokevirtual 9, 3) := by decide +kernel
theorem dL_chuteFor_5 : decode cL_chuteFor 5 = .ok (.ireturn, 1) := by decide +kernel
theorem dL_chuteFor_6 : decode cL_chuteFor 6 = .ok (.astore_n 2, 1) := by decide +kernel
theorem dL_chuteFor_7 : decode cL_chuteFor 7 = .ok (.iconst (-1), 1) := by decide +kernel
theorem dL_chuteFor_8 : decode cL_chuteFor 8 = .ok (.ireturn, 1) := by decide +kernel
theorem dL_trayAt_0 : decode cL_trayAt 0 = .ok (.aload_n 0, 1) := by decide +kernel
theorem dL_trayAt_1 : decode cL_trayAt 1 = .ok (.iload_n 1, 1) := by decide +kernel
theorem dL_trayAt_2 : decode cL_trayAt 2 = .ok (.invokevirtual 17, 3) := by decide +kernel
theorem dL_trayAt_5 : decode cL_trayAt 5 = .ok (.ireturn, 1) := by decide +kernel
theorem dL_trayAt_6 : decode cL_trayAt 6 = .ok (.astore_n 2, 1) := by decide +kernel
theorem dL_trayAt_7 : decode cL_trayAt 7 = .ok (.iconst (-1), 1) := by decide +kernel
theorem dL_trayAt_8 : decode cL_trayAt 8 = .ok (.ireturn, 1) := by decide +kernel
theorem dL_agrees_0 : decode cL_agrees 0 = .ok (.iconst 0, 1) := by decide +kernel
theorem dL_agrees_1 : decode cL_agrees 1 = .ok (.istore_n 2, 1) := by decide +kernel
theorem dL_agrees_2 : decode cL_agrees 2 = .ok (.iconst 0, 1) := by decide +kernel
theorem dL_agrees_3 : decode cL_agrees 3 = .ok (.istore_n 3, 1) := by decide +kernel
theorem dL_agrees_4 : decode cL_agrees 4 = .ok (.iconst 0, 1) := by decide +kernel
theorem dL_agrees_5 : decode cL_agrees 5 = .ok (.istore 4, 2) := by decide +kernel
theorem dL_agrees_7 : decode cL_agrees 7 = .ok (.iload 4, 2) := by decide +kernel
theorem dL_agrees_9 : decode cL_agrees 9 = .ok (.aload_n 1, 1) := by decide +kernel
theorem dL_agrees_10 : decode cL_agrees 10 = .ok (.getfield 20, 3) := by decide +kernel
theorem dL_agrees_13 : decode cL_agrees 13 = .ok (.if_icmp .ge 123, 3) := by decide +kernel
theorem dL_agrees_16 : decode cL_agrees 16 = .ok (.iload_n 2, 1) := by decide +kernel
theorem dL_agrees_17 : decode cL_agrees 17 = .ok (.aload_n 1, 1) := by decide +kernel
theorem dL_agrees_18 : decode cL_agrees 18 = .ok (.getfield 26, 3) := by decide +kernel
theorem dL_agrees_21 : decode cL_agrees 21 = .ok (.iload 4, 2) := by decide +kernel
theorem dL_agrees_23 : decode cL_agrees 23 = .ok (.caload, 1) := by decide +kernel
theorem dL_agrees_24 : decode cL_agrees 24 = .ok (.bipush 119, 2) := by decide +kernel
theorem dL_agrees_26 : decode cL_agrees 26 = .ok (.if_icmp .ne 7, 3) := by decide +kernel
theorem dL_agrees_29 : decode cL_agrees 29 = .ok (.iconst 1, 1) := by decide +kernel
theorem dL_agrees_30 : decode cL_agrees 30 = .ok (.goto 4, 3) := by decide +kernel
theorem dL_agrees_33 : decode cL_agrees 33 = .ok (.iconst 0, 1) := by decide +kernel
theorem dL_agrees_34 : decode cL_agrees 34 = .ok (.iadd, 1) := by decide +kernel
theorem dL_agrees_35 : decode cL_agrees 35 = .ok (.istore_n 2, 1) := by decide +kernel
theorem dL_agrees_36 : decode cL_agrees 36 = .ok (.iload_n 3, 1) := by decide +kernel
theorem dL_agrees_37 : decode cL_agrees 37 = .ok (.aload_n 1, 1) := by decide +kernel
theorem dL_agrees_38 : decode cL_agrees 38 = .ok (.getfield 26, 3) := by decide +kernel
theorem dL_agrees_41 : decode cL_agrees 41 = .ok (.iload 4, 2) := by decide +kernel
theorem dL_agrees_43 : decode cL_agrees 43 = .ok (.caload, 1) := by decide +kernel
theorem dL_agrees_44 : decode cL_agrees 44 = .ok (.bipush 108, 2) := by decide +kernel
theorem dL_agrees_46 : decode cL_agrees 46 = .ok (.if_icmp .ne 7, 3) := by decide +kernel
theorem dL_agrees_49 : decode cL_agrees 49 = .ok (.iconst 1, 1) := by decide +kernel
theorem dL_agrees_50 : decode cL_agrees 50 = .ok (.goto 4, 3) := by decide +kernel
theorem dL_agrees_53 : decode cL_agrees 53 = .ok (.iconst 0, 1) := by decide +kernel
theorem dL_agrees_54 : decode cL_agrees 54 = .ok (.iadd, 1) := by decide +kernel
theorem dL_agrees_55 : decode cL_agrees 55 = .ok (.istore_n 3, 1) := by decide +kernel
theorem dL_agrees_56 : decode cL_agrees 56 = .ok (.aload_n 0, 1) := by decide +kernel
theorem dL_agrees_57 : decode cL_agrees 57 = .ok (.iload 4, 2) := by decide +kernel
theorem dL_agrees_59 : decode cL_agrees 59 = .ok (.invokevirtual 30, 3) := by decide +kernel
theorem dL_agrees_62 : decode cL_agrees 62 = .ok (.aload_n 1, 1) := by decide +kernel
theorem dL_agrees_63 : decode cL_agrees 63 = .ok (.getfield 26, 3) := by decide +kernel
theorem dL_agrees_66 : decode cL_agrees 66 = .ok (.iload 4, 2) := by decide +kernel
theorem dL_agrees_68 : decode cL_agrees 68 = .ok (.caload, 1) := by decide +kernel
theorem dL_agrees_69 : decode cL_agrees 69 = .ok (.if_icmp .ne 59, 3) := by decide +kernel
theorem dL_agrees_72 : decode cL_agrees 72 = .ok (.aload_n 1, 1) := by decide +kernel
theorem dL_agrees_73 : decode cL_agrees 73 = .ok (.getfield 26, 3) := by decide +kernel
theorem dL_agrees_76 : decode cL_agrees 76 = .ok (.iload 4, 2) := by decide +kernel
theorem dL_agrees_78 : decode cL_agrees 78 = .ok (.caload, 1) := by decide +kernel
theorem dL_agrees_79 : decode cL_agrees 79 = .ok (.bipush 119, 2) := by decide +kernel
theorem dL_agrees_81 : decode cL_agrees 81 = .ok (.if_icmp .eq 19, 3) := by decide +kernel
theorem dL_agrees_84 : decode cL_agrees 84 = .ok (.aload_n 0, 1) := by decide +kernel
theorem dL_agrees_85 : decode cL_agrees 85 = .ok (.iload 4, 2) := by decide +kernel
theorem dL_agrees_87 : decode cL_agrees 87 = .ok (.invokevirtual 34, 3) := by decide +kernel
theorem dL_agrees_90 : decode cL_agrees 90 = .ok (.aload_n 1, 1) := by decide +kernel
theorem dL_agrees_91 : decode cL_agrees 91 = .ok (.getfield 37, 3) := by decide +kernel
theorem dL_agrees_94 : decode cL_agrees 94 = .ok (.iload 4, 2) := by decide +kernel
theorem dL_agrees_96 : decode cL_agrees 96 = .ok (.iaload, 1) := by decide +kernel
theorem dL_agrees_97 : decode cL_agrees 97 = .ok (.if_icmp .ne 31, 3) := by decide +kernel
theorem dL_agrees_100 : decode cL_agrees 100 = .ok (.aload_n 1, 1) := by decide +kernel
theorem dL_agrees_101 : decode cL_agrees 101 = .ok (.getfield 26, 3) := by decide +kernel
theorem dL_agrees_104 : decode cL_agrees 104 = .ok (.iload 4, 2) := by decide +kernel
theorem dL_agrees_106 : decode cL_agrees 106 = .ok (.caload, 1) := by decide +kernel
theorem dL_agrees_107 : decode cL_agrees 107 = .ok (.bipush 116, 2) := by decide +kernel
theorem dL_agrees_109 : decode cL_agrees 109 = .ok (.if_icmp .ne 21, 3) := by decide +kernel
theorem dL_agrees_112 : decode cL_agrees 112 = .ok (.aload_n 0, 1) := by decide +kernel
theorem dL_agrees_113 : decode cL_agrees 113 = .ok (.iload 4, 2) := by decide +kernel
theorem dL_agrees_115 : decode cL_agrees 115 = .ok (.invokevirtual 41, 3) := by decide +kernel
theorem dL_agrees_118 : decode cL_agrees 118 = .ok (.aload_n 1, 1) := by decide +kernel
theorem dL_agrees_119 : decode cL_agrees 119 = .ok (.getfield 44, 3) := by decide +kernel
theorem dL_agrees_122 : decode cL_agrees 122 = .ok (.iload 4, 2) := by decide +kernel
theorem dL_agrees_124 : decode cL_agrees 124 = .ok (.iaload, 1) := by decide +kernel
theorem dL_agrees_125 : decode cL_agrees 125 = .ok (.if_icmp .eq 5, 3) := by decide +kernel
theorem dL_agrees_128 : decode cL_agrees 128 = .ok (.iconst 0, 1) := by decide +kernel
theorem dL_agrees_129 : decode cL_agrees 129 = .ok (.ireturn, 1) := by decide +kernel
theorem dL_agrees_130 : decode cL_agrees 130 = .ok (.iinc 4 1, 3) := by decide +kernel
theorem dL_agrees_133 : decode cL_agrees 133 = .ok (.goto (-126), 3) := by decide +kernel
theorem dL_agrees_136 : decode cL_agrees 136 = .ok (.aload_n 0, 1) := by decide +kernel
theorem dL_agrees_137 : decode cL_agrees 137 = .ok (.invokevirtual 47, 3) := by decide +kernel
theorem dL_agrees_140 : decode cL_agrees 140 = .ok (.iload_n 2, 1) := by decide +kernel
theorem dL_agrees_141 : decode cL_agrees 141 = .ok (.if_icmp .ne 62, 3) := by decide +kernel
theorem dL_agrees_144 : decode cL_agrees 144 = .ok (.aload_n 0, 1) := by decide +kernel
theorem dL_agrees_145 : decode cL_agrees 145 = .ok (.invokevirtual 51, 3) := by decide +kernel
theorem dL_agrees_148 : decode cL_agrees 148 = .ok (.iload_n 3, 1) := by decide +kernel
theorem dL_agrees_149 : decode cL_agrees 149 = .ok (.if_icmp .ne 54, 3) := by decide +kernel
theorem dL_agrees_152 : decode cL_agrees 152 = .ok (.aload_n 0, 1) := by decide +kernel
theorem dL_agrees_153 : decode cL_agrees 153 = .ok (.invokevirtual 54, 3) := by decide +kernel
theorem dL_agrees_156 : decode cL_agrees 156 = .ok (.aload_n 1, 1) := by decide +kernel
theorem dL_agrees_157 : decode cL_agrees 157 = .ok (.getfield 57, 3) := by decide +kernel
theorem dL_agrees_160 : decode cL_agrees 160 = .ok (.if_icmp .ne 43, 3) := by decide +kernel
theorem dL_agrees_163 : decode cL_agrees 163 = .ok (.aload_n 0, 1) := by decide +kernel
theorem dL_agrees_164 : decode cL_agrees 164 = .ok (.invokevirtual 60, 3) := by decide +kernel
theorem dL_agrees_167 : decode cL_agrees 167 = .ok (.aload_n 1, 1) := by decide +kernel
theorem dL_agrees_168 : decode cL_agrees 168 = .ok (.getfield 64, 3) := by decide +kernel
theorem dL_agrees_171 : decode cL_agrees 171 = .ok (.i2l, 1) := by decide +kernel
theorem dL_agrees_172 : decode cL_agrees 172 = .ok (.lcmp, 1) := by decide +kernel
theorem dL_agrees_173 : decode cL_agrees 173 = .ok (.ifCond .ne 30, 3) := by decide +kernel
theorem dL_agrees_176 : decode cL_agrees 176 = .ok (.aload_n 0, 1) := by decide +kernel
theorem dL_agrees_177 : decode cL_agrees 177 = .ok (.invokevirtual 67, 3) := by decide +kernel
theorem dL_agrees_180 : decode cL_agrees 180 = .ok (.aload_n 1, 1) := by decide +kernel
theorem dL_agrees_181 : decode cL_agrees 181 = .ok (.getfield 70, 3) := by decide +kernel
theorem dL_agrees_184 : decode cL_agrees 184 = .ok (.if_icmp .ne 19, 3) := by decide +kernel
theorem dL_agrees_187 : decode cL_agrees 187 = .ok (.aload_n 0, 1) := by decide +kernel
theorem dL_agrees_188 : decode cL_agrees 188 = .ok (.invokevirtual 72, 3) := by decide +kernel
theorem dL_agrees_191 : decode cL_agrees 191 = .ok (.aload_n 1, 1) := by decide +kernel
theorem dL_agrees_192 : decode cL_agrees 192 = .ok (.getfield 75, 3) := by decide +kernel
theorem dL_agrees_195 : decode cL_agrees 195 = .ok (.lcmp, 1) := by decide +kernel
theorem dL_agrees_196 : decode cL_agrees 196 = .ok (.ifCond .ne 7, 3) := by decide +kernel
theorem dL_agrees_199 : decode cL_agrees 199 = .ok (.iconst 1, 1) := by decide +kernel
theorem dL_agrees_200 : decode cL_agrees 200 = .ok (.goto 4, 3) := by decide +kernel
theorem dL_agrees_203 : decode cL_agrees 203 = .ok (.iconst 0, 1) := by decide +kernel
theorem dL_agrees_204 : decode cL_agrees 204 = .ok (.istore 4, 2) := by decide +kernel
theorem dL_agrees_206 : decode cL_agrees 206 = .ok (.iconst 0, 1) := by decide +kernel
theorem dL_agrees_207 : decode cL_agrees 207 = .ok (.istore 5, 2) := by decide +kernel
theorem dL_agrees_209 : decode cL_agrees 209 = .ok (.iload 5, 2) := by decide +kernel
theorem dL_agrees_211 : decode cL_agrees 211 = .ok (.aload_n 1, 1) := by decide +kernel
theorem dL_agrees_212 : decode cL_agrees 212 = .ok (.getfield 78, 3) := by decide +kernel
theorem dL_agrees_215 : decode cL_agrees 215 = .ok (.if_icmp .ge 61, 3) := by decide +kernel
theorem dL_agrees_218 : decode cL_agrees 218 = .ok (.iload 4, 2) := by decide +kernel
theorem dL_agrees_220 : decode cL_agrees 220 = .ok (.ifCond .eq 56, 3) := by decide +kernel
theorem dL_agrees_223 : decode cL_agrees 223 = .ok (.aload_n 1, 1) := by decide +kernel
theorem dL_agrees_224 : decode cL_agrees 224 = .ok (.getfield 81, 3) := by decide +kernel
theorem dL_agrees_227 : decode cL_agrees 227 = .ok (.aload_n 1, 1) := by decide +kernel
theorem dL_agrees_228 : decode cL_agrees 228 = .ok (.iload 5, 2) := by decide +kernel
theorem dL_agrees_230 : decode cL_agrees 230 = .ok (.invokevirtual 84, 3) := by decide +kernel
theorem dL_agrees_233 : decode cL_agrees 233 = .ok (.iaload, 1) := by decide +kernel
theorem dL_agrees_234 : decode cL_agrees 234 = .ok (.istore 6, 2) := by decide +kernel
theorem dL_agrees_236 : decode cL_agrees 236 = .ok (.aload_n 0, 1) := by decide +kernel
theorem dL_agrees_237 : decode cL_agrees 237 = .ok (.iload 5, 2) := by decide +kernel
theorem dL_agrees_239 : decode cL_agrees 239 = .ok (.invokestatic 85, 3) := by decide +kernel
theorem dL_agrees_242 : decode cL_agrees 242 = .ok (.iload 6, 2) := by decide +kernel
theorem dL_agrees_244 : decode cL_agrees 244 = .ok (.if_icmp .ne 23, 3) := by decide +kernel
theorem dL_agrees_247 : decode cL_agrees 247 = .ok (.iload 6, 2) := by decide +kernel
theorem dL_agrees_249 : decode cL_agrees 249 = .ok (.ifCond .lt 14, 3) := by decide +kernel
theorem dL_agrees_252 : decode cL_agrees 252 = .ok (.aload_n 0, 1) := by decide +kernel
theorem dL_agrees_253 : decode cL_agrees 253 = .ok (.iload 6, 2) := by decide +kernel
theorem dL_agrees_255 : decode cL_agrees 255 = .ok (.invokevirtual 90, 3) := by decide +kernel
theorem dL_agrees_258 : decode cL_agrees 258 = .ok (.iload 5, 2) := by decide +kernel
theorem dL_agrees_260 : decode cL_agrees 260 = .ok (.if_icmp .ne 7, 3) := by decide +kernel
theorem dL_agrees_263 : decode cL_agrees 263 = .ok (.iconst 1, 1) := by decide +kernel
theorem dL_agrees_264 : decode cL_agrees 264 = .ok (.goto 4, 3) := by decide +kernel
theorem dL_agrees_267 : decode cL_agrees 267 = .ok (.iconst 0, 1) := by decide +kernel
theorem dL_agrees_268 : decode cL_agrees 268 = .ok (.istore 4, 2) := by decide +kernel
theorem dL_agrees_270 : decode cL_agrees 270 = .ok (.iinc 5 1, 3) := by decide +kernel
theorem dL_agrees_273 : decode cL_agrees 273 = .ok (.goto (-64), 3) := by decide +kernel
theorem dL_agrees_276 : decode cL_agrees 276 = .ok (.iconst 0, 1) := by decide +kernel
theorem dL_agrees_277 : decode cL_agrees 277 = .ok (.istore 5, 2) := by decide +kernel
theorem dL_agrees_279 : decode cL_agrees 279 = .ok (.iload 5, 2) := by decide +kernel
theorem dL_agrees_281 : decode cL_agrees 281 = .ok (.aload_n 1, 1) := by decide +kernel
theorem dL_agrees_282 : decode cL_agrees 282 = .ok (.getfield 93, 3) := by decide +kernel
theorem dL_agrees_285 : decode cL_agrees 285 = .ok (.if_icmp .ge 67, 3) := by decide +kernel
theorem dL_agrees_288 : decode cL_agrees 288 = .ok (.iload 4, 2) := by decide +kernel
theorem dL_agrees_290 : decode cL_agrees 290 = .ok (.ifCond .eq 62, 3) := by decide +kernel
theorem dL_agrees_293 : decode cL_agrees 293 = .ok (.aload_n 0, 1) := by decide +kernel
theorem dL_agrees_294 : decode cL_agrees 294 = .ok (.iload 5, 2) := by decide +kernel
theorem dL_agrees_296 : decode cL_agrees 296 = .ok (.invokevirtual 96, 3) := by decide +kernel
theorem dL_agrees_299 : decode cL_agrees 299 = .ok (.aload_n 1, 1) := by decide +kernel
theorem dL_agrees_300 : decode cL_agrees 300 = .ok (.getfield 99, 3) := by decide +kernel
theorem dL_agrees_303 : decode cL_agrees 303 = .ok (.iload 5, 2) := by decide +kernel
theorem dL_agrees_305 : decode cL_agrees 305 = .ok (.iaload, 1) := by decide +kernel
theorem dL_agrees_306 : decode cL_agrees 306 = .ok (.if_icmp .ne 37, 3) := by decide +kernel
theorem dL_agrees_309 : decode cL_agrees 309 = .ok (.aload_n 0, 1) := by decide +kernel
theorem dL_agrees_310 : decode cL_agrees 310 = .ok (.iload 5, 2) := by decide +kernel
theorem dL_agrees_312 : decode cL_agrees 312 = .ok (.invokevirtual 102, 3) := by decide +kernel
theorem dL_agrees_315 : decode cL_agrees 315 = .ok (.aload_n 1, 1) := by decide +kernel
theorem dL_agrees_316 : decode cL_agrees 316 = .ok (.iload 5, 2) := by decide +kernel
theorem dL_agrees_318 : decode cL_agrees 318 = .ok (.invokevirtual 105, 3) := by decide +kernel
theorem dL_agrees_321 : decode cL_agrees 321 = .ok (.if_icmp .ne 22, 3) := by decide +kernel
theorem dL_agrees_324 : decode cL_agrees 324 = .ok (.aload_n 0, 1) := by decide +kernel
theorem dL_agrees_325 : decode cL_agrees 325 = .ok (.iload 5, 2) := by decide +kernel
theorem dL_agrees_327 : decode cL_agrees 327 = .ok (.invokevirtual 106, 3) := by decide +kernel
theorem dL_agrees_330 : decode cL_agrees 330 = .ok (.aload_n 1, 1) := by decide +kernel
theorem dL_agrees_331 : decode cL_agrees 331 = .ok (.iload 5, 2) := by decide +kernel
theorem dL_agrees_333 : decode cL_agrees 333 = .ok (.invokevirtual 105, 3) := by decide +kernel
theorem dL_agrees_336 : decode cL_agrees 336 = .ok (.if_icmp .ne 7, 3) := by decide +kernel
theorem dL_agrees_339 : decode cL_agrees 339 = .ok (.iconst 1, 1) := by decide +kernel
theorem dL_agrees_340 : decode cL_agrees 340 = .ok (.goto 4, 3) := by decide +kernel
theorem dL_agrees_343 : decode cL_agrees 343 = .ok (.iconst 0, 1) := by decide +kernel
theorem dL_agrees_344 : decode cL_agrees 344 = .ok (.istore 4, 2) := by decide +kernel
theorem dL_agrees_346 : decode cL_agrees 346 = .ok (.iinc 5 1, 3) := by decide +kernel
theorem dL_agrees_349 : decode cL_agrees 349 = .ok (.goto (-70), 3) := by decide +kernel
theorem dL_agrees_352 : decode cL_agrees 352 = .ok (.iconst 0, 1) := by decide +kernel
theorem dL_agrees_353 : decode cL_agrees 353 = .ok (.istore 5, 2) := by decide +kernel
theorem dL_agrees_355 : decode cL_agrees 355 = .ok (.iload 5, 2) := by decide +kernel
theorem dL_agrees_357 : decode cL_agrees 357 = .ok (.bipush 8, 2) := by decide +kernel
theorem dL_agrees_359 : decode cL_agrees 359 = .ok (.if_icmp .ge 52, 3) := by decide +kernel
theorem dL_agrees_362 : decode cL_agrees 362 = .ok (.iload 4, 2) := by decide +kernel
theorem dL_agrees_364 : decode cL_agrees 364 = .ok (.ifCond .eq 47, 3) := by decide +kernel
theorem dL_agrees_367 : decode cL_agrees 367 = .ok (.aload_n 0, 1) := by decide +kernel
theorem dL_agrees_368 : decode cL_agrees 368 = .ok (.iload 5, 2) := by decide +kernel
theorem dL_agrees_370 : decode cL_agrees 370 = .ok (.invokevirtual 109, 3) := by decide +kernel
theorem dL_agrees_373 : decode cL_agrees 373 = .ok (.aload_n 1, 1) := by decide +kernel
theorem dL_agrees_374 : decode cL_agrees 374 = .ok (.iload 5, 2) := by decide +kernel
theorem dL_agrees_376 : decode cL_agrees 376 = .ok (.invokevirtual 112, 3) := by decide +kernel
theorem dL_agrees_379 : decode cL_agrees 379 = .ok (.if_icmp .ne 23, 3) := by decide +kernel
theorem dL_agrees_382 : decode cL_agrees 382 = .ok (.aload_n 0, 1) := by decide +kernel
theorem dL_agrees_383 : decode cL_agrees 383 = .ok (.iload 5, 2) := by decide +kernel
theorem dL_agrees_385 : decode cL_agrees 385 = .ok (.invokestatic 113, 3) := by decide +kernel
theorem dL_agrees_388 : decode cL_agrees 388 = .ok (.aload_n 1, 1) := by decide +kernel
theorem dL_agrees_389 : decode cL_agrees 389 = .ok (.getfield 115, 3) := by decide +kernel
theorem dL_agrees_392 : decode cL_agrees 392 = .ok (.iload 5, 2) := by decide +kernel
theorem dL_agrees_394 : decode cL_agrees 394 = .ok (.iaload, 1) := by decide +kernel
theorem dL_agrees_395 : decode cL_agrees 395 = .ok (.if_icmp .ne 7, 3) := by decide +kernel
theorem dL_agrees_398 : decode cL_agrees 398 = .ok (.iconst 1, 1) := by decide +kernel
theorem dL_agrees_399 : decode cL_agrees 399 = .ok (.goto 4, 3) := by decide +kernel
theorem dL_agrees_402 : decode cL_agrees 402 = .ok (.iconst 0, 1) := by decide +kernel
theorem dL_agrees_403 : decode cL_agrees 403 = .ok (.istore 4, 2) := by decide +kernel
theorem dL_agrees_405 : decode cL_agrees 405 = .ok (.iinc 5 1, 3) := by decide +kernel
theorem dL_agrees_408 : decode cL_agrees 408 = .ok (.goto (-53), 3) := by decide +kernel
theorem dL_agrees_411 : decode cL_agrees 411 = .ok (.iload 4, 2) := by decide +kernel
theorem dL_agrees_413 : decode cL_agrees 413 = .ok (.ifCond .eq 52, 3) := by decide +kernel
theorem dL_agrees_416 : decode cL_agrees 416 = .ok (.aload_n 1, 1) := by decide +kernel
theorem dL_agrees_417 : decode cL_agrees 417 = .ok (.getfield 117, 3) := by decide +kernel
theorem dL_agrees_420 : decode cL_agrees 420 = .ok (.ifCond .eq 41, 3) := by decide +kernel
theorem dL_agrees_423 : decode cL_agrees 423 = .ok (.aload_n 0, 1) := by decide +kernel
theorem dL_agrees_424 : decode cL_agrees 424 = .ok (.invokevirtual 120, 3) := by decide +kernel
theorem dL_agrees_427 : decode cL_agrees 427 = .ok (.aload_n 1, 1) := by decide +kernel
theorem dL_agrees_428 : decode cL_agrees 428 = .ok (.getfield 124, 3) := by decide +kernel
theorem dL_agrees_431 : decode cL_agrees 431 = .ok (.i2d, 1) := by decide +kernel
theorem dL_agrees_432 : decode cL_agrees 432 = .ok (.aload_n 1, 1) := by decide +kernel
theorem dL_agrees_433 : decode cL_agrees 433 = .ok (.getfield 117, 3) := by decide +kernel
theorem dL_agrees_436 : decode cL_agrees 436 = .ok (.i2d, 1) := by decide +kernel
theorem dL_agrees_437 : decode cL_agrees 437 = .ok (.ddiv, 1) := by decide +kernel
theorem dL_agrees_438 : decode cL_agrees 438 = .ok (.dcmp .l, 1) := by decide +kernel
theorem dL_agrees_439 : decode cL_agrees 439 = .ok (.ifCond .ne 26, 3) := by decide +kernel
theorem dL_agrees_442 : decode cL_agrees 442 = .ok (.aload_n 0, 1) := by decide +kernel
theorem dL_agrees_443 : decode cL_agrees 443 = .ok (.invokevirtual 127, 3) := by decide +kernel
theorem dL_agrees_446 : decode cL_agrees 446 = .ok (.aload_n 1, 1) := by decide +kernel
theorem dL_agrees_447 : decode cL_agrees 447 = .ok (.getfield 57, 3) := by decide +kernel
theorem dL_agrees_450 : decode cL_agrees 450 = .ok (.i2f, 1) := by decide +kernel
theorem dL_agrees_451 : decode cL_agrees 451 = .ok (.aload_n 1, 1) := by decide +kernel
theorem dL_agrees_452 : decode cL_agrees 452 = .ok (.getfield 117, 3) := by decide +kernel
theorem dL_agrees_455 : decode cL_agrees 455 = .ok (.i2f, 1) := by decide +kernel
theorem dL_agrees_456 : decode cL_agrees 456 = .ok (.fdiv, 1) := by decide +kernel
theorem dL_agrees_457 : decode cL_agrees 457 = .ok (.fcmp .l, 1) := by decide +kernel
theorem dL_agrees_458 : decode cL_agrees 458 = .ok (.ifCond .ne 7, 3) := by decide +kernel
theorem dL_agrees_461 : decode cL_agrees 461 = .ok (.iconst 1, 1) := by decide +kernel
theorem dL_agrees_462 : decode cL_agrees 462 = .ok (.goto 4, 3) := by decide +kernel
theorem dL_agrees_465 : decode cL_agrees 465 = .ok (.iconst 0, 1) := by decide +kernel
theorem dL_agrees_466 : decode cL_agrees 466 = .ok (.ireturn, 1) := by decide +kernel
theorem dL_jams_0 : decode cL_jams 0 = .ok (.iload_n 2, 1) := by decide +kernel
theorem dL_jams_1 : decode cL_jams 1 = .ok (.ifCond .eq 22, 3) := by decide +kernel
theorem dL_jams_4 : decode cL_jams 4 = .ok (.iload_n 2, 1) := by decide +kernel
theorem dL_jams_5 : decode cL_jams 5 = .ok (.aload_n 1, 1) := by decide +kernel
theorem dL_jams_6 : decode cL_jams 6 = .ok (.getfield 78, 3) := by decide +kernel
theorem dL_jams_9 : decode cL_jams 9 = .ok (.iconst 1, 1) := by decide +kernel
theorem dL_jams_10 : decode cL_jams 10 = .ok (.isub, 1) := by decide +kernel
theorem dL_jams_11 : decode cL_jams 11 = .ok (.if_icmp .eq 12, 3) := by decide +kernel
theorem dL_jams_14 : decode cL_jams 14 = .ok (.aload_n 1, 1) := by decide +kernel
theorem dL_jams_15 : decode cL_jams 15 = .ok (.getfield 131, 3) := by decide +kernel
theorem dL_jams_18 : decode cL_jams 18 = .ok (.iload_n 2, 1) := by decide +kernel
theorem dL_jams_19 : decode cL_jams 19 = .ok (.iaload, 1) := by decide +kernel
theorem dL_jams_20 : decode cL_jams 20 = .ok (.ifCond .lt 7, 3) := by decide +kernel
theorem dL_jams_23 : decode cL_jams 23 = .ok (.iconst 1, 1) := by decide +kernel
theorem dL_jams_24 : decode cL_jams 24 = .ok (.goto 4, 3) := by decide +kernel
theorem dL_jams_27 : decode cL_jams 27 = .ok (.iconst 0, 1) := by decide +kernel
theorem dL_jams_28 : decode cL_jams 28 = .ok (.istore_n 3, 1) := by decide +kernel
theorem dL_jams_29 : decode cL_jams 29 = .ok (.iload_n 3, 1) := by decide +kernel
theorem dL_jams_30 : decode cL_jams 30 = .ok (.ifCond .ne 19, 3) := by decide +kernel
theorem dL_jams_33 : decode cL_jams 33 = .ok (.aload_n 0, 1) := by decide +kernel
theorem dL_jams_34 : decode cL_jams 34 = .ok (.iload_n 2, 1) := by decide +kernel
theorem dL_jams_35 : decode cL_jams 35 = .ok (.invokevirtual 134, 3) := by decide +kernel
theorem dL_jams_38 : decode cL_jams 38 = .ok (.bipush 45, 2) := by decide +kernel
theorem dL_jams_40 : decode cL_jams 40 = .ok (.if_icmp .ne 7, 3) := by decide +kernel
theorem dL_jams_43 : decode cL_jams 43 = .ok (.iconst 1, 1) := by decide +kernel
theorem dL_jams_44 : decode cL_jams 44 = .ok (.goto 4, 3) := by decide +kernel
theorem dL_jams_47 : decode cL_jams 47 = .ok (.iconst 0, 1) := by decide +kernel
theorem dL_jams_48 : decode cL_jams 48 = .ok (.ireturn, 1) := by decide +kernel
theorem dL_jams_49 : decode cL_jams 49 = .ok (.aload_n 1, 1) := by decide +kernel
theorem dL_jams_50 : decode cL_jams 50 = .ok (.getfield 137, 3) := by decide +kernel
theorem dL_jams_53 : decode cL_jams 53 = .ok (.iload_n 2, 1) := by decide +kernel
theorem dL_jams_54 : decode cL_jams 54 = .ok (.aload_n 1, 1) := by decide +kernel
theorem dL_jams_55 : decode cL_jams 55 = .ok (.getfield 137, 3) := by decide +kernel
theorem dL_jams_58 : decode cL_jams 58 = .ok (.iload_n 2, 1) := by decide +kernel
theorem dL_jams_59 : decode cL_jams 59 = .ok (.baload, 1) := by decide +kernel
theorem dL_jams_60 : decode cL_jams 60 = .ok (.ifCond .ne 7, 3) := by decide +kernel
theorem dL_jams_63 : decode cL_jams 63 = .ok (.iconst 1, 1) := by decide +kernel
theorem dL_jams_64 : decode cL_jams 64 = .ok (.goto 4, 3) := by decide +kernel
theorem dL_jams_67 : decode cL_jams 67 = .ok (.iconst 0, 1) := by decide +kernel
theorem dL_jams_68 : decode cL_jams 68 = .ok (.bastore, 1) := by decide +kernel
theorem dL_jams_69 : decode cL_jams 69 = .ok (.aload_n 1, 1) := by decide +kernel
theorem dL_jams_70 : decode cL_jams 70 = .ok (.getfield 137, 3) := by decide +kernel
theorem dL_jams_73 : decode cL_jams 73 = .ok (.iload_n 2, 1) := by decide +kernel
theorem dL_jams_74 : decode cL_jams 74 = .ok (.baload, 1) := by decide +kernel
theorem dL_jams_75 : decode cL_jams 75 = .ok (.ifCond .eq 11, 3) := by decide +kernel
theorem dL_jams_78 : decode cL_jams 78 = .ok (.aload_n 0, 1) := by decide +kernel
theorem dL_jams_79 : decode cL_jams 79 = .ok (.iload_n 2, 1) := by decide +kernel
theorem dL_jams_80 : decode cL_jams 80 = .ok (.invokevirtual 141, 3) := by decide +kernel
theorem dL_jams_83 : decode cL_jams 83 = .ok (.goto 8, 3) := by decide +kernel
theorem dL_jams_86 : decode cL_jams 86 = .ok (.aload_n 0, 1) := by decide +kernel
theorem dL_jams_87 : decode cL_jams 87 = .ok (.iload_n 2, 1) := by decide +kernel
theorem dL_jams_88 : decode cL_jams 88 = .ok (.invokevirtual 144, 3) := by decide +kernel
theorem dL_jams_91 : decode cL_jams 91 = .ok (.aload_n 1, 1) := by decide +kernel
theorem dL_jams_92 : decode cL_jams 92 = .ok (.invokevirtual 147, 3) := by decide +kernel
theorem dL_jams_95 : decode cL_jams 95 = .ok (.if_icmp .ne 41, 3) := by decide +kernel
theorem dL_jams_98 : decode cL_jams 98 = .ok (.aload_n 0, 1) := by decide +kernel
theorem dL_jams_99 : decode cL_jams 99 = .ok (.iload_n 2, 1) := by decide +kernel
theorem dL_jams_100 : decode cL_jams 100 = .ok (.invokevirtual 134, 3) := by decide +kernel
theorem dL_jams_103 : decode cL_jams 103 = .ok (.iload_n 2, 1) := by decide +kernel
theorem dL_jams_104 : decode cL_jams 104 = .ok (.ifCond .ne 8, 3) := by decide +kernel
theorem dL_jams_107 : decode cL_jams 107 = .ok (.bipush 105, 2) := by decide +kernel
theorem dL_jams_109 : decode cL_jams 109 = .ok (.goto 20, 3) := by decide +kernel
theorem dL_jams_112 : decode cL_jams 112 = .ok (.iload_n 2, 1) := by decide +kernel
theorem dL_jams_113 : decode cL_jams 113 = .ok (.aload_n 1, 1) := by decide +kernel
theorem dL_jams_114 : decode cL_jams 114 = .ok (.getfield 78, 3) := by decide +kernel
theorem dL_jams_117 : decode cL_jams 117 = .ok (.iconst 1, 1) := by decide +kernel
theorem dL_jams_118 : decode cL_jams 118 = .ok (.isub, 1) := by decide +kernel
theorem dL_jams_119 : decode cL_jams 119 = .ok (.if_icmp .ne 8, 3) := by decide +kernel
theorem dL_jams_122 : decode cL_jams 122 = .ok (.bipush 111, 2) := by decide +kernel
theorem dL_jams_124 : decode cL_jams 124 = .ok (.goto 5, 3) := by decide +kernel
theorem dL_jams_127 : decode cL_jams 127 = .ok (.bipush 99, 2) := by decide +kernel
theorem dL_jams_129 : decode cL_jams 129 = .ok (.if_icmp .ne 7, 3) := by decide +kernel
theorem dL_jams_132 : decode cL_jams 132 = .ok (.iconst 1, 1) := by decide +kernel
theorem dL_jams_133 : decode cL_jams 133 = .ok (.goto 4, 3) := by decide +kernel
theorem dL_jams_136 : decode cL_jams 136 = .ok (.iconst 0, 1) := by decide +kernel
theorem dL_jams_137 : decode cL_jams 137 = .ok (.ireturn, 1) := by decide +kernel
theorem dL_empties_0 : decode cL_empties 0 = .ok (.aload_n 1, 1) := by decide +kernel
theorem dL_empties_1 : decode cL_empties 1 = .ok (.getfield 99, 3) := by decide +kernel
theorem dL_empties_4 : decode cL_empties 4 = .ok (.iload_n 2, 1) := by decide +kernel
theorem dL_empties_5 : decode cL_empties 5 = .ok (.iaload, 1) := by decide +kernel
theorem dL_empties_6 : decode cL_empties 6 = .ok (.ifCond .ne 5, 3) := by decide +kernel
theorem dL_empties_9 : decode cL_empties 9 = .ok (.iconst 1, 1) := by decide +kernel
theorem dL_empties_10 : decode cL_empties 10 = .ok (.ireturn, 1) := by decide +kernel
theorem dL_empties_11 : decode cL_empties 11 = .ok (.aload_n 1, 1) := by decide +kernel
theorem dL_empties_12 : decode cL_empties 12 = .ok (.iload_n 2, 1) := by decide +kernel
theorem dL_empties_13 : decode cL_empties 13 = .ok (.invokevirtual 105, 3) := by decide +kernel
theorem dL_empties_16 : decode cL_empties 16 = .ok (.istore_n 3, 1) := by decide +kernel
theorem dL_empties_17 : decode cL_empties 17 = .ok (.aload_n 0, 1) := by decide +kernel
theorem dL_empties_18 : decode cL_empties 18 = .ok (.iload_n 2, 1) := by decide +kernel
theorem dL_empties_19 : decode cL_empties 19 = .ok (.invokevirtual 150, 3) := by decide +kernel
theorem dL_empties_22 : decode cL_empties 22 = .ok (.iload_n 3, 1) := by decide +kernel
theorem dL_empties_23 : decode cL_empties 23 = .ok (.if_icmp .ne 19, 3) := by decide +kernel
theorem dL_empties_26 : decode cL_empties 26 = .ok (.aload_n 0, 1) := by decide +kernel
theorem dL_empties_27 : decode cL_empties 27 = .ok (.aload_n 1, 1) := by decide +kernel
theorem dL_empties_28 : decode cL_empties 28 = .ok (.getfield 70, 3) := by decide +kernel
theorem dL_empties_31 : decode cL_empties 31 = .ok (.invokevirtual 153, 3) := by decide +kernel
theorem dL_empties_34 : decode cL_empties 34 = .ok (.iload_n 3, 1) := by decide +kernel
theorem dL_empties_35 : decode cL_empties 35 = .ok (.if_icmp .ne 7, 3) := by decide +kernel
theorem dL_empties_38 : decode cL_empties 38 = .ok (.iconst 1, 1) := by decide +kernel
theorem dL_empties_39 : decode cL_empties 39 = .ok (.goto 4, 3) := by decide +kernel
theorem dL_empties_42 : decode cL_empties 42 = .ok (.iconst 0, 1) := by decide +kernel
theorem dL_empties_43 : decode cL_empties 43 = .ok (.istore 4, 2) := by decide +kernel
theorem dL_empties_45 : decode cL_empties 45 = .ok (.iconst 0, 1) := by decide +kernel
theorem dL_empties_46 : decode cL_empties 46 = .ok (.istore 5, 2) := by decide +kernel
theorem dL_empties_48 : decode cL_empties 48 = .ok (.iload 5, 2) := by decide +kernel
theorem dL_empties_50 : decode cL_empties 50 = .ok (.aload_n 1, 1) := by decide +kernel
theorem dL_empties_51 : decode cL_empties 51 = .ok (.getfield 99, 3) := by decide +kernel
theorem dL_empties_54 : decode cL_empties 54 = .ok (.iload_n 2, 1) := by decide +kernel
theorem dL_empties_55 : decode cL_empties 55 = .ok (.iaload, 1) := by decide +kernel
theorem dL_empties_56 : decode cL_empties 56 = .ok (.if_icmp .ge 84, 3) := by decide +kernel
theorem dL_empties_59 : decode cL_empties 59 = .ok (.aload_n 1, 1) := by decide +kernel
theorem dL_empties_60 : decode cL_empties 60 = .ok (.getfield 156, 3) := by decide +kernel
theorem dL_empties_63 : decode cL_empties 63 = .ok (.iload_n 2, 1) := by decide +kernel
theorem dL_empties_64 : decode cL_empties 64 = .ok (.aaload, 1) := by decide +kernel
theorem dL_empties_65 : decode cL_empties 65 = .ok (.iload 5, 2) := by decide +kernel
theorem dL_empties_67 : decode cL_empties 67 = .ok (.iaload, 1) := by decide +kernel
theorem dL_empties_68 : decode cL_empties 68 = .ok (.istore 6, 2) := by decide +kernel
theorem dL_empties_70 : decode cL_empties 70 = .ok (.iload 4, 2) := by decide +kernel
theorem dL_empties_72 : decode cL_empties 72 = .ok (.ifCond .eq 22, 3) := by decide +kernel
theorem dL_empties_75 : decode cL_empties 75 = .ok (.aload_n 0, 1) := by decide +kernel
theorem dL_empties_76 : decode cL_empties 76 = .ok (.aload_n 1, 1) := by decide +kernel
theorem dL_empties_77 : decode cL_empties 77 = .ok (.getfield 70, 3) := by decide +kernel
theorem dL_empties_80 : decode cL_empties 80 = .ok (.iload 5, 2) := by decide +kernel
theorem dL_empties_82 : decode cL_empties 82 = .ok (.invokevirtual 160, 3) := by decide +kernel
theorem dL_empties_85 : decode cL_empties 85 = .ok (.iload 6, 2) := by decide +kernel
theorem dL_empties_87 : decode cL_empties 87 = .ok (.if_icmp .ne 7, 3) := by decide +kernel
theorem dL_empties_90 : decode cL_empties 90 = .ok (.iconst 1, 1) := by decide +kernel
theorem dL_empties_91 : decode cL_empties 91 = .ok (.goto 4, 3) := by decide +kernel
theorem dL_empties_94 : decode cL_empties 94 = .ok (.iconst 0, 1) := by decide +kernel
theorem dL_empties_95 : decode cL_empties 95 = .ok (.istore 4, 2) := by decide +kernel
theorem dL_empties_97 : decode cL_empties 97 = .ok (.aload_n 1, 1) := by decide +kernel
theorem dL_empties_98 : decode cL_empties 98 = .ok (.getfield 26, 3) := by decide +kernel
theorem dL_empties_101 : decode cL_empties 101 = .ok (.iload 6, 2) := by decide +kernel
theorem dL_empties_103 : decode cL_empties 103 = .ok (.bipush 116, 2) := by decide +kernel
theorem dL_empties_105 : decode cL_empties 105 = .ok (.castore, 1) := by decide +kernel
theorem dL_empties_106 : decode cL_empties 106 = .ok (.aload_n 1, 1) := by decide +kernel
theorem dL_empties_107 : decode cL_empties 107 = .ok (.getfield 44, 3) := by decide +kernel
theorem dL_empties_110 : decode cL_empties 110 = .ok (.iload 6, 2) := by decide +kernel
theorem dL_empties_112 : decode cL_empties 112 = .ok (.aload_n 1, 1) := by decide +kernel
theorem dL_empties_113 : decode cL_empties 113 = .ok (.getfield 70, 3) := by decide +kernel
theorem dL_empties_116 : decode cL_empties 116 = .ok (.iastore, 1) := by decide +kernel
theorem dL_empties_117 : decode cL_empties 117 = .ok (.aload_n 1, 1) := by decide +kernel
theorem dL_empties_118 : decode cL_empties 118 = .ok (.dup, 1) := by decide +kernel
theorem dL_empties_119 : decode cL_empties 119 = .ok (.getfield 75, 3) := by decide +kernel
theorem dL_empties_122 : decode cL_empties 122 = .ok (.aload_n 1, 1) := by decide +kernel
theorem dL_empties_123 : decode cL_empties 123 = .ok (.getfield 164, 3) := by decide +kernel
theorem dL_empties_126 : decode cL_empties 126 = .ok (.iload 6, 2) := by decide +kernel
theorem dL_empties_128 : decode cL_empties 128 = .ok (.iaload, 1) := by decide +kernel
theorem dL_empties_129 : decode cL_empties 129 = .ok (.i2l, 1) := by decide +kernel
theorem dL_empties_130 : decode cL_empties 130 = .ok (.ladd, 1) := by decide +kernel
theorem dL_empties_131 : decode cL_empties 131 = .ok (.putfield 75, 3) := by decide +kernel
theorem dL_empties_134 : decode cL_empties 134 = .ok (.iinc 5 1, 3) := by decide +kernel
theorem dL_empties_137 : decode cL_empties 137 = .ok (.goto (-89), 3) := by decide +kernel
theorem dL_empties_140 : decode cL_empties 140 = .ok (.aload_n 1, 1) := by decide +kernel
theorem dL_empties_141 : decode cL_empties 141 = .ok (.dup, 1) := by decide +kernel
theorem dL_empties_142 : decode cL_empties 142 = .ok (.getfield 70, 3) := by decide +kernel
theorem dL_empties_145 : decode cL_empties 145 = .ok (.iconst 1, 1) := by decide +kernel
theorem dL_empties_146 : decode cL_empties 146 = .ok (.iadd, 1) := by decide +kernel
theorem dL_empties_147 : decode cL_empties 147 = .ok (.putfield 70, 3) := by decide +kernel
theorem dL_empties_150 : decode cL_empties 150 = .ok (.aload_n 1, 1) := by decide +kernel
theorem dL_empties_151 : decode cL_empties 151 = .ok (.getfield 99, 3) := by decide +kernel
theorem dL_empties_154 : decode cL_empties 154 = .ok (.iload_n 2, 1) := by decide +kernel
theorem dL_empties_155 : decode cL_empties 155 = .ok (.iconst 0, 1) := by decide +kernel
theorem dL_empties_156 : decode cL_empties 156 = .ok (.iastore, 1) := by decide +kernel
theorem dL_empties_157 : decode cL_empties 157 = .ok (.iload 4, 2) := by decide +kernel
theorem dL_empties_159 : decode cL_empties 159 = .ok (.ireturn, 1) := by decide +kernel
theorem dL_acts_0 : decode cL_acts 0 = .ok (.iload_n 2, 1) := by decide +kernel
theorem dL_acts_1 : decode cL_acts 1 = .ok (.iconst 3, 1) := by decide +kernel
theorem dL_acts_2 : decode cL_acts 2 = .ok (.ishr, 1) := by decide +kernel
theorem dL_acts_3 : decode cL_acts 3 = .ok (.bipush 8, 2) := by decide +kernel
theorem dL_acts_5 : decode cL_acts 5 = .ok (.invokestatic 167, 3) := by decide +kernel
theorem dL_acts_8 : decode cL_acts 8 = .ok (.istore_n 3, 1) := by decide +kernel
theorem dL_acts_9 : decode cL_acts 9 = .ok (.iload_n 2, 1) := by decide +kernel
theorem dL_acts_10 : decode cL_acts 10 = .ok (.bipush 6, 2) := by decide +kernel
theorem dL_acts_12 : decode cL_acts 12 = .ok (.ishr, 1) := by decide +kernel
theorem dL_acts_13 : decode cL_acts 13 = .ok (.iconst 1, 1) := by decide +kernel
theorem dL_acts_14 : decode cL_acts 14 = .ok (.aload_n 1, 1) := by decide +kernel
theorem dL_acts_15 : decode cL_acts 15 = .ok (.getfield 93, 3) := by decide +kernel
theorem dL_acts_18 : decode cL_acts 18 = .ok (.invokestatic 170, 3) := by decide +kernel
theorem dL_acts_21 : decode cL_acts 21 = .ok (.invokestatic 167, 3) := by decide +kernel
theorem dL_acts_24 : decode cL_acts 24 = .ok (.istore 4, 2) := by decide +kernel
theorem dL_acts_26 : decode cL_acts 26 = .ok (.iload_n 2, 1) := by decide +kernel
theorem dL_acts_27 : decode cL_acts 27 = .ok (.bipush 9, 2) := by decide +kernel
theorem dL_acts_29 : decode cL_acts 29 = .ok (.invokestatic 167, 3) := by decide +kernel
theorem dL_acts_32 : decode cL_acts 32 = .ok (.tableswitch 517 0 7 #[48, 48, 187, 187, 187, 296, 378, 395], 48) := by decide +kernel
theorem dL_acts_80 : decode cL_acts 80 = .ok (.iconst 1, 1) := by decide +kernel
theorem dL_acts_81 : decode cL_acts 81 = .ok (.istore 5, 2) := by decide +kernel
theorem dL_acts_83 : decode cL_acts 83 = .ok (.iload_n 2, 1) := by decide +kernel
theorem dL_acts_84 : decode cL_acts 84 = .ok (.bipush 9, 2) := by decide +kernel
theorem dL_acts_86 : decode cL_acts 86 = .ok (.ishr, 1) := by decide +kernel
theorem dL_acts_87 : decode cL_acts 87 = .ok (.iconst 4, 1) := by decide +kernel
theorem dL_acts_88 : decode cL_acts 88 = .ok (.invokestatic 167, 3) := by decide +kernel
theorem dL_acts_91 : decode cL_acts 91 = .ok (.istore 6, 2) := by decide +kernel
theorem dL_acts_93 : decode cL_acts 93 = .ok (.iload 6, 2) := by decide +kernel
theorem dL_acts_95 : decode cL_acts 95 = .ok (.ifCond .lt 121, 3) := by decide +kernel
theorem dL_acts_98 : decode cL_acts 98 = .ok (.aload_n 1, 1) := by decide +kernel
theorem dL_acts_99 : decode cL_acts 99 = .ok (.getfield 20, 3) := by decide +kernel
theorem dL_acts_102 : decode cL_acts 102 = .ok (.bipush 60, 2) := by decide +kernel
theorem dL_acts_104 : decode cL_acts 104 = .ok (.if_icmp .ge 112, 3) := by decide +kernel
theorem dL_acts_107 : decode cL_acts 107 = .ok (.iload 5, 2) := by decide +kernel
theorem dL_acts_109 : decode cL_acts 109 = .ok (.ifCond .eq 107, 3) := by decide +kernel
theorem dL_acts_112 : decode cL_acts 112 = .ok (.aload_n 1, 1) := by decide +kernel
theorem dL_acts_113 : decode cL_acts 113 = .ok (.getfield 175, 3) := by decide +kernel
theorem dL_acts_116 : decode cL_acts 116 = .ok (.aload_n 1, 1) := by decide +kernel
theorem dL_acts_117 : decode cL_acts 117 = .ok (.getfield 20, 3) := by decide +kernel
theorem dL_acts_120 : decode cL_acts 120 = .ok (.iload_n 3, 1) := by decide +kernel
theorem dL_acts_121 : decode cL_acts 121 = .ok (.iload 6, 2) := by decide +kernel
theorem dL_acts_123 : decode cL_acts 123 = .ok (.iadd, 1) := by decide +kernel
theorem dL_acts_124 : decode cL_acts 124 = .ok (.bipush 8, 2) := by decide +kernel
theorem dL_acts_126 : decode cL_acts 126 = .ok (.invokestatic 167, 3) := by decide +kernel
theorem dL_acts_129 : decode cL_acts 129 = .ok (.iastore, 1) := by decide +kernel
theorem dL_acts_130 : decode cL_acts 130 = .ok (.aload_n 1, 1) := by decide +kernel
theorem dL_acts_131 : decode cL_acts 131 = .ok (.getfield 164, 3) := by decide +kernel
theorem dL_acts_134 : decode cL_acts 134 = .ok (.aload_n 1, 1) := by decide +kernel
theorem dL_acts_135 : decode cL_acts 135 = .ok (.getfield 20, 3) := by decide +kernel
theorem dL_acts_138 : decode cL_acts 138 = .ok (.iconst 1, 1) := by decide +kernel
theorem dL_acts_139 : decode cL_acts 139 = .ok (.iload_n 2, 1) := by decide +kernel
theorem dL_acts_140 : decode cL_acts 140 = .ok (.bipush 11, 2) := by decide +kernel
theorem dL_acts_142 : decode cL_acts 142 = .ok (.iload 6, 2) := by decide +kernel
theorem dL_acts_144 : decode cL_acts 144 = .ok (.iadd, 1) := by decide +kernel
theorem dL_acts_145 : decode cL_acts 145 = .ok (.ishr, 1) := by decide +kernel
theorem dL_acts_146 : decode cL_acts 146 = .ok (.bipush 9, 2) := by decide +kernel
theorem dL_acts_148 : decode cL_acts 148 = .ok (.invokestatic 167, 3) := by decide +kernel
theorem dL_acts_151 : decode cL_acts 151 = .ok (.iadd, 1) := by decide +kernel
theorem dL_acts_152 : decode cL_acts 152 = .ok (.iastore, 1) := by decide +kernel
theorem dL_acts_153 : decode cL_acts 153 = .ok (.aload_n 1, 1) := by decide +kernel
theorem dL_acts_154 : decode cL_acts 154 = .ok (.getfield 26, 3) := by decide +kernel
theorem dL_acts_157 : decode cL_acts 157 = .ok (.aload_n 1, 1) := by decide +kernel
theorem dL_acts_158 : decode cL_acts 158 = .ok (.getfield 20, 3) := by decide +kernel
theorem dL_acts_161 : decode cL_acts 161 = .ok (.bipush 119, 2) := by decide +kernel
theorem dL_acts_163 : decode cL_acts 163 = .ok (.castore, 1) := by decide +kernel
theorem dL_acts_164 : decode cL_acts 164 = .ok (.aload_n 0, 1) := by decide +kernel
theorem dL_acts_165 : decode cL_acts 165 = .ok (.aload_n 1, 1) := by decide +kernel
theorem dL_acts_166 : decode cL_acts 166 = .ok (.getfield 175, 3) := by decide +kernel
theorem dL_acts_169 : decode cL_acts 169 = .ok (.aload_n 1, 1) := by decide +kernel
theorem dL_acts_170 : decode cL_acts 170 = .ok (.getfield 20, 3) := by decide +kernel
theorem dL_acts_173 : decode cL_acts 173 = .ok (.iaload, 1) := by decide +kernel
theorem dL_acts_174 : decode cL_acts 174 = .ok (.aload_n 1, 1) := by decide +kernel
theorem dL_acts_175 : decode cL_acts 175 = .ok (.getfield 164, 3) := by decide +kernel
theorem dL_acts_178 : decode cL_acts 178 = .ok (.aload_n 1, 1) := by decide +kernel
theorem dL_acts_179 : decode cL_acts 179 = .ok (.getfield 20, 3) := by decide +kernel
theorem dL_acts_182 : decode cL_acts 182 = .ok (.iaload, 1) := by decide +kernel
theorem dL_acts_183 : decode cL_acts 183 = .ok (.invokevirtual 178, 3) := by decide +kernel
theorem dL_acts_186 : decode cL_acts 186 = .ok (.aload_n 1, 1) := by decide +kernel
theorem dL_acts_187 : decode cL_acts 187 = .ok (.getfield 20, 3) := by decide +kernel
theorem dL_acts_190 : decode cL_acts 190 = .ok (.if_icmp .ne 7, 3) := by decide +kernel
theorem dL_acts_193 : decode cL_acts 193 = .ok (.iconst 1, 1) := by decide +kernel
theorem dL_acts_194 : decode cL_acts 194 = .ok (.goto 4, 3) := by decide +kernel
theorem dL_acts_197 : decode cL_acts 197 = .ok (.iconst 0, 1) := by decide +kernel
theorem dL_acts_198 : decode cL_acts 198 = .ok (.istore 5, 2) := by decide +kernel
theorem dL_acts_200 : decode cL_acts 200 = .ok (.aload_n 1, 1) := by decide +kernel
theorem dL_acts_201 : decode cL_acts 201 = .ok (.dup, 1) := by decide +kernel
theorem dL_acts_202 : decode cL_acts 202 = .ok (.getfield 20, 3) := by decide +kernel
theorem dL_acts_205 : decode cL_acts 205 = .ok (.iconst 1, 1) := by decide +kernel
theorem dL_acts_206 : decode cL_acts 206 = .ok (.iadd, 1) := by decide +kernel
theorem dL_acts_207 : decode cL_acts 207 = .ok (.putfield 20, 3) := by decide +kernel
theorem dL_acts_210 : decode cL_acts 210 = .ok (.iinc 6 (-1), 3) := by decide +kernel
theorem dL_acts_213 : decode cL_acts 213 = .ok (.goto (-120), 3) := by decide +kernel
theorem dL_acts_216 : decode cL_acts 216 = .ok (.iload 5, 2) := by decide +kernel
theorem dL_acts_218 : decode cL_acts 218 = .ok (.ireturn, 1) := by decide +kernel
theorem dL_acts_219 : decode cL_acts 219 = .ok (.iconst 1, 1) := by decide +kernel
theorem dL_acts_220 : decode cL_acts 220 = .ok (.iload_n 2, 1) := by decide +kernel
theorem dL_acts_221 : decode cL_acts 221 = .ok (.bipush 9, 2) := by decide +kernel
theorem dL_acts_223 : decode cL_acts 223 = .ok (.ishr, 1) := by decide +kernel
theorem dL_acts_224 : decode cL_acts 224 = .ok (.iload_n 2, 1) := by decide +kernel
theorem dL_acts_225 : decode cL_acts 225 = .ok (.iconst 4, 1) := by decide +kernel
theorem dL_acts_226 : decode cL_acts 226 = .ok (.invokestatic 167, 3) := by decide +kernel
theorem dL_acts_229 : decode cL_acts 229 = .ok (.ifCond .ne 8, 3) := by decide +kernel
theorem dL_acts_232 : decode cL_acts 232 = .ok (.bipush 90, 2) := by decide +kernel
theorem dL_acts_234 : decode cL_acts 234 = .ok (.goto 5, 3) := by decide +kernel
theorem dL_acts_237 : decode cL_acts 237 = .ok (.bipush 20, 2) := by decide +kernel
theorem dL_acts_239 : decode cL_acts 239 = .ok (.invokestatic 167, 3) := by decide +kernel
theorem dL_acts_242 : decode cL_acts 242 = .ok (.iadd, 1) := by decide +kernel
theorem dL_acts_243 : decode cL_acts 243 = .ok (.istore 5, 2) := by decide +kernel
theorem dL_acts_245 : decode cL_acts 245 = .ok (.aload_n 0, 1) := by decide +kernel
theorem dL_acts_246 : decode cL_acts 246 = .ok (.iload 5, 2) := by decide +kernel
theorem dL_acts_248 : decode cL_acts 248 = .ok (.invokevirtual 181, 3) := by decide +kernel
theorem dL_acts_251 : decode cL_acts 251 = .ok (.istore 6, 2) := by decide +kernel
theorem dL_acts_253 : decode cL_acts 253 = .ok (.iconst 0, 1) := by decide +kernel
theorem dL_acts_254 : decode cL_acts 254 = .ok (.istore 7, 2) := by decide +kernel
theorem dL_acts_256 : decode cL_acts 256 = .ok (.iload 6, 2) := by decide +kernel
theorem dL_acts_258 : decode cL_acts 258 = .ok (.aload_n 0, 1) := by decide +kernel
theorem dL_acts_259 : decode cL_acts 259 = .ok (.iload 5, 2) := by decide +kernel
theorem dL_acts_261 : decode cL_acts 261 = .ok (.invokevirtual 184, 3) := by decide +kernel
theorem dL_acts_264 : decode cL_acts 264 = .ok (.if_icmp .ne 7, 3) := by decide +kernel
theorem dL_acts_267 : decode cL_acts 267 = .ok (.iconst 1, 1) := by decide +kernel
theorem dL_acts_268 : decode cL_acts 268 = .ok (.goto 4, 3) := by decide +kernel
theorem dL_acts_271 : decode cL_acts 271 = .ok (.iconst 0, 1) := by decide +kernel
theorem dL_acts_272 : decode cL_acts 272 = .ok (.istore 8, 2) := by decide +kernel
theorem dL_acts_274 : decode cL_acts 274 = .ok (.iconst 0, 1) := by decide +kernel
theorem dL_acts_275 : decode cL_acts 275 = .ok (.istore 9, 2) := by decide +kernel
theorem dL_acts_277 : decode cL_acts 277 = .ok (.iload 9, 2) := by decide +kernel
theorem dL_acts_279 : decode cL_acts 279 = .ok (.iload 5, 2) := by decide +kernel
theorem dL_acts_281 : decode cL_acts 281 = .ok (.if_icmp .ge 18, 3) := by decide +kernel
theorem dL_acts_284 : decode cL_acts 284 = .ok (.iload 7, 2) := by decide +kernel
theorem dL_acts_286 : decode cL_acts 286 = .ok (.aload_n 1, 1) := by decide +kernel
theorem dL_acts_287 : decode cL_acts 287 = .ok (.invokevirtual 187, 3) := by decide +kernel
theorem dL_acts_290 : decode cL_acts 290 = .ok (.iadd, 1) := by decide +kernel
theorem dL_acts_291 : decode cL_acts 291 = .ok (.istore 7, 2) := by decide +kernel
theorem dL_acts_293 : decode cL_acts 293 = .ok (.iinc 9 1, 3) := by decide +kernel
theorem dL_acts_296 : decode cL_acts 296 = .ok (.goto (-19), 3) := by decide +kernel
theorem dL_acts_299 : decode cL_acts 299 = .ok (.iload 8, 2) := by decide +kernel
theorem dL_acts_301 : decode cL_acts 301 = .ok (.ifCond .eq 25, 3) := by decide +kernel
theorem dL_acts_304 : decode cL_acts 304 = .ok (.iload 6, 2) := by decide +kernel
theorem dL_acts_306 : decode cL_acts 306 = .ok (.iload 7, 2) := by decide +kernel
theorem dL_acts_308 : decode cL_acts 308 = .ok (.if_icmp .ne 18, 3) := by decide +kernel
theorem dL_acts_311 : decode cL_acts 311 = .ok (.aload_n 0, 1) := by decide +kernel
theorem dL_acts_312 : decode cL_acts 312 = .ok (.iload 5, 2) := by decide +kernel
theorem dL_acts_314 : decode cL_acts 314 = .ok (.invokevirtual 189, 3) := by decide +kernel
theorem dL_acts_317 : decode cL_acts 317 = .ok (.iload 7, 2) := by decide +kernel
theorem dL_acts_319 : decode cL_acts 319 = .ok (.if_icmp .ne 7, 3) := by decide +kernel
theorem dL_acts_322 : decode cL_acts 322 = .ok (.iconst 1, 1) := by decide +kernel
theorem dL_acts_323 : decode cL_acts 323 = .ok (.goto 4, 3) := by decide +kernel
theorem dL_acts_326 : decode cL_acts 326 = .ok (.iconst 0, 1) := by decide +kernel
theorem dL_acts_327 : decode cL_acts 327 = .ok (.ireturn, 1) := by decide +kernel
theorem dL_acts_328 : decode cL_acts 328 = .ok (.aload_n 1, 1) := by decide +kernel
theorem dL_acts_329 : decode cL_acts 329 = .ok (.getfield 93, 3) := by decide +kernel
theorem dL_acts_332 : decode cL_acts 332 = .ok (.ifCond .ne 5, 3) := by decide +kernel
theorem dL_acts_335 : decode cL_acts 335 = .ok (.iconst 1, 1) := by decide +kernel
theorem dL_acts_336 : decode cL_acts 336 = .ok (.ireturn, 1) := by decide +kernel
theorem dL_acts_337 : decode cL_acts 337 = .ok (.aload_n 1, 1) := by decide +kernel
theorem dL_acts_338 : decode cL_acts 338 = .ok (.getfield 115, 3) := by decide +kernel
theorem dL_acts_341 : decode cL_acts 341 = .ok (.iload_n 3, 1) := by decide +kernel
theorem dL_acts_342 : decode cL_acts 342 = .ok (.iaload, 1) := by decide +kernel
theorem dL_acts_343 : decode cL_acts 343 = .ok (.istore 5, 2) := by decide +kernel
theorem dL_acts_345 : decode cL_acts 345 = .ok (.iload 5, 2) := by decide +kernel
theorem dL_acts_347 : decode cL_acts 347 = .ok (.ifCond .lt 37, 3) := by decide +kernel
theorem dL_acts_350 : decode cL_acts 350 = .ok (.iload_n 2, 1) := by decide +kernel
theorem dL_acts_351 : decode cL_acts 351 = .ok (.bipush 9, 2) := by decide +kernel
theorem dL_acts_353 : decode cL_acts 353 = .ok (.ishr, 1) := by decide +kernel
theorem dL_acts_354 : decode cL_acts 354 = .ok (.iconst 4, 1) := by decide +kernel
theorem dL_acts_355 : decode cL_acts 355 = .ok (.invokestatic 167, 3) := by decide +kernel
theorem dL_acts_358 : decode cL_acts 358 = .ok (.ifCond .ne 26, 3) := by decide +kernel
theorem dL_acts_361 : decode cL_acts 361 = .ok (.aload_n 1, 1) := by decide +kernel
theorem dL_acts_362 : decode cL_acts 362 = .ok (.getfield 115, 3) := by decide +kernel
theorem dL_acts_365 : decode cL_acts 365 = .ok (.iload_n 3, 1) := by decide +kernel
theorem dL_acts_366 : decode cL_acts 366 = .ok (.iconst (-1), 1) := by decide +kernel
theorem dL_acts_367 : decode cL_acts 367 = .ok (.iastore, 1) := by decide +kernel
theorem dL_acts_368 : decode cL_acts 368 = .ok (.aload_n 0, 1) := by decide +kernel
theorem dL_acts_369 : decode cL_acts 369 = .ok (.iload_n 3, 1) := by decide +kernel
theorem dL_acts_370 : decode cL_acts 370 = .ok (.invokevirtual 192, 3) := by decide +kernel
theorem dL_acts_373 : decode cL_acts 373 = .ok (.iload 5, 2) := by decide +kernel
theorem dL_acts_375 : decode cL_acts 375 = .ok (.if_icmp .ne 7, 3) := by decide +kernel
theorem dL_acts_378 : decode cL_acts 378 = .ok (.iconst 1, 1) := by decide +kernel
theorem dL_acts_379 : decode cL_acts 379 = .ok (.goto 4, 3) := by decide +kernel
theorem dL_acts_382 : decode cL_acts 382 = .ok (.iconst 0, 1) := by decide +kernel
theorem dL_acts_383 : decode cL_acts 383 = .ok (.ireturn, 1) := by decide +kernel
theorem dL_acts_384 : decode cL_acts 384 = .ok (.aload_n 1, 1) := by decide +kernel
theorem dL_acts_385 : decode cL_acts 385 = .ok (.getfield 115, 3) := by decide +kernel
theorem dL_acts_388 : decode cL_acts 388 = .ok (.iload_n 3, 1) := by decide +kernel
theorem dL_acts_389 : decode cL_acts 389 = .ok (.iload 4, 2) := by decide +kernel
theorem dL_acts_391 : decode cL_acts 391 = .ok (.iastore, 1) := by decide +kernel
theorem dL_acts_392 : decode cL_acts 392 = .ok (.aload_n 0, 1) := by decide +kernel
theorem dL_acts_393 : decode cL_acts 393 = .ok (.iload_n 3, 1) := by decide +kernel
theorem dL_acts_394 : decode cL_acts 394 = .ok (.iload 4, 2) := by decide +kernel
theorem dL_acts_396 : decode cL_acts 396 = .ok (.invokevirtual 195, 3) := by decide +kernel
theorem dL_acts_399 : decode cL_acts 399 = .ok (.iload 5, 2) := by decide +kernel
theorem dL_acts_401 : decode cL_acts 401 = .ok (.if_icmp .ne 7, 3) := by decide +kernel
theorem dL_acts_404 : decode cL_acts 404 = .ok (.iconst 1, 1) := by decide +kernel
theorem dL_acts_405 : decode cL_acts 405 = .ok (.goto 4, 3) := by decide +kernel
theorem dL_acts_408 : decode cL_acts 408 = .ok (.iconst 0, 1) := by decide +kernel
theorem dL_acts_409 : decode cL_acts 409 = .ok (.ireturn, 1) := by decide +kernel
theorem dL_acts_410 : decode cL_acts 410 = .ok (.aload_n 0, 1) := by decide +kernel
theorem dL_acts_411 : decode cL_acts 411 = .ok (.aload_n 1, 1) := by decide +kernel
theorem dL_acts_412 : decode cL_acts 412 = .ok (.iload_n 2, 1) := by decide +kernel
theorem dL_acts_413 : decode cL_acts 413 = .ok (.bipush 6, 2) := by decide +kernel
theorem dL_acts_415 : decode cL_acts 415 = .ok (.ishr, 1) := by decide +kernel
theorem dL_acts_416 : decode cL_acts 416 = .ok (.aload_n 1, 1) := by decide +kernel
theorem dL_acts_417 : decode cL_acts 417 = .ok (.getfield 78, 3) := by decide +kernel
theorem dL_acts_420 : decode cL_acts 420 = .ok (.invokestatic 167, 3) := by decide +kernel
theorem dL_acts_423 : decode cL_acts 423 = .ok (.invokestatic 198, 3) := by decide +kernel
theorem dL_acts_426 : decode cL_acts 426 = .ok (.ireturn, 1) := by decide +kernel
theorem dL_acts_427 : decode cL_acts 427 = .ok (.iload_n 2, 1) := by decide +kernel
theorem dL_acts_428 : decode cL_acts 428 = .ok (.bipush 9, 2) := by decide +kernel
theorem dL_acts_430 : decode cL_acts 430 = .ok (.ishr, 1) := by decide +kernel
theorem dL_acts_431 : decode cL_acts 431 = .ok (.iconst 3, 1) := by decide +kernel
theorem dL_acts_432 : decode cL_acts 432 = .ok (.invokestatic 167, 3) := by decide +kernel
theorem dL_acts_435 : decode cL_acts 435 = .ok (.ifCond .ne 42, 3) := by decide +kernel
theorem dL_acts_438 : decode cL_acts 438 = .ok (.aload_n 1, 1) := by decide +kernel
theorem dL_acts_439 : decode cL_acts 439 = .ok (.getfield 201, 3) := by decide +kernel
theorem dL_acts_442 : decode cL_acts 442 = .ok (.istore 5, 2) := by decide +kernel
theorem dL_acts_444 : decode cL_acts 444 = .ok (.aload_n 1, 1) := by decide +kernel
theorem dL_acts_445 : decode cL_acts 445 = .ok (.iconst 1, 1) := by decide +kernel
theorem dL_acts_446 : decode cL_acts 446 = .ok (.iload_n 2, 1) := by decide +kernel
theorem dL_acts_447 : decode cL_acts 447 = .ok (.bipush 11, 2) := by decide +kernel
theorem dL_acts_449 : decode cL_acts 449 = .ok (.ishr, 1) := by decide +kernel
theorem dL_acts_450 : decode cL_acts 450 = .ok (.iconst 5, 1) := by decide +kernel
theorem dL_acts_451 : decode cL_acts 451 = .ok (.invokestatic 167, 3) := by decide +kernel
theorem dL_acts_454 : decode cL_acts 454 = .ok (.iadd, 1) := by decide +kernel
theorem dL_acts_455 : decode cL_acts 455 = .ok (.putfield 201, 3) := by decide +kernel
theorem dL_acts_458 : decode cL_acts 458 = .ok (.aload_n 0, 1) := by decide +kernel
theorem dL_acts_459 : decode cL_acts 459 = .ok (.aload_n 1, 1) := by decide +kernel
theorem dL_acts_460 : decode cL_acts 460 = .ok (.getfield 201, 3) := by decide +kernel
theorem dL_acts_463 : decode cL_acts 463 = .ok (.invokevirtual 204, 3) := by decide +kernel
theorem dL_acts_466 : decode cL_acts 466 = .ok (.iload 5, 2) := by decide +kernel
theorem dL_acts_468 : decode cL_acts 468 = .ok (.if_icmp .ne 7, 3) := by decide +kernel
theorem dL_acts_471 : decode cL_acts 471 = .ok (.iconst 1, 1) := by decide +kernel
theorem dL_acts_472 : decode cL_acts 472 = .ok (.goto 4, 3) := by decide +kernel
theorem dL_acts_475 : decode cL_acts 475 = .ok (.iconst 0, 1) := by decide +kernel
theorem dL_acts_476 : decode cL_acts 476 = .ok (.ireturn, 1) := by decide +kernel
theorem dL_acts_477 : decode cL_acts 477 = .ok (.aload_n 1, 1) := by decide +kernel
theorem dL_acts_478 : decode cL_acts 478 = .ok (.getfield 93, 3) := by decide +kernel
theorem dL_acts_481 : decode cL_acts 481 = .ok (.ifCond .ne 5, 3) := by decide +kernel
theorem dL_acts_484 : decode cL_acts 484 = .ok (.iconst 1, 1) := by decide +kernel
theorem dL_acts_485 : decode cL_acts 485 = .ok (.ireturn, 1) := by decide +kernel
theorem dL_acts_486 : decode cL_acts 486 = .ok (.aload_n 1, 1) := by decide +kernel
theorem dL_acts_487 : decode cL_acts 487 = .ok (.getfield 207, 3) := by decide +kernel
theorem dL_acts_490 : decode cL_acts 490 = .ok (.iload 4, 2) := by decide +kernel
theorem dL_acts_492 : decode cL_acts 492 = .ok (.iaload, 1) := by decide +kernel
theorem dL_acts_493 : decode cL_acts 493 = .ok (.istore 5, 2) := by decide +kernel
theorem dL_acts_495 : decode cL_acts 495 = .ok (.aload_n 1, 1) := by decide +kernel
theorem dL_acts_496 : decode cL_acts 496 = .ok (.getfield 207, 3) := by decide +kernel
theorem dL_acts_499 : decode cL_acts 499 = .ok (.iload 4, 2) := by decide +kernel
theorem dL_acts_501 : decode cL_acts 501 = .ok (.iconst 1, 1) := by decide +kernel
theorem dL_acts_502 : decode cL_acts 502 = .ok (.aload_n 1, 1) := by decide +kernel
theorem dL_acts_503 : decode cL_acts 503 = .ok (.getfield 99, 3) := by decide +kernel
theorem dL_acts_506 : decode cL_acts 506 = .ok (.iload 4, 2) := by decide +kernel
theorem dL_acts_508 : decode cL_acts 508 = .ok (.iaload, 1) := by decide +kernel
theorem dL_acts_509 : decode cL_acts 509 = .ok (.invokestatic 170, 3) := by decide +kernel
theorem dL_acts_512 : decode cL_acts 512 = .ok (.iload_n 2, 1) := by decide +kernel
theorem dL_acts_513 : decode cL_acts 513 = .ok (.bipush 11, 2) := by decide +kernel
theorem dL_acts_515 : decode cL_acts 515 = .ok (.ishr, 1) := by decide +kernel
theorem dL_acts_516 : decode cL_acts 516 = .ok (.bipush 31, 2) := by decide +kernel
theorem dL_acts_518 : decode cL_acts 518 = .ok (.invokestatic 167, 3) := by decide +kernel
theorem dL_acts_521 : decode cL_acts 521 = .ok (.invokestatic 170, 3) := by decide +kernel
theorem dL_acts_524 : decode cL_acts 524 = .ok (.iastore, 1) := by decide +kernel
theorem dL_acts_525 : decode cL_acts 525 = .ok (.aload_n 0, 1) := by decide +kernel
theorem dL_acts_526 : decode cL_acts 526 = .ok (.iload 4, 2) := by decide +kernel
theorem dL_acts_528 : decode cL_acts 528 = .ok (.aload_n 1, 1) := by decide +kernel
theorem dL_acts_529 : decode cL_acts 529 = .ok (.getfield 207, 3) := by decide +kernel
theorem dL_acts_532 : decode cL_acts 532 = .ok (.iload 4, 2) := by decide +kernel
theorem dL_acts_534 : decode cL_acts 534 = .ok (.iaload, 1) := by decide +kernel
theorem dL_acts_535 : decode cL_acts 535 = .ok (.invokevirtual 210, 3) := by decide +kernel
theorem dL_acts_538 : decode cL_acts 538 = .ok (.iload 5, 2) := by decide +kernel
theorem dL_acts_540 : decode cL_acts 540 = .ok (.if_icmp .ne 7, 3) := by decide +kernel
theorem dL_acts_543 : decode cL_acts 543 = .ok (.iconst 1, 1) := by decide +kernel
theorem dL_acts_544 : decode cL_acts 544 = .ok (.goto 4, 3) := by decide +kernel
theorem dL_acts_547 : decode cL_acts 547 = .ok (.iconst 0, 1) := by decide +kernel
theorem dL_acts_548 : decode cL_acts 548 = .ok (.ireturn, 1) := by decide +kernel
theorem dL_acts_549 : decode cL_acts 549 = .ok (.aload_n 1, 1) := by decide +kernel
theorem dL_acts_550 : decode cL_acts 550 = .ok (.getfield 93, 3) := by decide +kernel
theorem dL_acts_553 : decode cL_acts 553 = .ok (.ifCond .eq 13, 3) := by decide +kernel
theorem dL_acts_556 : decode cL_acts 556 = .ok (.aload_n 0, 1) := by decide +kernel
theorem dL_acts_557 : decode cL_acts 557 = .ok (.aload_n 1, 1) := by decide +kernel
theorem dL_acts_558 : decode cL_acts 558 = .ok (.iload 4, 2) := by decide +kernel
theorem dL_acts_560 : decode cL_acts 560 = .ok (.invokestatic 213, 3) := by decide +kernel
theorem dL_acts_563 : decode cL_acts 563 = .ok (.ifCond .eq 7, 3) := by decide +kernel
theorem dL_acts_566 : decode cL_acts 566 = .ok (.iconst 1, 1) := by decide +kernel
theorem dL_acts_567 : decode cL_acts 567 = .ok (.goto 4, 3) := by decide +kernel
theorem dL_acts_570 : decode cL_acts 570 = .ok (.iconst 0, 1) := by decide +kernel
theorem dL_acts_571 : decode cL_acts 571 = .ok (.ireturn, 1) := by decide +kernel
theorem dL_law_0 : decode cL_law 0 = .ok (.new 10, 3) := by decide +kernel
theorem dL_law_3 : decode cL_law 3 = .ok (.dup, 1) := by decide +kernel
theorem dL_law_4 : decode cL_law 4 = .ok (.invokespecial 216, 3) := by decide +kernel
theorem dL_law_7 : decode cL_law 7 = .ok (.astore_n 1, 1) := by decide +kernel
theorem dL_law_8 : decode cL_law 8 = .ok (.new 21, 3) := by decide +kernel
theorem dL_law_11 : decode cL_law 11 = .ok (.dup, 1) := by decide +kernel
theorem dL_law_12 : decode cL_law 12 = .ok (.iconst 4, 1) := by decide +kernel
theorem dL_law_13 : decode cL_law 13 = .ok (.aload_n 0, 1) := by decide +kernel
theorem dL_law_14 : decode cL_law 14 = .ok (.iconst 0, 1) := by decide +kernel
theorem dL_law_15 : decode cL_law 15 = .ok (.invokestatic 217, 3) := by decide +kernel
theorem dL_law_18 : decode cL_law 18 = .ok (.bipush 17, 2) := by decide +kernel
theorem dL_law_20 : decode cL_law 20 = .ok (.invokestatic 167, 3) := by decide +kernel
theorem dL_law_23 : decode cL_law 23 = .ok (.iadd, 1) := by decide +kernel
theorem dL_law_24 : decode cL_law 24 = .ok (.invokespecial 221, 3) := by decide +kernel
theorem dL_law_27 : decode cL_law 27 = .ok (.astore_n 2, 1) := by decide +kernel
theorem dL_law_28 : decode cL_law 28 = .ok (.aload_n 1, 1) := by decide +kernel
theorem dL_law_29 : decode cL_law 29 = .ok (.aload_n 2, 1) := by decide +kernel
theorem dL_law_30 : decode cL_law 30 = .ok (.getfield 78, 3) := by decide +kernel
theorem dL_law_33 : decode cL_law 33 = .ok (.invokevirtual 224, 3) := by decide +kernel
theorem dL_law_36 : decode cL_law 36 = .ok (.bipush 12, 2) := by decide +kernel
theorem dL_law_38 : decode cL_law 38 = .ok (.if_icmp .ne 7, 3) := by decide +kernel
theorem dL_law_41 : decode cL_law 41 = .ok (.iconst 1, 1) := by decide +kernel
theorem dL_law_42 : decode cL_law 42 = .ok (.goto 4, 3) := by decide +kernel
theorem dL_law_45 : decode cL_law 45 = .ok (.iconst 0, 1) := by decide +kernel
theorem dL_law_46 : decode cL_law 46 = .ok (.istore_n 3, 1) := by decide +kernel
theorem dL_law_47 : decode cL_law 47 = .ok (.iconst 1, 1) := by decide +kernel
theorem dL_law_48 : decode cL_law 48 = .ok (.istore 4, 2) := by decide +kernel
theorem dL_law_50 : decode cL_law 50 = .ok (.iload 4, 2) := by decide +kernel
theorem dL_law_52 : decode cL_law 52 = .ok (.aload_n 2, 1) := by decide +kernel
theorem dL_law_53 : decode cL_law 53 = .ok (.getfield 78, 3) := by decide +kernel
theorem dL_law_56 : decode cL_law 56 = .ok (.iconst 1, 1) := by decide +kernel
theorem dL_law_57 : decode cL_law 57 = .ok (.isub, 1) := by decide +kernel
theorem dL_law_58 : decode cL_law 58 = .ok (.if_icmp .ge 113, 3) := by decide +kernel
theorem dL_law_61 : decode cL_law 61 = .ok (.aload_n 2, 1) := by decide +kernel
theorem dL_law_62 : decode cL_law 62 = .ok (.getfield 93, 3) := by decide +kernel
theorem dL_law_65 : decode cL_law 65 = .ok (.bipush 6, 2) := by decide +kernel
theorem dL_law_67 : decode cL_law 67 = .ok (.if_icmp .ge 104, 3) := by decide +kernel
theorem dL_law_70 : decode cL_law 70 = .ok (.iload_n 3, 1) := by decide +kernel
theorem dL_law_71 : decode cL_law 71 = .ok (.ifCond .eq 100, 3) := by decide +kernel
theorem dL_law_74 : decode cL_law 74 = .ok (.aload_n 0, 1) := by decide +kernel
theorem dL_law_75 : decode cL_law 75 = .ok (.iconst 1, 1) := by decide +kernel
theorem dL_law_76 : decode cL_law 76 = .ok (.invokestatic 217, 3) := by decide +kernel
theorem dL_law_79 : decode cL_law 79 = .ok (.iload 4, 2) := by decide +kernel
theorem dL_law_81 : decode cL_law 81 = .ok (.ishr, 1) := by decide +kernel
theorem dL_law_82 : decode cL_law 82 = .ok (.iconst 3, 1) := by decide +kernel
theorem dL_law_83 : decode cL_law 83 = .ok (.invokestatic 167, 3) := by decide +kernel
theorem dL_law_86 : decode cL_law 86 = .ok (.ifCond .le 79, 3) := by decide +kernel
theorem dL_law_89 : decode cL_law 89 = .ok (.aload_n 2, 1) := by decide +kernel
theorem dL_law_90 : decode cL_law 90 = .ok (.getfield 207, 3) := by decide +kernel
theorem dL_law_93 : decode cL_law 93 = .ok (.aload_n 2, 1) := by decide +kernel
theorem dL_law_94 : decode cL_law 94 = .ok (.getfield 93, 3) := by decide +kernel
theorem dL_law_97 : decode cL_law 97 = .ok (.iconst 1, 1) := by decide +kernel
theorem dL_law_98 : decode cL_law 98 = .ok (.aload_n 0, 1) := by decide +kernel
theorem dL_law_99 : decode cL_law 99 = .ok (.iconst 2, 1) := by decide +kernel
theorem dL_law_100 : decode cL_law 100 = .ok (.invokestatic 217, 3) := by decide +kernel
theorem dL_law_103 : decode cL_law 103 = .ok (.iconst 3, 1) := by decide +kernel
theorem dL_law_104 : decode cL_law 104 = .ok (.aload_n 2, 1) := by decide +kernel
theorem dL_law_105 : decode cL_law 105 = .ok (.getfield 93, 3) := by decide +kernel
theorem dL_law_108 : decode cL_law 108 = .ok (.imul, 1) := by decide +kernel
theorem dL_law_109 : decode cL_law 109 = .ok (.ishr, 1) := by decide +kernel
theorem dL_law_110 : decode cL_law 110 = .ok (.iconst 5, 1) := by decide +kernel
theorem dL_law_111 : decode cL_law 111 = .ok (.invokestatic 167, 3) := by decide +kernel
theorem dL_law_114 : decode cL_law 114 = .ok (.iadd, 1) := by decide +kernel
theorem dL_law_115 : decode cL_law 115 = .ok (.iastore, 1) := by decide +kernel
theorem dL_law_116 : decode cL_law 116 = .ok (.aload_n 2, 1) := by decide +kernel
theorem dL_law_117 : decode cL_law 117 = .ok (.getfield 131, 3) := by decide +kernel
theorem dL_law_120 : decode cL_law 120 = .ok (.iload 4, 2) := by decide +kernel
theorem dL_law_122 : decode cL_law 122 = .ok (.aload_n 2, 1) := by decide +kernel
theorem dL_law_123 : decode cL_law 123 = .ok (.getfield 93, 3) := by decide +kernel
theorem dL_law_126 : decode cL_law 126 = .ok (.iastore, 1) := by decide +kernel
theorem dL_law_127 : decode cL_law 127 = .ok (.aload_n 1, 1) := by decide +kernel
theorem dL_law_128 : decode cL_law 128 = .ok (.iload 4, 2) := by decide +kernel
theorem dL_law_130 : decode cL_law 130 = .ok (.aload_n 2, 1) := by decide +kernel
theorem dL_law_131 : decode cL_law 131 = .ok (.getfield 207, 3) := by decide +kernel
theorem dL_law_134 : decode cL_law 134 = .ok (.aload_n 2, 1) := by decide +kernel
theorem dL_law_135 : decode cL_law 135 = .ok (.getfield 93, 3) := by decide +kernel
theorem dL_law_138 : decode cL_law 138 = .ok (.iaload, 1) := by decide +kernel
theorem dL_law_139 : decode cL_law 139 = .ok (.invokevirtual 227, 3) := by decide +kernel
theorem dL_law_142 : decode cL_law 142 = .ok (.aload_n 2, 1) := by decide +kernel
theorem dL_law_143 : decode cL_law 143 = .ok (.getfield 93, 3) := by decide +kernel
theorem dL_law_146 : decode cL_law 146 = .ok (.if_icmp .ne 7, 3) := by decide +kernel
theorem dL_law_149 : decode cL_law 149 = .ok (.iconst 1, 1) := by decide +kernel
theorem dL_law_150 : decode cL_law 150 = .ok (.goto 4, 3) := by decide +kernel
theorem dL_law_153 : decode cL_law 153 = .ok (.iconst 0, 1) := by decide +kernel
theorem dL_law_154 : decode cL_law 154 = .ok (.istore_n 3, 1) := by decide +kernel
theorem dL_law_155 : decode cL_law 155 = .ok (.aload_n 2, 1) := by decide +kernel
theorem dL_law_156 : decode cL_law 156 = .ok (.dup, 1) := by decide +kernel
theorem dL_law_157 : decode cL_law 157 = .ok (.getfield 93, 3) := by decide +kernel
theorem dL_law_160 : decode cL_law 160 = .ok (.iconst 1, 1) := by decide +kernel
theorem dL_law_161 : decode cL_law 161 = .ok (.iadd, 1) := by decide +kernel
theorem dL_law_162 : decode cL_law 162 = .ok (.putfield 93, 3) := by decide +kernel
theorem dL_law_165 : decode cL_law 165 = .ok (.iinc 4 1, 3) := by decide +kernel
theorem dL_law_168 : decode cL_law 168 = .ok (.goto (-118), 3) := by decide +kernel
theorem dL_law_171 : decode cL_law 171 = .ok (.iconst 0, 1) := by decide +kernel
theorem dL_law_172 : decode cL_law 172 = .ok (.istore 4, 2) := by decide +kernel
theorem dL_law_174 : decode cL_law 174 = .ok (.iload 4, 2) := by decide +kernel
theorem dL_law_176 : decode cL_law 176 = .ok (.bipush 8, 2) := by decide +kernel
theorem dL_law_178 : decode cL_law 178 = .ok (.if_icmp .ge 67, 3) := by decide +kernel
theorem dL_law_181 : decode cL_law 181 = .ok (.aload_n 2, 1) := by decide +kernel
theorem dL_law_182 : decode cL_law 182 = .ok (.getfield 93, 3) := by decide +kernel
theorem dL_law_185 : decode cL_law 185 = .ok (.ifCond .le 60, 3) := by decide +kernel
theorem dL_law_188 : decode cL_law 188 = .ok (.iload_n 3, 1) := by decide +kernel
theorem dL_law_189 : decode cL_law 189 = .ok (.ifCond .eq 56, 3) := by decide +kernel
theorem dL_law_192 : decode cL_law 192 = .ok (.aload_n 2, 1) := by decide +kernel
theorem dL_law_193 : decode cL_law 193 = .ok (.getfield 115, 3) := by decide +kernel
theorem dL_law_196 : decode cL_law 196 = .ok (.iload 4, 2) := by decide +kernel
theorem dL_law_198 : decode cL_law 198 = .ok (.aload_n 0, 1) := by decide +kernel
theorem dL_law_199 : decode cL_law 199 = .ok (.iconst 3, 1) := by decide +kernel
theorem dL_law_200 : decode cL_law 200 = .ok (.invokestatic 217, 3) := by decide +kernel
theorem dL_law_203 : decode cL_law 203 = .ok (.iconst 2, 1) := by decide +kernel
theorem dL_law_204 : decode cL_law 204 = .ok (.iload 4, 2) := by decide +kernel
theorem dL_law_206 : decode cL_law 206 = .ok (.imul, 1) := by decide +kernel
theorem dL_law_207 : decode cL_law 207 = .ok (.ishr, 1) := by decide +kernel
theorem dL_law_208 : decode cL_law 208 = .ok (.aload_n 2, 1) := by decide +kernel
theorem dL_law_209 : decode cL_law 209 = .ok (.getfield 93, 3) := by decide +kernel
theorem dL_law_212 : decode cL_law 212 = .ok (.invokestatic 167, 3) := by decide +kernel
theorem dL_law_215 : decode cL_law 215 = .ok (.iastore, 1) := by decide +kernel
theorem dL_law_216 : decode cL_law 216 = .ok (.aload_n 1, 1) := by decide +kernel
theorem dL_law_217 : decode cL_law 217 = .ok (.iload 4, 2) := by decide +kernel
theorem dL_law_219 : decode cL_law 219 = .ok (.aload_n 2, 1) := by decide +kernel
theorem dL_law_220 : decode cL_law 220 = .ok (.getfield 115, 3) := by decide +kernel
theorem dL_law_223 : decode cL_law 223 = .ok (.iload 4, 2) := by decide +kernel
theorem dL_law_225 : decode cL_law 225 = .ok (.iaload, 1) := by decide +kernel
theorem dL_law_226 : decode cL_law 226 = .ok (.invokevirtual 195, 3) := by decide +kernel
theorem dL_law_229 : decode cL_law 229 = .ok (.iconst (-1), 1) := by decide +kernel
theorem dL_law_230 : decode cL_law 230 = .ok (.if_icmp .ne 7, 3) := by decide +kernel
theorem dL_law_233 : decode cL_law 233 = .ok (.iconst 1, 1) := by decide +kernel
theorem dL_law_234 : decode cL_law 234 = .ok (.goto 4, 3) := by decide +kernel
theorem dL_law_237 : decode cL_law 237 = .ok (.iconst 0, 1) := by decide +kernel
theorem dL_law_238 : decode cL_law 238 = .ok (.istore_n 3, 1) := by decide +kernel
theorem dL_law_239 : decode cL_law 239 = .ok (.iinc 4 1, 3) := by decide +kernel
theorem dL_law_242 : decode cL_law 242 = .ok (.goto (-68), 3) := by decide +kernel
theorem dL_law_245 : decode cL_law 245 = .ok (.iconst 0, 1) := by decide +kernel
theorem dL_law_246 : decode cL_law 246 = .ok (.istore 4, 2) := by decide +kernel
theorem dL_law_248 : decode cL_law 248 = .ok (.iload 4, 2) := by decide +kernel
theorem dL_law_250 : decode cL_law 250 = .ok (.bipush 24, 2) := by decide +kernel
theorem dL_law_252 : decode cL_law 252 = .ok (.if_icmp .ge 43, 3) := by decide +kernel
theorem dL_law_255 : decode cL_law 255 = .ok (.iload_n 3, 1) := by decide +kernel
theorem dL_law_256 : decode cL_law 256 = .ok (.ifCond .eq 39, 3) := by decide +kernel
theorem dL_law_259 : decode cL_law 259 = .ok (.aload_n 1, 1) := by decide +kernel
theorem dL_law_260 : decode cL_law 260 = .ok (.aload_n 2, 1) := by decide +kernel
theorem dL_law_261 : decode cL_law 261 = .ok (.aload_n 0, 1) := by decide +kernel
theorem dL_law_262 : decode cL_law 262 = .ok (.iconst 4, 1) := by decide +kernel
theorem dL_law_263 : decode cL_law 263 = .ok (.iload 4, 2) := by decide +kernel
theorem dL_law_265 : decode cL_law 265 = .ok (.iadd, 1) := by decide +kernel
theorem dL_law_266 : decode cL_law 266 = .ok (.invokestatic 217, 3) := by decide +kernel
theorem dL_law_269 : decode cL_law 269 = .ok (.invokestatic 230, 3) := by decide +kernel
theorem dL_law_272 : decode cL_law 272 = .ok (.ifCond .eq 15, 3) := by decide +kernel
theorem dL_law_275 : decode cL_law 275 = .ok (.aload_n 1, 1) := by decide +kernel
theorem dL_law_276 : decode cL_law 276 = .ok (.aload_n 2, 1) := by decide +kernel
theorem dL_law_277 : decode cL_law 277 = .ok (.invokestatic 233, 3) := by decide +kernel
theorem dL_law_280 : decode cL_law 280 = .ok (.ifCond .eq 7, 3) := by decide +kernel
theorem dL_law_283 : decode cL_law 283 = .ok (.iconst 1, 1) := by decide +kernel
theorem dL_law_284 : decode cL_law 284 = .ok (.goto 4, 3) := by decide +kernel
theorem dL_law_287 : decode cL_law 287 = .ok (.iconst 0, 1) := by decide +kernel
theorem dL_law_288 : decode cL_law 288 = .ok (.istore_n 3, 1) := by decide +kernel
theorem dL_law_289 : decode cL_law 289 = .ok (.iinc 4 1, 3) := by decide +kernel
theorem dL_law_292 : decode cL_law 292 = .ok (.goto (-44), 3) := by decide +kernel
theorem dL_law_295 : decode cL_law 295 = .ok (.iload_n 3, 1) := by decide +kernel
theorem dL_law_296 : decode cL_law 296 = .ok (.ifCond .eq 14, 3) := by decide +kernel
theorem dL_law_299 : decode cL_law 299 = .ok (.aload_n 1, 1) := by decide +kernel
theorem dL_law_300 : decode cL_law 300 = .ok (.invokevirtual 237, 3) := by decide +kernel
theorem dL_law_303 : decode cL_law 303 = .ok (.ifCond .eq 7, 3) := by decide +kernel
theorem dL_law_306 : decode cL_law 306 = .ok (.iconst 1, 1) := by decide +kernel
theorem dL_law_307 : decode cL_law 307 = .ok (.goto 4, 3) := by decide +kernel
theorem dL_law_310 : decode cL_law 310 = .ok (.iconst 0, 1) := by decide +kernel
theorem dL_law_311 : decode cL_law 311 = .ok (.ireturn, 1) := by decide +kernel
end
section
/-! the small machine: a program's methods by number, its cells by number (1 ..; null is 0), all values whole numbers with a tag -/
abbrev fw_V : Type := Nat × Int
abbrev fw_M : Type := Int → Int → Int
abbrev fw_O : Type := fw_V × fw_M
/-- a step's outcome: on within the method; the method's end; a call (callee, arguments, the stack below them) -/
abbrev fw_A : Type := (Nat × List fw_V × List fw_V × fw_M) ⊕ (fw_O ⊕ (Nat × List fw_V × List fw_V))
def fw_w (x : Int) : Int := x.bmod 4294967296
def fw_wl (x : Int) : Int := x.bmod 18446744073709551616
def fw_u (σ : fw_M) (k j v : Int) : fw_M := fun a b => if a = k ∧ b = j then v else σ a b
/-- a new cell of n slots, all 0; row -1 holds the next cell's number, how many cells and slots were made -/
def fw_nw (σ : fw_M) (n : Int) : fw_M := fun a b => if a = σ (-1) 0 then 0 else if a = -1 then (if b = 0 then σ (-1) 0 + 1 else if b = 1 then σ (-1) 1 + 1 else if b = 2 then σ (-1) 2 + n else σ a b) else σ a b
/-- new int[6][30], where the next cell is the 37th -/
def fw_mn (σ : fw_M) : fw_M := fun a b => if a = 37 then (if 0 ≤ b ∧ b < 6 then 38 + b else 0) else if 38 ≤ a ∧ a ≤ 43 then 0 else if a = -1 then (if b = 0 then 44 else if b = 1 then σ (-1) 1 + 7 else if b = 2 then σ (-1) 2 + 186 else σ a b) else σ a b
def fw_an (x y : Int) : Int := (Int32.ofInt x &&& Int32.ofInt y).toInt
def fw_sh (x y : Int) : Int := (Int32.ofInt x >>> (Int32.ofInt y &&& 31)).toInt
/-- an exception's cell: counted, not numbered -/
def fw_ex (σ : fw_M) : fw_M := fun a b => if a = -1 then (if b = 1 then σ (-1) 1 + 1 else if b = 2 then σ (-1) 2 + 6 else σ a b) else σ a b
def fw_g : List fw_V → Nat → fw_V
  | [], _ => (8, 0)
  | a :: _, 0 => a
  | _ :: l, n + 1 => fw_g l n
def fw_CN : Nat → String
  | 0 => RX0
  | 1 => RX1
  | 2 => RX2
  | 3 => RX3
  | 4 => RX4
  | 5 => RX5
  | 6 => RX6
  | 7 => RX7
  | 8 => RX8
  | 9 => RX9
  | _ => RL
def fw_CT : Nat → u_T
  | 0 => TX0
  | 1 => TX1
  | 2 => TX2
  | 3 => TX3
  | 4 => TX4
  | 5 => TX5
  | 6 => TX6
  | 7 => TX7
  | 8 => TX8
  | _ => TX9
def fw_ty : Nat → Nat → FieldType
  | 0 => tyX0
  | 1 => tyX1
  | 2 => tyX2
  | 3 => tyX3
  | 4 => tyX4
  | 5 => tyX5
  | 6 => tyX6
  | 7 => tyX7
  | 8 => tyX8
  | _ => tyX9
def fw_nf : Nat → Nat
  | 0 => 4
  | 1 => 6
  | 2 => 3
  | 3 => 9
  | 4 => 10
  | 5 => 2
  | 6 => 7
  | 7 => 4
  | 8 => 9
  | 9 => 23
  | _ => 0
/-- kinds of fields: 0 int, 1 long, 2 reference, 10 boolean -/
def fw_fkT : List (List Nat) := [[2, 2, 0, 0], [0, 2, 0, 10, 0, 0], [2, 2, 0], [2, 2, 2, 2, 2, 2, 2, 2, 0], [2, 2, 2, 2, 2, 0, 0, 0, 1, 1], [2, 0], [2, 2, 0, 0, 0, 10, 10], [2, 2, 2, 2], [2, 2, 2, 2, 2, 2, 2, 2, 1], [0, 0, 2, 2, 2, 0, 2, 2, 2, 2, 0, 0, 2, 2, 2, 2, 2, 0, 0, 0, 0, 0, 1]]
def fw_fk (c j : Nat) : Nat := (fw_fkT.getD c []).getD j 0
def fw_tg (f : Nat) : Nat := if f = 10 then 0 else f
/-- what each cell is: 3 + the class's number, or 100 int[], 101 char[], 102 boolean[], 103 long[], 104 double[], 105 CrossdockSorter$Chute[], 106 int[][] -/
def fw_kdT : List Int := [11, 7, 100, 100, 101, 100, 100, 3, 100, 100, 9, 105, 100, 10, 100, 100, 6, 3, 100, 100, 100, 100, 100, 100, 8, 100, 5, 8, 100, 100, 100, 12, 100, 100, 102, 100, 106, 100, 100, 100, 100, 100, 100, 100, 100, 100, 100, 100, 101, 100]
def fw_lnT : List Int := [0, 0, 300, 300, 300, 300, 300, 0, 20, 20, 0, 6, 8, 0, 8, 6, 0, 0, 20, 20, 20, 20, 20, 6, 0, 300, 0, 0, 300, 300, 300, 0, 20, 20, 20, 6, 6, 30, 30, 30, 30, 30, 30, 6, 8, 60, 60, 60, 60, 60]
def fw_kd (k : Int) : Int := if k ≤ 0 then 0 else if k ≤ 50 then fw_kdT.getD (k - 1).toNat 0 else if k % 3 = 0 then 4 else if k % 3 = 1 then 8 else 100
def fw_ln (k : Int) : Int := if k ≤ 0 then 0 else if k ≤ 50 then fw_lnT.getD (k - 1).toNat 0 else 30
def fw_xn : Nat → String
  | 0 => "java/lang/IllegalArgumentException"
  | 1 => "java/lang/IllegalStateException"
  | 2 => "java/lang/UnsupportedOperationException"
  | 3 => "java/lang/IndexOutOfBoundsException"
  | 4 => "java/util/NoSuchElementException"
  | _ => "java/lang/ArithmeticException"
/-- a method: its name, code, locals, answer, class, height, kind (0 of an object, 1 static, 2 constructor, 3 static with handlers, 4 the law), its parameters' tags, handlers (the last number: the exception) -/
abbrev fw_R : Type := MethodName × ByteArray × Nat × Option FieldType × Nat × Nat × Nat × List Nat × List (Nat × Nat × Nat × Nat × Nat)
def fw_tab0 : List fw_R := [(yL_law, cL_law, 5, (some .boolean), 10, 8, 4, [6], []),
  (yX0_init, cX0_init, 1, none, 0, 1, 2, [], []),
  (yX0_makeEmpty, cX0_makeEmpty, 3, none, 0, 0, 0, [0], []),
  (yX0_copyFrom, cX0_copyFrom, 3, none, 0, 0, 0, [2], []),
  (yX0_has, cX0_has, 2, (some (.boolean)), 0, 0, 0, [0], []),
  (yX0_slotOf, cX0_slotOf, 3, (some (.int)), 0, 1, 0, [0], []),
  (yX0_move, cX0_move, 2, none, 0, 2, 0, [], []),
  (yX0_parcelAt, cX0_parcelAt, 3, (some (.int)), 0, 2, 0, [0], []),
  (yX0_roundsAt, cX0_roundsAt, 3, (some (.int)), 0, 2, 0, [0], []),
  (yX0_positionWith, cX0_positionWith, 3, (some (.int)), 0, 3, 0, [0], []),
  (yX0_put, cX0_put, 4, none, 0, 2, 0, [0, 0], []),
  (yX0_takeFrom, cX0_takeFrom, 2, none, 0, 3, 0, [0], []),
  (yX1_init, cX1_init, 3, none, 1, 1, 2, [0, 0], []),
  (yX1_drop, cX1_drop, 2, none, 1, 1, 0, [0], []),
  (yX1_clear, cX1_clear, 1, none, 1, 0, 0, [], []),
  (yX1_keptSeal, cX1_keptSeal, 1, (some (.int)), 1, 0, 0, [], []),
  (yX1_sealOfContent, cX1_sealOfContent, 1, (some (.int)), 1, 2, 0, [], []),
  (yX2_init, cX2_init, 1, none, 2, 1, 2, [], []),
  (yX2_has, cX2_has, 2, (some (.boolean)), 2, 0, 0, [0], []),
  (yX2_take, cX2_take, 4, (some (.int)), 2, 1, 0, [2], []),
  (yX2_startOf, cX2_startOf, 2, (some (.int)), 2, 1, 0, [0], []),
  (yX2_sizeOf, cX2_sizeOf, 2, (some (.int)), 2, 2, 0, [0], []),
  (yX2_parcelAt, cX2_parcelAt, 3, (some (.int)), 2, 2, 0, [0, 0], []),
  (yX2_sealOf, cX2_sealOf, 2, (some (.int)), 2, 3, 0, [0], []),
  (yX3_init, cX3_init, 4, none, 3, 2, 2, [2, 2, 2], []),
  (yX3_byOrigin, cX3_byOrigin, 4, (some (.int)), 3, 5, 0, [0], []),
  (yX3_byTrays, cX3_byTrays, 5, (some (.int)), 3, 5, 0, [0], []),
  (yX3_begin, cX3_begin, 3, none, 3, 1, 0, [], []),
  (yX3_moveOrigin, cX3_moveOrigin, 4, (some (.int)), 3, 4, 0, [], []),
  (yX3_moveTray, cX3_moveTray, 4, (some (.int)), 3, 4, 0, [0], []),
  (yX3_loadTray, cX3_loadTray, 2, none, 3, 1, 0, [0], []),
  (yX3_chuteGets, cX3_chuteGets, 3, (some (.boolean)), 3, 3, 0, [0, 0], []),
  (yX4_init, cX4_init, 1, none, 4, 0, 2, [], []),
  (yX4_has, cX4_has, 2, (some (.boolean)), 4, 0, 0, [0], []),
  (yX4_add, cX4_add, 4, (some (.int)), 4, 0, 0, [0, 0], []),
  (yX4_loadFirst, cX4_loadFirst, 2, (some (.int)), 4, 1, 0, [], []),
  (yX4_leave, cX4_leave, 4, none, 4, 1, 0, [0, 0, 0], []),
  (yX4_enterTruck, cX4_enterTruck, 3, none, 4, 1, 0, [0, 0], []),
  (yX4_routeAt, cX4_routeAt, 2, (some (.int)), 4, 1, 0, [0], []),
  (yX4_stateAt, cX4_stateAt, 2, (some (.char)), 4, 1, 0, [0], []),
  (yX4_lastRoundsAt, cX4_lastRoundsAt, 2, (some (.int)), 4, 1, 0, [0], []),
  (yX4_truckAt, cX4_truckAt, 2, (some (.int)), 4, 1, 0, [0], []),
  (yX4_loadOf, cX4_loadOf, 5, (some (.int)), 4, 0, 0, [0], []),
  (yX5_init, cX5_init, 2, none, 5, 0, 2, [0], []),
  (yX5_at, cX5_at, 2, (some (.int)), 5, 0, 0, [0], []),
  (yX5_add, cX5_add, 2, none, 5, 0, 0, [0], []),
  (yX5_sealOf, cX5_sealOf, 6, (some (.int)), 5, 1, 0, [0, 0], []),
  (yX6_init, cX6_init, 2, none, 6, 0, 2, [], []),
  (yX6_build, cX6_build, 4, (some (.int)), 6, 2, 0, [0, 0], []),
  (yX6_chute, cX6_chute, 2, (some (.object "CrossdockSorter$Chute")), 6, 0, 0, [0], [])]
def fw_tab1 : List fw_R := [(yX6_numberAt, cX6_numberAt, 4, (some (.int)), 6, 1, 0, [0], []),
  (yX6_chuteAt, cX6_chuteAt, 2, (some (.object "CrossdockSorter$Chute")), 6, 2, 0, [0], []),
  (yX6_kindAt, cX6_kindAt, 2, (some (.char)), 6, 3, 0, [0], []),
  (yX6_isJammed, cX6_isJammed, 3, (some (.boolean)), 6, 3, 0, [0], []),
  (yX6_setJammed, cX6_setJammed, 4, none, 6, 3, 0, [0, 0], []),
  (yX6_jams, cX6_jams, 4, (some (.int)), 6, 1, 0, [], []),
  (yX0_has, cX0_has, 2, (some (.boolean)), 0, 0, 0, [0], []),
  (yX6_chuteOfRoute, cX6_chuteOfRoute, 2, (some (.int)), 6, 1, 0, [0], []),
  (yX6_send, cX6_send, 3, none, 6, 1, 0, [0, 0], []),
  (yX6_loaderPuts, cX6_loaderPuts, 4, (some (.boolean)), 6, 0, 0, [0, 0, 0], []),
  (yX6_chuteTakes, cX6_chuteTakes, 5, (some (.boolean)), 6, 2, 0, [0, 0, 0], []),
  (yX6_overflowTakes, cX6_overflowTakes, 3, (some (.boolean)), 6, 0, 0, [0, 0], []),
  (yX6_sealsAgree, cX6_sealsAgree, 3, (some (.boolean)), 6, 3, 0, [], []),
  (yX7_init, cX7_init, 3, none, 7, 0, 2, [2, 2], []),
  (yX0_has, cX0_has, 2, (some (.boolean)), 0, 0, 0, [0], []),
  (yX0_has, cX0_has, 2, (some (.boolean)), 0, 0, 0, [0], []),
  (yX0_has, cX0_has, 2, (some (.boolean)), 0, 0, 0, [0], []),
  (yX0_has, cX0_has, 2, (some (.boolean)), 0, 0, 0, [0], []),
  (yX8_init, cX8_init, 1, none, 8, 3, 2, [], []),
  (yX8_setLoop, cX8_setLoop, 3, (some (.int)), 8, 4, 0, [0], []),
  (yX8_addChute, cX8_addChute, 3, (some (.int)), 8, 4, 0, [0, 0], []),
  (yX8_setCapacity, cX8_setCapacity, 5, (some (.int)), 8, 5, 0, [0, 0], []),
  (yX8_setLimit, cX8_setLimit, 3, (some (.int)), 8, 4, 0, [0], []),
  (yX8_jam, cX8_jam, 2, (some (.int)), 8, 5, 0, [0], []),
  (yX8_free, cX8_free, 2, (some (.int)), 8, 5, 0, [0], []),
  (yX8_stationAt, cX8_stationAt, 2, (some (.char)), 8, 5, 0, [0], []),
  (yX8_arrive, cX8_arrive, 3, (some (.int)), 8, 4, 0, [0, 0], []),
  (yX8_pass, cX8_pass, 4, (some (.int)), 8, 6, 0, [0], []),
  (yX8_tick, cX8_tick, 1, (some (.long)), 8, 0, 0, [], []),
  (yX8_stateOf, cX8_stateOf, 2, (some (.char)), 8, 5, 0, [0], []),
  (yX8_positionOf, cX8_positionOf, 3, (some (.int)), 8, 5, 0, [0], []),
  (yX8_roundsOf, cX8_roundsOf, 3, (some (.int)), 8, 5, 0, [0], []),
  (yX8_trayAt, cX8_trayAt, 3, (some (.int)), 8, 5, 0, [0], []),
  (yX8_waiting, cX8_waiting, 1, (some (.int)), 8, 0, 0, [], []),
  (yX8_onLoop, cX8_onLoop, 1, (some (.int)), 8, 0, 0, [], []),
  (yX8_overflowed, cX8_overflowed, 1, (some (.int)), 8, 0, 0, [], []),
  (yX8_leavingAhead, cX8_leavingAhead, 2, (some (.int)), 8, 6, 0, [0], []),
  (yX8_leavingByTrays, cX8_leavingByTrays, 2, (some (.int)), 8, 6, 0, [0], []),
  (yX0_has, cX0_has, 2, (some (.boolean)), 0, 0, 0, [0], []),
  (yX8_assign, cX8_assign, 4, (some (.int)), 8, 5, 0, [0, 0], []),
  (yX8_unassign, cX8_unassign, 3, (some (.int)), 8, 5, 0, [0], []),
  (yX8_chuteFor, cX8_chuteFor, 3, (some (.int)), 8, 5, 0, [0], []),
  (yX8_load, cX8_load, 2, (some (.int)), 8, 5, 0, [0], []),
  (yX8_inChute, cX8_inChute, 2, (some (.int)), 8, 5, 0, [0], []),
  (yX8_seal, cX8_seal, 2, (some (.int)), 8, 5, 0, [0], []),
  (yX8_sealByParcels, cX8_sealByParcels, 2, (some (.int)), 8, 5, 0, [0], []),
  (yX8_dispatch, cX8_dispatch, 6, (some (.int)), 8, 5, 0, [0], []),
  (yX8_trucks, cX8_trucks, 1, (some (.int)), 8, 0, 0, [], []),
  (yX8_sealOfTruck, cX8_sealOfTruck, 2, (some (.int)), 8, 5, 0, [0], []),
  (yX8_parcelIn, cX8_parcelIn, 3, (some (.int)), 8, 5, 0, [0, 0], [])]
def fw_tab2 : List fw_R := [(yX8_truckOf, cX8_truckOf, 2, (some (.int)), 8, 5, 0, [0], []),
  (yX8_shipped, cX8_shipped, 1, (some (.long)), 8, 0, 0, [], []),
  (yX8_meanRounds, cX8_meanRounds, 1, (some (.double)), 8, 5, 0, [], []),
  (yX8_overflowShare, cX8_overflowShare, 1, (some (.float)), 8, 5, 0, [], []),
  (yX8_isOnce, cX8_isOnce, 1, (some (.boolean)), 8, 6, 0, [], []),
  (yX8_isCapacity, cX8_isCapacity, 1, (some (.boolean)), 8, 0, 1, [0], []),
  (yX8_isRoute, cX8_isRoute, 1, (some (.boolean)), 8, 0, 1, [0], []),
  (yX8_requireRoute, cX8_requireRoute, 1, none, 8, 4, 1, [0], []),
  (yX8_requireTicks, cX8_requireTicks, 1, none, 8, 4, 1, [0], []),
  (yX8_requirePosition, cX8_requirePosition, 2, none, 8, 4, 0, [0], []),
  (yX8_requireStation, cX8_requireStation, 2, none, 8, 4, 0, [0], []),
  (yX8_requireParcel, cX8_requireParcel, 2, none, 8, 4, 0, [0], []),
  (yX8_requireChute, cX8_requireChute, 3, (some (.object "CrossdockSorter$Chute")), 8, 4, 0, [0], []),
  (yX8_requireTruck, cX8_requireTruck, 2, none, 8, 4, 0, [0], []),
  (yX8_requireSomeLeft, cX8_requireSomeLeft, 1, none, 8, 4, 0, [], []),
  (yX8_passOneTick, cX8_passOneTick, 3, (some (.int)), 8, 5, 0, [], []),
  (yX8_dropInto, cX8_dropInto, 4, (some (.int)), 8, 4, 0, [0], []),
  (yX8_dropIntoOverflow, cX8_dropIntoOverflow, 3, (some (.int)), 8, 4, 0, [], []),
  (yX8_eachParcelIsOnce, cX8_eachParcelIsOnce, 3, (some (.boolean)), 8, 3, 0, [], []),
  (yX8_seeAll, cX8_seeAll, 3, none, 8, 1, 0, [2], []),
  (yX8_see, cX8_see, 2, none, 8, 0, 0, [0], []),
  (yX9_init, cX9_init, 3, none, 9, 0, 2, [0], []),
  (yX9_trayAt, cX9_trayAt, 2, (some (.int)), 9, 0, 0, [0], []),
  (yX9_leave, cX9_leave, 3, none, 9, 0, 0, [0, 0], []),
  (yX9_serve, cX9_serve, 5, none, 9, 1, 0, [0], []),
  (yX9_tick, cX9_tick, 4, (some (.int)), 9, 2, 0, [], []),
  (yX9_seal, cX9_seal, 7, (some (.int)), 9, 0, 0, [0], []),
  (yX9_load, cX9_load, 4, (some (.int)), 9, 0, 0, [0], []),
  (yX9_jams, cX9_jams, 6, (some (.int)), 9, 0, 0, [], []),
  (yL_cell, cL_cell, 2, (some (.int)), 10, 0, 1, [6, 0], []),
  (yL_low, cL_low, 2, (some (.int)), 10, 0, 1, [0, 0], []),
  (yL_chuteFor, cL_chuteFor, 3, (some (.int)), 10, 6, 3, [2, 0], [(0, 5, 6, 15, 4)]),
  (yL_trayAt, cL_trayAt, 3, (some (.int)), 10, 6, 3, [2, 0], [(0, 5, 6, 15, 4)]),
  (yL_agrees, cL_agrees, 7, (some (.boolean)), 10, 7, 1, [2, 2], []),
  (yL_jams, cL_jams, 4, (some (.boolean)), 10, 6, 1, [2, 2, 0], []),
  (yL_empties, cL_empties, 7, (some (.boolean)), 10, 6, 1, [2, 2, 0], []),
  (yL_acts, cL_acts, 10, (some (.boolean)), 10, 7, 1, [2, 2, 0], [])]
def fw_row (k : Nat) : fw_R := (match k / 50 with
  | 0 => fw_tab0
  | 1 => fw_tab1
  | _ => fw_tab2).getD (k % 50) (yL_law, cL_law, 5, none, 10, 0, 4, [], [])
def fw_y (k : Nat) : MethodName := (fw_row k).1
def fw_B (k : Nat) : ByteArray := (fw_row k).2.1
def fw_mL (k : Nat) : Nat := (fw_row k).2.2.1
def fw_rt (k : Nat) : Option FieldType := (fw_row k).2.2.2.1
def fw_oc (k : Nat) : Nat := (fw_row k).2.2.2.2.1
def fw_rk (k : Nat) : Nat := (fw_row k).2.2.2.2.2.1
def fw_ki (k : Nat) : Nat := (fw_row k).2.2.2.2.2.2.1
def fw_pt (k : Nat) : List Nat := (fw_row k).2.2.2.2.2.2.2.1
def fw_hs (k : Nat) : List (Nat × Nat × Nat × Nat × Nat) := (fw_row k).2.2.2.2.2.2.2.2
def fw_t : Nat → List Cond
  | 1 => tables_1_1
  | 2 => tables_1_2
  | 3 => tables_1_3
  | 4 => tables_1_4
  | _ => tables_1_5
def fw_KS : Nat := 126
/-- (class, entry, class of the field, its place, and where the tables say so) -/
def fw_frT : List (Nat × Nat × Nat × Nat × Nat × Nat) := [(0, 9, 0, 0, 1, 91), (0, 15, 0, 1, 1, 92), (0, 31, 0, 2, 1, 93), (0, 35, 0, 3, 1, 95), (1, 9, 1, 0, 2, 151), (1, 15, 1, 2, 2, 158), (1, 23, 1, 1, 2, 155), (1, 30, 1, 4, 2, 162), (1, 33, 1, 5, 2, 163), (1, 36, 5, 1, 1, 203), (2, 14, 2, 0, 1, 220), (2, 20, 2, 1, 1, 222), (2, 24, 2, 2, 1, 223), (2, 28, 5, 1, 1, 204), (3, 12, 3, 3, 1, 169), (3, 18, 3, 4, 1, 170), (3, 22, 3, 5, 1, 171), (3, 25, 3, 6, 1, 172), (3, 28, 3, 7, 1, 173), (3, 31, 3, 0, 1, 166), (3, 35, 3, 1, 1, 167), (3, 39, 3, 2, 1, 168), (3, 60, 6, 3, 1, 119), (3, 69, 4, 6, 1, 44), (3, 74, 3, 8, 1, 174), (3, 81, 1, 1, 2, 157), (3, 87, 5, 1, 1, 206), (3, 95, 4, 5, 1, 42), (3, 106, 1, 0, 2, 153), (4, 9, 4, 0, 1, 35), (4, 15, 4, 1, 1, 36), (4, 18, 4, 2, 1, 37), (4, 22, 4, 3, 1, 38), (4, 25, 4, 4, 1, 39), (4, 28, 4, 5, 1, 40), (4, 32, 4, 6, 1, 43), (4, 39, 4, 7, 1, 46), (4, 42, 4, 8, 1, 48), (4, 46, 4, 9, 1, 50), (5, 15, 5, 0, 1, 201), (5, 21, 5, 1, 1, 202), (6, 11, 6, 0, 1, 113), (6, 17, 6, 1, 1, 114), (6, 21, 6, 3, 1, 117), (6, 25, 6, 4, 1, 120), (6, 28, 6, 2, 1, 115), (6, 38, 1, 0, 2, 152), (6, 48, 6, 5, 1, 122), (6, 52, 6, 6, 1, 123), (6, 55, 1, 3, 2, 161), (6, 62, 1, 2, 2, 160), (7, 9, 7, 2, 1, 147), (7, 15, 7, 3, 1, 148), (7, 18, 7, 0, 1, 145), (7, 22, 7, 1, 1, 146), (8, 10, 8, 0, 1, 232), (8, 19, 8, 1, 1, 233), (8, 26, 8, 2, 1, 234), (8, 35, 8, 3, 1, 235), (8, 44, 8, 4, 1, 236), (8, 53, 8, 5, 1, 237), (8, 60, 8, 6, 1, 238), (8, 64, 8, 7, 1, 239), (8, 71, 6, 2, 1, 116), (8, 75, 4, 5, 1, 41), (8, 81, 0, 2, 1, 94), (8, 87, 6, 3, 1, 118), (8, 108, 1, 1, 2, 156), (8, 113, 5, 1, 1, 205), (8, 116, 1, 2, 2, 159), (8, 119, 6, 4, 1, 121), (8, 155, 8, 8, 2, 0), (8, 181, 4, 6, 1, 45), (8, 184, 4, 7, 1, 47), (8, 232, 2, 2, 1, 224), (8, 247, 4, 9, 1, 51), (8, 253, 4, 8, 1, 49), (8, 295, 1, 0, 2, 154), (8, 327, 2, 0, 1, 221), (9, 7, 9, 2, 3, 111), (9, 13, 9, 3, 3, 113), (9, 16, 9, 4, 3, 115), (9, 20, 9, 6, 3, 118), (9, 25, 9, 7, 3, 120), (9, 28, 9, 8, 3, 122), (9, 31, 9, 9, 3, 124), (9, 34, 9, 10, 3, 126), (9, 38, 9, 12, 3, 130), (9, 41, 9, 13, 3, 132), (9, 44, 9, 14, 3, 134), (9, 47, 9, 15, 3, 136), (9, 51, 9, 16, 3, 138), (9, 54, 9, 0, 3, 107), (9, 57, 9, 1, 3, 109), (9, 60, 9, 18, 3, 141), (9, 63, 9, 20, 3, 145), (9, 70, 9, 17, 3, 140), (9, 73, 9, 11, 3, 128), (9, 80, 9, 19, 3, 143)]
/-- the same of the private fields of a nest mate -/
def fw_fnT : List (Nat × Nat × Nat × Nat × Nat × Nat) := [(10, 20, 9, 11, 3, 129), (10, 26, 9, 15, 3, 137), (10, 37, 9, 14, 3, 135), (10, 44, 9, 16, 3, 139), (10, 57, 9, 19, 3, 144), (10, 64, 9, 1, 3, 110), (10, 70, 9, 21, 3, 147), (10, 75, 9, 22, 3, 148), (10, 78, 9, 0, 3, 108), (10, 81, 9, 2, 3, 112), (10, 93, 9, 5, 3, 117), (10, 99, 9, 8, 3, 123), (10, 115, 9, 9, 3, 125), (10, 117, 9, 18, 3, 142), (10, 124, 9, 20, 3, 146), (10, 131, 9, 3, 3, 114), (10, 137, 9, 4, 3, 116), (10, 156, 9, 7, 3, 121), (10, 164, 9, 13, 3, 133), (10, 175, 9, 12, 3, 131), (10, 201, 9, 10, 3, 127), (10, 207, 9, 6, 3, 119)]
/-- ints among the constants: (class, entry, value, where the tables say so) -/
def fw_kiT : List (Nat × Nat × Int × Nat × Nat) := [(10, 7, 40503, 3, 200), (10, 8, 2147483647, 3, 204)]
def fw_klT : List (Nat × Nat × Int × Nat × Nat) := [(9, 93, 10000, 4, 75), (9, 95, 9973, 4, 76)]
/-- (class, entry, callee (1000 Math.max, 1001 Math.min, 1002 Object's constructor), 1 where it is a nest mate's private one, and where the tables say so) -/
def fw_mrT : List (Nat × Nat × Nat × Nat × Nat × Nat) := [(0, 3, 1002, 0, 1, 80), (0, 18, 2, 0, 1, 81), (0, 22, 1001, 0, 1, 85), (0, 28, 1000, 0, 1, 88), (0, 38, 4, 0, 2, 236), (0, 42, 5, 0, 2, 232), (0, 46, 7, 0, 4, 3), (0, 49, 10, 0, 3, 77), (1, 3, 1002, 0, 2, 148), (1, 20, 43, 0, 2, 150), (1, 27, 45, 0, 4, 195), (1, 39, 46, 0, 3, 24), (2, 3, 1002, 0, 1, 217), (2, 11, 43, 0, 1, 219), (2, 29, 44, 0, 5, 28), (2, 33, 45, 0, 5, 29), (2, 36, 18, 0, 5, 58), (2, 40, 20, 0, 5, 54), (2, 43, 21, 0, 5, 59), (2, 46, 46, 0, 5, 63), (3, 3, 1002, 0, 1, 163), (3, 11, 1, 0, 1, 165), (3, 42, 27, 0, 3, 33), (3, 45, 3, 0, 3, 38), (3, 49, 28, 0, 3, 42), (3, 53, 7, 0, 3, 50), (3, 57, 8, 0, 3, 78), (3, 66, 29, 0, 3, 90), (3, 77, 49, 0, 3, 37), (3, 92, 6, 0, 3, 46), (3, 98, 59, 0, 3, 51), (3, 102, 10, 0, 3, 55), (3, 109, 31, 0, 3, 59), (3, 113, 11, 0, 3, 73), (3, 117, 61, 0, 3, 82), (3, 120, 30, 0, 3, 94), (3, 123, 50, 0, 3, 98), (3, 126, 38, 0, 3, 63), (3, 129, 60, 0, 3, 68), (4, 3, 1002, 0, 1, 34), (4, 35, 33, 0, 3, 67), (5, 3, 1002, 0, 1, 199), (5, 9, 1000, 0, 1, 200), (5, 25, 44, 0, 3, 28), (6, 3, 1002, 0, 1, 110), (6, 31, 12, 0, 2, 145), (6, 34, 49, 0, 2, 121), (6, 41, 50, 0, 2, 117), (6, 45, 51, 0, 4, 220), (6, 58, 106, 1, 2, 211), (6, 65, 57, 0, 3, 72), (6, 68, 15, 0, 3, 16), (6, 72, 16, 0, 3, 20), (7, 3, 1002, 0, 1, 144), (8, 1, 1002, 0, 1, 26), (8, 9, 32, 1, 1, 31), (8, 18, 1, 0, 1, 77), (8, 25, 47, 0, 1, 107), (8, 32, 63, 0, 1, 141), (8, 41, 24, 0, 1, 160), (8, 50, 43, 0, 1, 196), (8, 59, 17, 1, 1, 214), (8, 84, 2, 0, 2, 105), (8, 90, 105, 0, 2, 110), (8, 94, 51, 0, 2, 113), (8, 101, 48, 0, 2, 140), (8, 105, 112, 0, 2, 187), (8, 122, 110, 0, 4, 225), (8, 125, 53, 0, 4, 229), (8, 128, 54, 0, 4, 233), (8, 132, 55, 0, 4, 237), (8, 136, 109, 0, 4, 53), (8, 139, 52, 0, 4, 216), (8, 143, 106, 0, 2, 184), (8, 146, 34, 0, 4, 136), (8, 149, 108, 0, 4, 144), (8, 152, 115, 0, 4, 169), (8, 159, 111, 0, 3, 212), (8, 162, 39, 0, 3, 231), (8, 165, 9, 0, 3, 239), (8, 169, 8, 0, 4, 4), (8, 172, 40, 0, 4, 5), (8, 175, 7, 0, 2, 228), (8, 187, 25, 0, 3, 29), (8, 190, 26, 0, 3, 86), (8, 200, 107, 0, 2, 181), (8, 203, 57, 0, 2, 207), (8, 206, 58, 0, 2, 212), (8, 210, 42, 0, 4, 86), (8, 213, 15, 0, 4, 70), (8, 216, 16, 0, 4, 81), (8, 219, 19, 0, 5, 24), (8, 223, 44, 0, 3, 4), (8, 226, 37, 0, 5, 30), (8, 229, 14, 0, 5, 34), (8, 233, 113, 0, 5, 42), (8, 236, 23, 0, 5, 50), (8, 239, 21, 0, 5, 68), (8, 242, 22, 0, 5, 69), (8, 244, 41, 0, 4, 13), (8, 250, 114, 0, 4, 105), (8, 256, 118, 0, 2, 220), (8, 259, 62, 0, 3, 12), (8, 262, 4, 0, 4, 57), (8, 265, 33, 0, 3, 8), (8, 266, 49, 0, 2, 191), (8, 272, 18, 0, 5, 46), (8, 276, 6, 0, 4, 173), (8, 279, 59, 0, 4, 174), (8, 283, 35, 0, 4, 175), (8, 286, 10, 0, 4, 179), (8, 289, 116, 0, 4, 180), (8, 292, 117, 0, 4, 199), (8, 298, 38, 0, 4, 184), (8, 301, 60, 0, 4, 185), (8, 304, 36, 0, 4, 186), (8, 308, 11, 0, 4, 190), (8, 311, 13, 0, 4, 191), (8, 314, 61, 0, 4, 203), (8, 318, 45, 0, 4, 204), (8, 320, 120, 0, 2, 224), (8, 323, 119, 0, 3, 0), (9, 1, 1002, 0, 3, 104), (9, 66, 122, 0, 4, 155), (9, 76, 123, 0, 4, 161), (9, 83, 1000, 0, 4, 156), (9, 89, 124, 0, 4, 157), (10, 9, 91, 0, 4, 97), (10, 17, 82, 0, 4, 49), (10, 30, 79, 0, 3, 208), (10, 34, 81, 0, 3, 235), (10, 41, 100, 0, 4, 9), (10, 47, 83, 0, 4, 17), (10, 51, 84, 0, 4, 21), (10, 54, 85, 0, 4, 25), (10, 60, 78, 0, 4, 29), (10, 67, 97, 0, 4, 33), (10, 72, 101, 0, 4, 37), (10, 84, 122, 0, 4, 41), (10, 85, 132, 0, 4, 45), (10, 90, 80, 0, 4, 58), (10, 96, 93, 0, 4, 62), (10, 102, 94, 0, 4, 66), (10, 105, 126, 0, 4, 71), (10, 106, 95, 0, 4, 77), (10, 109, 92, 0, 4, 82), (10, 112, 127, 0, 4, 90), (10, 113, 131, 0, 4, 94), (10, 120, 102, 0, 4, 101), (10, 127, 103, 0, 4, 124), (10, 134, 75, 0, 4, 212), (10, 141, 73, 0, 4, 221), (10, 144, 74, 0, 5, 1), (10, 147, 128, 0, 5, 5), (10, 150, 96, 0, 5, 20), (10, 153, 98, 0, 5, 38), (10, 160, 99, 0, 5, 64), (10, 167, 130, 0, 3, 201), (10, 170, 1000, 0, 4, 131), (10, 178, 76, 0, 4, 132), (10, 181, 86, 0, 4, 140), (10, 184, 87, 0, 4, 147), (10, 187, 125, 0, 4, 151), (10, 189, 77, 0, 4, 165), (10, 192, 90, 0, 4, 205), (10, 195, 89, 0, 2, 177), (10, 198, 134, 0, 4, 209), (10, 204, 72, 0, 5, 9), (10, 210, 71, 0, 5, 13), (10, 213, 135, 0, 5, 17), (10, 216, 68, 0, 1, 23), (10, 217, 129, 0, 3, 197), (10, 221, 121, 0, 3, 101), (10, 224, 69, 0, 2, 20), (10, 227, 70, 0, 2, 106), (10, 230, 136, 0, 4, 128), (10, 233, 133, 0, 3, 205), (10, 237, 104, 0, 2, 216)]
def fw_crT : List (Nat × Nat × Nat × Nat × Nat) := [(1, 18, 5, 2, 149), (2, 9, 5, 1, 218), (3, 9, 0, 1, 164), (6, 9, 1, 1, 111), (8, 7, 4, 1, 29), (8, 16, 0, 1, 75), (8, 23, 6, 1, 105), (8, 30, 7, 1, 139), (8, 39, 3, 1, 158), (8, 48, 5, 1, 194), (8, 57, 2, 1, 212), (10, 10, 8, 1, 21), (10, 21, 9, 3, 99)]
/-- (entry of an exception's class in CrossdockSorter, entry of its constructor, its number, and where the tables say so) -/
def fw_xrT : List (Nat × Nat × Nat × Nat × Nat) := [(68, 70, 0, 2, 24), (78, 80, 1, 2, 90), (98, 100, 2, 2, 125), (178, 180, 4, 3, 216), (269, 271, 3, 2, 192), (273, 275, 5, 4, 109)]
def fw_fr (o i : Nat) : Option (Nat × Nat) := ((fw_frT ++ fw_fnT).find? (fun q => q.1 == o && q.2.1 == i)).map (fun q => (q.2.2.1, q.2.2.2.1))
def fw_ck (o i : Nat) : Option Int := (fw_kiT.find? (fun q => q.1 == o && q.2.1 == i)).map (fun q => q.2.2.1)
def fw_cl2 (o i : Nat) : Option Int := (fw_klT.find? (fun q => q.1 == o && q.2.1 == i)).map (fun q => q.2.2.1)
def fw_mr (o i : Nat) : Option (Nat × Nat) := (fw_mrT.find? (fun q => q.1 == o && q.2.1 == i)).map (fun q => (q.2.2.1, q.2.2.2.1))
def fw_cal (o i : Nat) : Nat := ((fw_mr o i).map Prod.fst).getD 0
def fw_cr (o i : Nat) : Option Nat := (fw_crT.find? (fun q => q.1 == o && q.2.1 == i)).map (fun q => q.2.2.1)
def fw_xr (i : Nat) : Option (Nat × Nat) := (fw_xrT.find? (fun q => q.1 == i)).map (fun q => (q.2.1, q.2.2.1))
def fw_dec (k pc : Nat) : Option (Instr × Nat) := match decode (fw_B k) pc with
  | .ok r => some r
  | .error _ => none
theorem fw_de {k pc : Nat} {bb : ByteArray} {r : Instr × Nat} (hB : fw_B k = bb) (h : decode bb pc = .ok r) : fw_dec k pc = some r := by
  unfold fw_dec; rw [hB, h]
theorem fw_de' {k pc : Nat} {r : Instr × Nat} (h : fw_dec k pc = some r) : decode (fw_B k) pc = .ok r := by
  unfold fw_dec at h; split at h
  · rename_i x hx; rw [hx]; exact congrArg _ (Option.some.inj h)
  · cases h
/-- the handler of method k for the exception x thrown at pc -/
def fw_hd (k pc x : Nat) : Option Nat := ((fw_hs k).find? (fun h => h.2.2.2.2 == x && (decide (h.1 ≤ pc) && decide (pc < h.2.1)))).map (fun h => h.2.2.1)
def fw_nx (pc : Nat) (ll st : List fw_V) (σ : fw_M) : Option fw_A := some (.inl (pc, ll, st, σ))
def fw_fi (v : fw_V) (σ : fw_M) : Option fw_A := some (.inr (.inl (v, σ)))
def fw_tgt (pc : Nat) (off : Int) : Nat := ((pc : Int) + off).toNat
/-- a store to a local (a long there, or just below, is left to Loop's seal) -/
def fw_so (k : Nat) (ll : List fw_V) (i : Nat) : Bool := decide (i < fw_mL k) && (decide (k ≠ fw_KS) || decide (i = 0) || decide ((fw_g ll (i - 1)).1 ≠ 1))
def fw_br (pc : Nat) (off : Int) (c : Prop) [Decidable c] (ll st : List fw_V) (σ : fw_M) : Option fw_A := if c then fw_nx (fw_tgt pc off) ll st σ else fw_nx (pc + 3) ll st σ
def fw_ifc (c : ClassFile.Cond) (x y : Int) : Bool := match c with
  | .eq => decide (x = y)
  | .ne => decide (x ≠ y)
  | .lt => decide (x < y)
  | .ge => decide (y ≤ x)
  | .gt => decide (y < x)
  | .le => decide (x ≤ y)
def fw_ak (t : ArrayType) : Int := match t with
  | .int => 100
  | .char => 101
  | .boolean => 102
  | _ => 99
def fw_ca (k cal : Nat) (rcv : Bool) (st : List fw_V) : Option fw_A :=
  let n := (fw_pt cal).length
  let as := (st.take n).reverse
  let r0 := st.drop n
  if as.map Prod.fst = fw_pt cal ∧ fw_rk cal < fw_rk k ∧ cal < 137 ∧ cal ≠ 0 then
    if rcv then match r0 with
      | (2, r) :: rest => if fw_kd r = (fw_oc cal : Int) + 3 ∧ rest.length ≤ 4 then some (.inr (.inr (cal, (2, r) :: as, rest))) else none
      | _ => none
    else if r0.length ≤ 4 then some (.inr (.inr (cal, as, r0))) else none
  else none
/-- an answer that fits what the method says it answers -/
def fw_ri (k : Nat) (x : Int) : Bool := match fw_rt k with
  | some .int => true
  | some .boolean => decide (x = 0 ∨ x = 1)
  | some .char => decide (0 ≤ x ∧ x < 65536)
  | _ => false
def fw_dd (x : Int) : UInt64 := UInt64.ofNat x.toNat
def fw_ff (x : Int) : UInt32 := UInt32.ofNat x.toNat
def fw_n64 (r : UInt64) : Bool := decide (r &&& 0x7fffffffffffffff ≤ 0x7ff0000000000000)
def fw_n32 (r : UInt32) : Bool := decide (r &&& 0x7fffffff ≤ 0x7f800000)
def fw_si (k pc : Nat) (ll st : List fw_V) (σ : fw_M) (i : Instr) : Option fw_A := match i with
  | .iconst n => fw_nx (pc + 1) ll ((0, (Int32.ofInt n).toInt) :: st) σ
  | .bipush n => fw_nx (pc + 2) ll ((0, (Int8.ofInt n).toInt32.toInt) :: st) σ
  | .sipush n => fw_nx (pc + 3) ll ((0, (Int16.ofInt n).toInt32.toInt) :: st) σ
  | .lconst n => fw_nx (pc + 1) ll ((1, (Int64.ofNat (n : Nat)).toInt) :: st) σ
  | .fconst n => if n = 0 then fw_nx (pc + 1) ll ((4, (FP.fconst0.toNat : Int)) :: st) σ else none
  | .dconst n => if n = 0 then fw_nx (pc + 1) ll ((3, (FP.dconst0.toNat : Int)) :: st) σ else none
  | .aconst_null => fw_nx (pc + 1) ll ((2, 0) :: st) σ
  | .ldc n => match fw_ck (fw_oc k) n with
    | some v => fw_nx (pc + 2) ll ((0, v) :: st) σ
    | none => none
  | .ldc2_w n => match fw_cl2 (fw_oc k) n with
    | some v => fw_nx (pc + 3) ll ((1, v) :: st) σ
    | none => none
  | .iload_n n => if (fw_g ll n).1 = 0 then fw_nx (pc + 1) ll (fw_g ll n :: st) σ else none
  | .iload n => if (fw_g ll n).1 = 0 then fw_nx (pc + 2) ll (fw_g ll n :: st) σ else none
  | .aload_n n => if (fw_g ll n).1 = 2 ∨ (fw_g ll n).1 = 6 then fw_nx (pc + 1) ll (fw_g ll n :: st) σ else none
  | .aload n => if (fw_g ll n).1 = 2 ∨ (fw_g ll n).1 = 6 then fw_nx (pc + 2) ll (fw_g ll n :: st) σ else none
  | .lload_n n => if (fw_g ll n).1 = 1 then fw_nx (pc + 1) ll (fw_g ll n :: st) σ else none
  | .lload n => if (fw_g ll n).1 = 1 then fw_nx (pc + 2) ll (fw_g ll n :: st) σ else none
  | .fload n => if (fw_g ll n).1 = 4 then fw_nx (pc + 2) ll (fw_g ll n :: st) σ else none
  | .istore_n n => match st with
    | (0, x) :: r => if fw_so k ll n then fw_nx (pc + 1) (ll.set n (0, x)) r σ else none
    | _ => none
  | .istore n => match st with
    | (0, x) :: r => if fw_so k ll n then fw_nx (pc + 2) (ll.set n (0, x)) r σ else none
    | _ => none
  | .astore_n n => match st with
    | (2, x) :: r => if fw_so k ll n then fw_nx (pc + 1) (ll.set n (2, x)) r σ else none
    | (7, x) :: r => if fw_so k ll n then fw_nx (pc + 1) (ll.set n (7, x)) r σ else none
    | _ => none
  | .astore n => match st with
    | (2, x) :: r => if fw_so k ll n then fw_nx (pc + 2) (ll.set n (2, x)) r σ else none
    | (7, x) :: r => if fw_so k ll n then fw_nx (pc + 2) (ll.set n (7, x)) r σ else none
    | _ => none
  | .fstore n => match st with
    | (4, x) :: r => if fw_so k ll n then fw_nx (pc + 2) (ll.set n (4, x)) r σ else none
    | _ => none
  | .lstore_n n => match st with
    | (1, x) :: r => if fw_so k ll n ∧ k = fw_KS ∧ (n : Nat) + 1 < fw_mL k then fw_nx (pc + 1) ((ll.set n (1, x)).set ((n : Nat) + 1) (8, 0)) r σ else none
    | _ => none
  | .lstore n => match st with
    | (1, x) :: r => if fw_so k ll n ∧ k = fw_KS ∧ n + 1 < fw_mL k then fw_nx (pc + 2) ((ll.set n (1, x)).set (n + 1) (8, 0)) r σ else none
    | _ => none
  | .iinc n c => if (fw_g ll n).1 = 0 ∧ fw_so k ll n then fw_nx (pc + 3) (ll.set n (0, fw_w ((fw_g ll n).2 + c))) st σ else none
  | .iadd => match st with
    | (0, y) :: (0, x) :: r => fw_nx (pc + 1) ll ((0, fw_w (x + y)) :: r) σ
    | _ => none
  | .isub => match st with
    | (0, y) :: (0, x) :: r => fw_nx (pc + 1) ll ((0, fw_w (x - y)) :: r) σ
    | _ => none
  | .imul => match st with
    | (0, y) :: (0, x) :: r => fw_nx (pc + 1) ll ((0, fw_w (x * y)) :: r) σ
    | _ => none
  | .irem => match st with
    | (0, y) :: (0, x) :: r => if 0 ≤ x ∧ 0 < y then fw_nx (pc + 1) ll ((0, x % y) :: r) σ else none
    | _ => none
  | .iand => match st with
    | (0, y) :: (0, x) :: r => fw_nx (pc + 1) ll ((0, fw_an x y) :: r) σ
    | _ => none
  | .ishr => match st with
    | (0, y) :: (0, x) :: r => fw_nx (pc + 1) ll ((0, fw_sh x y) :: r) σ
    | _ => none
  | .lrem => match st with
    | (1, y) :: (1, x) :: r => if 0 ≤ x ∧ 0 < y then fw_nx (pc + 1) ll ((1, x % y) :: r) σ else none
    | _ => none
  | .lmul => match st with
    | (1, y) :: (1, x) :: r => fw_nx (pc + 1) ll ((1, fw_wl (x * y)) :: r) σ
    | _ => none
  | .l2i => match st with
    | (1, x) :: r => fw_nx (pc + 1) ll ((0, fw_w x) :: r) σ
    | _ => none
  | .ladd => match st with
    | (1, y) :: (1, x) :: r => fw_nx (pc + 1) ll ((1, fw_wl (x + y)) :: r) σ
    | _ => none
  | .lcmp => match st with
    | (1, y) :: (1, x) :: r => fw_nx (pc + 1) ll ((0, if y < x then 1 else if x = y then 0 else -1) :: r) σ
    | _ => none
  | .i2l => match st with
    | (0, x) :: r => fw_nx (pc + 1) ll ((1, x) :: r) σ
    | _ => none
  | .i2d => match st with
    | (0, x) :: r => fw_nx (pc + 1) ll ((3, ((FP.i2d (Int32.ofInt x)).toNat : Int)) :: r) σ
    | _ => none
  | .i2f => match st with
    | (0, x) :: r => fw_nx (pc + 1) ll ((4, ((FP.i2f (Int32.ofInt x)).toNat : Int)) :: r) σ
    | _ => none
  | .l2d => match st with
    | (1, x) :: r => fw_nx (pc + 1) ll ((3, ((FP.l2d (Int64.ofInt x)).toNat : Int)) :: r) σ
    | _ => none
  | .f2d => match st with
    | (4, x) :: r => if fw_n64 (FP.f2d (fw_ff x)) then fw_nx (pc + 1) ll ((3, ((FP.f2d (fw_ff x)).toNat : Int)) :: r) σ else none
    | _ => none
  | .ddiv => match st with
    | (3, y) :: (3, x) :: r => if fw_n64 (FP.ddiv (fw_dd x) (fw_dd y)) then fw_nx (pc + 1) ll ((3, ((FP.ddiv (fw_dd x) (fw_dd y)).toNat : Int)) :: r) σ else none
    | _ => none
  | .fdiv => match st with
    | (4, y) :: (4, x) :: r => if fw_n32 (FP.fdiv (fw_ff x) (fw_ff y)) then fw_nx (pc + 1) ll ((4, ((FP.fdiv (fw_ff x) (fw_ff y)).toNat : Int)) :: r) σ else none
    | _ => none
  | .dcmp op => match st with
    | (3, y) :: (3, x) :: r => fw_nx (pc + 1) ll ((0, (Op.cmpValue (FP.dcmp (fw_dd x) (fw_dd y)) op).toInt) :: r) σ
    | _ => none
  | .fcmp op => match st with
    | (4, y) :: (4, x) :: r => fw_nx (pc + 1) ll ((0, (Op.cmpValue (FP.fcmp (fw_ff x) (fw_ff y)) op).toInt) :: r) σ
    | _ => none
  | .dup => match st with
    | (t, x) :: r => if t = 0 ∨ t = 2 then fw_nx (pc + 1) ll ((t, x) :: (t, x) :: r) σ else none
    | _ => none
  | .dup2 => match st with
    | (0, x) :: (2, y) :: r => fw_nx (pc + 1) ll ((0, x) :: (2, y) :: (0, x) :: (2, y) :: r) σ
    | _ => none
  | .dup_x2 => match st with
    | (0, x) :: (0, y) :: (2, z) :: r => fw_nx (pc + 1) ll ((0, x) :: (0, y) :: (2, z) :: (0, x) :: r) σ
    | _ => none
  | .pop => match st with
    | (t, _) :: r => if t = 0 ∨ t = 2 then fw_nx (pc + 1) ll r σ else none
    | _ => none
  | .goto off => if 0 ≤ (pc : Int) + off then fw_nx (fw_tgt pc off) ll st σ else none
  | .ifCond c off => match st with
    | (0, x) :: r => if 0 ≤ (pc : Int) + off then fw_br pc off (fw_ifc c x 0 = true) ll r σ else none
    | _ => none
  | .if_icmp c off => match st with
    | (0, y) :: (0, x) :: r => if 0 ≤ (pc : Int) + off then fw_br pc off (fw_ifc c x y = true) ll r σ else none
    | _ => none
  | .ifnull off => match st with
    | (2, x) :: r => if 0 ≤ (pc : Int) + off then fw_br pc off (x = 0) ll r σ else none
    | _ => none
  | .ifnonnull off => match st with
    | (2, x) :: r => if 0 ≤ (pc : Int) + off then fw_br pc off (x ≠ 0) ll r σ else none
    | _ => none
  | .tableswitch d lo hi offs => match st with
    | (0, x) :: r => if x < lo ∨ hi < x then (if 0 ≤ (pc : Int) + d then fw_nx (fw_tgt pc d) ll r σ else none) else match offs[(x - lo).toNat]? with
      | some off => if 0 ≤ (pc : Int) + off then fw_nx (fw_tgt pc off) ll r σ else none
      | none => none
    | _ => none
  | .iaload => match st with
    | (0, i) :: (2, a) :: r => if fw_kd a = 100 ∧ 0 ≤ i ∧ i < fw_ln a then fw_nx (pc + 1) ll ((0, σ a i) :: r) σ else none
    | (0, i) :: (6, _) :: r => if 0 ≤ i ∧ i < σ (-3) 0 then fw_nx (pc + 1) ll ((0, σ (-2) i) :: r) σ else none
    | _ => none
  | .caload => match st with
    | (0, i) :: (2, a) :: r => if fw_kd a = 101 ∧ 0 ≤ i ∧ i < fw_ln a then fw_nx (pc + 1) ll ((0, σ a i) :: r) σ else none
    | _ => none
  | .baload => match st with
    | (0, i) :: (2, a) :: r => if fw_kd a = 102 ∧ 0 ≤ i ∧ i < fw_ln a then fw_nx (pc + 1) ll ((0, σ a i) :: r) σ else none
    | _ => none
  | .laload => match st with
    | (0, i) :: (2, a) :: r => if fw_kd a = 103 ∧ 0 ≤ i ∧ i < fw_ln a then fw_nx (pc + 1) ll ((1, σ a i) :: r) σ else none
    | _ => none
  | .daload => match st with
    | (0, i) :: (2, a) :: r => if fw_kd a = 104 ∧ 0 ≤ i ∧ i < fw_ln a then fw_nx (pc + 1) ll ((3, σ a i) :: r) σ else none
    | _ => none
  | .aaload => match st with
    | (0, i) :: (2, a) :: r => if (fw_kd a = 105 ∨ fw_kd a = 106) ∧ 0 ≤ i ∧ i < fw_ln a then fw_nx (pc + 1) ll ((2, σ a i) :: r) σ else none
    | _ => none
  | .iastore => match st with
    | (0, v) :: (0, i) :: (2, a) :: r => if fw_kd a = 100 ∧ 0 ≤ i ∧ i < fw_ln a then fw_nx (pc + 1) ll r (fw_u σ a i v) else none
    | _ => none
  | .castore => match st with
    | (0, v) :: (0, i) :: (2, a) :: r => if fw_kd a = 101 ∧ 0 ≤ i ∧ i < fw_ln a ∧ 0 ≤ v ∧ v < 65536 then fw_nx (pc + 1) ll r (fw_u σ a i v) else none
    | _ => none
  | .bastore => match st with
    | (0, v) :: (0, i) :: (2, a) :: r => if fw_kd a = 102 ∧ 0 ≤ i ∧ i < fw_ln a ∧ (v = 0 ∨ v = 1) then fw_nx (pc + 1) ll r (fw_u σ a i v) else none
    | _ => none
  | .lastore => match st with
    | (1, v) :: (0, i) :: (2, a) :: r => if fw_kd a = 103 ∧ 0 ≤ i ∧ i < fw_ln a then fw_nx (pc + 1) ll r (fw_u σ a i v) else none
    | _ => none
  | .dastore => match st with
    | (3, v) :: (0, i) :: (2, a) :: r => if fw_kd a = 104 ∧ 0 ≤ i ∧ i < fw_ln a then fw_nx (pc + 1) ll r (fw_u σ a i v) else none
    | _ => none
  | .aastore => match st with
    | (2, v) :: (0, i) :: (2, a) :: r => if fw_kd a = 105 ∧ fw_kd v = 4 ∧ 0 ≤ i ∧ i < fw_ln a then fw_nx (pc + 1) ll r (fw_u σ a i v) else none
    | _ => none
  | .arraylength => match st with
    | (2, a) :: r => if 100 ≤ fw_kd a then fw_nx (pc + 1) ll ((0, fw_ln a) :: r) σ else none
    | (6, _) :: r => if σ (-3) 0 < 2147483648 then fw_nx (pc + 1) ll ((0, σ (-3) 0) :: r) σ else none
    | _ => none
  | .getfield n => match st with
    | (2, a) :: r => match fw_fr (fw_oc k) n with
      | some (c, j) => if fw_kd a = (c : Int) + 3 then fw_nx (pc + 3) ll ((fw_tg (fw_fk c j), σ a (j : Int)) :: r) σ else none
      | none => none
    | _ => none
  | .putfield n => match st with
    | (t, v) :: (2, a) :: r => match fw_fr (fw_oc k) n with
      | some (c, j) => if fw_kd a = (c : Int) + 3 ∧ t = fw_tg (fw_fk c j) ∧ (fw_fk c j = 10 → v = 0 ∨ v = 1) ∧ ((fw_CT c j).2.2.2 = true → fw_ki k = 2 ∧ fw_oc k = c) then fw_nx (pc + 3) ll r (fw_u σ a (j : Int) v) else none
      | none => none
    | _ => none
  | .new n => match fw_cr (fw_oc k) n with
    | some c => if fw_kd (σ (-1) 0) = (c : Int) + 3 then fw_nx (pc + 3) ll ((2, σ (-1) 0) :: st) (fw_nw σ (fw_nf c)) else none
    | none => match fw_xr n with
      | some (ic, x) => if fw_oc k = 8 ∧ fw_hs k = [] ∧ st = [] ∧ 4 ≤ fw_rk k ∧ fw_dec k (pc + 3) = some (.dup, 1) ∧ fw_dec k (pc + 4) = some (.invokespecial ic, 3) ∧ fw_dec k (pc + 7) = some (.athrow, 1) then fw_fi (9, (x : Int)) (fw_ex σ) else none
      | none => none
  | .newarray t => match st with
    | (0, n) :: r => if 0 ≤ n ∧ n ≤ 300 ∧ fw_kd (σ (-1) 0) = fw_ak t ∧ fw_ln (σ (-1) 0) = n then fw_nx (pc + 2) ll ((2, σ (-1) 0) :: r) (fw_nw σ n) else none
    | _ => none
  | .anewarray m => match st with
    | (0, n) :: r => if fw_oc k = 6 ∧ m = 9 ∧ 0 ≤ n ∧ n ≤ 300 ∧ fw_kd (σ (-1) 0) = 105 ∧ fw_ln (σ (-1) 0) = n then fw_nx (pc + 3) ll ((2, σ (-1) 0) :: r) (fw_nw σ n) else none
    | _ => none
  | .multianewarray m d => match st with
    | [(0, x), (0, y), (2, z)] => if x = 30 ∧ y = 6 ∧ fw_oc k = 9 ∧ m = 23 ∧ d = 2 ∧ σ (-1) 0 = 37 then fw_nx (pc + 4) ll [(2, 37), (2, z)] (fw_mn σ) else none
    | _ => none
  | .invokevirtual n => match fw_mr (fw_oc k) n with
    | some (cal, 0) => if fw_ki cal = 0 then fw_ca k cal true st else none
    | _ => none
  | .invokespecial n => match fw_mr (fw_oc k) n with
    | some (1002, 0) => match st with
      | (2, x) :: r => if x ≠ 0 ∧ r.length ≤ 4 then fw_nx (pc + 3) ll r σ else none
      | _ => none
    | some (cal, _) => if fw_ki cal = 2 then fw_ca k cal true st else none
    | none => none
  | .invokestatic n => match fw_mr (fw_oc k) n with
    | some (1000, 0) => match st with
      | (0, y) :: (0, x) :: r => if r.length ≤ 4 then fw_nx (pc + 3) ll ((0, if x < y then y else x) :: r) σ else none
      | _ => none
    | some (1001, 0) => match st with
      | (0, y) :: (0, x) :: r => if r.length ≤ 4 then fw_nx (pc + 3) ll ((0, if y < x then y else x) :: r) σ else none
      | _ => none
    | some (cal, _) => if fw_ki cal = 1 ∨ fw_ki cal = 3 then fw_ca k cal false st else none
    | none => none
  | .ireturn => match st with
    | [(0, x)] => if fw_ri k x then fw_fi (0, x) σ else none
    | _ => none
  | .lreturn => match st with
    | [(1, x)] => if fw_rt k = some .long then fw_fi (1, x) σ else none
    | _ => none
  | .dreturn => match st with
    | [(3, x)] => if fw_rt k = some .double then fw_fi (3, x) σ else none
    | _ => none
  | .freturn => match st with
    | [(4, x)] => if fw_rt k = some .float then fw_fi (4, x) σ else none
    | _ => none
  | .areturn => match st with
    | [(2, x)] => if fw_rt k = some (.object RX1) then fw_fi (2, x) σ else none
    | _ => none
  | .return_ => if fw_rt k = none ∧ st = [] then fw_fi (5, 0) σ else none
  | _ => none
/-- how long an instruction is -/
def fw_il (i : Instr) (n : Nat) : Bool := match i with
  | .bipush _ | .ldc _ | .iload _ | .aload _ | .lload _ | .fload _ | .istore _ | .astore _ | .fstore _ | .lstore _ | .newarray _ => n == 2
  | .multianewarray _ _ => n == 4
  | .sipush _ | .ldc2_w _ | .iinc _ _ | .goto _ | .ifCond _ _ | .if_icmp _ _ | .ifnull _ | .ifnonnull _ | .getfield _ | .putfield _ | .new _ | .anewarray _ | .invokevirtual _ | .invokespecial _ | .invokestatic _ => n == 3
  | .tableswitch _ _ _ _ => true
  | _ => n == 1
def fw_s1 (k pc : Nat) (ll st : List fw_V) (σ : fw_M) : Option fw_A := match fw_dec k pc with
  | some (i, n) => if fw_il i n then fw_si k pc ll st σ i else none
  | none => none
/-- behind a call -/
def fw_af (k pc : Nat) (ll rest : List fw_V) (o : fw_O) : Option ((Nat × List fw_V × List fw_V × fw_M) ⊕ fw_O) :=
  if o.1.1 = 9 then match fw_hd k pc o.1.2.toNat with
    | some h => some (.inl (h, ll, [(7, 0)], o.2))
    | none => if k ≠ 0 ∧ fw_hs k = [] then some (.inr o) else none
  else if o.1.1 = 5 then some (.inl (pc + 3, ll, rest, o.2)) else some (.inl (pc + 3, ll, o.1 :: rest, o.2))
def fw_en (k : Nat) (as : List fw_V) : List fw_V := as ++ List.replicate (fw_mL k - as.length) (8, 0)
/-- n steps at most -/
def fw_ev : Nat → Nat → Nat → List fw_V → List fw_V → fw_M → Option fw_O
  | 0, _, _, _, _, _ => none
  | n + 1, k, pc, ll, st, σ => match fw_s1 k pc ll st σ with
    | none => none
    | some (.inl (pc', ll', st', σ')) => fw_ev n k pc' ll' st' σ'
    | some (.inr (.inl o)) => some o
    | some (.inr (.inr (c, as, rest))) => match fw_ev n c 0 (fw_en c as) [] σ with
      | none => none
      | some o => match fw_af k pc ll rest o with
        | none => none
        | some (.inl (pc', ll', st', σ')) => fw_ev n k pc' ll' st' σ'
        | some (.inr o') => some o'
end
section
/-- the classes of the worlds: entry c + 2 is class c -/
def fw_Cl : List vw_C := [(RX0, TX0, 4), (RX0, TX0, 4), (RX0, TX0, 4), (RX1, TX1, 6), (RX2, TX2, 3), (RX3, TX3, 9), (RX4, TX4, 10), (RX5, TX5, 2), (RX6, TX6, 7), (RX7, TX7, 4), (RX8, TX8, 9), (RX9, TX9, 23)]
def fw_ws : List Cond := lw_tbl.filter goodWord
theorem fw_t_tbl (j : Nat) : ∀ w ∈ fw_t j, w ∈ lw_tbl := by
  intro w h
  refine List.mem_append_right _ ?_
  unfold tables_1
  match j, h with
  | 1, h => exact List.mem_append_left _ h
  | 2, h => exact List.mem_append_right _ (List.mem_append_left _ h)
  | 3, h => exact List.mem_append_right _ (List.mem_append_right _ (List.mem_append_left _ h))
  | 4, h => exact List.mem_append_right _ (List.mem_append_right _ (List.mem_append_right _ (List.mem_append_left _ h)))
  | 0, h => exact List.mem_append_right _ (List.mem_append_right _ (List.mem_append_right _ (List.mem_append_right _ h)))
  | n + 5, h => exact List.mem_append_right _ (List.mem_append_right _ (List.mem_append_right _ (List.mem_append_right _ h)))
theorem fw_tw (j i : Nat) {w : Cond} (h : (fw_t j)[i]? = some w) : w ∈ lw_tbl := fw_t_tbl j w (List.mem_of_getElem? h)
theorem fw_wd (j i : Nat) {w : Cond} (h : (fw_t j)[i]? = some w) (g : goodWord w = true) : w ∈ fw_ws := List.mem_filter.mpr ⟨fw_tw j i h, g⟩
theorem fw_ws_good : ∀ w ∈ fw_ws, (w.onTables && w.keeps) = true ∨ ∃ ty, w = .arrayClass ty := fun w h => good_of_word (List.mem_filter.mp h).2
theorem fw_ws_tbl : ∀ w ∈ fw_ws, w ∈ lw_tbl := fun w h => (List.mem_filter.mp h).1
theorem fw_goodIn {ws : List Cond} (h : ∀ w ∈ ws, w ∈ fw_ws) : GoodIn fw_ws ws := fun w hw => ⟨h w hw, fw_ws_good w (h w hw)⟩
theorem fw_u0 : ∀ w ∈ u_ws (fw_CN 0) (fw_CT 0) (fw_nf 0), w ∈ fw_ws := by
  intro w h
  obtain ⟨k, hk, rfl⟩ := List.mem_map.mp h
  have hk := List.mem_range.mp hk
  match k, hk with
  | 0, _ => exact fw_wd 1 96 rfl rfl
  | 1, _ => exact fw_wd 1 98 rfl rfl
  | 2, _ => exact fw_wd 1 100 rfl rfl
  | 3, _ => exact fw_wd 1 102 rfl rfl
  | n + 4, hk => exact absurd hk (by show ¬ (n + 4 < 4); omega)
theorem fw_u1 : ∀ w ∈ u_ws (fw_CN 1) (fw_CT 1) (fw_nf 1), w ∈ fw_ws := by
  intro w h
  obtain ⟨k, hk, rfl⟩ := List.mem_map.mp h
  have hk := List.mem_range.mp hk
  match k, hk with
  | 0, _ => exact fw_wd 2 164 rfl rfl
  | 1, _ => exact fw_wd 2 166 rfl rfl
  | 2, _ => exact fw_wd 2 168 rfl rfl
  | 3, _ => exact fw_wd 2 170 rfl rfl
  | 4, _ => exact fw_wd 2 172 rfl rfl
  | 5, _ => exact fw_wd 2 174 rfl rfl
  | n + 6, hk => exact absurd hk (by show ¬ (n + 6 < 6); omega)
theorem fw_u2 : ∀ w ∈ u_ws (fw_CN 2) (fw_CT 2) (fw_nf 2), w ∈ fw_ws := by
  intro w h
  obtain ⟨k, hk, rfl⟩ := List.mem_map.mp h
  have hk := List.mem_range.mp hk
  match k, hk with
  | 0, _ => exact fw_wd 1 225 rfl rfl
  | 1, _ => exact fw_wd 1 227 rfl rfl
  | 2, _ => exact fw_wd 1 229 rfl rfl
  | n + 3, hk => exact absurd hk (by show ¬ (n + 3 < 3); omega)
theorem fw_u3 : ∀ w ∈ u_ws (fw_CN 3) (fw_CT 3) (fw_nf 3), w ∈ fw_ws := by
  intro w h
  obtain ⟨k, hk, rfl⟩ := List.mem_map.mp h
  have hk := List.mem_range.mp hk
  match k, hk with
  | 0, _ => exact fw_wd 1 175 rfl rfl
  | 1, _ => exact fw_wd 1 177 rfl rfl
  | 2, _ => exact fw_wd 1 179 rfl rfl
  | 3, _ => exact fw_wd 1 181 rfl rfl
  | 4, _ => exact fw_wd 1 183 rfl rfl
  | 5, _ => exact fw_wd 1 185 rfl rfl
  | 6, _ => exact fw_wd 1 187 rfl rfl
  | 7, _ => exact fw_wd 1 189 rfl rfl
  | 8, _ => exact fw_wd 1 191 rfl rfl
  | n + 9, hk => exact absurd hk (by show ¬ (n + 9 < 9); omega)
theorem fw_u4 : ∀ w ∈ u_ws (fw_CN 4) (fw_CT 4) (fw_nf 4), w ∈ fw_ws := by
  intro w h
  obtain ⟨k, hk, rfl⟩ := List.mem_map.mp h
  have hk := List.mem_range.mp hk
  match k, hk with
  | 0, _ => exact fw_wd 1 52 rfl rfl
  | 1, _ => exact fw_wd 1 54 rfl rfl
  | 2, _ => exact fw_wd 1 56 rfl rfl
  | 3, _ => exact fw_wd 1 58 rfl rfl
  | 4, _ => exact fw_wd 1 60 rfl rfl
  | 5, _ => exact fw_wd 1 62 rfl rfl
  | 6, _ => exact fw_wd 1 64 rfl rfl
  | 7, _ => exact fw_wd 1 66 rfl rfl
  | 8, _ => exact fw_wd 1 68 rfl rfl
  | 9, _ => exact fw_wd 1 70 rfl rfl
  | n + 10, hk => exact absurd hk (by show ¬ (n + 10 < 10); omega)
theorem fw_u5 : ∀ w ∈ u_ws (fw_CN 5) (fw_CT 5) (fw_nf 5), w ∈ fw_ws := by
  intro w h
  obtain ⟨k, hk, rfl⟩ := List.mem_map.mp h
  have hk := List.mem_range.mp hk
  match k, hk with
  | 0, _ => exact fw_wd 1 207 rfl rfl
  | 1, _ => exact fw_wd 1 209 rfl rfl
  | n + 2, hk => exact absurd hk (by show ¬ (n + 2 < 2); omega)
theorem fw_u6 : ∀ w ∈ u_ws (fw_CN 6) (fw_CT 6) (fw_nf 6), w ∈ fw_ws := by
  intro w h
  obtain ⟨k, hk, rfl⟩ := List.mem_map.mp h
  have hk := List.mem_range.mp hk
  match k, hk with
  | 0, _ => exact fw_wd 1 124 rfl rfl
  | 1, _ => exact fw_wd 1 126 rfl rfl
  | 2, _ => exact fw_wd 1 128 rfl rfl
  | 3, _ => exact fw_wd 1 130 rfl rfl
  | 4, _ => exact fw_wd 1 132 rfl rfl
  | 5, _ => exact fw_wd 1 134 rfl rfl
  | 6, _ => exact fw_wd 1 136 rfl rfl
  | n + 7, hk => exact absurd hk (by show ¬ (n + 7 < 7); omega)
theorem fw_u7 : ∀ w ∈ u_ws (fw_CN 7) (fw_CT 7) (fw_nf 7), w ∈ fw_ws := by
  intro w h
  obtain ⟨k, hk, rfl⟩ := List.mem_map.mp h
  have hk := List.mem_range.mp hk
  match k, hk with
  | 0, _ => exact fw_wd 1 149 rfl rfl
  | 1, _ => exact fw_wd 1 151 rfl rfl
  | 2, _ => exact fw_wd 1 153 rfl rfl
  | 3, _ => exact fw_wd 1 155 rfl rfl
  | n + 4, hk => exact absurd hk (by show ¬ (n + 4 < 4); omega)
theorem fw_u8 : ∀ w ∈ u_ws (fw_CN 8) (fw_CT 8) (fw_nf 8), w ∈ fw_ws := by
  intro w h
  obtain ⟨k, hk, rfl⟩ := List.mem_map.mp h
  have hk := List.mem_range.mp hk
  match k, hk with
  | 0, _ => exact fw_wd 2 1 rfl rfl
  | 1, _ => exact fw_wd 2 3 rfl rfl
  | 2, _ => exact fw_wd 2 5 rfl rfl
  | 3, _ => exact fw_wd 2 7 rfl rfl
  | 4, _ => exact fw_wd 2 9 rfl rfl
  | 5, _ => exact fw_wd 2 11 rfl rfl
  | 6, _ => exact fw_wd 2 13 rfl rfl
  | 7, _ => exact fw_wd 2 15 rfl rfl
  | 8, _ => exact fw_wd 2 17 rfl rfl
  | n + 9, hk => exact absurd hk (by show ¬ (n + 9 < 9); omega)
theorem fw_u9 : ∀ w ∈ u_ws (fw_CN 9) (fw_CT 9) (fw_nf 9), w ∈ fw_ws := by
  intro w h
  obtain ⟨k, hk, rfl⟩ := List.mem_map.mp h
  have hk := List.mem_range.mp hk
  match k, hk with
  | 0, _ => exact fw_wd 3 149 rfl rfl
  | 1, _ => exact fw_wd 3 151 rfl rfl
  | 2, _ => exact fw_wd 3 153 rfl rfl
  | 3, _ => exact fw_wd 3 155 rfl rfl
  | 4, _ => exact fw_wd 3 157 rfl rfl
  | 5, _ => exact fw_wd 3 159 rfl rfl
  | 6, _ => exact fw_wd 3 161 rfl rfl
  | 7, _ => exact fw_wd 3 163 rfl rfl
  | 8, _ => exact fw_wd 3 165 rfl rfl
  | 9, _ => exact fw_wd 3 167 rfl rfl
  | 10, _ => exact fw_wd 3 169 rfl rfl
  | 11, _ => exact fw_wd 3 171 rfl rfl
  | 12, _ => exact fw_wd 3 173 rfl rfl
  | 13, _ => exact fw_wd 3 175 rfl rfl
  | 14, _ => exact fw_wd 3 177 rfl rfl
  | 15, _ => exact fw_wd 3 179 rfl rfl
  | 16, _ => exact fw_wd 3 181 rfl rfl
  | 17, _ => exact fw_wd 3 183 rfl rfl
  | 18, _ => exact fw_wd 3 185 rfl rfl
  | 19, _ => exact fw_wd 3 187 rfl rfl
  | 20, _ => exact fw_wd 3 189 rfl rfl
  | 21, _ => exact fw_wd 3 191 rfl rfl
  | 22, _ => exact fw_wd 3 193 rfl rfl
  | n + 23, hk => exact absurd hk (by show ¬ (n + 23 < 23); omega)
theorem fw_uw (c : Nat) (h : c < 10) : ∀ w ∈ u_ws (fw_CN c) (fw_CT c) (fw_nf c), w ∈ fw_ws := by
  match c, h with
  | 0, _ => exact fw_u0
  | 1, _ => exact fw_u1
  | 2, _ => exact fw_u2
  | 3, _ => exact fw_u3
  | 4, _ => exact fw_u4
  | 5, _ => exact fw_u5
  | 6, _ => exact fw_u6
  | 7, _ => exact fw_u7
  | 8, _ => exact fw_u8
  | 9, _ => exact fw_u9
  | n + 10, h => exact absurd h (by omega)
theorem fw_cl (c : Nat) (h : c < 10) : fw_Cl[c + 2]? = some (fw_CN c, fw_CT c, fw_nf c) := by
  match c, h with
  | 0, _ => rfl
  | 1, _ => rfl
  | 2, _ => rfl
  | 3, _ => rfl
  | 4, _ => rfl
  | 5, _ => rfl
  | 6, _ => rfl
  | 7, _ => rfl
  | 8, _ => rfl
  | 9, _ => rfl
  | n + 10, h => exact absurd h (by omega)
theorem fw_tyok (c : Nat) (h : c < 10) : ∀ k, k < fw_nf c → parseFieldDescriptor (fw_CT c k).2.2.1 = some (fw_ty c k) := by
  match c, h with
  | 0, _ => exact tyX0_ok
  | 1, _ => exact tyX1_ok
  | 2, _ => exact tyX2_ok
  | 3, _ => exact tyX3_ok
  | 4, _ => exact tyX4_ok
  | 5, _ => exact tyX5_ok
  | 6, _ => exact tyX6_ok
  | 7, _ => exact tyX7_ok
  | 8, _ => exact tyX8_ok
  | 9, _ => exact tyX9_ok
  | n + 10, h => exact absurd h (by omega)
theorem fw_nmok (c : Nat) (h : c < 10) : ∀ a, a < fw_nf c → ∀ b, b < fw_nf c → a ≠ b → (fw_CT c a).2.1 ≠ (fw_CT c b).2.1 := by
  match c, h with
  | 0, _ => exact nmX0
  | 1, _ => exact nmX1
  | 2, _ => exact nmX2
  | 3, _ => exact nmX3
  | 4, _ => exact nmX4
  | 5, _ => exact nmX5
  | 6, _ => exact nmX6
  | 7, _ => exact nmX7
  | 8, _ => exact nmX8
  | 9, _ => exact nmX9
  | n + 10, h => exact absurd h (by omega)
theorem fw_ini (c : Nat) (h : c < 11) : Cond.initialized (fw_CN c) ∈ fw_ws := by
  match c, h with
  | 0, _ => exact fw_wd 1 3 rfl rfl
  | 1, _ => exact fw_wd 1 17 rfl rfl
  | 2, _ => exact fw_wd 1 9 rfl rfl
  | 3, _ => exact fw_wd 1 7 rfl rfl
  | 4, _ => exact fw_wd 1 2 rfl rfl
  | 5, _ => exact fw_wd 1 8 rfl rfl
  | 6, _ => exact fw_wd 1 5 rfl rfl
  | 7, _ => exact fw_wd 1 6 rfl rfl
  | 8, _ => exact fw_wd 1 1 rfl rfl
  | 9, _ => exact fw_wd 1 10 rfl rfl
  | 10, _ => exact fw_wd 1 0 rfl rfl
  | n + 11, h => exact absurd h (by omega)
theorem fw_fr_ok : ∀ q ∈ fw_frT, (fw_t q.2.2.2.2.1)[q.2.2.2.2.2]? = some (.fieldLink (fw_CN q.1) q.2.1 (fw_CN q.2.2.1) (fw_CT q.2.2.1 q.2.2.2.1).2.1 (fw_CT q.2.2.1 q.2.2.2.1).2.2.1) ∧ q.2.2.2.1 < fw_nf q.2.2.1 ∧ q.2.2.1 < 10 ∧ (fw_CT q.2.2.1 q.2.2.2.1).1 = fw_CN q.2.2.1 := by decide +kernel
theorem fw_fn_ok : ∀ q ∈ fw_fnT, (fw_t q.2.2.2.2.1)[q.2.2.2.2.2]? = some (.fieldLinkNest (fw_CN q.1) q.2.1 (fw_CN q.2.2.1) (fw_CT q.2.2.1 q.2.2.2.1).2.1 (fw_CT q.2.2.1 q.2.2.2.1).2.2.1 (fw_CN 10)) ∧ q.2.2.2.1 < fw_nf q.2.2.1 ∧ q.2.2.1 < 10 ∧ (fw_CT q.2.2.1 q.2.2.2.1).1 = fw_CN q.2.2.1 := by decide +kernel
theorem fw_ki_ok : ∀ q ∈ fw_kiT, (fw_t q.2.2.2.1)[q.2.2.2.2]? = some (.constant (fw_CN q.1) q.2.1 (Int32.ofInt q.2.2.1)) ∧ (Int32.ofInt q.2.2.1).toInt = q.2.2.1 := by decide +kernel
theorem fw_kl_ok : ∀ q ∈ fw_klT, (fw_t q.2.2.2.1)[q.2.2.2.2]? = some (.constantLong (fw_CN q.1) q.2.1 (Int64.ofInt q.2.2.1)) ∧ (Int64.ofInt q.2.2.1).toInt = q.2.2.1 := by decide +kernel
theorem fw_cr_ok : ∀ q ∈ fw_crT, (fw_t q.2.2.2.1)[q.2.2.2.2]? = some (.classLink (fw_CN q.1) q.2.1 (fw_CN q.2.2.1)) ∧ q.2.2.1 < 10 := by decide +kernel
theorem fw_xr_ok : ∀ q ∈ fw_xrT, (fw_t q.2.2.2.1)[q.2.2.2.2]? = some (.classLink (fw_CN 8) q.1 (fw_xn q.2.2.1)) ∧ q.2.2.1 < 6 := by decide +kernel
theorem fw_mr_ok : ∀ q ∈ fw_mrT, q.2.2.1 < 137 → q.2.2.2.1 = 0 → (fw_t q.2.2.2.2.1)[q.2.2.2.2.2]? = some (.methodLink (fw_CN q.1) q.2.1 (fw_y q.2.2.1)) := by decide +kernel
theorem fw_mr_lt : ∀ q ∈ fw_mrT, (q.2.2.1 < 137 ∨ 1000 ≤ q.2.2.1) ∧ q.2.2.2.1 < 2 := by decide +kernel
theorem fw_ins (c : Nat) (h : c < 10) : Cond.instantiable (fw_CN c) (fw_nf c) ∈ fw_ws := by
  match c, h with
  | 0, _ => exact fw_wd 1 76 rfl rfl
  | 1, _ => exact fw_wd 2 144 rfl rfl
  | 2, _ => exact fw_wd 1 213 rfl rfl
  | 3, _ => exact fw_wd 1 159 rfl rfl
  | 4, _ => exact fw_wd 1 30 rfl rfl
  | 5, _ => exact fw_wd 1 195 rfl rfl
  | 6, _ => exact fw_wd 1 106 rfl rfl
  | 7, _ => exact fw_wd 1 140 rfl rfl
  | 8, _ => exact fw_wd 1 22 rfl rfl
  | 9, _ => exact fw_wd 3 100 rfl rfl
  | n + 10, h => exact absurd h (by omega)
set_option maxRecDepth 20000 in
theorem fw_c1 : (fw_t 1)[79]? = some (.code (fw_y 1) (fw_B 1) (fw_mL 1) (fw_rt 1)) := rfl
set_option maxRecDepth 20000 in
theorem fw_c2 : (fw_t 1)[84]? = some (.code (fw_y 2) (fw_B 2) (fw_mL 2) (fw_rt 2)) := rfl
set_option maxRecDepth 20000 in
theorem fw_c3 : (fw_t 3)[41]? = some (.code (fw_y 3) (fw_B 3) (fw_mL 3) (fw_rt 3)) := rfl
set_option maxRecDepth 20000 in
theorem fw_c4 : (fw_t 2)[239]? = some (.code (fw_y 4) (fw_B 4) (fw_mL 4) (fw_rt 4)) := rfl
set_option maxRecDepth 20000 in
theorem fw_c5 : (fw_t 2)[235]? = some (.code (fw_y 5) (fw_B 5) (fw_mL 5) (fw_rt 5)) := rfl
set_option maxRecDepth 20000 in
theorem fw_c6 : (fw_t 3)[49]? = some (.code (fw_y 6) (fw_B 6) (fw_mL 6) (fw_rt 6)) := rfl
set_option maxRecDepth 20000 in
theorem fw_c7 : (fw_t 2)[231]? = some (.code (fw_y 7) (fw_B 7) (fw_mL 7) (fw_rt 7)) := rfl
set_option maxRecDepth 20000 in
theorem fw_c8 : (fw_t 3)[81]? = some (.code (fw_y 8) (fw_B 8) (fw_mL 8) (fw_rt 8)) := rfl
set_option maxRecDepth 20000 in
theorem fw_c9 : (fw_t 4)[2]? = some (.code (fw_y 9) (fw_B 9) (fw_mL 9) (fw_rt 9)) := rfl
set_option maxRecDepth 20000 in
theorem fw_c10 : (fw_t 3)[58]? = some (.code (fw_y 10) (fw_B 10) (fw_mL 10) (fw_rt 10)) := rfl
set_option maxRecDepth 20000 in
theorem fw_c11 : (fw_t 3)[76]? = some (.code (fw_y 11) (fw_B 11) (fw_mL 11) (fw_rt 11)) := rfl
set_option maxRecDepth 20000 in
theorem fw_c12 : (fw_t 2)[147]? = some (.code (fw_y 12) (fw_B 12) (fw_mL 12) (fw_rt 12)) := rfl
set_option maxRecDepth 20000 in
theorem fw_c13 : (fw_t 4)[194]? = some (.code (fw_y 13) (fw_B 13) (fw_mL 13) (fw_rt 13)) := rfl
set_option maxRecDepth 20000 in
theorem fw_c14 : (fw_t 5)[37]? = some (.code (fw_y 14) (fw_B 14) (fw_mL 14) (fw_rt 14)) := rfl
set_option maxRecDepth 20000 in
theorem fw_c15 : (fw_t 3)[19]? = some (.code (fw_y 15) (fw_B 15) (fw_mL 15) (fw_rt 15)) := rfl
set_option maxRecDepth 20000 in
theorem fw_c16 : (fw_t 3)[23]? = some (.code (fw_y 16) (fw_B 16) (fw_mL 16) (fw_rt 16)) := rfl
set_option maxRecDepth 20000 in
theorem fw_c17 : (fw_t 1)[216]? = some (.code (fw_y 17) (fw_B 17) (fw_mL 17) (fw_rt 17)) := rfl
set_option maxRecDepth 20000 in
theorem fw_c18 : (fw_t 5)[49]? = some (.code (fw_y 18) (fw_B 18) (fw_mL 18) (fw_rt 18)) := rfl
set_option maxRecDepth 20000 in
theorem fw_c19 : (fw_t 5)[27]? = some (.code (fw_y 19) (fw_B 19) (fw_mL 19) (fw_rt 19)) := rfl
set_option maxRecDepth 20000 in
theorem fw_c20 : (fw_t 5)[57]? = some (.code (fw_y 20) (fw_B 20) (fw_mL 20) (fw_rt 20)) := rfl
set_option maxRecDepth 20000 in
theorem fw_c21 : (fw_t 5)[62]? = some (.code (fw_y 21) (fw_B 21) (fw_mL 21) (fw_rt 21)) := rfl
set_option maxRecDepth 20000 in
theorem fw_c22 : (fw_t 5)[72]? = some (.code (fw_y 22) (fw_B 22) (fw_mL 22) (fw_rt 22)) := rfl
set_option maxRecDepth 20000 in
theorem fw_c23 : (fw_t 5)[53]? = some (.code (fw_y 23) (fw_B 23) (fw_mL 23) (fw_rt 23)) := rfl
set_option maxRecDepth 20000 in
theorem fw_c24 : (fw_t 1)[162]? = some (.code (fw_y 24) (fw_B 24) (fw_mL 24) (fw_rt 24)) := rfl
set_option maxRecDepth 20000 in
theorem fw_c25 : (fw_t 3)[32]? = some (.code (fw_y 25) (fw_B 25) (fw_mL 25) (fw_rt 25)) := rfl
set_option maxRecDepth 20000 in
theorem fw_c26 : (fw_t 3)[89]? = some (.code (fw_y 26) (fw_B 26) (fw_mL 26) (fw_rt 26)) := rfl
set_option maxRecDepth 20000 in
theorem fw_c27 : (fw_t 3)[36]? = some (.code (fw_y 27) (fw_B 27) (fw_mL 27) (fw_rt 27)) := rfl
set_option maxRecDepth 20000 in
theorem fw_c28 : (fw_t 3)[45]? = some (.code (fw_y 28) (fw_B 28) (fw_mL 28) (fw_rt 28)) := rfl
set_option maxRecDepth 20000 in
theorem fw_c29 : (fw_t 3)[93]? = some (.code (fw_y 29) (fw_B 29) (fw_mL 29) (fw_rt 29)) := rfl
set_option maxRecDepth 20000 in
theorem fw_c30 : (fw_t 3)[97]? = some (.code (fw_y 30) (fw_B 30) (fw_mL 30) (fw_rt 30)) := rfl
set_option maxRecDepth 20000 in
theorem fw_c31 : (fw_t 3)[62]? = some (.code (fw_y 31) (fw_B 31) (fw_mL 31) (fw_rt 31)) := rfl
set_option maxRecDepth 20000 in
theorem fw_c32 : (fw_t 1)[33]? = some (.code (fw_y 32) (fw_B 32) (fw_mL 32) (fw_rt 32)) := rfl
set_option maxRecDepth 20000 in
theorem fw_c33 : (fw_t 3)[11]? = some (.code (fw_y 33) (fw_B 33) (fw_mL 33) (fw_rt 33)) := rfl
set_option maxRecDepth 20000 in
theorem fw_c34 : (fw_t 4)[139]? = some (.code (fw_y 34) (fw_B 34) (fw_mL 34) (fw_rt 34)) := rfl
set_option maxRecDepth 20000 in
theorem fw_c35 : (fw_t 4)[178]? = some (.code (fw_y 35) (fw_B 35) (fw_mL 35) (fw_rt 35)) := rfl
set_option maxRecDepth 20000 in
theorem fw_c36 : (fw_t 4)[189]? = some (.code (fw_y 36) (fw_B 36) (fw_mL 36) (fw_rt 36)) := rfl
set_option maxRecDepth 20000 in
theorem fw_c37 : (fw_t 5)[33]? = some (.code (fw_y 37) (fw_B 37) (fw_mL 37) (fw_rt 37)) := rfl
set_option maxRecDepth 20000 in
theorem fw_c38 : (fw_t 3)[66]? = some (.code (fw_y 38) (fw_B 38) (fw_mL 38) (fw_rt 38)) := rfl
set_option maxRecDepth 20000 in
theorem fw_c39 : (fw_t 3)[234]? = some (.code (fw_y 39) (fw_B 39) (fw_mL 39) (fw_rt 39)) := rfl
set_option maxRecDepth 20000 in
theorem fw_c40 : (fw_t 4)[8]? = some (.code (fw_y 40) (fw_B 40) (fw_mL 40) (fw_rt 40)) := rfl
set_option maxRecDepth 20000 in
theorem fw_c41 : (fw_t 4)[16]? = some (.code (fw_y 41) (fw_B 41) (fw_mL 41) (fw_rt 41)) := rfl
set_option maxRecDepth 20000 in
theorem fw_c42 : (fw_t 4)[89]? = some (.code (fw_y 42) (fw_B 42) (fw_mL 42) (fw_rt 42)) := rfl
set_option maxRecDepth 20000 in
theorem fw_c43 : (fw_t 1)[198]? = some (.code (fw_y 43) (fw_B 43) (fw_mL 43) (fw_rt 43)) := rfl
set_option maxRecDepth 20000 in
theorem fw_c44 : (fw_t 3)[7]? = some (.code (fw_y 44) (fw_B 44) (fw_mL 44) (fw_rt 44)) := rfl
set_option maxRecDepth 20000 in
theorem fw_c45 : (fw_t 4)[198]? = some (.code (fw_y 45) (fw_B 45) (fw_mL 45) (fw_rt 45)) := rfl
set_option maxRecDepth 20000 in
theorem fw_c46 : (fw_t 3)[27]? = some (.code (fw_y 46) (fw_B 46) (fw_mL 46) (fw_rt 46)) := rfl
set_option maxRecDepth 20000 in
theorem fw_c47 : (fw_t 1)[109]? = some (.code (fw_y 47) (fw_B 47) (fw_mL 47) (fw_rt 47)) := rfl
set_option maxRecDepth 20000 in
theorem fw_c48 : (fw_t 2)[143]? = some (.code (fw_y 48) (fw_B 48) (fw_mL 48) (fw_rt 48)) := rfl
set_option maxRecDepth 20000 in
theorem fw_c49 : (fw_t 2)[124]? = some (.code (fw_y 49) (fw_B 49) (fw_mL 49) (fw_rt 49)) := rfl
set_option maxRecDepth 20000 in
theorem fw_c50 : (fw_t 2)[120]? = some (.code (fw_y 50) (fw_B 50) (fw_mL 50) (fw_rt 50)) := rfl
set_option maxRecDepth 20000 in
theorem fw_c51 : (fw_t 2)[116]? = some (.code (fw_y 51) (fw_B 51) (fw_mL 51) (fw_rt 51)) := rfl
set_option maxRecDepth 20000 in
theorem fw_c52 : (fw_t 4)[219]? = some (.code (fw_y 52) (fw_B 52) (fw_mL 52) (fw_rt 52)) := rfl
set_option maxRecDepth 20000 in
theorem fw_c53 : (fw_t 4)[232]? = some (.code (fw_y 53) (fw_B 53) (fw_mL 53) (fw_rt 53)) := rfl
set_option maxRecDepth 20000 in
theorem fw_c54 : (fw_t 4)[236]? = some (.code (fw_y 54) (fw_B 54) (fw_mL 54) (fw_rt 54)) := rfl
set_option maxRecDepth 20000 in
theorem fw_c55 : (fw_t 5)[0]? = some (.code (fw_y 55) (fw_B 55) (fw_mL 55) (fw_rt 55)) := rfl
set_option maxRecDepth 20000 in
theorem fw_c56 : (fw_t 2)[239]? = some (.code (fw_y 56) (fw_B 56) (fw_mL 56) (fw_rt 56)) := rfl
set_option maxRecDepth 20000 in
theorem fw_c57 : (fw_t 2)[210]? = some (.code (fw_y 57) (fw_B 57) (fw_mL 57) (fw_rt 57)) := rfl
set_option maxRecDepth 20000 in
theorem fw_c58 : (fw_t 2)[215]? = some (.code (fw_y 58) (fw_B 58) (fw_mL 58) (fw_rt 58)) := rfl
set_option maxRecDepth 20000 in
theorem fw_c59 : (fw_t 3)[54]? = some (.code (fw_y 59) (fw_B 59) (fw_mL 59) (fw_rt 59)) := rfl
set_option maxRecDepth 20000 in
theorem fw_c60 : (fw_t 3)[71]? = some (.code (fw_y 60) (fw_B 60) (fw_mL 60) (fw_rt 60)) := rfl
set_option maxRecDepth 20000 in
theorem fw_c61 : (fw_t 3)[85]? = some (.code (fw_y 61) (fw_B 61) (fw_mL 61) (fw_rt 61)) := rfl
set_option maxRecDepth 20000 in
theorem fw_c62 : (fw_t 3)[15]? = some (.code (fw_y 62) (fw_B 62) (fw_mL 62) (fw_rt 62)) := rfl
set_option maxRecDepth 20000 in
theorem fw_c63 : (fw_t 1)[143]? = some (.code (fw_y 63) (fw_B 63) (fw_mL 63) (fw_rt 63)) := rfl
set_option maxRecDepth 20000 in
theorem fw_c64 : (fw_t 2)[239]? = some (.code (fw_y 64) (fw_B 64) (fw_mL 64) (fw_rt 64)) := rfl
set_option maxRecDepth 20000 in
theorem fw_c65 : (fw_t 2)[239]? = some (.code (fw_y 65) (fw_B 65) (fw_mL 65) (fw_rt 65)) := rfl
set_option maxRecDepth 20000 in
theorem fw_c66 : (fw_t 2)[239]? = some (.code (fw_y 66) (fw_B 66) (fw_mL 66) (fw_rt 66)) := rfl
set_option maxRecDepth 20000 in
theorem fw_c67 : (fw_t 2)[239]? = some (.code (fw_y 67) (fw_B 67) (fw_mL 67) (fw_rt 67)) := rfl
set_option maxRecDepth 20000 in
theorem fw_c68 : (fw_t 1)[25]? = some (.code (fw_y 68) (fw_B 68) (fw_mL 68) (fw_rt 68)) := rfl
set_option maxRecDepth 20000 in
theorem fw_c69 : (fw_t 2)[23]? = some (.code (fw_y 69) (fw_B 69) (fw_mL 69) (fw_rt 69)) := rfl
set_option maxRecDepth 20000 in
theorem fw_c70 : (fw_t 2)[109]? = some (.code (fw_y 70) (fw_B 70) (fw_mL 70) (fw_rt 70)) := rfl
set_option maxRecDepth 20000 in
theorem fw_c71 : (fw_t 5)[16]? = some (.code (fw_y 71) (fw_B 71) (fw_mL 71) (fw_rt 71)) := rfl
set_option maxRecDepth 20000 in
theorem fw_c72 : (fw_t 5)[12]? = some (.code (fw_y 72) (fw_B 72) (fw_mL 72) (fw_rt 72)) := rfl
set_option maxRecDepth 20000 in
theorem fw_c73 : (fw_t 4)[224]? = some (.code (fw_y 73) (fw_B 73) (fw_mL 73) (fw_rt 73)) := rfl
set_option maxRecDepth 20000 in
theorem fw_c74 : (fw_t 5)[4]? = some (.code (fw_y 74) (fw_B 74) (fw_mL 74) (fw_rt 74)) := rfl
set_option maxRecDepth 20000 in
theorem fw_c75 : (fw_t 4)[215]? = some (.code (fw_y 75) (fw_B 75) (fw_mL 75) (fw_rt 75)) := rfl
set_option maxRecDepth 20000 in
theorem fw_c76 : (fw_t 4)[135]? = some (.code (fw_y 76) (fw_B 76) (fw_mL 76) (fw_rt 76)) := rfl
set_option maxRecDepth 20000 in
theorem fw_c77 : (fw_t 4)[168]? = some (.code (fw_y 77) (fw_B 77) (fw_mL 77) (fw_rt 77)) := rfl
set_option maxRecDepth 20000 in
theorem fw_c78 : (fw_t 4)[32]? = some (.code (fw_y 78) (fw_B 78) (fw_mL 78) (fw_rt 78)) := rfl
set_option maxRecDepth 20000 in
theorem fw_c79 : (fw_t 3)[211]? = some (.code (fw_y 79) (fw_B 79) (fw_mL 79) (fw_rt 79)) := rfl
set_option maxRecDepth 20000 in
theorem fw_c80 : (fw_t 4)[61]? = some (.code (fw_y 80) (fw_B 80) (fw_mL 80) (fw_rt 80)) := rfl
set_option maxRecDepth 20000 in
theorem fw_c81 : (fw_t 3)[238]? = some (.code (fw_y 81) (fw_B 81) (fw_mL 81) (fw_rt 81)) := rfl
set_option maxRecDepth 20000 in
theorem fw_c82 : (fw_t 4)[52]? = some (.code (fw_y 82) (fw_B 82) (fw_mL 82) (fw_rt 82)) := rfl
set_option maxRecDepth 20000 in
theorem fw_c83 : (fw_t 4)[20]? = some (.code (fw_y 83) (fw_B 83) (fw_mL 83) (fw_rt 83)) := rfl
set_option maxRecDepth 20000 in
theorem fw_c84 : (fw_t 4)[24]? = some (.code (fw_y 84) (fw_B 84) (fw_mL 84) (fw_rt 84)) := rfl
set_option maxRecDepth 20000 in
theorem fw_c85 : (fw_t 4)[28]? = some (.code (fw_y 85) (fw_B 85) (fw_mL 85) (fw_rt 85)) := rfl
set_option maxRecDepth 20000 in
theorem fw_c86 : (fw_t 4)[143]? = some (.code (fw_y 86) (fw_B 86) (fw_mL 86) (fw_rt 86)) := rfl
set_option maxRecDepth 20000 in
theorem fw_c87 : (fw_t 4)[150]? = some (.code (fw_y 87) (fw_B 87) (fw_mL 87) (fw_rt 87)) := rfl
set_option maxRecDepth 20000 in
theorem fw_c88 : (fw_t 2)[239]? = some (.code (fw_y 88) (fw_B 88) (fw_mL 88) (fw_rt 88)) := rfl
set_option maxRecDepth 20000 in
theorem fw_c89 : (fw_t 2)[180]? = some (.code (fw_y 89) (fw_B 89) (fw_mL 89) (fw_rt 89)) := rfl
set_option maxRecDepth 20000 in
theorem fw_c90 : (fw_t 4)[208]? = some (.code (fw_y 90) (fw_B 90) (fw_mL 90) (fw_rt 90)) := rfl
set_option maxRecDepth 20000 in
theorem fw_c91 : (fw_t 4)[100]? = some (.code (fw_y 91) (fw_B 91) (fw_mL 91) (fw_rt 91)) := rfl
set_option maxRecDepth 20000 in
theorem fw_c92 : (fw_t 4)[85]? = some (.code (fw_y 92) (fw_B 92) (fw_mL 92) (fw_rt 92)) := rfl
set_option maxRecDepth 20000 in
theorem fw_c93 : (fw_t 4)[65]? = some (.code (fw_y 93) (fw_B 93) (fw_mL 93) (fw_rt 93)) := rfl
set_option maxRecDepth 20000 in
theorem fw_c94 : (fw_t 4)[69]? = some (.code (fw_y 94) (fw_B 94) (fw_mL 94) (fw_rt 94)) := rfl
set_option maxRecDepth 20000 in
theorem fw_c95 : (fw_t 4)[80]? = some (.code (fw_y 95) (fw_B 95) (fw_mL 95) (fw_rt 95)) := rfl
set_option maxRecDepth 20000 in
theorem fw_c96 : (fw_t 5)[23]? = some (.code (fw_y 96) (fw_B 96) (fw_mL 96) (fw_rt 96)) := rfl
set_option maxRecDepth 20000 in
theorem fw_c97 : (fw_t 4)[36]? = some (.code (fw_y 97) (fw_B 97) (fw_mL 97) (fw_rt 97)) := rfl
set_option maxRecDepth 20000 in
theorem fw_c98 : (fw_t 5)[41]? = some (.code (fw_y 98) (fw_B 98) (fw_mL 98) (fw_rt 98)) := rfl
set_option maxRecDepth 20000 in
theorem fw_c99 : (fw_t 5)[67]? = some (.code (fw_y 99) (fw_B 99) (fw_mL 99) (fw_rt 99)) := rfl
set_option maxRecDepth 20000 in
theorem fw_c100 : (fw_t 4)[12]? = some (.code (fw_y 100) (fw_B 100) (fw_mL 100) (fw_rt 100)) := rfl
set_option maxRecDepth 20000 in
theorem fw_c101 : (fw_t 4)[40]? = some (.code (fw_y 101) (fw_B 101) (fw_mL 101) (fw_rt 101)) := rfl
set_option maxRecDepth 20000 in
theorem fw_c102 : (fw_t 4)[104]? = some (.code (fw_y 102) (fw_B 102) (fw_mL 102) (fw_rt 102)) := rfl
set_option maxRecDepth 20000 in
theorem fw_c103 : (fw_t 4)[127]? = some (.code (fw_y 103) (fw_B 103) (fw_mL 103) (fw_rt 103)) := rfl
set_option maxRecDepth 20000 in
theorem fw_c104 : (fw_t 2)[219]? = some (.code (fw_y 104) (fw_B 104) (fw_mL 104) (fw_rt 104)) := rfl
set_option maxRecDepth 20000 in
theorem fw_c105 : (fw_t 2)[112]? = some (.code (fw_y 105) (fw_B 105) (fw_mL 105) (fw_rt 105)) := rfl
set_option maxRecDepth 20000 in
theorem fw_c106 : (fw_t 2)[186]? = some (.code (fw_y 106) (fw_B 106) (fw_mL 106) (fw_rt 106)) := rfl
set_option maxRecDepth 20000 in
theorem fw_c107 : (fw_t 2)[183]? = some (.code (fw_y 107) (fw_B 107) (fw_mL 107) (fw_rt 107)) := rfl
set_option maxRecDepth 20000 in
theorem fw_c108 : (fw_t 4)[146]? = some (.code (fw_y 108) (fw_B 108) (fw_mL 108) (fw_rt 108)) := rfl
set_option maxRecDepth 20000 in
theorem fw_c109 : (fw_t 4)[56]? = some (.code (fw_y 109) (fw_B 109) (fw_mL 109) (fw_rt 109)) := rfl
set_option maxRecDepth 20000 in
theorem fw_c110 : (fw_t 4)[228]? = some (.code (fw_y 110) (fw_B 110) (fw_mL 110) (fw_rt 110)) := rfl
set_option maxRecDepth 20000 in
theorem fw_c111 : (fw_t 3)[215]? = some (.code (fw_y 111) (fw_B 111) (fw_mL 111) (fw_rt 111)) := rfl
set_option maxRecDepth 20000 in
theorem fw_c112 : (fw_t 2)[190]? = some (.code (fw_y 112) (fw_B 112) (fw_mL 112) (fw_rt 112)) := rfl
set_option maxRecDepth 20000 in
theorem fw_c113 : (fw_t 5)[45]? = some (.code (fw_y 113) (fw_B 113) (fw_mL 113) (fw_rt 113)) := rfl
set_option maxRecDepth 20000 in
theorem fw_c114 : (fw_t 4)[108]? = some (.code (fw_y 114) (fw_B 114) (fw_mL 114) (fw_rt 114)) := rfl
set_option maxRecDepth 20000 in
theorem fw_c115 : (fw_t 4)[172]? = some (.code (fw_y 115) (fw_B 115) (fw_mL 115) (fw_rt 115)) := rfl
set_option maxRecDepth 20000 in
theorem fw_c116 : (fw_t 4)[183]? = some (.code (fw_y 116) (fw_B 116) (fw_mL 116) (fw_rt 116)) := rfl
set_option maxRecDepth 20000 in
theorem fw_c117 : (fw_t 4)[202]? = some (.code (fw_y 117) (fw_B 117) (fw_mL 117) (fw_rt 117)) := rfl
set_option maxRecDepth 20000 in
theorem fw_c118 : (fw_t 2)[223]? = some (.code (fw_y 118) (fw_B 118) (fw_mL 118) (fw_rt 118)) := rfl
set_option maxRecDepth 20000 in
theorem fw_c119 : (fw_t 3)[3]? = some (.code (fw_y 119) (fw_B 119) (fw_mL 119) (fw_rt 119)) := rfl
set_option maxRecDepth 20000 in
theorem fw_c120 : (fw_t 2)[227]? = some (.code (fw_y 120) (fw_B 120) (fw_mL 120) (fw_rt 120)) := rfl
set_option maxRecDepth 20000 in
theorem fw_c121 : (fw_t 3)[103]? = some (.code (fw_y 121) (fw_B 121) (fw_mL 121) (fw_rt 121)) := rfl
set_option maxRecDepth 20000 in
theorem fw_c122 : (fw_t 4)[44]? = some (.code (fw_y 122) (fw_B 122) (fw_mL 122) (fw_rt 122)) := rfl
set_option maxRecDepth 20000 in
theorem fw_c123 : (fw_t 4)[164]? = some (.code (fw_y 123) (fw_B 123) (fw_mL 123) (fw_rt 123)) := rfl
set_option maxRecDepth 20000 in
theorem fw_c124 : (fw_t 4)[160]? = some (.code (fw_y 124) (fw_B 124) (fw_mL 124) (fw_rt 124)) := rfl
set_option maxRecDepth 20000 in
theorem fw_c125 : (fw_t 4)[154]? = some (.code (fw_y 125) (fw_B 125) (fw_mL 125) (fw_rt 125)) := rfl
set_option maxRecDepth 20000 in
theorem fw_c126 : (fw_t 4)[74]? = some (.code (fw_y 126) (fw_B 126) (fw_mL 126) (fw_rt 126)) := rfl
set_option maxRecDepth 20000 in
theorem fw_c127 : (fw_t 4)[93]? = some (.code (fw_y 127) (fw_B 127) (fw_mL 127) (fw_rt 127)) := rfl
set_option maxRecDepth 20000 in
theorem fw_c128 : (fw_t 5)[8]? = some (.code (fw_y 128) (fw_B 128) (fw_mL 128) (fw_rt 128)) := rfl
set_option maxRecDepth 20000 in
theorem fw_c129 : (fw_t 3)[199]? = some (.code (fw_y 129) (fw_B 129) (fw_mL 129) (fw_rt 129)) := rfl
set_option maxRecDepth 20000 in
theorem fw_c130 : (fw_t 3)[203]? = some (.code (fw_y 130) (fw_B 130) (fw_mL 130) (fw_rt 130)) := rfl
set_option maxRecDepth 20000 in
theorem fw_c131 : (fw_t 4)[96]? = some (.codeWith (fw_y 131) (fw_B 131) (fw_mL 131) (fw_rt 131) ((fw_hs 131).map (fun h => (h.1, h.2.1, h.2.2.1, h.2.2.2.1)))) := rfl
set_option maxRecDepth 20000 in
theorem fw_c132 : (fw_t 4)[47]? = some (.codeWith (fw_y 132) (fw_B 132) (fw_mL 132) (fw_rt 132) ((fw_hs 132).map (fun h => (h.1, h.2.1, h.2.2.1, h.2.2.2.1)))) := rfl
set_option maxRecDepth 20000 in
theorem fw_c133 : (fw_t 3)[207]? = some (.code (fw_y 133) (fw_B 133) (fw_mL 133) (fw_rt 133)) := rfl
set_option maxRecDepth 20000 in
theorem fw_c134 : (fw_t 4)[211]? = some (.code (fw_y 134) (fw_B 134) (fw_mL 134) (fw_rt 134)) := rfl
set_option maxRecDepth 20000 in
theorem fw_c135 : (fw_t 5)[19]? = some (.code (fw_y 135) (fw_B 135) (fw_mL 135) (fw_rt 135)) := rfl
set_option maxRecDepth 20000 in
theorem fw_c136 : (fw_t 4)[130]? = some (.code (fw_y 136) (fw_B 136) (fw_mL 136) (fw_rt 136)) := rfl
def fw_cw (k : Nat) : Cond := if fw_ki k = 3 then .codeWith (fw_y k) (fw_B k) (fw_mL k) (fw_rt k) ((fw_hs k).map (fun h => (h.1, h.2.1, h.2.2.1, h.2.2.2.1))) else .code (fw_y k) (fw_B k) (fw_mL k) (fw_rt k)
theorem fw_cwa0 (k : Nat) (h : k < 50) (h0 : 0 < k + 0) : fw_cw (k + 0) ∈ fw_ws := by
  match k, h, h0 with
  | 0, _, h0 => exact absurd h0 (by decide)
  | 1, _, _ => exact fw_wd 1 79 fw_c1 rfl
  | 2, _, _ => exact fw_wd 1 84 fw_c2 rfl
  | 3, _, _ => exact fw_wd 3 41 fw_c3 rfl
  | 4, _, _ => exact fw_wd 2 239 fw_c4 rfl
  | 5, _, _ => exact fw_wd 2 235 fw_c5 rfl
  | 6, _, _ => exact fw_wd 3 49 fw_c6 rfl
  | 7, _, _ => exact fw_wd 2 231 fw_c7 rfl
  | 8, _, _ => exact fw_wd 3 81 fw_c8 rfl
  | 9, _, _ => exact fw_wd 4 2 fw_c9 rfl
  | 10, _, _ => exact fw_wd 3 58 fw_c10 rfl
  | 11, _, _ => exact fw_wd 3 76 fw_c11 rfl
  | 12, _, _ => exact fw_wd 2 147 fw_c12 rfl
  | 13, _, _ => exact fw_wd 4 194 fw_c13 rfl
  | 14, _, _ => exact fw_wd 5 37 fw_c14 rfl
  | 15, _, _ => exact fw_wd 3 19 fw_c15 rfl
  | 16, _, _ => exact fw_wd 3 23 fw_c16 rfl
  | 17, _, _ => exact fw_wd 1 216 fw_c17 rfl
  | 18, _, _ => exact fw_wd 5 49 fw_c18 rfl
  | 19, _, _ => exact fw_wd 5 27 fw_c19 rfl
  | 20, _, _ => exact fw_wd 5 57 fw_c20 rfl
  | 21, _, _ => exact fw_wd 5 62 fw_c21 rfl
  | 22, _, _ => exact fw_wd 5 72 fw_c22 rfl
  | 23, _, _ => exact fw_wd 5 53 fw_c23 rfl
  | 24, _, _ => exact fw_wd 1 162 fw_c24 rfl
  | 25, _, _ => exact fw_wd 3 32 fw_c25 rfl
  | 26, _, _ => exact fw_wd 3 89 fw_c26 rfl
  | 27, _, _ => exact fw_wd 3 36 fw_c27 rfl
  | 28, _, _ => exact fw_wd 3 45 fw_c28 rfl
  | 29, _, _ => exact fw_wd 3 93 fw_c29 rfl
  | 30, _, _ => exact fw_wd 3 97 fw_c30 rfl
  | 31, _, _ => exact fw_wd 3 62 fw_c31 rfl
  | 32, _, _ => exact fw_wd 1 33 fw_c32 rfl
  | 33, _, _ => exact fw_wd 3 11 fw_c33 rfl
  | 34, _, _ => exact fw_wd 4 139 fw_c34 rfl
  | 35, _, _ => exact fw_wd 4 178 fw_c35 rfl
  | 36, _, _ => exact fw_wd 4 189 fw_c36 rfl
  | 37, _, _ => exact fw_wd 5 33 fw_c37 rfl
  | 38, _, _ => exact fw_wd 3 66 fw_c38 rfl
  | 39, _, _ => exact fw_wd 3 234 fw_c39 rfl
  | 40, _, _ => exact fw_wd 4 8 fw_c40 rfl
  | 41, _, _ => exact fw_wd 4 16 fw_c41 rfl
  | 42, _, _ => exact fw_wd 4 89 fw_c42 rfl
  | 43, _, _ => exact fw_wd 1 198 fw_c43 rfl
  | 44, _, _ => exact fw_wd 3 7 fw_c44 rfl
  | 45, _, _ => exact fw_wd 4 198 fw_c45 rfl
  | 46, _, _ => exact fw_wd 3 27 fw_c46 rfl
  | 47, _, _ => exact fw_wd 1 109 fw_c47 rfl
  | 48, _, _ => exact fw_wd 2 143 fw_c48 rfl
  | 49, _, _ => exact fw_wd 2 124 fw_c49 rfl
  | n + 50, h, _ => exact absurd h (by omega)
theorem fw_cwa50 (k : Nat) (h : k < 50) (h0 : 0 < k + 50) : fw_cw (k + 50) ∈ fw_ws := by
  match k, h, h0 with
  | 0, _, _ => exact fw_wd 2 120 fw_c50 rfl
  | 1, _, _ => exact fw_wd 2 116 fw_c51 rfl
  | 2, _, _ => exact fw_wd 4 219 fw_c52 rfl
  | 3, _, _ => exact fw_wd 4 232 fw_c53 rfl
  | 4, _, _ => exact fw_wd 4 236 fw_c54 rfl
  | 5, _, _ => exact fw_wd 5 0 fw_c55 rfl
  | 6, _, _ => exact fw_wd 2 239 fw_c56 rfl
  | 7, _, _ => exact fw_wd 2 210 fw_c57 rfl
  | 8, _, _ => exact fw_wd 2 215 fw_c58 rfl
  | 9, _, _ => exact fw_wd 3 54 fw_c59 rfl
  | 10, _, _ => exact fw_wd 3 71 fw_c60 rfl
  | 11, _, _ => exact fw_wd 3 85 fw_c61 rfl
  | 12, _, _ => exact fw_wd 3 15 fw_c62 rfl
  | 13, _, _ => exact fw_wd 1 143 fw_c63 rfl
  | 14, _, _ => exact fw_wd 2 239 fw_c64 rfl
  | 15, _, _ => exact fw_wd 2 239 fw_c65 rfl
  | 16, _, _ => exact fw_wd 2 239 fw_c66 rfl
  | 17, _, _ => exact fw_wd 2 239 fw_c67 rfl
  | 18, _, _ => exact fw_wd 1 25 fw_c68 rfl
  | 19, _, _ => exact fw_wd 2 23 fw_c69 rfl
  | 20, _, _ => exact fw_wd 2 109 fw_c70 rfl
  | 21, _, _ => exact fw_wd 5 16 fw_c71 rfl
  | 22, _, _ => exact fw_wd 5 12 fw_c72 rfl
  | 23, _, _ => exact fw_wd 4 224 fw_c73 rfl
  | 24, _, _ => exact fw_wd 5 4 fw_c74 rfl
  | 25, _, _ => exact fw_wd 4 215 fw_c75 rfl
  | 26, _, _ => exact fw_wd 4 135 fw_c76 rfl
  | 27, _, _ => exact fw_wd 4 168 fw_c77 rfl
  | 28, _, _ => exact fw_wd 4 32 fw_c78 rfl
  | 29, _, _ => exact fw_wd 3 211 fw_c79 rfl
  | 30, _, _ => exact fw_wd 4 61 fw_c80 rfl
  | 31, _, _ => exact fw_wd 3 238 fw_c81 rfl
  | 32, _, _ => exact fw_wd 4 52 fw_c82 rfl
  | 33, _, _ => exact fw_wd 4 20 fw_c83 rfl
  | 34, _, _ => exact fw_wd 4 24 fw_c84 rfl
  | 35, _, _ => exact fw_wd 4 28 fw_c85 rfl
  | 36, _, _ => exact fw_wd 4 143 fw_c86 rfl
  | 37, _, _ => exact fw_wd 4 150 fw_c87 rfl
  | 38, _, _ => exact fw_wd 2 239 fw_c88 rfl
  | 39, _, _ => exact fw_wd 2 180 fw_c89 rfl
  | 40, _, _ => exact fw_wd 4 208 fw_c90 rfl
  | 41, _, _ => exact fw_wd 4 100 fw_c91 rfl
  | 42, _, _ => exact fw_wd 4 85 fw_c92 rfl
  | 43, _, _ => exact fw_wd 4 65 fw_c93 rfl
  | 44, _, _ => exact fw_wd 4 69 fw_c94 rfl
  | 45, _, _ => exact fw_wd 4 80 fw_c95 rfl
  | 46, _, _ => exact fw_wd 5 23 fw_c96 rfl
  | 47, _, _ => exact fw_wd 4 36 fw_c97 rfl
  | 48, _, _ => exact fw_wd 5 41 fw_c98 rfl
  | 49, _, _ => exact fw_wd 5 67 fw_c99 rfl
  | n + 50, h, _ => exact absurd h (by omega)
theorem fw_cwa100 (k : Nat) (h : k < 37) (h0 : 0 < k + 100) : fw_cw (k + 100) ∈ fw_ws := by
  match k, h, h0 with
  | 0, _, _ => exact fw_wd 4 12 fw_c100 rfl
  | 1, _, _ => exact fw_wd 4 40 fw_c101 rfl
  | 2, _, _ => exact fw_wd 4 104 fw_c102 rfl
  | 3, _, _ => exact fw_wd 4 127 fw_c103 rfl
  | 4, _, _ => exact fw_wd 2 219 fw_c104 rfl
  | 5, _, _ => exact fw_wd 2 112 fw_c105 rfl
  | 6, _, _ => exact fw_wd 2 186 fw_c106 rfl
  | 7, _, _ => exact fw_wd 2 183 fw_c107 rfl
  | 8, _, _ => exact fw_wd 4 146 fw_c108 rfl
  | 9, _, _ => exact fw_wd 4 56 fw_c109 rfl
  | 10, _, _ => exact fw_wd 4 228 fw_c110 rfl
  | 11, _, _ => exact fw_wd 3 215 fw_c111 rfl
  | 12, _, _ => exact fw_wd 2 190 fw_c112 rfl
  | 13, _, _ => exact fw_wd 5 45 fw_c113 rfl
  | 14, _, _ => exact fw_wd 4 108 fw_c114 rfl
  | 15, _, _ => exact fw_wd 4 172 fw_c115 rfl
  | 16, _, _ => exact fw_wd 4 183 fw_c116 rfl
  | 17, _, _ => exact fw_wd 4 202 fw_c117 rfl
  | 18, _, _ => exact fw_wd 2 223 fw_c118 rfl
  | 19, _, _ => exact fw_wd 3 3 fw_c119 rfl
  | 20, _, _ => exact fw_wd 2 227 fw_c120 rfl
  | 21, _, _ => exact fw_wd 3 103 fw_c121 rfl
  | 22, _, _ => exact fw_wd 4 44 fw_c122 rfl
  | 23, _, _ => exact fw_wd 4 164 fw_c123 rfl
  | 24, _, _ => exact fw_wd 4 160 fw_c124 rfl
  | 25, _, _ => exact fw_wd 4 154 fw_c125 rfl
  | 26, _, _ => exact fw_wd 4 74 fw_c126 rfl
  | 27, _, _ => exact fw_wd 4 93 fw_c127 rfl
  | 28, _, _ => exact fw_wd 5 8 fw_c128 rfl
  | 29, _, _ => exact fw_wd 3 199 fw_c129 rfl
  | 30, _, _ => exact fw_wd 3 203 fw_c130 rfl
  | 31, _, _ => exact fw_wd 4 96 fw_c131 rfl
  | 32, _, _ => exact fw_wd 4 47 fw_c132 rfl
  | 33, _, _ => exact fw_wd 3 207 fw_c133 rfl
  | 34, _, _ => exact fw_wd 4 211 fw_c134 rfl
  | 35, _, _ => exact fw_wd 5 19 fw_c135 rfl
  | 36, _, _ => exact fw_wd 4 130 fw_c136 rfl
  | n + 37, h, _ => exact absurd h (by omega)
theorem fw_cwi (k : Nat) (h : k < 137) (h0 : 0 < k) : fw_cw k ∈ fw_ws := by
  rcases Nat.lt_or_ge k 50 with q | q
  · exact fw_cwa0 k q h0
  · rcases Nat.lt_or_ge k 100 with q2 | q2
    · obtain ⟨j, rfl⟩ : ∃ j, k = j + 50 := ⟨k - 50, by omega⟩
      exact fw_cwa50 j (by omega) (by omega)
    · obtain ⟨j, rfl⟩ : ∃ j, k = j + 100 := ⟨k - 100, by omega⟩
      exact fw_cwa100 j (by omega) (by omega)
def fw_iT : List (Nat × Nat) := [(0, 0), (1, 78), (1, 82), (3, 39), (2, 237), (2, 233), (3, 47), (2, 229), (3, 79), (4, 0), (3, 56), (3, 74), (2, 146), (4, 192), (5, 35), (3, 17), (3, 21), (1, 215), (5, 47), (5, 25), (5, 55), (5, 60), (5, 70), (5, 51), (1, 161), (3, 30), (3, 87), (3, 34), (3, 43), (3, 91), (3, 95), (3, 60), (1, 32), (3, 9), (4, 137), (4, 176), (4, 187), (5, 31), (3, 64), (3, 232), (4, 6), (4, 14), (4, 87), (1, 197), (3, 5), (4, 196), (3, 25), (1, 108), (2, 141), (2, 122), (2, 118), (2, 114), (4, 217), (4, 230), (4, 234), (4, 238), (2, 237), (2, 208), (2, 213), (3, 52), (3, 69), (3, 83), (3, 13), (1, 142), (2, 237), (2, 237), (2, 237), (2, 237), (1, 24), (2, 21), (2, 107), (5, 14), (5, 10), (4, 222), (5, 2), (4, 213), (4, 133), (4, 166), (4, 30), (3, 209), (4, 59), (3, 236), (4, 50), (4, 18), (4, 22), (4, 26), (4, 141), (4, 148), (2, 237), (2, 178), (4, 206), (4, 98), (4, 83), (4, 63), (4, 67), (4, 78), (5, 21), (4, 34), (5, 39), (5, 65), (4, 10), (4, 38), (4, 102), (4, 125), (2, 217), (2, 111), (2, 185), (2, 182), (4, 145), (4, 55), (4, 227), (3, 214), (2, 189), (5, 44), (4, 107), (4, 171), (4, 182), (4, 201), (2, 222), (3, 2), (2, 226), (3, 102), (4, 42), (4, 163), (4, 159), (4, 152), (4, 72), (4, 91), (5, 6), (3, 198), (3, 202), (4, 95), (4, 46), (3, 206), (4, 210), (5, 18), (4, 129)]
def fw_sT : List (Nat × Nat) := [(0, 0), (0, 0), (1, 83), (3, 40), (2, 238), (2, 234), (3, 48), (2, 230), (3, 80), (4, 1), (3, 57), (3, 75), (0, 0), (4, 193), (5, 36), (3, 18), (3, 22), (0, 0), (5, 48), (5, 26), (5, 56), (5, 61), (5, 71), (5, 52), (0, 0), (3, 31), (3, 88), (3, 35), (3, 44), (3, 92), (3, 96), (3, 61), (0, 0), (3, 10), (4, 138), (4, 177), (4, 188), (5, 32), (3, 65), (3, 233), (4, 7), (4, 15), (4, 88), (0, 0), (3, 6), (4, 197), (3, 26), (0, 0), (2, 142), (2, 123), (2, 119), (2, 115), (4, 218), (4, 231), (4, 235), (4, 239), (2, 238), (2, 209), (2, 214), (3, 53), (3, 70), (3, 84), (3, 14), (0, 0), (2, 238), (2, 238), (2, 238), (2, 238), (0, 0), (2, 22), (2, 108), (5, 15), (5, 11), (4, 223), (5, 3), (4, 214), (4, 134), (4, 167), (4, 31), (3, 210), (4, 60), (3, 237), (4, 51), (4, 19), (4, 23), (4, 27), (4, 142), (4, 149), (2, 238), (2, 179), (4, 207), (4, 99), (4, 84), (4, 64), (4, 68), (4, 79), (5, 22), (4, 35), (5, 40), (5, 66), (4, 11), (4, 39), (4, 103), (4, 126), (2, 218), (0, 0), (0, 0), (0, 0), (0, 0), (7, 6), (7, 13), (7, 5), (7, 1), (7, 14), (7, 7), (7, 10), (7, 11), (7, 12), (7, 2), (7, 4), (7, 3), (0, 0), (4, 43), (7, 9), (7, 8), (4, 153), (4, 73), (4, 92), (5, 7), (0, 0), (0, 0), (0, 0), (0, 0), (0, 0), (0, 0), (0, 0), (0, 0)]
def fw_tt (j : Nat) : List Cond := if j = 7 then k2_sels lw_privs else fw_t j
theorem fw_tt_tbl (j : Nat) : ∀ w ∈ fw_tt j, w ∈ lw_tbl := by
  intro w h
  unfold fw_tt at h
  split at h
  · exact List.mem_append_left _ h
  · exact fw_t_tbl j w h
theorem fw_in_ok : ∀ k ∈ List.range 137, 0 < k → (fw_ki k = 0 ∨ fw_ki k = 2) → (fw_t (fw_iT.getD k (0, 0)).1)[(fw_iT.getD k (0, 0)).2]? = some (.instanceMethod (fw_y k)) := by decide +kernel
theorem fw_st_ok : ∀ k ∈ List.range 137, 0 < k → (fw_ki k = 1 ∨ fw_ki k = 3) → (fw_t (fw_iT.getD k (0, 0)).1)[(fw_iT.getD k (0, 0)).2]? = some (.static (fw_y k)) := by decide +kernel
theorem fw_se_ok : ∀ k ∈ List.range 137, 0 < k → fw_ki k = 0 → (fw_tt (fw_sT.getD k (0, 0)).1)[(fw_sT.getD k (0, 0)).2]? = some (.selects (fw_CN (fw_oc k)) (fw_y k) (fw_y k)) := by decide +kernel
theorem fw_y_ok : ∀ k ∈ List.range 137, (fw_y k).cls = fw_CN (fw_oc k) ∧ fw_oc k < 11 ∧ (fw_y k).cls ≠ "java/lang/invoke/MethodHandle" ∧ (fw_y k).cls ≠ "java/lang/invoke/VarHandle" ∧ (parseMethodDescriptor (fw_y k).desc).map (fun d => d.parameters.length) = some (fw_pt k).length ∧ plainName (fw_y k).cls = true ∧ (fw_ki k = 2 → (fw_y k).name = "<init>" ∧ fw_rt k = none) ∧ (fw_hs k = [] ↔ fw_ki k ≠ 3) := by decide +kernel
theorem fw_in {k : Nat} (h : k < 137) (h0 : 0 < k) (hk : fw_ki k = 0 ∨ fw_ki k = 2) : Cond.instanceMethod (fw_y k) ∈ fw_ws := fw_wd _ _ (fw_in_ok k (List.mem_range.mpr h) h0 hk) rfl
theorem fw_stt {k : Nat} (h : k < 137) (h0 : 0 < k) (hk : fw_ki k = 1 ∨ fw_ki k = 3) : Cond.static (fw_y k) ∈ fw_ws := fw_wd _ _ (fw_st_ok k (List.mem_range.mpr h) h0 hk) rfl
theorem fw_sel {k : Nat} (h : k < 137) (h0 : 0 < k) (hk : fw_ki k = 0) : Cond.selects (fw_CN (fw_oc k)) (fw_y k) (fw_y k) ∈ fw_ws := List.mem_filter.mpr ⟨fw_tt_tbl _ _ (List.mem_of_getElem? (fw_se_ok k (List.mem_range.mpr h) h0 hk)), rfl⟩
theorem fw_xini (x : Nat) (h : x < 6) : Cond.initialized (fw_xn x) ∈ fw_ws := by
  match x, h with
  | 0, _ => exact fw_wd 1 14 rfl rfl
  | 1, _ => exact fw_wd 1 15 rfl rfl
  | 2, _ => exact fw_wd 1 16 rfl rfl
  | 3, _ => exact fw_wd 1 18 rfl rfl
  | 4, _ => exact fw_wd 1 19 rfl rfl
  | 5, _ => exact fw_wd 1 20 rfl rfl
  | n + 6, h => exact absurd h (by omega)
theorem fw_xfit (x : Nat) (h : x < 6) : Bundle.fit (fw_xn x) = true ∧ True := by
  match x, h with
  | 0, _ => exact ⟨by decide +kernel, trivial⟩
  | 1, _ => exact ⟨by decide +kernel, trivial⟩
  | 2, _ => exact ⟨by decide +kernel, trivial⟩
  | 3, _ => exact ⟨by decide +kernel, trivial⟩
  | 4, _ => exact ⟨by decide +kernel, trivial⟩
  | 5, _ => exact ⟨by decide +kernel, trivial⟩
  | n + 6, h => exact absurd h (by omega)
end
section
/-! what the small machine's cells, locals and stack say of the real one's -/
def fw_al (ws : va_W) : List Nat := ws.map Prod.fst
def fw_vr (al : List Nat) (b : Nat) (av : fw_V) (v : Value) : Prop := match av.1 with
  | 0 => ∃ z : Int32, v = .int z ∧ av.2 = z.toInt
  | 1 => ∃ z : Int64, v = .long z ∧ av.2 = z.toInt
  | 2 => (av.2 = 0 ∧ v = .null) ∨ ∃ (i a : Nat), al[i]? = some a ∧ av.2 = (i : Int) + 1 ∧ v = .ref a
  | 3 => ∃ z : UInt64, v = .double z ∧ av.2 = (z.toNat : Int)
  | 4 => ∃ z : UInt32, v = .float z ∧ av.2 = (z.toNat : Int)
  | 6 => v = .ref b
  | 7 => ∃ a : Nat, v = .ref a
  | _ => False
def fw_St (al : List Nat) (b : Nat) : List fw_V → List Value → Prop
  | [], [] => True
  | a :: as, v :: vs => fw_vr al b a v ∧ fw_St al b as vs
  | _, _ => False
def fw_L (k : Nat) (al : List Nat) (b : Nat) (ls : Array Slot) (ll : List fw_V) : Prop :=
  ∃ l : List (Nat × Value), lv_has ls (fw_mL k) l ∧ ll.length = fw_mL k ∧ (∀ (i : Nat) (av : fw_V), ll[i]? = some av → av.1 ≠ 8 → ∃ v, (i, v) ∈ l ∧ fw_vr al b av v) ∧
    (∀ q ∈ l, q.2.category = 2 → ∃ av : fw_V, ll[q.1]? = some av ∧ av.1 = 1) ∧ (∀ av ∈ ll, av.1 ≠ 3) ∧ (k ≠ fw_KS → ∀ av ∈ ll, av.1 ≠ 1)
theorem fw_vr_mono {al al' : List Nat} {b : Nat} {av : fw_V} {v : Value} (h : al <+: al') (hc : fw_vr al b av v) : fw_vr al' b av v := by
  obtain ⟨t, x⟩ := av
  unfold fw_vr at hc ⊢
  split at hc
  · exact hc
  · exact hc
  · rcases hc with hc | ⟨i, a, h1, h2⟩
    · exact Or.inl hc
    · obtain ⟨r, rfl⟩ := h
      exact Or.inr ⟨i, a, by rw [List.getElem?_append_left (List.getElem?_eq_some_iff.mp h1).1]; exact h1, h2⟩
  · exact hc
  · exact hc
  · exact hc
  · exact hc
  · exact hc
theorem fw_St_mono {al al' : List Nat} {b : Nat} (h : al <+: al') : ∀ {st : List fw_V} {cst : List Value}, fw_St al b st cst → fw_St al' b st cst
  | [], [], _ => trivial
  | _ :: _, _ :: _, hs => ⟨fw_vr_mono h hs.1, fw_St_mono h hs.2⟩
theorem fw_L_mono {k : Nat} {al al' : List Nat} {b : Nat} {ls : Array Slot} {ll : List fw_V} (h : al <+: al') (hL : fw_L k al b ls ll) : fw_L k al' b ls ll := by
  obtain ⟨l, h1, h2, h3, h4⟩ := hL
  refine ⟨l, h1, h2, fun i av hi ha => ?_, h4⟩
  obtain ⟨v, hv, hc⟩ := h3 i av hi ha
  exact ⟨v, hv, fw_vr_mono h hc⟩
theorem fw_St_cons {al : List Nat} {b : Nat} {a : fw_V} {st : List fw_V} {cst : List Value} (h : fw_St al b (a :: st) cst) : ∃ v vs, cst = v :: vs ∧ fw_vr al b a v ∧ fw_St al b st vs := by
  cases cst with
  | nil => exact h.elim
  | cons v vs => exact ⟨v, vs, rfl, h.1, h.2⟩
theorem fw_St_nil {al : List Nat} {b : Nat} {cst : List Value} (h : fw_St al b [] cst) : cst = [] := by
  cases cst with
  | nil => rfl
  | cons v vs => exact h.elim
theorem fw_St_len {al : List Nat} {b : Nat} : ∀ {st : List fw_V} {cst : List Value}, fw_St al b st cst → cst.length = st.length
  | [], [], _ => rfl
  | _ :: _, _ :: _, h => congrArg (· + 1) (fw_St_len h.2)
theorem fw_St_cat {al : List Nat} {b : Nat} : ∀ {st : List fw_V} {cst : List Value}, fw_St al b st cst → (cst.map fun v => v.category).sum ≤ 2 * st.length
  | [], [], _ => Nat.le_refl _
  | _ :: st, v :: cst, h => by
    have h1 := fw_St_cat h.2
    have h2 := lv_cat v
    simp only [List.map_cons, List.sum_cons, List.length_cons]
    omega
theorem fw_St_app {al : List Nat} {b : Nat} : ∀ {s1 s2 : List fw_V} {c : List Value}, fw_St al b (s1 ++ s2) c → ∃ c1 c2, c = c1 ++ c2 ∧ fw_St al b s1 c1 ∧ fw_St al b s2 c2
  | [], s2, c, h => ⟨[], c, rfl, trivial, h⟩
  | a :: s1, s2, c, h => by
    obtain ⟨v, vs, rfl, h1, h2⟩ := fw_St_cons h
    obtain ⟨c1, c2, rfl, h3, h4⟩ := fw_St_app h2
    exact ⟨v :: c1, c2, rfl, ⟨h1, h3⟩, h4⟩
theorem fw_St_snoc {al : List Nat} {b : Nat} : ∀ {s1 : List fw_V} {c1 : List Value} {a : fw_V} {v : Value}, fw_St al b s1 c1 → fw_vr al b a v → fw_St al b (s1 ++ [a]) (c1 ++ [v])
  | [], [], _, _, _, h => ⟨h, trivial⟩
  | _ :: _, _ :: _, _, _, h, h2 => ⟨h.1, fw_St_snoc h.2 h2⟩
theorem fw_St_rev {al : List Nat} {b : Nat} : ∀ {s1 : List fw_V} {c1 : List Value}, fw_St al b s1 c1 → fw_St al b s1.reverse c1.reverse
  | [], [], _ => trivial
  | a :: s1, v :: c1, h => by
    rw [List.reverse_cons, List.reverse_cons]
    exact fw_St_snoc (fw_St_rev h.2) h.1
theorem fw_St_at {al : List Nat} {b : Nat} : ∀ {s1 : List fw_V} {c1 : List Value} {i : Nat} {a : fw_V}, fw_St al b s1 c1 → s1[i]? = some a → ∃ v, c1[i]? = some v ∧ fw_vr al b a v
  | [], [], _, _, _, h => by simp at h
  | x :: s1, v :: c1, 0, a, h, hi => by
    rw [List.getElem?_cons_zero] at hi
    cases hi
    exact ⟨v, rfl, h.1⟩
  | x :: s1, v :: c1, i + 1, a, h, hi => by
    rw [List.getElem?_cons_succ] at hi
    exact fw_St_at (i := i) h.2 hi
theorem fw_g_at : ∀ (ll : List fw_V) (i : Nat), (fw_g ll i).1 ≠ 8 → ll[i]? = some (fw_g ll i)
  | [], _, h => absurd rfl h
  | _ :: _, 0, _ => rfl
  | _ :: l, i + 1, h => by rw [List.getElem?_cons_succ]; exact fw_g_at l i h
theorem fw_at_g : ∀ {ll : List fw_V} {i : Nat} {av : fw_V}, ll[i]? = some av → fw_g ll i = av
  | [], _, _, h => by simp at h
  | _ :: _, 0, _, h => by rw [List.getElem?_cons_zero] at h; exact Option.some.inj h
  | _ :: l, i + 1, _, h => by rw [List.getElem?_cons_succ] at h; exact fw_at_g (ll := l) (i := i) h
/-- a local that is known -/
theorem fw_L_at {k : Nat} {al : List Nat} {b : Nat} {ls : Array Slot} {ll : List fw_V} {i : Nat} (hL : fw_L k al b ls ll) (h : (fw_g ll i).1 ≠ 8) : ∃ v, ls[i]? = some (.val v) ∧ fw_vr al b (fw_g ll i) v := by
  obtain ⟨l, h1, h2, h3, h4⟩ := hL
  obtain ⟨v, hv, hc⟩ := h3 i _ (fw_g_at ll i h) h
  exact ⟨v, h1.2.2 (i, v) hv, hc⟩
theorem fw_cat {al : List Nat} {b : Nat} {av : fw_V} {v : Value} (h : fw_vr al b av v) (h1 : av.1 ≠ 1) (h3 : av.1 ≠ 3) : v.category = 1 := by
  obtain ⟨t, x⟩ := av
  unfold fw_vr at h
  split at h
  · obtain ⟨z, rfl, -⟩ := h; rfl
  · rename_i ht; exact absurd ht h1
  · rcases h with ⟨-, rfl⟩ | ⟨i, a, -, -, rfl⟩ <;> rfl
  · rename_i ht; exact absurd ht h3
  · obtain ⟨z, rfl, -⟩ := h; rfl
  · cases h; rfl
  · obtain ⟨z, rfl⟩ := h; rfl
  · exact h.elim
theorem fw_cat2 {al : List Nat} {b : Nat} {av : fw_V} {v : Value} (h : fw_vr al b av v) (hc : v.category = 2) : av.1 = 1 ∨ av.1 = 3 := by
  rcases Nat.decEq av.1 1 with h1 | h1
  · rcases Nat.decEq av.1 3 with h3 | h3
    · have := fw_cat h h1 h3
      omega
    · exact Or.inr h3
  · exact Or.inl h1
/-- a store of one slot -/
theorem fw_L_set {k : Nat} {al : List Nat} {b : Nat} {ls' : Array Slot} {ll : List fw_V} {i : Nat} {av : fw_V} {v : Value} {l : List (Nat × Value)} (hl : ll.length = fw_mL k) (h3 : ∀ (i : Nat) (av : fw_V), ll[i]? = some av → av.1 ≠ 8 → ∃ v, (i, v) ∈ l ∧ fw_vr al b av v)
    (h4 : ∀ q ∈ l, q.2.category = 2 → ∃ av : fw_V, ll[q.1]? = some av ∧ av.1 = 1) (h5 : ∀ av ∈ ll, av.1 ≠ 3) (h6 : k ≠ fw_KS → ∀ av ∈ ll, av.1 ≠ 1)
    (hs : fw_so k ll i = true) (hc : fw_vr al b av v) (ha1 : av.1 ≠ 1) (ha3 : av.1 ≠ 3)
    (h : lv_has ls' (fw_mL k) ((i, v) :: l.filter (fun q => !(q.1 == i) && !(q.1 + 1 == i && q.2.category == 2)))) : fw_L k al b ls' (ll.set i av) := by
  simp only [fw_so, Bool.and_eq_true, decide_eq_true_eq, Bool.or_eq_true] at hs
  have hcat := fw_cat hc ha1 ha3
  refine ⟨_, h, by rw [List.length_set]; exact hl, fun j aw hj hw => ?_, fun q hq hq2 => ?_, fun aw haw => ?_, fun hk aw haw => ?_⟩
  · by_cases hji : j = i
    · subst hji
      rw [List.getElem?_set_self (by omega)] at hj
      cases hj
      exact ⟨v, List.mem_cons_self, hc⟩
    · rw [List.getElem?_set_ne (Ne.symm hji)] at hj
      obtain ⟨w, hw1, hw2⟩ := h3 j aw hj hw
      refine ⟨w, List.mem_cons_of_mem _ (List.mem_filter.mpr ⟨hw1, ?_⟩), hw2⟩
      have e1 : (j == i) = false := by simpa using hji
      by_cases hj1 : j + 1 = i
      · have hw3 : ¬ w.category = 2 := by
          intro hw3
          obtain ⟨ax, hx1, hx2⟩ := h4 _ hw1 hw3
          rcases hs.2 with (hs2 | hs2) | hs2
          · exact h6 hs2 ax (List.mem_of_getElem? hx1) hx2
          · omega
          · have e9 : i - 1 = j := by omega
            rw [e9, fw_at_g hx1] at hs2
            exact hs2 hx2
        simp [e1, hw3]
      · simp [e1, hj1]
  · rcases List.mem_cons.mp hq with rfl | hq
    · have hq2 : v.category = 2 := hq2
      omega
    · obtain ⟨hq1, hq3⟩ := List.mem_filter.mp hq
      obtain ⟨aw, hw1, hw2⟩ := h4 q hq1 hq2
      have hne : q.1 ≠ i := by
        intro hh
        simp [hh] at hq3
      exact ⟨aw, by rw [List.getElem?_set_ne (Ne.symm hne)]; exact hw1, hw2⟩
  · rcases List.mem_or_eq_of_mem_set haw with h | h
    · exact h5 aw h
    · rw [h]; exact ha3
  · rcases List.mem_or_eq_of_mem_set haw with h | h
    · exact h6 hk aw h
    · rw [h]; exact ha1

/-- what a cell holds -/
def fw_er (al : List Nat) (b : Nat) (tys : List (ClassId × FieldType)) (σ : fw_M) (k : Int) (e : va_E) : Prop := match e with
  | .inr (ci, fs) => ∃ c : Nat, ci = c + 2 ∧ c < 10 ∧ fw_kd k = (c : Int) + 3 ∧ fs.length = fw_nf c ∧ ∀ j : Nat, j < fw_nf c → ∃ v, fs[j]? = some v ∧ fw_vr al b (fw_tg (fw_fk c j), σ k (j : Int)) v
  | .inl (cA, n, .inl f) => ∃ (t0 : Nat) (ty : FieldType), tys[t0]? = some (cA, ty) ∧ ((fw_kd k = 100 ∧ ty = .int) ∨ (fw_kd k = 101 ∧ ty = .char) ∨ (fw_kd k = 102 ∧ ty = .boolean)) ∧ fw_ln k = (n : Int) ∧ n ≤ 300 ∧ ∀ j : Nat, j < n → σ k (j : Int) = (f j).toInt
  | .inl (cA, n, .inr (.inl f)) => ∃ t0 : Nat, tys[t0]? = some (cA, .long) ∧ fw_kd k = 103 ∧ fw_ln k = (n : Int) ∧ n ≤ 300 ∧ ∀ j : Nat, j < n → σ k (j : Int) = (f j).toInt
  | .inl (_, _, .inr (.inr (.inl _))) => False
  | .inl (cA, n, .inr (.inr (.inr (.inl f)))) => ∃ t0 : Nat, tys[t0]? = some (cA, .double) ∧ fw_kd k = 104 ∧ fw_ln k = (n : Int) ∧ n ≤ 300 ∧ ∀ j : Nat, j < n → σ k (j : Int) = ((f j).toNat : Int)
  | .inl (cA, n, .inr (.inr (.inr (.inr f)))) => ∃ (t0 : Nat) (ty : FieldType), tys[t0]? = some (cA, ty) ∧ ((fw_kd k = 105 ∧ ty = .object RX1) ∨ (fw_kd k = 106 ∧ ty = .array .int)) ∧ fw_ln k = (n : Int) ∧ n ≤ 300 ∧ ∀ j : Nat, j < n → fw_vr al b (2, σ k (j : Int)) (va_rf (f j))
theorem fw_er_mono {al al' : List Nat} {b : Nat} {tys tys' : List (ClassId × FieldType)} {σ σ' : fw_M} {k : Int} {e : va_E} (ha : al <+: al') (ht : tys <+: tys') (hs : ∀ j, σ' k j = σ k j) (h : fw_er al b tys σ k e) : fw_er al' b tys' σ' k e := by
  have ht' : ∀ {t0 : Nat} {q : ClassId × FieldType}, tys[t0]? = some q → tys'[t0]? = some q := by
    intro t0 q hq
    obtain ⟨r, rfl⟩ := ht
    rw [List.getElem?_append_left (List.getElem?_eq_some_iff.mp hq).1]
    exact hq
  match e, h with
  | .inr (ci, fs), ⟨c, h1, h2, h3, h4, h5⟩ =>
    refine ⟨c, h1, h2, h3, h4, fun j hj => ?_⟩
    obtain ⟨v, hv, hc⟩ := h5 j hj
    exact ⟨v, hv, by rw [hs]; exact fw_vr_mono ha hc⟩
  | .inl (cA, n, .inl f), ⟨t0, ty, h1, h2, h3, h4, h5⟩ => exact ⟨t0, ty, ht' h1, h2, h3, h4, fun j hj => by rw [hs]; exact h5 j hj⟩
  | .inl (cA, n, .inr (.inl f)), ⟨t0, h1, h2, h3, h4, h5⟩ => exact ⟨t0, ht' h1, h2, h3, h4, fun j hj => by rw [hs]; exact h5 j hj⟩
  | .inl (cA, n, .inr (.inr (.inr (.inl f)))), ⟨t0, h1, h2, h3, h4, h5⟩ => exact ⟨t0, ht' h1, h2, h3, h4, fun j hj => by rw [hs]; exact h5 j hj⟩
  | .inl (cA, n, .inr (.inr (.inr (.inr f)))), ⟨t0, ty, h1, h2, h3, h4, h5⟩ => exact ⟨t0, ty, ht' h1, h2, h3, h4, fun j hj => by rw [hs]; exact fw_vr_mono ha (h5 j hj)⟩
/-- the heap holds the small machine's cells -/
def fw_H (base b L : Nat) (xs : Nat → Int32) (D : va_G) (σ : fw_M) (tys : List (ClassId × FieldType)) (ws : va_W) (s : State) (H : Heap) : Prop :=
  va_K D fw_Cl tys s ∧ va_P D fw_Cl ws H ∧ va_D (fun q => base ≤ q) ws ∧ σ (-1) 0 = (ws.length : Int) + 1 ∧
    (∀ (k : Nat) (q : Nat × va_E), ws[k]? = some q → fw_er (fw_al ws) b tys σ ((k : Int) + 1) q.2) ∧ σ (-3) 0 = (L : Int) ∧ ∀ j : Nat, j < L → σ (-2) (j : Int) = (xs j).toInt
theorem fw_al_set {ws : va_W} {p a : Nat} {e0 e : va_E} (h : ws[p]? = some (a, e0)) : fw_al (ws.set p (a, e)) = fw_al ws := by
  unfold fw_al
  apply List.ext_getElem?
  intro i
  rw [List.getElem?_map, List.getElem?_map]
  by_cases hi : i = p
  · subst hi
    rw [List.getElem?_set_self (List.getElem?_eq_some_iff.mp h).1, h]
    rfl
  · rw [List.getElem?_set_ne (Ne.symm hi)]
theorem fw_u_ne {σ : fw_M} {k j v a c : Int} (h : a ≠ k) : fw_u σ k j v a c = σ a c := by
  unfold fw_u
  rw [if_neg (fun q => h q.1)]
theorem fw_u_nj {σ : fw_M} {k j v a c : Int} (h : c ≠ j) : fw_u σ k j v a c = σ a c := by
  unfold fw_u
  rw [if_neg (fun q => h q.2)]
theorem fw_u_s {σ : fw_M} {k j v : Int} : fw_u σ k j v k j = v := by
  unfold fw_u
  rw [if_pos ⟨rfl, rfl⟩]
theorem fw_H_set {base b L : Nat} {xs : Nat → Int32} {D : va_G} {σ : fw_M} {tys : List (ClassId × FieldType)} {ws : va_W} {s : State} {H H1 : Heap} {p a : Nat} {e0 e : va_E} {j v : Int} (h : fw_H base b L xs D σ tys ws s H) (hp : ws[p]? = some (a, e0))
    (he : fw_er (fw_al ws) b tys (fw_u σ ((p : Int) + 1) j v) ((p : Int) + 1) e) (hP : va_P D fw_Cl (ws.set p (a, e)) H1) (hD : va_D (fun q => base ≤ q) (ws.set p (a, e))) : fw_H base b L xs D (fw_u σ ((p : Int) + 1) j v) tys (ws.set p (a, e)) s H1 := by
  obtain ⟨h1, h2, h3, h4, h5, h6, h7⟩ := h
  refine ⟨h1, hP, hD, ?_, fun k q hk => ?_, ?_, fun i hi => ?_⟩
  · rw [fw_u_ne (by omega), List.length_set]; exact h4
  · rw [fw_al_set hp]
    by_cases hkp : k = p
    · subst hkp
      rw [List.getElem?_set_self (List.getElem?_eq_some_iff.mp hp).1] at hk
      cases hk
      exact he
    · rw [List.getElem?_set_ne (Ne.symm hkp)] at hk
      exact fw_er_mono (List.prefix_refl _) (List.prefix_refl _) (fun c => fw_u_ne (by omega)) (h5 k q hk)
  · rw [fw_u_ne (by omega)]; exact h6
  · rw [fw_u_ne (by omega)]; exact h7 i hi
theorem fw_H_push {base b L : Nat} {xs : Nat → Int32} {D : va_G} {σ : fw_M} {tys tys' : List (ClassId × FieldType)} {ws : va_W} {s : State} {H H1 : Heap} {a : Nat} {e : va_E} {n : Int} (h : fw_H base b L xs D σ tys ws s H) (ht : tys <+: tys') (hK : va_K D fw_Cl tys' s)
    (hP : va_P D fw_Cl (ws ++ [(a, e)]) H1) (hD : va_D (fun q => base ≤ q) (ws ++ [(a, e)])) (he : fw_er (fw_al (ws ++ [(a, e)])) b tys' (fun _ _ => 0) ((ws.length : Int) + 1) e) : fw_H base b L xs D (fw_nw σ n) tys' (ws ++ [(a, e)]) s H1 := by
  obtain ⟨h1, h2, h3, h4, h5, h6, h7⟩ := h
  have hal : fw_al ws <+: fw_al (ws ++ [(a, e)]) := by unfold fw_al; rw [List.map_append]; exact List.prefix_append _ _
  refine ⟨hK, hP, hD, ?_, fun k q hk => ?_, ?_, fun i hi => ?_⟩
  · unfold fw_nw
    rw [if_neg (by omega), if_pos rfl, if_pos rfl, h4, List.length_append, List.length_singleton]
    omega
  · by_cases hl : k < ws.length
    · rw [List.getElem?_append_left hl] at hk
      refine fw_er_mono hal ht (fun c => ?_) (h5 k q hk)
      unfold fw_nw
      rw [if_neg (by omega), if_neg (by omega)]
    · rw [List.getElem?_append_right (by omega)] at hk
      have hz : k - ws.length < 1 := (List.getElem?_eq_some_iff.mp hk).1
      have hk0 : k = ws.length := by omega
      subst hk0
      rw [Nat.sub_self] at hk
      cases hk
      refine fw_er_mono (List.prefix_refl _) (List.prefix_refl _) (fun c => ?_) he
      unfold fw_nw
      rw [if_pos h4.symm]
  · unfold fw_nw
    rw [if_neg (by omega), if_neg (by omega)]; exact h6
  · unfold fw_nw
    rw [if_neg (by omega), if_neg (by omega)]; exact h7 i hi
theorem fw_H_moved {base b L : Nat} {xs : Nat → Int32} {D : va_G} {σ : fw_M} {tys : List (ClassId × FieldType)} {ws : va_W} {s t : State} {H : Heap} (hvm : s.vm.Alike t.vm) (h : fw_H base b L xs D σ tys ws s H) : fw_H base b L xs D σ tys ws t H :=
  ⟨h.1.moved hvm, h.2⟩
/-- the cell that a reference names -/
theorem fw_H_at {base b L : Nat} {xs : Nat → Int32} {D : va_G} {σ : fw_M} {tys : List (ClassId × FieldType)} {ws : va_W} {s : State} {H : Heap} {x : Int} {v : Value} (h : fw_H base b L xs D σ tys ws s H) (hv : fw_vr (fw_al ws) b (2, x) v) (hx : 0 < fw_kd x) : ∃ (p a : Nat) (e : va_E), ws[p]? = some (a, e) ∧ x = (p : Int) + 1 ∧ v = .ref a ∧ fw_er (fw_al ws) b tys σ x e := by
  rcases hv with ⟨h0, -⟩ | ⟨i, a, h1, h2, h3⟩
  · have h0 : x = 0 := h0
    subst h0
    exact absurd hx (by decide)
  · have h2 : x = (i : Int) + 1 := h2
    unfold fw_al at h1
    rw [List.getElem?_map] at h1
    obtain ⟨q, hq1, hq2⟩ := Option.map_eq_some_iff.mp h1
    obtain ⟨a', e⟩ := q
    have hq2 : a' = a := hq2
    subst hq2
    exact ⟨i, a', e, hq1, h2, h3, by rw [h2]; exact h.2.2.2.2.1 i _ hq1⟩
end
section
/-! what a method's run of the small machine says of the real machine -/
def fw_nm : List String := ["java/lang/RuntimeException", "java/lang/Exception"]
/-- words of the tables that are carried along beside the good ones -/
def fw_nz : List Cond := [.castable (fw_xn 0) (fw_xn 0), .castable (fw_xn 1) (fw_xn 1), .castable (fw_xn 2) (fw_xn 2), .castable (fw_xn 3) (fw_xn 3), .castable (fw_xn 4) (fw_xn 4), .castable (fw_xn 5) (fw_xn 5),
  .declares ⟨"java/lang/RuntimeException", "<init>", "()V"⟩, .declares ⟨"java/lang/Exception", "<init>", "()V"⟩, .declares ⟨"java/lang/Throwable", "<init>", "()V"⟩,
  .methodLinkNest (fw_CN 8) 9 (fw_y (fw_cal 8 9)) (fw_CN 8), .methodLinkNest (fw_CN 8) 59 (fw_y (fw_cal 8 59)) (fw_CN 8), .methodLinkNest (fw_CN 6) 58 (fw_y (fw_cal 6 58)) (fw_CN 8)] ++ fw_fnT.map (fun q => .fieldLinkNest (fw_CN q.1) q.2.1 (fw_CN q.2.2.1) (fw_CT q.2.2.1 q.2.2.2.1).2.1 (fw_CT q.2.2.1 q.2.2.2.1).2.2.1 (fw_CN 10))
theorem fw_at_ok : ∀ q ∈ fw_xrT, ∀ w ∈ vx_at0 (fw_CN 8) q.2.1 (fw_xn q.2.2.1) fw_nm, goodWord w = true ∨ w ∈ fw_nz := by decide +kernel
theorem fw_at_tbl : ∀ q ∈ fw_xrT, ∀ w ∈ (vx_at0 (fw_CN 8) q.2.1 (fw_xn q.2.2.1) fw_nm).filter goodWord, w ∈ lw_tbl := by decide +kernel
theorem fw_at_ot : ∀ q ∈ fw_xrT, ∀ w ∈ Cond.classLink (fw_CN 8) q.1 (fw_xn q.2.2.1) :: Cond.initialized (fw_xn q.2.2.1) :: vx_at0 (fw_CN 8) q.2.1 (fw_xn q.2.2.1) fw_nm, vx_ot w = true := by decide +kernel
theorem fw_nz_tbl : ∀ w ∈ fw_nz, w ∈ lw_tbl ∧ w.onTables = true := by decide +kernel
end
section
/-- (an exception, one that it is not) -/
def fw_nc : List (Nat × Nat) := []
def fw_Z (base : Nat) (s : State) (H : Heap) : Prop := vx_Zq Bundle.tN "UNASSIGNED_STACK" Bundle.steD (fun q => base ≤ q) s H ∧ vx_Zq Bundle.tN "SUPPRESSED_SENTINEL" Bundle.listD (fun q => base ≤ q) s H ∧ (∀ w ∈ fw_nz, va_Nw w s) ∧ (∀ q ∈ fw_nc, va_Nc (fw_xn q.1) (fw_xn q.2) s) ∧ va_AO RX1 s ∧ va_AOA .int s
theorem fw_nz_warm {s U : State} (hW : s.WarmedH U.vm) (h : ∀ w ∈ fw_nz, va_Nw w s) : ∀ w ∈ fw_nz, va_Nw w U := by
  intro w hw
  have h1 := h w hw
  rcases List.mem_append.mp hw with hw | hw
  rotate_left
  · obtain ⟨q, -, rfl⟩ := List.mem_map.mp hw
    exact va_Nw.warmF hW h1
  simp only [List.mem_cons, List.not_mem_nil, or_false] at hw
  rcases hw with rfl | rfl | rfl | rfl | rfl | rfl | rfl | rfl | rfl | rfl | rfl | rfl
  · exact va_Nw.warmC hW h1
  · exact va_Nw.warmC hW h1
  · exact va_Nw.warmC hW h1
  · exact va_Nw.warmC hW h1
  · exact va_Nw.warmC hW h1
  · exact va_Nw.warmC hW h1
  · exact va_Nw.warmD hW h1
  · exact va_Nw.warmD hW h1
  · exact va_Nw.warmD hW h1
  · exact va_Nw.warmM hW h1
  · exact va_Nw.warmM hW h1
  · exact va_Nw.warmM hW h1
theorem fw_Z_go {base : Nat} {s U : State} {H : Heap} {locs : List Loc} (hW : s.WarmedH U.vm) (hS : va_S (fun q => base ≤ q) s.heap H locs) (h : fw_Z base s s.heap) : fw_Z base U H := by
  obtain ⟨h1, h2, h3, h4, h5⟩ := h
  exact ⟨vx_Zq.moved hW.alike (h1.kept hS.2.1), vx_Zq.moved hW.alike (h2.kept hS.2.1), fw_nz_warm hW h3, fun q hq => (h4 q hq).moved hW.alike, va_AO.moved hW.alike h5.1, va_AOA.moved hW.alike h5.2⟩
/-- a method at work: the machine, its code, the tables' words, the room -/
def fw_C (k base b L : Nat) (xs : Nat → Int32) (p : Program) (l : Launch) (R : Room) (s : State) (m : MethodId) (args : Array Value) (meth : Method) (c : Code) : Prop :=
  p.tables.exec = Jvm.exec ∧ c.code = fw_B k ∧ c.maxLocals = fw_mL k ∧ s.vm.findClass (fw_CN (fw_oc k)) = some m.cls ∧ (∀ w ∈ fw_ws, w.before args s = true) ∧ meth.locks = false ∧
    (k ≠ 0 → c.exceptionTable.toList = tableOf ((fw_hs k).map (fun h => (h.1, h.2.1, h.2.2.1, h.2.2.2.1)))) ∧ (fw_ki k = 2 → meth.name = "<init>") ∧ l.stackTraces = false ∧ fw_rk k + 2 ≤ R.frames ∧ 30 * fw_rk k + 100 ≤ R.locals ∧
    fw_Z base s s.heap ∧ base ≤ s.heap.size ∧ (va_X b L xs s s.heap ∧ b < s.heap.size ∧ b < base) ∧ meth.sig.returnType = fw_rt k ∧ k < 137
/-- the answer on the stack at a return -/
def fw_rv (k : Nat) (al : List Nat) (b : Nat) (v : fw_V) (i : Instr) (cst : List Value) : Prop :=
  (v = (5, 0) ∧ i = .return_ ∧ fw_rt k = none ∧ cst = []) ∨ (v.1 = 0 ∧ i = .ireturn ∧ fw_ri k v.2 = true ∧ ∃ z : Int32, v.2 = z.toInt ∧ cst = [.int z]) ∨ (v.1 = 1 ∧ i = .lreturn ∧ fw_rt k = some .long ∧ ∃ z : Int64, v.2 = z.toInt ∧ cst = [.long z]) ∨
  (v.1 = 2 ∧ i = .areturn ∧ fw_rt k = some (.object RX1) ∧ ∃ z : Value, fw_vr al b v z ∧ cst = [z]) ∨ (v.1 = 3 ∧ i = .dreturn ∧ fw_rt k = some .double ∧ ∃ z : UInt64, v.2 = (z.toNat : Int) ∧ cst = [.double z]) ∨ (v.1 = 4 ∧ i = .freturn ∧ fw_rt k = some .float ∧ ∃ z : UInt32, v.2 = (z.toNat : Int) ∧ cst = [.float z])
/-- what a method's ends come to: a return, a throw from a callee, a throw of its own -/
def fw_F (k base b L : Nat) (xs : Nat → Int32) (D : va_G) (p : Program) (l : Launch) (e : Env) (R : Room) (s : State) (m : MethodId) (args : Array Value) (below : List Frame) (meth : Method) (c : Code) (Q : State → Prop) (al0 : List Nat) (C0 S0 : Int) (out : fw_O) : Prop :=
  (∀ (tys : List (ClassId × FieldType)) (ws : va_W) (H : Heap) (locs : List Loc) (cells slots pc : Nat) (ls : Array Slot) (cst : List Value) (i : Instr), decode (fw_B k) pc = .ok (i, 1) → fw_H base b L xs D out.2 tys ws s H → va_S (fun q => base ≤ q) s.heap H locs → al0 <+: fw_al ws → (cells : Int) = out.2 (-1) 1 - C0 → (slots : Int) = out.2 (-1) 2 - S0 → fw_rv k (fw_al ws) b out.1 i cst →
    W p l e R s m args below meth c H locs cells slots Q (F0 m pc ls cst)) ∧
  (out.1.1 = 9 → k ≠ 0 → fw_hs k = [] → ∀ (tys : List (ClassId × FieldType)) (ws : va_W) (H : Heap) (locs : List Loc) (cells slots pc : Nat) (ls : Array Slot) (rest : List Value) (q : Addr) (ce : Cell), fw_H base b L xs D out.2 tys ws s H → va_S (fun q => base ≤ q) s.heap H locs → al0 <+: fw_al ws → (cells : Int) = out.2 (-1) 1 - C0 → (slots : Int) = out.2 (-1) 2 - S0 →
    H[q]? = some ce → ce.vm = .none → s.vm.findClass (fw_xn out.1.2.toNat) = some ce.cls → vx_W p l e R s m args below meth c H locs cells slots Q (F0 m pc ls rest) q) ∧
  (∀ (σ : fw_M) (ik ic x : Nat), out.1 = (9, (x : Int)) → out.2 = fw_ex σ → fw_oc k = 8 → fw_hs k = [] → k ≠ 0 → 4 ≤ fw_rk k → (∃ q ∈ fw_xrT, q.1 = ik ∧ q.2.1 = ic ∧ q.2.2.1 = x) → ∀ (tys : List (ClassId × FieldType)) (ws : va_W) (H : Heap) (locs : List Loc) (cells slots pc : Nat) (ls : Array Slot), ls.size = fw_mL k → decode (fw_B k) pc = .ok (.new ik, 3) → decode (fw_B k) (pc + 3) = .ok (.dup, 1) → decode (fw_B k) (pc + 4) = .ok (.invokespecial ic, 3) → decode (fw_B k) (pc + 7) = .ok (.athrow, 1) →
    fw_H base b L xs D σ tys ws s H → va_S (fun q => base ≤ q) s.heap H locs → al0 <+: fw_al ws → (cells : Int) = σ (-1) 1 - C0 → (slots : Int) = σ (-1) 2 - S0 → cells + 1 ≤ R.cells → slots + 6 ≤ R.slots → W p l e R s m args below meth c H locs cells slots Q (F0 m pc ls []))
/-- from here the small machine comes to out: and the real one with it -/
def fw_J (k pc : Nat) (ll st : List fw_V) (σ : fw_M) (out : fw_O) : Prop :=
  (σ (-1) 1 ≤ out.2 (-1) 1 ∧ σ (-1) 2 ≤ out.2 (-1) 2) ∧
  ∀ (base b L : Nat) (xs : Nat → Int32) (D : va_G) (p : Program) (l : Launch) (e : Env) (R : Room) (s : State) (m : MethodId) (args : Array Value) (below : List Frame) (meth : Method) (c : Code) (Q : State → Prop) (al0 : List Nat) (C0 S0 : Int),
    fw_C k base b L xs p l R s m args meth c → fw_F k base b L xs D p l e R s m args below meth c Q al0 C0 S0 out → out.2 (-1) 1 - C0 ≤ R.cells → out.2 (-1) 2 - S0 ≤ R.slots →
    ∀ (tys : List (ClassId × FieldType)) (ws : va_W) (H : Heap) (locs : List Loc) (cells slots : Nat) (ls : Array Slot) (cst : List Value), fw_H base b L xs D σ tys ws s H → va_S (fun q => base ≤ q) s.heap H locs → al0 <+: fw_al ws → (cells : Int) = σ (-1) 1 - C0 → (slots : Int) = σ (-1) 2 - S0 →
      fw_L k (fw_al ws) b ls ll → fw_St (fw_al ws) b st cst → W p l e R s m args below meth c H locs cells slots Q (F0 m pc ls cst)
/-- an instruction that may change cells, or make one -/
theorem fw_jg {k pc pc' : Nat} {ll ll' st st' : List fw_V} {σ σ' : fw_M} {out : fw_O} (hJ : fw_J k pc' ll' st' σ' out) (n1 n2 : Nat) (hm1 : σ' (-1) 1 = σ (-1) 1 + n1) (hm2 : σ' (-1) 2 = σ (-1) 2 + n2)
    (hs : ∀ (base b L : Nat) (xs : Nat → Int32) (D : va_G) (p : Program) (l : Launch) (e : Env) (R : Room) (s : State) (m : MethodId) (args : Array Value) (below : List Frame) (meth : Method) (c : Code) (Q : State → Prop), fw_C k base b L xs p l R s m args meth c →
      ∀ (tys : List (ClassId × FieldType)) (ws : va_W) (H : Heap) (locs : List Loc) (cells slots : Nat) (ls : Array Slot) (cst : List Value), fw_H base b L xs D σ tys ws s H → va_S (fun q => base ≤ q) s.heap H locs → fw_L k (fw_al ws) b ls ll → fw_St (fw_al ws) b st cst → cells + n1 ≤ R.cells → slots + n2 ≤ R.slots →
      (∀ (tys' : List (ClassId × FieldType)) (ws' : va_W) (H' : Heap) (locs' : List Loc) (ls' : Array Slot) (cst' : List Value), fw_H base b L xs D σ' tys' ws' s H' → va_S (fun q => base ≤ q) s.heap H' locs' → fw_al ws <+: fw_al ws' → fw_L k (fw_al ws') b ls' ll' → fw_St (fw_al ws') b st' cst' → W p l e R s m args below meth c H' locs' (cells + n1) (slots + n2) Q (F0 m pc' ls' cst')) →
      W p l e R s m args below meth c H locs cells slots Q (F0 m pc ls cst)) : fw_J k pc ll st σ out := by
  refine ⟨⟨by have := hJ.1.1; omega, by have := hJ.1.2; omega⟩, ?_⟩
  intro base b L xs D p l e R s m args below meth c Q al0 C0 S0 hC hF hR1 hR2 tys ws H locs cells slots ls cst hH hS hal hc1 hc2 hL hT
  refine hs base b L xs D p l e R s m args below meth c Q hC tys ws H locs cells slots ls cst hH hS hL hT (by have := hJ.1.1; omega) (by have := hJ.1.2; omega) ?_
  intro tys' ws' H' locs' ls' cst' hH' hS' hal' hL' hT'
  exact hJ.2 base b L xs D p l e R s m args below meth c Q al0 C0 S0 hC hF hR1 hR2 tys' ws' H' locs' (cells + n1) (slots + n2) ls' cst' hH' hS' (hal.trans hal') (by omega) (by omega) hL' hT'
/-- an instruction that changes no cell -/
theorem fw_jp {k pc pc' : Nat} {ll ll' st st' : List fw_V} {σ : fw_M} {out : fw_O} (hJ : fw_J k pc' ll' st' σ out)
    (hs : ∀ (base b L : Nat) (xs : Nat → Int32) (D : va_G) (p : Program) (l : Launch) (e : Env) (R : Room) (s : State) (m : MethodId) (args : Array Value) (below : List Frame) (meth : Method) (c : Code) (Q : State → Prop), fw_C k base b L xs p l R s m args meth c →
      ∀ (tys : List (ClassId × FieldType)) (ws : va_W) (H : Heap) (locs : List Loc) (cells slots : Nat) (ls : Array Slot) (cst : List Value), fw_H base b L xs D σ tys ws s H → va_S (fun q => base ≤ q) s.heap H locs → fw_L k (fw_al ws) b ls ll → fw_St (fw_al ws) b st cst → cells ≤ R.cells → slots ≤ R.slots →
      (∀ (ls' : Array Slot) (cst' : List Value), fw_L k (fw_al ws) b ls' ll' → fw_St (fw_al ws) b st' cst' → W p l e R s m args below meth c H locs cells slots Q (F0 m pc' ls' cst')) →
      W p l e R s m args below meth c H locs cells slots Q (F0 m pc ls cst)) : fw_J k pc ll st σ out :=
  fw_jg hJ 0 0 (Int.add_zero _).symm (Int.add_zero _).symm fun base b L xs D p l e R s m args below meth c Q hC tys ws H locs cells slots ls cst hH hS hL hT h1 h2 kk =>
    hs base b L xs D p l e R s m args below meth c Q hC tys ws H locs cells slots ls cst hH hS hL hT h1 h2 fun ls' cst' hL' hT' => kk tys ws H locs ls' cst' hH hS (List.prefix_refl _) hL' hT'
end
section
theorem fw_n64_ok {r : UInt64} (h : fw_n64 r = true) : vf_n64 r := by
  unfold fw_n64 at h
  unfold vf_n64
  exact of_decide_eq_true h
theorem fw_n32_ok {r : UInt32} (h : fw_n32 r = true) : vf_n32 r := by
  unfold fw_n32 at h
  unfold vf_n32
  exact of_decide_eq_true h
theorem fw_toInt_w (a c : Int32) : fw_w (a.toInt + c.toInt) = (a + c).toInt := by rw [Int32.toInt_add]; rfl
theorem fw_toInt_s (a c : Int32) : fw_w (a.toInt - c.toInt) = (a - c).toInt := by rw [Int32.toInt_sub]; rfl
theorem fw_toInt_m (a c : Int32) : fw_w (a.toInt * c.toInt) = (a * c).toInt := by rw [Int32.toInt_mul]; rfl
theorem fw_toInt_l (a c : Int64) : fw_wl (a.toInt + c.toInt) = (a + c).toInt := by rw [Int64.toInt_add]; rfl
theorem fw_dd_of (z : UInt64) : fw_dd (z.toNat : Int) = z := by simp [fw_dd]
theorem fw_ff_of (z : UInt32) : fw_ff (z.toNat : Int) = z := by simp [fw_ff]
theorem fw_tgt_ok {pc : Nat} {off : Int} (h : 0 ≤ (pc : Int) + off) : (pc : Int) + off = ((fw_tgt pc off : Nat) : Int) := by unfold fw_tgt; omega
theorem fw_rem (a d : Int32) (ha : 0 ≤ a.toInt) (hd : 0 < d.toInt) : a.toInt % d.toInt = (a - a / d * d).toInt := by
  obtain ⟨i, hi, rfl⟩ := nI_of (x := a) (by rw [Int32.lt_iff_toInt_lt]; have : (0 : Int32).toInt = 0 := rfl; omega)
  obtain ⟨j, hj, rfl⟩ := nI_of (x := d) (by rw [Int32.lt_iff_toInt_lt]; have : (0 : Int32).toInt = 0 := rfl; omega)
  rw [nI_toInt hj] at hd ⊢
  rw [nI_toInt hi, pk_rem hi (by omega) hj, nI_toInt (Nat.lt_of_le_of_lt (Nat.mod_le _ _) hi)]
  omega
theorem fw_lrem (a d : Int64) (ha : 0 ≤ a.toInt) (hd : 0 < d.toInt) : a.toInt % d.toInt = (a - a / d * d).toInt := by
  have hq : (a / d).toInt = a.toInt / d.toInt := by
    have h1 : a.toInt.tdiv d.toInt = a.toInt / d.toInt := Int.tdiv_eq_ediv_of_nonneg ha
    have h2 : 0 ≤ a.toInt / d.toInt := Int.ediv_nonneg ha (Int.le_of_lt hd)
    have h3 : a.toInt / d.toInt ≤ a.toInt := Int.ediv_le_self _ ha
    have h4 := Int64.toInt_lt a
    rw [Int64.toInt_div, h1, Int.bmod_def]
    split <;> omega
  have hm : a.toInt / d.toInt * d.toInt + a.toInt % d.toInt = a.toInt := Int.ediv_mul_add_emod _ _
  have h5 : 0 ≤ a.toInt % d.toInt := Int.emod_nonneg _ (by omega)
  have h6 : a.toInt % d.toInt < d.toInt := Int.emod_lt_of_pos _ hd
  have h7 := Int64.toInt_lt a
  have h8 := Int64.toInt_lt d
  have h9 : 0 ≤ a.toInt / d.toInt * d.toInt := Int.mul_nonneg (Int.ediv_nonneg ha (Int.le_of_lt hd)) (Int.le_of_lt hd)
  have e1 : (a / d * d).toInt = a.toInt / d.toInt * d.toInt := by
    rw [Int64.toInt_mul, hq]
    generalize a.toInt / d.toInt * d.toInt = z at *
    rw [Int.bmod_def]
    split <;> omega
  rw [Int64.toInt_sub, e1]
  generalize a.toInt / d.toInt * d.toInt = z at *
  rw [Int.bmod_def]
  split <;> omega
theorem fw_j_iadd {k pc : Nat} {ll r : List fw_V} {y x : Int} {σ : fw_M} {out : fw_O} (hd : fw_dec k pc = some (.iadd, 1)) (hJ : fw_J k (pc + 1) ll ((0, fw_w (x + y)) :: r) σ out) : fw_J k pc ll ((0, y) :: (0, x) :: r) σ out := by
  refine fw_jp hJ ?_
  intro base b L xs D p l e R s m args below meth c Q hC tys ws H locs cells slots ls cst hH hS hL hT h1 h2 kk
  obtain ⟨v0, r0, rfl, ⟨z0, rfl, e0⟩, t0⟩ := fw_St_cons hT
  clear hT; have hT := t0; clear t0
  obtain ⟨v1, r1, rfl, ⟨z1, rfl, e1⟩, t1⟩ := fw_St_cons hT
  clear hT; have hT := t1; clear t1
  refine lv_iadd hC.1 hC.2.1 (fw_de' hd) ?_
  have e0 : y = z0.toInt := e0
  have e1 : x = z1.toInt := e1
  exact kk ls _ hL ⟨⟨_, rfl, by rw [e0, e1]; exact fw_toInt_w z1 z0⟩, hT⟩
theorem fw_j_isub {k pc : Nat} {ll r : List fw_V} {y x : Int} {σ : fw_M} {out : fw_O} (hd : fw_dec k pc = some (.isub, 1)) (hJ : fw_J k (pc + 1) ll ((0, fw_w (x - y)) :: r) σ out) : fw_J k pc ll ((0, y) :: (0, x) :: r) σ out := by
  refine fw_jp hJ ?_
  intro base b L xs D p l e R s m args below meth c Q hC tys ws H locs cells slots ls cst hH hS hL hT h1 h2 kk
  obtain ⟨v0, r0, rfl, ⟨z0, rfl, e0⟩, t0⟩ := fw_St_cons hT
  clear hT; have hT := t0; clear t0
  obtain ⟨v1, r1, rfl, ⟨z1, rfl, e1⟩, t1⟩ := fw_St_cons hT
  clear hT; have hT := t1; clear t1
  refine lv_isub hC.1 hC.2.1 (fw_de' hd) ?_
  have e0 : y = z0.toInt := e0
  have e1 : x = z1.toInt := e1
  exact kk ls _ hL ⟨⟨_, rfl, by rw [e0, e1]; exact fw_toInt_s z1 z0⟩, hT⟩
theorem fw_j_imul {k pc : Nat} {ll r : List fw_V} {y x : Int} {σ : fw_M} {out : fw_O} (hd : fw_dec k pc = some (.imul, 1)) (hJ : fw_J k (pc + 1) ll ((0, fw_w (x * y)) :: r) σ out) : fw_J k pc ll ((0, y) :: (0, x) :: r) σ out := by
  refine fw_jp hJ ?_
  intro base b L xs D p l e R s m args below meth c Q hC tys ws H locs cells slots ls cst hH hS hL hT h1 h2 kk
  obtain ⟨v0, r0, rfl, ⟨z0, rfl, e0⟩, t0⟩ := fw_St_cons hT
  clear hT; have hT := t0; clear t0
  obtain ⟨v1, r1, rfl, ⟨z1, rfl, e1⟩, t1⟩ := fw_St_cons hT
  clear hT; have hT := t1; clear t1
  refine lv_imul hC.1 hC.2.1 (fw_de' hd) ?_
  have e0 : y = z0.toInt := e0
  have e1 : x = z1.toInt := e1
  exact kk ls _ hL ⟨⟨_, rfl, by rw [e0, e1]; exact fw_toInt_m z1 z0⟩, hT⟩
theorem fw_j_ladd {k pc : Nat} {ll r : List fw_V} {y x : Int} {σ : fw_M} {out : fw_O} (hd : fw_dec k pc = some (.ladd, 1)) (hJ : fw_J k (pc + 1) ll ((1, fw_wl (x + y)) :: r) σ out) : fw_J k pc ll ((1, y) :: (1, x) :: r) σ out := by
  refine fw_jp hJ ?_
  intro base b L xs D p l e R s m args below meth c Q hC tys ws H locs cells slots ls cst hH hS hL hT h1 h2 kk
  obtain ⟨v0, r0, rfl, ⟨z0, rfl, e0⟩, t0⟩ := fw_St_cons hT
  clear hT; have hT := t0; clear t0
  obtain ⟨v1, r1, rfl, ⟨z1, rfl, e1⟩, t1⟩ := fw_St_cons hT
  clear hT; have hT := t1; clear t1
  refine lv_ladd hC.1 hC.2.1 (fw_de' hd) ?_
  have e0 : y = z0.toInt := e0
  have e1 : x = z1.toInt := e1
  exact kk ls _ hL ⟨⟨_, rfl, by rw [e0, e1]; exact fw_toInt_l z1 z0⟩, hT⟩
theorem fw_j_irem {k pc : Nat} {ll r : List fw_V} {y x : Int} {σ : fw_M} {out : fw_O} (hd : fw_dec k pc = some (.irem, 1)) (hx0 : 0 ≤ x) (hy0 : 0 < y) (hJ : fw_J k (pc + 1) ll ((0, x % y) :: r) σ out) : fw_J k pc ll ((0, y) :: (0, x) :: r) σ out := by
  refine fw_jp hJ ?_
  intro base b L xs D p l e R s m args below meth c Q hC tys ws H locs cells slots ls cst hH hS hL hT h1 h2 kk
  obtain ⟨v0, r0, rfl, ⟨z0, rfl, e0⟩, t0⟩ := fw_St_cons hT
  clear hT; have hT := t0; clear t0
  obtain ⟨v1, r1, rfl, ⟨z1, rfl, e1⟩, t1⟩ := fw_St_cons hT
  clear hT; have hT := t1; clear t1
  have e0 : y = z0.toInt := e0
  have e1 : x = z1.toInt := e1
  refine lv_irem hC.1 hC.2.1 (fw_de' hd) (fun q => ?_) ?_
  · rw [q] at e0; exact absurd e0 (by have : (0 : Int32).toInt = 0 := rfl; omega)
  exact kk ls _ hL ⟨⟨_, rfl, by rw [e0, e1]; exact fw_rem z1 z0 (by omega) (by omega)⟩, hT⟩
theorem fw_j_iand {k pc : Nat} {ll r : List fw_V} {y x : Int} {σ : fw_M} {out : fw_O} (hd : fw_dec k pc = some (.iand, 1)) (hJ : fw_J k (pc + 1) ll ((0, fw_an x y) :: r) σ out) : fw_J k pc ll ((0, y) :: (0, x) :: r) σ out := by
  refine fw_jp hJ ?_
  intro base b L xs D p l e R s m args below meth c Q hC tys ws H locs cells slots ls cst hH hS hL hT h1 h2 kk
  obtain ⟨v0, r0, rfl, ⟨z0, rfl, e0⟩, t0⟩ := fw_St_cons hT
  clear hT; have hT := t0; clear t0
  obtain ⟨v1, r1, rfl, ⟨z1, rfl, e1⟩, t1⟩ := fw_St_cons hT
  clear hT; have hT := t1; clear t1
  refine lv_iand hC.1 hC.2.1 (fw_de' hd) ?_
  have e0 : y = z0.toInt := e0
  have e1 : x = z1.toInt := e1
  exact kk ls _ hL ⟨⟨_, rfl, by rw [e0, e1]; unfold fw_an; rw [Int32.ofInt_toInt, Int32.ofInt_toInt]⟩, hT⟩
theorem fw_j_ishr {k pc : Nat} {ll r : List fw_V} {y x : Int} {σ : fw_M} {out : fw_O} (hd : fw_dec k pc = some (.ishr, 1)) (hJ : fw_J k (pc + 1) ll ((0, fw_sh x y) :: r) σ out) : fw_J k pc ll ((0, y) :: (0, x) :: r) σ out := by
  refine fw_jp hJ ?_
  intro base b L xs D p l e R s m args below meth c Q hC tys ws H locs cells slots ls cst hH hS hL hT h1 h2 kk
  obtain ⟨v0, r0, rfl, ⟨z0, rfl, e0⟩, t0⟩ := fw_St_cons hT
  clear hT; have hT := t0; clear t0
  obtain ⟨v1, r1, rfl, ⟨z1, rfl, e1⟩, t1⟩ := fw_St_cons hT
  clear hT; have hT := t1; clear t1
  refine lv_ishr hC.1 hC.2.1 (fw_de' hd) ?_
  have e0 : y = z0.toInt := e0
  have e1 : x = z1.toInt := e1
  exact kk ls _ hL ⟨⟨_, rfl, by rw [e0, e1]; unfold fw_sh; rw [Int32.ofInt_toInt, Int32.ofInt_toInt]⟩, hT⟩
theorem fw_j_lmul {k pc : Nat} {ll r : List fw_V} {y x : Int} {σ : fw_M} {out : fw_O} (hd : fw_dec k pc = some (.lmul, 1)) (hJ : fw_J k (pc + 1) ll ((1, fw_wl (x * y)) :: r) σ out) : fw_J k pc ll ((1, y) :: (1, x) :: r) σ out := by
  refine fw_jp hJ ?_
  intro base b L xs D p l e R s m args below meth c Q hC tys ws H locs cells slots ls cst hH hS hL hT h1 h2 kk
  obtain ⟨v0, r0, rfl, ⟨z0, rfl, e0⟩, t0⟩ := fw_St_cons hT
  clear hT; have hT := t0; clear t0
  obtain ⟨v1, r1, rfl, ⟨z1, rfl, e1⟩, t1⟩ := fw_St_cons hT
  clear hT; have hT := t1; clear t1
  refine lv_lmul hC.1 hC.2.1 (fw_de' hd) ?_
  have e0 : y = z0.toInt := e0
  have e1 : x = z1.toInt := e1
  exact kk ls _ hL ⟨⟨_, rfl, by rw [e0, e1, Int64.toInt_mul]; rfl⟩, hT⟩
theorem fw_j_lrem {k pc : Nat} {ll r : List fw_V} {y x : Int} {σ : fw_M} {out : fw_O} (hd : fw_dec k pc = some (.lrem, 1)) (hx0 : 0 ≤ x) (hy0 : 0 < y) (hJ : fw_J k (pc + 1) ll ((1, x % y) :: r) σ out) : fw_J k pc ll ((1, y) :: (1, x) :: r) σ out := by
  refine fw_jp hJ ?_
  intro base b L xs D p l e R s m args below meth c Q hC tys ws H locs cells slots ls cst hH hS hL hT h1 h2 kk
  obtain ⟨v0, r0, rfl, ⟨z0, rfl, e0⟩, t0⟩ := fw_St_cons hT
  clear hT; have hT := t0; clear t0
  obtain ⟨v1, r1, rfl, ⟨z1, rfl, e1⟩, t1⟩ := fw_St_cons hT
  clear hT; have hT := t1; clear t1
  have e0 : y = z0.toInt := e0
  have e1 : x = z1.toInt := e1
  refine lv_lrem hC.1 hC.2.1 (fw_de' hd) (fun q => ?_) ?_
  · rw [q] at e0; exact absurd e0 (by have : (0 : Int64).toInt = 0 := rfl; omega)
  exact kk ls _ hL ⟨⟨_, rfl, by rw [e0, e1]; exact fw_lrem z1 z0 (by omega) (by omega)⟩, hT⟩
theorem fw_j_l2i {k pc : Nat} {ll r : List fw_V} {x : Int} {σ : fw_M} {out : fw_O} (hd : fw_dec k pc = some (.l2i, 1)) (hJ : fw_J k (pc + 1) ll ((0, fw_w x) :: r) σ out) : fw_J k pc ll ((1, x) :: r) σ out := by
  refine fw_jp hJ ?_
  intro base b L xs D p l e R s m args below meth c Q hC tys ws H locs cells slots ls cst hH hS hL hT h1 h2 kk
  obtain ⟨v0, r0, rfl, ⟨z0, rfl, e0⟩, t0⟩ := fw_St_cons hT
  clear hT; have hT := t0; clear t0
  refine lv_l2i hC.1 hC.2.1 (fw_de' hd) rfl ?_
  have e0 : x = z0.toInt := e0
  exact kk ls _ hL ⟨⟨_, rfl, by rw [e0, Int64.toInt_toInt32]; rfl⟩, hT⟩
theorem fw_j_lcmp {k pc : Nat} {ll r : List fw_V} {y x : Int} {σ : fw_M} {out : fw_O} (hd : fw_dec k pc = some (.lcmp, 1)) (hJ : fw_J k (pc + 1) ll ((0, if y < x then 1 else if x = y then 0 else -1) :: r) σ out) : fw_J k pc ll ((1, y) :: (1, x) :: r) σ out := by
  refine fw_jp hJ ?_
  intro base b L xs D p l e R s m args below meth c Q hC tys ws H locs cells slots ls cst hH hS hL hT h1 h2 kk
  obtain ⟨v0, r0, rfl, ⟨z0, rfl, e0⟩, t0⟩ := fw_St_cons hT
  clear hT; have hT := t0; clear t0
  obtain ⟨v1, r1, rfl, ⟨z1, rfl, e1⟩, t1⟩ := fw_St_cons hT
  clear hT; have hT := t1; clear t1
  refine W.lcmp hC.1 hC.2.1 (fw_de' hd) ?_
  have e0 : y = z0.toInt := e0
  have e1 : x = z1.toInt := e1
  refine kk ls _ hL ⟨⟨_, rfl, ?_⟩, hT⟩
  show (if y < x then (1 : Int) else if x = y then 0 else -1) = _
  unfold lg_cmp
  simp only [gt_iff_lt, Int64.lt_iff_toInt_lt, ← Int64.toInt_inj, ← e0, ← e1]
  by_cases q1 : y < x
  · rw [if_pos q1, if_pos q1]; rfl
  · rw [if_neg q1, if_neg q1]
    by_cases q2 : x = y
    · rw [if_pos q2, if_pos q2]; rfl
    · rw [if_neg q2, if_neg q2]; rfl
theorem fw_j_i2l {k pc : Nat} {ll r : List fw_V} {x : Int} {σ : fw_M} {out : fw_O} (hd : fw_dec k pc = some (.i2l, 1)) (hJ : fw_J k (pc + 1) ll ((1, x) :: r) σ out) : fw_J k pc ll ((0, x) :: r) σ out := by
  refine fw_jp hJ ?_
  intro base b L xs D p l e R s m args below meth c Q hC tys ws H locs cells slots ls cst hH hS hL hT h1 h2 kk
  obtain ⟨v0, r0, rfl, ⟨z0, rfl, e0⟩, t0⟩ := fw_St_cons hT
  clear hT; have hT := t0; clear t0
  refine lv_i2l hC.1 hC.2.1 (fw_de' hd) rfl ?_
  have e0 : x = z0.toInt := e0
  exact kk ls _ hL ⟨⟨_, rfl, by rw [Int32.toInt_toInt64]; exact e0⟩, hT⟩
theorem fw_j_i2d {k pc : Nat} {ll r : List fw_V} {x : Int} {σ : fw_M} {out : fw_O} (hd : fw_dec k pc = some (.i2d, 1)) (hJ : fw_J k (pc + 1) ll ((3, ((FP.i2d (Int32.ofInt x)).toNat : Int)) :: r) σ out) : fw_J k pc ll ((0, x) :: r) σ out := by
  refine fw_jp hJ ?_
  intro base b L xs D p l e R s m args below meth c Q hC tys ws H locs cells slots ls cst hH hS hL hT h1 h2 kk
  obtain ⟨v0, r0, rfl, ⟨z0, rfl, e0⟩, t0⟩ := fw_St_cons hT
  clear hT; have hT := t0; clear t0
  refine lv_i2d hC.1 hC.2.1 (fw_de' hd) ?_
  have e0 : x = z0.toInt := e0
  exact kk ls _ hL ⟨⟨_, rfl, by rw [e0, Int32.ofInt_toInt]⟩, hT⟩
theorem fw_j_i2f {k pc : Nat} {ll r : List fw_V} {x : Int} {σ : fw_M} {out : fw_O} (hd : fw_dec k pc = some (.i2f, 1)) (hJ : fw_J k (pc + 1) ll ((4, ((FP.i2f (Int32.ofInt x)).toNat : Int)) :: r) σ out) : fw_J k pc ll ((0, x) :: r) σ out := by
  refine fw_jp hJ ?_
  intro base b L xs D p l e R s m args below meth c Q hC tys ws H locs cells slots ls cst hH hS hL hT h1 h2 kk
  obtain ⟨v0, r0, rfl, ⟨z0, rfl, e0⟩, t0⟩ := fw_St_cons hT
  clear hT; have hT := t0; clear t0
  refine lv_i2f hC.1 hC.2.1 (fw_de' hd) ?_
  have e0 : x = z0.toInt := e0
  exact kk ls _ hL ⟨⟨_, rfl, by rw [e0, Int32.ofInt_toInt]⟩, hT⟩
theorem fw_j_l2d {k pc : Nat} {ll r : List fw_V} {x : Int} {σ : fw_M} {out : fw_O} (hd : fw_dec k pc = some (.l2d, 1)) (hJ : fw_J k (pc + 1) ll ((3, ((FP.l2d (Int64.ofInt x)).toNat : Int)) :: r) σ out) : fw_J k pc ll ((1, x) :: r) σ out := by
  refine fw_jp hJ ?_
  intro base b L xs D p l e R s m args below meth c Q hC tys ws H locs cells slots ls cst hH hS hL hT h1 h2 kk
  obtain ⟨v0, r0, rfl, ⟨z0, rfl, e0⟩, t0⟩ := fw_St_cons hT
  clear hT; have hT := t0; clear t0
  refine lv_l2d hC.1 hC.2.1 (fw_de' hd) ?_
  have e0 : x = z0.toInt := e0
  exact kk ls _ hL ⟨⟨_, rfl, by rw [e0, Int64.ofInt_toInt]⟩, hT⟩
theorem fw_j_f2d {k pc : Nat} {ll r : List fw_V} {x : Int} {σ : fw_M} {out : fw_O} (hd : fw_dec k pc = some (.f2d, 1)) (hn : fw_n64 (FP.f2d (fw_ff x)) = true) (hJ : fw_J k (pc + 1) ll ((3, ((FP.f2d (fw_ff x)).toNat : Int)) :: r) σ out) : fw_J k pc ll ((4, x) :: r) σ out := by
  refine fw_jp hJ ?_
  intro base b L xs D p l e R s m args below meth c Q hC tys ws H locs cells slots ls cst hH hS hL hT h1 h2 kk
  obtain ⟨v0, r0, rfl, ⟨z0, rfl, e0⟩, t0⟩ := fw_St_cons hT
  clear hT; have hT := t0; clear t0
  have e0 : x = (z0.toNat : Int) := e0
  subst e0
  rw [fw_ff_of] at hn kk
  refine lv_f2d hC.1 hC.2.1 (fw_de' hd) (fw_n64_ok hn) ?_
  exact kk ls _ hL ⟨⟨_, rfl, rfl⟩, hT⟩
theorem fw_j_ddiv {k pc : Nat} {ll r : List fw_V} {y x : Int} {σ : fw_M} {out : fw_O} (hd : fw_dec k pc = some (.ddiv, 1)) (hn : fw_n64 (FP.ddiv (fw_dd x) (fw_dd y)) = true) (hJ : fw_J k (pc + 1) ll ((3, ((FP.ddiv (fw_dd x) (fw_dd y)).toNat : Int)) :: r) σ out) : fw_J k pc ll ((3, y) :: (3, x) :: r) σ out := by
  refine fw_jp hJ ?_
  intro base b L xs D p l e R s m args below meth c Q hC tys ws H locs cells slots ls cst hH hS hL hT h1 h2 kk
  obtain ⟨v0, r0, rfl, ⟨z0, rfl, e0⟩, t0⟩ := fw_St_cons hT
  clear hT; have hT := t0; clear t0
  obtain ⟨v1, r1, rfl, ⟨z1, rfl, e1⟩, t1⟩ := fw_St_cons hT
  clear hT; have hT := t1; clear t1
  have e0 : y = (z0.toNat : Int) := e0
  have e1 : x = (z1.toNat : Int) := e1
  subst e0
  subst e1
  rw [fw_dd_of, fw_dd_of] at hn kk
  refine lv_ddiv hC.1 hC.2.1 (fw_de' hd) (fw_n64_ok hn) ?_
  exact kk ls _ hL ⟨⟨_, rfl, rfl⟩, hT⟩
theorem fw_j_fdiv {k pc : Nat} {ll r : List fw_V} {y x : Int} {σ : fw_M} {out : fw_O} (hd : fw_dec k pc = some (.fdiv, 1)) (hn : fw_n32 (FP.fdiv (fw_ff x) (fw_ff y)) = true) (hJ : fw_J k (pc + 1) ll ((4, ((FP.fdiv (fw_ff x) (fw_ff y)).toNat : Int)) :: r) σ out) : fw_J k pc ll ((4, y) :: (4, x) :: r) σ out := by
  refine fw_jp hJ ?_
  intro base b L xs D p l e R s m args below meth c Q hC tys ws H locs cells slots ls cst hH hS hL hT h1 h2 kk
  obtain ⟨v0, r0, rfl, ⟨z0, rfl, e0⟩, t0⟩ := fw_St_cons hT
  clear hT; have hT := t0; clear t0
  obtain ⟨v1, r1, rfl, ⟨z1, rfl, e1⟩, t1⟩ := fw_St_cons hT
  clear hT; have hT := t1; clear t1
  have e0 : y = (z0.toNat : Int) := e0
  have e1 : x = (z1.toNat : Int) := e1
  subst e0
  subst e1
  rw [fw_ff_of, fw_ff_of] at hn kk
  refine lv_fdiv hC.1 hC.2.1 (fw_de' hd) (fw_n32_ok hn) ?_
  exact kk ls _ hL ⟨⟨_, rfl, rfl⟩, hT⟩
theorem fw_j_dcmp {k pc : Nat} {ll r : List fw_V} {y x : Int} {σ : fw_M} {out : fw_O} {op : CmpOp} (hd : fw_dec k pc = some (.dcmp op, 1)) (hJ : fw_J k (pc + 1) ll ((0, (Op.cmpValue (FP.dcmp (fw_dd x) (fw_dd y)) op).toInt) :: r) σ out) : fw_J k pc ll ((3, y) :: (3, x) :: r) σ out := by
  refine fw_jp hJ ?_
  intro base b L xs D p l e R s m args below meth c Q hC tys ws H locs cells slots ls cst hH hS hL hT h1 h2 kk
  obtain ⟨v0, r0, rfl, ⟨z0, rfl, e0⟩, t0⟩ := fw_St_cons hT
  clear hT; have hT := t0; clear t0
  obtain ⟨v1, r1, rfl, ⟨z1, rfl, e1⟩, t1⟩ := fw_St_cons hT
  clear hT; have hT := t1; clear t1
  have e0 : y = (z0.toNat : Int) := e0
  have e1 : x = (z1.toNat : Int) := e1
  subst e0
  subst e1
  rw [fw_dd_of, fw_dd_of] at kk
  refine lv_dcmp hC.1 hC.2.1 (fw_de' hd) ?_
  exact kk ls _ hL ⟨⟨_, rfl, rfl⟩, hT⟩
theorem fw_j_fcmp {k pc : Nat} {ll r : List fw_V} {y x : Int} {σ : fw_M} {out : fw_O} {op : CmpOp} (hd : fw_dec k pc = some (.fcmp op, 1)) (hJ : fw_J k (pc + 1) ll ((0, (Op.cmpValue (FP.fcmp (fw_ff x) (fw_ff y)) op).toInt) :: r) σ out) : fw_J k pc ll ((4, y) :: (4, x) :: r) σ out := by
  refine fw_jp hJ ?_
  intro base b L xs D p l e R s m args below meth c Q hC tys ws H locs cells slots ls cst hH hS hL hT h1 h2 kk
  obtain ⟨v0, r0, rfl, ⟨z0, rfl, e0⟩, t0⟩ := fw_St_cons hT
  clear hT; have hT := t0; clear t0
  obtain ⟨v1, r1, rfl, ⟨z1, rfl, e1⟩, t1⟩ := fw_St_cons hT
  clear hT; have hT := t1; clear t1
  have e0 : y = (z0.toNat : Int) := e0
  have e1 : x = (z1.toNat : Int) := e1
  subst e0
  subst e1
  rw [fw_ff_of, fw_ff_of] at kk
  refine lv_fcmp hC.1 hC.2.1 (fw_de' hd) ?_
  exact kk ls _ hL ⟨⟨_, rfl, rfl⟩, hT⟩
theorem fw_j_iconst {k pc : Nat} {ll st : List fw_V} {n : Int} {σ : fw_M} {out : fw_O} (hd : fw_dec k pc = some (.iconst n, 1)) (hJ : fw_J k (pc + 1) ll ((0, (Int32.ofInt n).toInt) :: st) σ out) : fw_J k pc ll st σ out := by
  refine fw_jp hJ ?_
  intro base b L xs D p l e R s m args below meth c Q hC tys ws H locs cells slots ls cst hH hS hL hT h1 h2 kk
  refine lv_iconst hC.1 hC.2.1 (fw_de' hd) rfl ?_
  exact kk ls _ hL ⟨⟨_, rfl, rfl⟩, hT⟩
theorem fw_j_bipush {k pc : Nat} {ll st : List fw_V} {n : Int} {σ : fw_M} {out : fw_O} (hd : fw_dec k pc = some (.bipush n, 2)) (hJ : fw_J k (pc + 2) ll ((0, (Int8.ofInt n).toInt32.toInt) :: st) σ out) : fw_J k pc ll st σ out := by
  refine fw_jp hJ ?_
  intro base b L xs D p l e R s m args below meth c Q hC tys ws H locs cells slots ls cst hH hS hL hT h1 h2 kk
  refine lv_bipush hC.1 hC.2.1 (fw_de' hd) rfl ?_
  exact kk ls _ hL ⟨⟨_, rfl, rfl⟩, hT⟩
theorem fw_j_sipush {k pc : Nat} {ll st : List fw_V} {n : Int} {σ : fw_M} {out : fw_O} (hd : fw_dec k pc = some (.sipush n, 3)) (hJ : fw_J k (pc + 3) ll ((0, (Int16.ofInt n).toInt32.toInt) :: st) σ out) : fw_J k pc ll st σ out := by
  refine fw_jp hJ ?_
  intro base b L xs D p l e R s m args below meth c Q hC tys ws H locs cells slots ls cst hH hS hL hT h1 h2 kk
  refine lv_sipush hC.1 hC.2.1 (fw_de' hd) rfl ?_
  exact kk ls _ hL ⟨⟨_, rfl, rfl⟩, hT⟩
theorem fw_j_lconst {k pc : Nat} {ll st : List fw_V} {n : Fin 2} {σ : fw_M} {out : fw_O} (hd : fw_dec k pc = some (.lconst n, 1)) (hJ : fw_J k (pc + 1) ll ((1, (Int64.ofNat (n : Nat)).toInt) :: st) σ out) : fw_J k pc ll st σ out := by
  refine fw_jp hJ ?_
  intro base b L xs D p l e R s m args below meth c Q hC tys ws H locs cells slots ls cst hH hS hL hT h1 h2 kk
  refine lv_lconst hC.1 hC.2.1 (fw_de' hd) rfl ?_
  exact kk ls _ hL ⟨⟨_, rfl, rfl⟩, hT⟩
theorem fw_j_fconst {k pc : Nat} {ll st : List fw_V} {σ : fw_M} {out : fw_O} (hd : fw_dec k pc = some (.fconst 0, 1)) (hJ : fw_J k (pc + 1) ll ((4, (FP.fconst0.toNat : Int)) :: st) σ out) : fw_J k pc ll st σ out := by
  refine fw_jp hJ ?_
  intro base b L xs D p l e R s m args below meth c Q hC tys ws H locs cells slots ls cst hH hS hL hT h1 h2 kk
  refine lv_fconst0 hC.1 hC.2.1 (fw_de' hd) ?_
  exact kk ls _ hL ⟨⟨_, rfl, rfl⟩, hT⟩
theorem fw_j_dconst {k pc : Nat} {ll st : List fw_V} {σ : fw_M} {out : fw_O} (hd : fw_dec k pc = some (.dconst 0, 1)) (hJ : fw_J k (pc + 1) ll ((3, (FP.dconst0.toNat : Int)) :: st) σ out) : fw_J k pc ll st σ out := by
  refine fw_jp hJ ?_
  intro base b L xs D p l e R s m args below meth c Q hC tys ws H locs cells slots ls cst hH hS hL hT h1 h2 kk
  refine lv_dconst0 hC.1 hC.2.1 (fw_de' hd) ?_
  exact kk ls _ hL ⟨⟨_, rfl, rfl⟩, hT⟩
theorem fw_j_null {k pc : Nat} {ll st : List fw_V} {σ : fw_M} {out : fw_O} (hd : fw_dec k pc = some (.aconst_null, 1)) (hJ : fw_J k (pc + 1) ll ((2, 0) :: st) σ out) : fw_J k pc ll st σ out := by
  refine fw_jp hJ ?_
  intro base b L xs D p l e R s m args below meth c Q hC tys ws H locs cells slots ls cst hH hS hL hT h1 h2 kk
  refine lv_null hC.1 hC.2.1 (fw_de' hd) ?_
  exact kk ls _ hL ⟨Or.inl ⟨rfl, rfl⟩, hT⟩
theorem fw_ck_spec {o n : Nat} {v : Int} (h : fw_ck o n = some v) : ∃ q ∈ fw_kiT, q.1 = o ∧ q.2.1 = n ∧ q.2.2.1 = v := by
  unfold fw_ck at h
  obtain ⟨q, hq1, hq2⟩ := Option.map_eq_some_iff.mp h
  have hp := List.find?_some hq1
  simp only [Bool.and_eq_true, beq_iff_eq] at hp
  exact ⟨q, List.mem_of_find?_eq_some hq1, hp.1, hp.2, hq2⟩
theorem fw_cl_spec {o n : Nat} {v : Int} (h : fw_cl2 o n = some v) : ∃ q ∈ fw_klT, q.1 = o ∧ q.2.1 = n ∧ q.2.2.1 = v := by
  unfold fw_cl2 at h
  obtain ⟨q, hq1, hq2⟩ := Option.map_eq_some_iff.mp h
  have hp := List.find?_some hq1
  simp only [Bool.and_eq_true, beq_iff_eq] at hp
  exact ⟨q, List.mem_of_find?_eq_some hq1, hp.1, hp.2, hq2⟩
theorem fw_j_ldc {k pc n : Nat} {v : Int} {ll st : List fw_V} {σ : fw_M} {out : fw_O} (hv : fw_ck (fw_oc k) n = some v) (hd : fw_dec k pc = some (.ldc n, 2)) (hJ : fw_J k (pc + 2) ll ((0, v) :: st) σ out) : fw_J k pc ll st σ out := by
  refine fw_jp hJ ?_
  intro base b L xs D p l e R s m args below meth c Q hC tys ws H locs cells slots ls cst hH hS hL hT h1 h2 kk
  obtain ⟨q, hq, q1, q2, q3⟩ := fw_ck_spec hv
  obtain ⟨o1, o2⟩ := fw_ki_ok q hq
  rw [q1, q2, q3] at o1
  rw [q3] at o2
  have hown := hC.2.2.2.1
  refine lv_ldc hC.1 hC.2.1 hown (hC.2.2.2.2.1 _ (fw_wd _ _ o1 rfl)) (fw_de' hd) ?_
  exact kk ls _ hL ⟨⟨_, rfl, o2.symm⟩, hT⟩
theorem fw_j_ldc2 {k pc n : Nat} {v : Int} {ll st : List fw_V} {σ : fw_M} {out : fw_O} (hv : fw_cl2 (fw_oc k) n = some v) (hd : fw_dec k pc = some (.ldc2_w n, 3)) (hJ : fw_J k (pc + 3) ll ((1, v) :: st) σ out) : fw_J k pc ll st σ out := by
  refine fw_jp hJ ?_
  intro base b L xs D p l e R s m args below meth c Q hC tys ws H locs cells slots ls cst hH hS hL hT h1 h2 kk
  obtain ⟨q, hq, q1, q2, q3⟩ := fw_cl_spec hv
  obtain ⟨o1, o2⟩ := fw_kl_ok q hq
  rw [q1, q2, q3] at o1
  rw [q3] at o2
  have hown := hC.2.2.2.1
  refine lv_ldc2 hC.1 hC.2.1 hown (hC.2.2.2.2.1 _ (fw_wd _ _ o1 rfl)) (fw_de' hd) ?_
  exact kk ls _ hL ⟨⟨_, rfl, o2.symm⟩, hT⟩
theorem fw_j_iload_n {k pc : Nat} {ll st : List fw_V} {n : Fin 4} {σ : fw_M} {out : fw_O} (hd : fw_dec k pc = some (.iload_n n, 1)) (ht : (fw_g ll n).1 = 0) (hJ : fw_J k (pc + 1) ll (fw_g ll n :: st) σ out) : fw_J k pc ll st σ out := by
  refine fw_jp hJ ?_
  intro base b L xs D p l e R s m args below meth c Q hC tys ws H locs cells slots ls cst hH hS hL hT h1 h2 kk
  obtain ⟨v, hv, hc⟩ := fw_L_at (i := n) hL (by omega)
  have hc0 := hc
  unfold fw_vr at hc
  rw [ht] at hc
  obtain ⟨z, rfl, -⟩ := hc
  refine lv_iload_n hC.1 hC.2.1 (fw_de' hd) rfl hv ?_
  exact kk ls _ hL ⟨hc0, hT⟩
theorem fw_j_iload {k pc : Nat} {ll st : List fw_V} {n : Nat} {σ : fw_M} {out : fw_O} (hd : fw_dec k pc = some (.iload n, 2)) (ht : (fw_g ll n).1 = 0) (hJ : fw_J k (pc + 2) ll (fw_g ll n :: st) σ out) : fw_J k pc ll st σ out := by
  refine fw_jp hJ ?_
  intro base b L xs D p l e R s m args below meth c Q hC tys ws H locs cells slots ls cst hH hS hL hT h1 h2 kk
  obtain ⟨v, hv, hc⟩ := fw_L_at (i := n) hL (by omega)
  have hc0 := hc
  unfold fw_vr at hc
  rw [ht] at hc
  obtain ⟨z, rfl, -⟩ := hc
  refine lv_iload hC.1 hC.2.1 (fw_de' hd) hv ?_
  exact kk ls _ hL ⟨hc0, hT⟩
theorem fw_j_lload_n {k pc : Nat} {ll st : List fw_V} {n : Fin 4} {σ : fw_M} {out : fw_O} (hd : fw_dec k pc = some (.lload_n n, 1)) (ht : (fw_g ll n).1 = 1) (hJ : fw_J k (pc + 1) ll (fw_g ll n :: st) σ out) : fw_J k pc ll st σ out := by
  refine fw_jp hJ ?_
  intro base b L xs D p l e R s m args below meth c Q hC tys ws H locs cells slots ls cst hH hS hL hT h1 h2 kk
  obtain ⟨v, hv, hc⟩ := fw_L_at (i := n) hL (by omega)
  have hc0 := hc
  unfold fw_vr at hc
  rw [ht] at hc
  obtain ⟨z, rfl, -⟩ := hc
  refine lv_lload_n hC.1 hC.2.1 (fw_de' hd) rfl hv ?_
  exact kk ls _ hL ⟨hc0, hT⟩
theorem fw_j_lload {k pc : Nat} {ll st : List fw_V} {n : Nat} {σ : fw_M} {out : fw_O} (hd : fw_dec k pc = some (.lload n, 2)) (ht : (fw_g ll n).1 = 1) (hJ : fw_J k (pc + 2) ll (fw_g ll n :: st) σ out) : fw_J k pc ll st σ out := by
  refine fw_jp hJ ?_
  intro base b L xs D p l e R s m args below meth c Q hC tys ws H locs cells slots ls cst hH hS hL hT h1 h2 kk
  obtain ⟨v, hv, hc⟩ := fw_L_at (i := n) hL (by omega)
  have hc0 := hc
  unfold fw_vr at hc
  rw [ht] at hc
  obtain ⟨z, rfl, -⟩ := hc
  refine lv_lload hC.1 hC.2.1 (fw_de' hd) hv ?_
  exact kk ls _ hL ⟨hc0, hT⟩
theorem fw_j_fload {k pc : Nat} {ll st : List fw_V} {n : Nat} {σ : fw_M} {out : fw_O} (hd : fw_dec k pc = some (.fload n, 2)) (ht : (fw_g ll n).1 = 4) (hJ : fw_J k (pc + 2) ll (fw_g ll n :: st) σ out) : fw_J k pc ll st σ out := by
  refine fw_jp hJ ?_
  intro base b L xs D p l e R s m args below meth c Q hC tys ws H locs cells slots ls cst hH hS hL hT h1 h2 kk
  obtain ⟨v, hv, hc⟩ := fw_L_at (i := n) hL (by omega)
  have hc0 := hc
  unfold fw_vr at hc
  rw [ht] at hc
  obtain ⟨z, rfl, -⟩ := hc
  refine lv_fload hC.1 hC.2.1 (fw_de' hd) hv ?_
  exact kk ls _ hL ⟨hc0, hT⟩
theorem fw_j_aload_n {k pc : Nat} {ll st : List fw_V} {n : Fin 4} {σ : fw_M} {out : fw_O} (hd : fw_dec k pc = some (.aload_n n, 1)) (ht : (fw_g ll n).1 = 2 ∨ (fw_g ll n).1 = 6) (hJ : fw_J k (pc + 1) ll (fw_g ll n :: st) σ out) : fw_J k pc ll st σ out := by
  refine fw_jp hJ ?_
  intro base b L xs D p l e R s m args below meth c Q hC tys ws H locs cells slots ls cst hH hS hL hT h1 h2 kk
  obtain ⟨v, hv, hc⟩ := fw_L_at (i := n) hL (by omega)
  have hc0 := hc
  unfold fw_vr at hc
  rcases ht with ht | ht
  · rw [ht] at hc
    rcases hc with ⟨-, rfl⟩ | ⟨i, a, -, -, rfl⟩
    · refine lv_aload_nN hC.1 hC.2.1 (fw_de' hd) rfl hv ?_
      exact kk ls _ hL ⟨hc0, hT⟩
    · refine lv_aload_n hC.1 hC.2.1 (fw_de' hd) rfl hv ?_
      exact kk ls _ hL ⟨hc0, hT⟩
  · rw [ht] at hc
    cases hc
    refine lv_aload_n hC.1 hC.2.1 (fw_de' hd) rfl hv ?_
    exact kk ls _ hL ⟨hc0, hT⟩
theorem fw_j_aload {k pc : Nat} {ll st : List fw_V} {n : Nat} {σ : fw_M} {out : fw_O} (hd : fw_dec k pc = some (.aload n, 2)) (ht : (fw_g ll n).1 = 2 ∨ (fw_g ll n).1 = 6) (hJ : fw_J k (pc + 2) ll (fw_g ll n :: st) σ out) : fw_J k pc ll st σ out := by
  refine fw_jp hJ ?_
  intro base b L xs D p l e R s m args below meth c Q hC tys ws H locs cells slots ls cst hH hS hL hT h1 h2 kk
  obtain ⟨v, hv, hc⟩ := fw_L_at (i := n) hL (by omega)
  have hc0 := hc
  unfold fw_vr at hc
  rcases ht with ht | ht
  · rw [ht] at hc
    rcases hc with ⟨-, rfl⟩ | ⟨i, a, -, -, rfl⟩
    · refine lv_aloadN hC.1 hC.2.1 (fw_de' hd) hv ?_
      exact kk ls _ hL ⟨hc0, hT⟩
    · refine lv_aload hC.1 hC.2.1 (fw_de' hd) hv ?_
      exact kk ls _ hL ⟨hc0, hT⟩
  · rw [ht] at hc
    cases hc
    refine lv_aload hC.1 hC.2.1 (fw_de' hd) hv ?_
    exact kk ls _ hL ⟨hc0, hT⟩
theorem fw_j_istore_n {k pc : Nat} {ll r : List fw_V} {x : Int} {n : Fin 4} {σ : fw_M} {out : fw_O} (hd : fw_dec k pc = some (.istore_n n, 1)) (hs : fw_so k ll n = true) (hJ : fw_J k (pc + 1) (ll.set n (0, x)) r σ out) : fw_J k pc ll ((0, x) :: r) σ out := by
  refine fw_jp hJ ?_
  intro base b L xs D p l e R s m args below meth c Q hC tys ws H locs cells slots ls cst hH hS hL hT h1 h2 kk
  obtain ⟨l9, g1, g2, g3, g4, g5, g6⟩ := hL
  have hn : (n : Nat) < fw_mL k := by
    simp only [fw_so, Bool.and_eq_true, decide_eq_true_eq] at hs
    exact hs.1
  obtain ⟨v, r0, rfl, hv, t9⟩ := fw_St_cons hT
  clear hT; have hT := t9; clear t9
  have hv0 := hv
  obtain ⟨z, rfl, -⟩ := hv
  refine lv_istore_n hC.1 hC.2.1 (fw_de' hd) rfl g1 hn rfl (fun ls' hl' => ?_)
  exact kk ls' _ (fw_L_set g2 g3 g4 g5 g6 hs hv0 (show (0 : Nat) ≠ 1 by decide) (show (0 : Nat) ≠ 3 by decide) hl') hT
theorem fw_j_istore {k pc : Nat} {ll r : List fw_V} {x : Int} {n : Nat} {σ : fw_M} {out : fw_O} (hd : fw_dec k pc = some (.istore n, 2)) (hs : fw_so k ll n = true) (hJ : fw_J k (pc + 2) (ll.set n (0, x)) r σ out) : fw_J k pc ll ((0, x) :: r) σ out := by
  refine fw_jp hJ ?_
  intro base b L xs D p l e R s m args below meth c Q hC tys ws H locs cells slots ls cst hH hS hL hT h1 h2 kk
  obtain ⟨l9, g1, g2, g3, g4, g5, g6⟩ := hL
  have hn : (n : Nat) < fw_mL k := by
    simp only [fw_so, Bool.and_eq_true, decide_eq_true_eq] at hs
    exact hs.1
  obtain ⟨v, r0, rfl, hv, t9⟩ := fw_St_cons hT
  clear hT; have hT := t9; clear t9
  have hv0 := hv
  obtain ⟨z, rfl, -⟩ := hv
  refine lv_istore hC.1 hC.2.1 (fw_de' hd) g1 hn rfl (fun ls' hl' => ?_)
  exact kk ls' _ (fw_L_set g2 g3 g4 g5 g6 hs hv0 (show (0 : Nat) ≠ 1 by decide) (show (0 : Nat) ≠ 3 by decide) hl') hT
theorem fw_j_astore_n {k pc : Nat} {ll r : List fw_V} {x : Int} {n : Fin 4} {σ : fw_M} {out : fw_O} (hd : fw_dec k pc = some (.astore_n n, 1)) (hs : fw_so k ll n = true) (hJ : fw_J k (pc + 1) (ll.set n (2, x)) r σ out) : fw_J k pc ll ((2, x) :: r) σ out := by
  refine fw_jp hJ ?_
  intro base b L xs D p l e R s m args below meth c Q hC tys ws H locs cells slots ls cst hH hS hL hT h1 h2 kk
  obtain ⟨l9, g1, g2, g3, g4, g5, g6⟩ := hL
  have hn : (n : Nat) < fw_mL k := by
    simp only [fw_so, Bool.and_eq_true, decide_eq_true_eq] at hs
    exact hs.1
  obtain ⟨v, r0, rfl, hv, t9⟩ := fw_St_cons hT
  clear hT; have hT := t9; clear t9
  have hv0 := hv
  rcases hv with ⟨-, rfl⟩ | ⟨i, a, -, -, rfl⟩
  · refine lv_astore_nN hC.1 hC.2.1 (fw_de' hd) rfl g1 hn rfl (fun ls' hl' => ?_)
    exact kk ls' _ (fw_L_set g2 g3 g4 g5 g6 hs hv0 (show (2 : Nat) ≠ 1 by decide) (show (2 : Nat) ≠ 3 by decide) hl') hT
  · refine lv_astore_n hC.1 hC.2.1 (fw_de' hd) rfl g1 hn rfl (fun ls' hl' => ?_)
    exact kk ls' _ (fw_L_set g2 g3 g4 g5 g6 hs hv0 (show (2 : Nat) ≠ 1 by decide) (show (2 : Nat) ≠ 3 by decide) hl') hT
theorem fw_j_astore_n7 {k pc : Nat} {ll r : List fw_V} {x : Int} {n : Fin 4} {σ : fw_M} {out : fw_O} (hd : fw_dec k pc = some (.astore_n n, 1)) (hs : fw_so k ll n = true) (hJ : fw_J k (pc + 1) (ll.set n (7, x)) r σ out) : fw_J k pc ll ((7, x) :: r) σ out := by
  refine fw_jp hJ ?_
  intro base b L xs D p l e R s m args below meth c Q hC tys ws H locs cells slots ls cst hH hS hL hT h1 h2 kk
  obtain ⟨l9, g1, g2, g3, g4, g5, g6⟩ := hL
  have hn : (n : Nat) < fw_mL k := by
    simp only [fw_so, Bool.and_eq_true, decide_eq_true_eq] at hs
    exact hs.1
  obtain ⟨v, r0, rfl, hv, t9⟩ := fw_St_cons hT
  clear hT; have hT := t9; clear t9
  have hv0 := hv
  obtain ⟨z, rfl⟩ := hv
  refine lv_astore_n hC.1 hC.2.1 (fw_de' hd) rfl g1 hn rfl (fun ls' hl' => ?_)
  exact kk ls' _ (fw_L_set g2 g3 g4 g5 g6 hs hv0 (show (7 : Nat) ≠ 1 by decide) (show (7 : Nat) ≠ 3 by decide) hl') hT
theorem fw_j_astore {k pc : Nat} {ll r : List fw_V} {x : Int} {n : Nat} {σ : fw_M} {out : fw_O} (hd : fw_dec k pc = some (.astore n, 2)) (hs : fw_so k ll n = true) (hJ : fw_J k (pc + 2) (ll.set n (2, x)) r σ out) : fw_J k pc ll ((2, x) :: r) σ out := by
  refine fw_jp hJ ?_
  intro base b L xs D p l e R s m args below meth c Q hC tys ws H locs cells slots ls cst hH hS hL hT h1 h2 kk
  obtain ⟨l9, g1, g2, g3, g4, g5, g6⟩ := hL
  have hn : (n : Nat) < fw_mL k := by
    simp only [fw_so, Bool.and_eq_true, decide_eq_true_eq] at hs
    exact hs.1
  obtain ⟨v, r0, rfl, hv, t9⟩ := fw_St_cons hT
  clear hT; have hT := t9; clear t9
  have hv0 := hv
  rcases hv with ⟨-, rfl⟩ | ⟨i, a, -, -, rfl⟩
  · refine lv_astoreN hC.1 hC.2.1 (fw_de' hd) g1 hn rfl (fun ls' hl' => ?_)
    exact kk ls' _ (fw_L_set g2 g3 g4 g5 g6 hs hv0 (show (2 : Nat) ≠ 1 by decide) (show (2 : Nat) ≠ 3 by decide) hl') hT
  · refine lv_astore hC.1 hC.2.1 (fw_de' hd) g1 hn rfl (fun ls' hl' => ?_)
    exact kk ls' _ (fw_L_set g2 g3 g4 g5 g6 hs hv0 (show (2 : Nat) ≠ 1 by decide) (show (2 : Nat) ≠ 3 by decide) hl') hT
theorem fw_j_astore7 {k pc : Nat} {ll r : List fw_V} {x : Int} {n : Nat} {σ : fw_M} {out : fw_O} (hd : fw_dec k pc = some (.astore n, 2)) (hs : fw_so k ll n = true) (hJ : fw_J k (pc + 2) (ll.set n (7, x)) r σ out) : fw_J k pc ll ((7, x) :: r) σ out := by
  refine fw_jp hJ ?_
  intro base b L xs D p l e R s m args below meth c Q hC tys ws H locs cells slots ls cst hH hS hL hT h1 h2 kk
  obtain ⟨l9, g1, g2, g3, g4, g5, g6⟩ := hL
  have hn : (n : Nat) < fw_mL k := by
    simp only [fw_so, Bool.and_eq_true, decide_eq_true_eq] at hs
    exact hs.1
  obtain ⟨v, r0, rfl, hv, t9⟩ := fw_St_cons hT
  clear hT; have hT := t9; clear t9
  have hv0 := hv
  obtain ⟨z, rfl⟩ := hv
  refine lv_astore hC.1 hC.2.1 (fw_de' hd) g1 hn rfl (fun ls' hl' => ?_)
  exact kk ls' _ (fw_L_set g2 g3 g4 g5 g6 hs hv0 (show (7 : Nat) ≠ 1 by decide) (show (7 : Nat) ≠ 3 by decide) hl') hT
theorem fw_j_fstore {k pc : Nat} {ll r : List fw_V} {x : Int} {n : Nat} {σ : fw_M} {out : fw_O} (hd : fw_dec k pc = some (.fstore n, 2)) (hs : fw_so k ll n = true) (hJ : fw_J k (pc + 2) (ll.set n (4, x)) r σ out) : fw_J k pc ll ((4, x) :: r) σ out := by
  refine fw_jp hJ ?_
  intro base b L xs D p l e R s m args below meth c Q hC tys ws H locs cells slots ls cst hH hS hL hT h1 h2 kk
  obtain ⟨l9, g1, g2, g3, g4, g5, g6⟩ := hL
  have hn : (n : Nat) < fw_mL k := by
    simp only [fw_so, Bool.and_eq_true, decide_eq_true_eq] at hs
    exact hs.1
  obtain ⟨v, r0, rfl, hv, t9⟩ := fw_St_cons hT
  clear hT; have hT := t9; clear t9
  have hv0 := hv
  obtain ⟨z, rfl, -⟩ := hv
  refine lv_fstore hC.1 hC.2.1 (fw_de' hd) g1 hn rfl (fun ls' hl' => ?_)
  exact kk ls' _ (fw_L_set g2 g3 g4 g5 g6 hs hv0 (show (4 : Nat) ≠ 1 by decide) (show (4 : Nat) ≠ 3 by decide) hl') hT
theorem fw_L_setD {al : List Nat} {b : Nat} {ls' : Array Slot} {ll : List fw_V} {i : Nat} {av : fw_V} {v : Value} {l : List (Nat × Value)} (hl : ll.length = fw_mL fw_KS) (h3 : ∀ (i : Nat) (av : fw_V), ll[i]? = some av → av.1 ≠ 8 → ∃ v, (i, v) ∈ l ∧ fw_vr al b av v)
    (h4 : ∀ q ∈ l, q.2.category = 2 → ∃ av : fw_V, ll[q.1]? = some av ∧ av.1 = 1) (h5 : ∀ av ∈ ll, av.1 ≠ 3)
    (hs : fw_so fw_KS ll i = true) (hi : i + 1 < fw_mL fw_KS) (hc : fw_vr al b av v) (ha3 : av.1 = 1)
    (h : lv_has ls' (fw_mL fw_KS) ((i, v) :: l.filter (fun q => !(q.1 == i) && (!(q.1 == i + 1) && !(q.1 + 1 == i && q.2.category == 2))))) : fw_L fw_KS al b ls' ((ll.set i av).set (i + 1) (8, 0)) := by
  simp only [fw_so, Bool.and_eq_true, decide_eq_true_eq, Bool.or_eq_true] at hs
  refine ⟨_, h, by rw [List.length_set, List.length_set]; exact hl, fun j aw hj hw => ?_, fun q hq hq2 => ?_, fun aw haw => ?_, fun hk => absurd rfl hk⟩
  · by_cases hji1 : j = i + 1
    · subst hji1
      rw [List.getElem?_set_self (by rw [List.length_set]; omega)] at hj
      cases hj
      exact absurd rfl hw
    · rw [List.getElem?_set_ne (Ne.symm hji1)] at hj
      by_cases hji : j = i
      · subst hji
        rw [List.getElem?_set_self (by omega)] at hj
        cases hj
        exact ⟨v, List.mem_cons_self, hc⟩
      · rw [List.getElem?_set_ne (Ne.symm hji)] at hj
        obtain ⟨w, hw1, hw2⟩ := h3 j aw hj hw
        refine ⟨w, List.mem_cons_of_mem _ (List.mem_filter.mpr ⟨hw1, ?_⟩), hw2⟩
        have e1 : (j == i) = false := by simpa using hji
        have e2 : (j == i + 1) = false := by simpa using hji1
        by_cases hj1 : j + 1 = i
        · have hw3 : ¬ w.category = 2 := by
            intro hw3
            obtain ⟨ax, hx1, hx2⟩ := h4 _ hw1 hw3
            rcases hs.2 with (hs2 | hs2) | hs2
            · exact absurd rfl hs2
            · omega
            · have e9 : i - 1 = j := by omega
              rw [e9, fw_at_g hx1] at hs2
              exact hs2 hx2
          simp [e1, e2, hw3]
        · simp [e1, e2, hj1]
  · rcases List.mem_cons.mp hq with rfl | hq
    · refine ⟨av, ?_, ha3⟩
      show ((ll.set i av).set (i + 1) (8, 0))[i]? = some av
      rw [List.getElem?_set_ne (by omega), List.getElem?_set_self (by omega)]
    · obtain ⟨hq1, hq3⟩ := List.mem_filter.mp hq
      obtain ⟨aw, hw1, hw2⟩ := h4 q hq1 hq2
      have hne : q.1 ≠ i := by
        intro hh
        simp [hh] at hq3
      have hne1 : q.1 ≠ i + 1 := by
        intro hh
        simp [hh] at hq3
      exact ⟨aw, by rw [List.getElem?_set_ne (Ne.symm hne1), List.getElem?_set_ne (Ne.symm hne)]; exact hw1, hw2⟩
  · rcases List.mem_or_eq_of_mem_set haw with h | h
    · rcases List.mem_or_eq_of_mem_set h with h | h
      · exact h5 aw h
      · rw [h, ha3]; decide
    · rw [h]; exact (by decide : (8 : Nat) ≠ 3)
theorem fw_j_lstore_n {pc : Nat} {ll r : List fw_V} {x : Int} {n : Fin 4} {σ : fw_M} {out : fw_O} (hd : fw_dec fw_KS pc = some (.lstore_n n, 1)) (hs : fw_so fw_KS ll n = true) (hn : (n : Nat) + 1 < fw_mL fw_KS) (hJ : fw_J fw_KS (pc + 1) ((ll.set n (1, x)).set ((n : Nat) + 1) (8, 0)) r σ out) : fw_J fw_KS pc ll ((1, x) :: r) σ out := by
  refine fw_jp hJ ?_
  intro base b L xs D p l e R s m args below meth c Q hC tys ws H locs cells slots ls cst hH hS hL hT h1 h2 kk
  obtain ⟨l9, g1, g2, g3, g4, g5, g6⟩ := hL
  obtain ⟨v, r0, rfl, hv, t9⟩ := fw_St_cons hT
  clear hT; have hT := t9; clear t9
  have hv0 := hv
  obtain ⟨z, rfl, -⟩ := hv
  refine lv_lstore_n hC.1 hC.2.1 (fw_de' hd) rfl g1 hn rfl (fun ls' hl' => ?_)
  exact kk ls' _ (fw_L_setD g2 g3 g4 g5 hs hn hv0 rfl hl') hT
theorem fw_j_lstore {pc : Nat} {ll r : List fw_V} {x : Int} {n : Nat} {σ : fw_M} {out : fw_O} (hd : fw_dec fw_KS pc = some (.lstore n, 2)) (hs : fw_so fw_KS ll n = true) (hn : (n : Nat) + 1 < fw_mL fw_KS) (hJ : fw_J fw_KS (pc + 2) ((ll.set n (1, x)).set ((n : Nat) + 1) (8, 0)) r σ out) : fw_J fw_KS pc ll ((1, x) :: r) σ out := by
  refine fw_jp hJ ?_
  intro base b L xs D p l e R s m args below meth c Q hC tys ws H locs cells slots ls cst hH hS hL hT h1 h2 kk
  obtain ⟨l9, g1, g2, g3, g4, g5, g6⟩ := hL
  obtain ⟨v, r0, rfl, hv, t9⟩ := fw_St_cons hT
  clear hT; have hT := t9; clear t9
  have hv0 := hv
  obtain ⟨z, rfl, -⟩ := hv
  refine lv_lstore hC.1 hC.2.1 (fw_de' hd) g1 hn rfl (fun ls' hl' => ?_)
  exact kk ls' _ (fw_L_setD g2 g3 g4 g5 hs hn hv0 rfl hl') hT
theorem fw_j_dup_x2 {k pc : Nat} {ll r : List fw_V} {x y z : Int} {σ : fw_M} {out : fw_O} (hd : fw_dec k pc = some (.dup_x2, 1)) (hJ : fw_J k (pc + 1) ll ((0, x) :: (0, y) :: (2, z) :: (0, x) :: r) σ out) : fw_J k pc ll ((0, x) :: (0, y) :: (2, z) :: r) σ out := by
  refine fw_jp hJ ?_
  intro base b L xs D p l e R s m args below meth c Q hC tys ws H locs cells slots ls cst hH hS hL hT h1 h2 kk
  obtain ⟨v, r0, rfl, hv, t9⟩ := fw_St_cons hT
  clear hT; have hT := t9; clear t9
  obtain ⟨v1, r1, rfl, hv1, t9⟩ := fw_St_cons hT
  clear hT; have hT := t9; clear t9
  obtain ⟨v2, r2, rfl, hv2, t9⟩ := fw_St_cons hT
  clear hT; have hT := t9; clear t9
  refine lv_dup_x2 hC.1 hC.2.1 (fw_de' hd) (fw_cat hv (show (0 : Nat) ≠ 1 by decide) (show (0 : Nat) ≠ 3 by decide)) (fw_cat hv1 (show (0 : Nat) ≠ 1 by decide) (show (0 : Nat) ≠ 3 by decide)) (fw_cat hv2 (show (2 : Nat) ≠ 1 by decide) (show (2 : Nat) ≠ 3 by decide)) ?_
  exact kk ls _ hL ⟨hv, hv1, hv2, hv, hT⟩
theorem fw_j_iinc {k pc : Nat} {ll st : List fw_V} {n : Nat} {c0 : Int} {σ : fw_M} {out : fw_O} (hd : fw_dec k pc = some (.iinc n c0, 3)) (ht : (fw_g ll n).1 = 0) (hs : fw_so k ll n = true) (hJ : fw_J k (pc + 3) (ll.set n (0, fw_w ((fw_g ll n).2 + c0))) st σ out) : fw_J k pc ll st σ out := by
  refine fw_jp hJ ?_
  intro base b L xs D p l e R s m args below meth c Q hC tys ws H locs cells slots ls cst hH hS hL hT h1 h2 kk
  obtain ⟨l9, g1, g2, g3, g4, g5, g6⟩ := hL
  have hn : n < fw_mL k := by
    simp only [fw_so, Bool.and_eq_true, decide_eq_true_eq] at hs
    exact hs.1
  obtain ⟨v, hv, hc⟩ := g3 n _ (fw_g_at ll n (by omega)) (by omega)
  unfold fw_vr at hc
  rw [ht] at hc
  obtain ⟨z, rfl, ez⟩ := hc
  obtain ⟨j, hj⟩ := List.getElem?_of_mem hv
  refine lv_iinc hC.1 hC.2.1 (fw_de' hd) g1 hj rfl hn rfl (fun ls' hl' => ?_)
  refine kk ls' _ (fw_L_set g2 g3 g4 g5 g6 hs ⟨_, rfl, ?_⟩ (show (0 : Nat) ≠ 1 by decide) (show (0 : Nat) ≠ 3 by decide) hl') hT
  show fw_w ((fw_g ll n).2 + c0) = _
  rw [ez, Int32.toInt_add, Int32.toInt_ofInt]
  show Int.bmod _ _ = Int.bmod (z.toInt + Int.bmod c0 4294967296) 4294967296
  rw [Int.add_bmod_bmod]
theorem fw_j_dup {k pc : Nat} {ll r : List fw_V} {t : Nat} {x : Int} {σ : fw_M} {out : fw_O} (hd : fw_dec k pc = some (.dup, 1)) (ht : t = 0 ∨ t = 2) (hJ : fw_J k (pc + 1) ll ((t, x) :: (t, x) :: r) σ out) : fw_J k pc ll ((t, x) :: r) σ out := by
  refine fw_jp hJ ?_
  intro base b L xs D p l e R s m args below meth c Q hC tys ws H locs cells slots ls cst hH hS hL hT h1 h2 kk
  obtain ⟨v, r0, rfl, hv, t9⟩ := fw_St_cons hT
  clear hT; have hT := t9; clear t9
  refine lv_dup hC.1 hC.2.1 (fw_de' hd) (fw_cat hv (by show t ≠ 1; omega) (by show t ≠ 3; omega)) ?_
  exact kk ls _ hL ⟨hv, hv, hT⟩
theorem fw_j_pop {k pc : Nat} {ll r : List fw_V} {t : Nat} {x : Int} {σ : fw_M} {out : fw_O} (hd : fw_dec k pc = some (.pop, 1)) (ht : t = 0 ∨ t = 2) (hJ : fw_J k (pc + 1) ll r σ out) : fw_J k pc ll ((t, x) :: r) σ out := by
  refine fw_jp hJ ?_
  intro base b L xs D p l e R s m args below meth c Q hC tys ws H locs cells slots ls cst hH hS hL hT h1 h2 kk
  obtain ⟨v, r0, rfl, hv, t9⟩ := fw_St_cons hT
  clear hT; have hT := t9; clear t9
  refine lv_pop hC.1 hC.2.1 (fw_de' hd) (fw_cat hv (by show t ≠ 1; omega) (by show t ≠ 3; omega)) ?_
  exact kk ls _ hL hT
theorem fw_j_dup2 {k pc : Nat} {ll r : List fw_V} {x y : Int} {σ : fw_M} {out : fw_O} (hd : fw_dec k pc = some (.dup2, 1)) (hJ : fw_J k (pc + 1) ll ((0, x) :: (2, y) :: (0, x) :: (2, y) :: r) σ out) : fw_J k pc ll ((0, x) :: (2, y) :: r) σ out := by
  refine fw_jp hJ ?_
  intro base b L xs D p l e R s m args below meth c Q hC tys ws H locs cells slots ls cst hH hS hL hT h1 h2 kk
  obtain ⟨v, r0, rfl, hv, t9⟩ := fw_St_cons hT
  clear hT; have hT := t9; clear t9
  obtain ⟨v1, r1, rfl, hv1, t9⟩ := fw_St_cons hT
  clear hT; have hT := t9; clear t9
  refine lv_dup2_11 hC.1 hC.2.1 (fw_de' hd) (fw_cat hv (show (0 : Nat) ≠ 1 by decide) (show (0 : Nat) ≠ 3 by decide)) (fw_cat hv1 (show (2 : Nat) ≠ 1 by decide) (show (2 : Nat) ≠ 3 by decide)) ?_
  exact kk ls _ hL ⟨hv, hv1, hv, hv1, hT⟩
theorem fw_j_goto {k pc : Nat} {ll st : List fw_V} {off : Int} {σ : fw_M} {out : fw_O} (hd : fw_dec k pc = some (.goto off, 3)) (h0 : 0 ≤ (pc : Int) + off) (hJ : fw_J k (fw_tgt pc off) ll st σ out) : fw_J k pc ll st σ out := by
  refine fw_jp hJ ?_
  intro base b L xs D p l e R s m args below meth c Q hC tys ws H locs cells slots ls cst hH hS hL hT h1 h2 kk
  exact lv_goto hC.1 hC.2.1 (fw_de' hd) (fw_tgt_ok h0) (kk ls _ hL hT)
theorem fw_j_icmp {k pc : Nat} {ll r : List fw_V} {x y off : Int} {cc : ClassFile.Cond} {σ : fw_M} {out : fw_O} (hd : fw_dec k pc = some (.if_icmp cc off, 3)) (h0 : 0 ≤ (pc : Int) + off) (hJ : fw_J k (if fw_ifc cc x y = true then fw_tgt pc off else pc + 3) ll r σ out) : fw_J k pc ll ((0, y) :: (0, x) :: r) σ out := by
  refine fw_jp hJ ?_
  intro base b L xs D p l e R s m args below meth c Q hC tys ws H locs cells slots ls cst hH hS hL hT h1 h2 kk
  obtain ⟨v0, r0, rfl, ⟨z0, rfl, e0⟩, t0⟩ := fw_St_cons hT
  clear hT; have hT := t0; clear t0
  obtain ⟨v1, r1, rfl, ⟨z1, rfl, e1⟩, t1⟩ := fw_St_cons hT
  clear hT; have hT := t1; clear t1
  have e0 : y = z0.toInt := e0
  have e1 : x = z1.toInt := e1
  have kk := kk ls _ hL hT
  match cc, hd, kk with
  | .eq, hd, kk =>
    refine lv_icmp_eq hC.1 hC.2.1 (fw_de' hd) (fw_tgt_ok h0) (fun q => ?_) (fun q => ?_)
    · rw [if_pos (show fw_ifc .eq x y = true from decide_eq_true (by rw [e0, e1, q]))] at kk; exact kk
    · rw [if_neg (show ¬ fw_ifc .eq x y = true from fun z => absurd (of_decide_eq_true z) (by intro z; exact q (Int32.toInt_inj.mp (by omega))))] at kk; exact kk
  | .ne, hd, kk =>
    refine lv_icmp_ne hC.1 hC.2.1 (fw_de' hd) (fw_tgt_ok h0) (fun q => ?_) (fun q => ?_)
    · rw [if_pos (show fw_ifc .ne x y = true from decide_eq_true (by intro z; exact q (Int32.toInt_inj.mp (by omega))))] at kk; exact kk
    · rw [if_neg (show ¬ fw_ifc .ne x y = true from fun z => absurd (of_decide_eq_true z) (by intro z; exact z (by rw [e0, e1, q])))] at kk; exact kk
  | .lt, hd, kk =>
    refine lv_icmp_lt hC.1 hC.2.1 (fw_de' hd) (fw_tgt_ok h0) (fun q => ?_) (fun q => ?_)
    · rw [if_pos (show fw_ifc .lt x y = true from decide_eq_true (by rw [Int32.lt_iff_toInt_lt] at q; omega))] at kk; exact kk
    · rw [if_neg (show ¬ fw_ifc .lt x y = true from fun z => absurd (of_decide_eq_true z) (by rw [Int32.lt_iff_toInt_lt] at q; omega))] at kk; exact kk
  | .ge, hd, kk =>
    refine lv_icmp_ge hC.1 hC.2.1 (fw_de' hd) (fw_tgt_ok h0) (fun q => ?_) (fun q => ?_)
    · rw [if_pos (show fw_ifc .ge x y = true from decide_eq_true (by rw [Int32.le_iff_toInt_le] at q; omega))] at kk; exact kk
    · rw [if_neg (show ¬ fw_ifc .ge x y = true from fun z => absurd (of_decide_eq_true z) (by rw [Int32.le_iff_toInt_le] at q; omega))] at kk; exact kk
  | .gt, hd, kk =>
    refine lv_icmp_gt hC.1 hC.2.1 (fw_de' hd) (fw_tgt_ok h0) (fun q => ?_) (fun q => ?_)
    · rw [if_pos (show fw_ifc .gt x y = true from decide_eq_true (by rw [Int32.lt_iff_toInt_lt] at q; omega))] at kk; exact kk
    · rw [if_neg (show ¬ fw_ifc .gt x y = true from fun z => absurd (of_decide_eq_true z) (by rw [Int32.lt_iff_toInt_lt] at q; omega))] at kk; exact kk
  | .le, hd, kk =>
    refine lv_icmp_le hC.1 hC.2.1 (fw_de' hd) (fw_tgt_ok h0) (fun q => ?_) (fun q => ?_)
    · rw [if_pos (show fw_ifc .le x y = true from decide_eq_true (by rw [Int32.le_iff_toInt_le] at q; omega))] at kk; exact kk
    · rw [if_neg (show ¬ fw_ifc .le x y = true from fun z => absurd (of_decide_eq_true z) (by rw [Int32.le_iff_toInt_le] at q; omega))] at kk; exact kk
theorem fw_j_ifc {k pc : Nat} {ll r : List fw_V} {x off : Int} {cc : ClassFile.Cond} {σ : fw_M} {out : fw_O} (hd : fw_dec k pc = some (.ifCond cc off, 3)) (h0 : 0 ≤ (pc : Int) + off) (hJ : fw_J k (if fw_ifc cc x 0 = true then fw_tgt pc off else pc + 3) ll r σ out) : fw_J k pc ll ((0, x) :: r) σ out := by
  refine fw_jp hJ ?_
  intro base b L xs D p l e R s m args below meth c Q hC tys ws H locs cells slots ls cst hH hS hL hT h1 h2 kk
  obtain ⟨v0, r0, rfl, ⟨z0, rfl, e0⟩, t0⟩ := fw_St_cons hT
  clear hT; have hT := t0; clear t0
  have e0 : x = z0.toInt := e0
  have kk := kk ls _ hL hT
  have z9 : (0 : Int32).toInt = 0 := rfl
  match cc, hd, kk with
  | .eq, hd, kk =>
    refine lv_if_eq hC.1 hC.2.1 (fw_de' hd) (fw_tgt_ok h0) (fun q => ?_) (fun q => ?_)
    · rw [if_pos (show fw_ifc .eq x 0 = true from decide_eq_true (by rw [e0, q]; rfl))] at kk; exact kk
    · rw [if_neg (show ¬ fw_ifc .eq x 0 = true from fun z => absurd (of_decide_eq_true z) (by intro z; exact q (Int32.toInt_inj.mp (by omega))))] at kk; exact kk
  | .ne, hd, kk =>
    refine lv_if_ne hC.1 hC.2.1 (fw_de' hd) (fw_tgt_ok h0) (fun q => ?_) (fun q => ?_)
    · rw [if_pos (show fw_ifc .ne x 0 = true from decide_eq_true (by intro z; exact q (Int32.toInt_inj.mp (by omega))))] at kk; exact kk
    · rw [if_neg (show ¬ fw_ifc .ne x 0 = true from fun z => absurd (of_decide_eq_true z) (by intro z; exact z (by rw [e0, q]; rfl)))] at kk; exact kk
  | .lt, hd, kk =>
    refine lv_if_lt hC.1 hC.2.1 (fw_de' hd) (fw_tgt_ok h0) (fun q => ?_) (fun q => ?_)
    · rw [if_pos (show fw_ifc .lt x 0 = true from decide_eq_true (by rw [Int32.lt_iff_toInt_lt] at q; omega))] at kk; exact kk
    · rw [if_neg (show ¬ fw_ifc .lt x 0 = true from fun z => absurd (of_decide_eq_true z) (by rw [Int32.lt_iff_toInt_lt] at q; omega))] at kk; exact kk
  | .ge, hd, kk =>
    refine lv_if_ge hC.1 hC.2.1 (fw_de' hd) (fw_tgt_ok h0) (fun q => ?_) (fun q => ?_)
    · rw [if_pos (show fw_ifc .ge x 0 = true from decide_eq_true (by rw [Int32.le_iff_toInt_le] at q; omega))] at kk; exact kk
    · rw [if_neg (show ¬ fw_ifc .ge x 0 = true from fun z => absurd (of_decide_eq_true z) (by rw [Int32.le_iff_toInt_le] at q; omega))] at kk; exact kk
  | .gt, hd, kk =>
    refine lv_if_gt hC.1 hC.2.1 (fw_de' hd) (fw_tgt_ok h0) (fun q => ?_) (fun q => ?_)
    · rw [if_pos (show fw_ifc .gt x 0 = true from decide_eq_true (by rw [Int32.lt_iff_toInt_lt] at q; omega))] at kk; exact kk
    · rw [if_neg (show ¬ fw_ifc .gt x 0 = true from fun z => absurd (of_decide_eq_true z) (by rw [Int32.lt_iff_toInt_lt] at q; omega))] at kk; exact kk
  | .le, hd, kk =>
    refine lv_if_le hC.1 hC.2.1 (fw_de' hd) (fw_tgt_ok h0) (fun q => ?_) (fun q => ?_)
    · rw [if_pos (show fw_ifc .le x 0 = true from decide_eq_true (by rw [Int32.le_iff_toInt_le] at q; omega))] at kk; exact kk
    · rw [if_neg (show ¬ fw_ifc .le x 0 = true from fun z => absurd (of_decide_eq_true z) (by rw [Int32.le_iff_toInt_le] at q; omega))] at kk; exact kk
theorem fw_j_ifnull {k pc : Nat} {ll r : List fw_V} {x off : Int} {σ : fw_M} {out : fw_O} (hd : fw_dec k pc = some (.ifnull off, 3)) (h0 : 0 ≤ (pc : Int) + off) (hJ : fw_J k (if x = 0 then fw_tgt pc off else pc + 3) ll r σ out) : fw_J k pc ll ((2, x) :: r) σ out := by
  refine fw_jp hJ ?_
  intro base b L xs D p l e R s m args below meth c Q hC tys ws H locs cells slots ls cst hH hS hL hT h1 h2 kk
  obtain ⟨v, r0, rfl, hv, t9⟩ := fw_St_cons hT
  clear hT; have hT := t9; clear t9
  have kk := kk ls _ hL hT
  rcases hv with ⟨q, rfl⟩ | ⟨i, a, -, q, rfl⟩
  · have q : x = 0 := q
    refine lv_ifnullN hC.1 hC.2.1 (fw_de' hd) (fw_tgt_ok h0) ?_
    rw [if_pos q] at kk; exact kk
  · have q : x = (i : Int) + 1 := q
    refine lv_ifnull hC.1 hC.2.1 (fw_de' hd) ?_
    rw [if_neg (by omega)] at kk; exact kk
theorem fw_j_ifnonnull {k pc : Nat} {ll r : List fw_V} {x off : Int} {σ : fw_M} {out : fw_O} (hd : fw_dec k pc = some (.ifnonnull off, 3)) (h0 : 0 ≤ (pc : Int) + off) (hJ : fw_J k (if x ≠ 0 then fw_tgt pc off else pc + 3) ll r σ out) : fw_J k pc ll ((2, x) :: r) σ out := by
  refine fw_jp hJ ?_
  intro base b L xs D p l e R s m args below meth c Q hC tys ws H locs cells slots ls cst hH hS hL hT h1 h2 kk
  obtain ⟨v, r0, rfl, hv, t9⟩ := fw_St_cons hT
  clear hT; have hT := t9; clear t9
  have kk := kk ls _ hL hT
  rcases hv with ⟨q, rfl⟩ | ⟨i, a, -, q, rfl⟩
  · have q : x = 0 := q
    refine lv_ifnonnullN hC.1 hC.2.1 (fw_de' hd) ?_
    rw [if_neg (fun z => z q)] at kk; exact kk
  · have q : x = (i : Int) + 1 := q
    refine lv_ifnonnull hC.1 hC.2.1 (fw_de' hd) (fw_tgt_ok h0) ?_
    rw [if_pos (by omega)] at kk; exact kk
theorem fw_j_tswO {k pc len : Nat} {ll r : List fw_V} {x d lo hi : Int} {offs : Array Int} {σ : fw_M} {out : fw_O} (hd : fw_dec k pc = some (.tableswitch d lo hi offs, len)) (h0 : 0 ≤ (pc : Int) + d) (hx : x < lo ∨ hi < x) (hJ : fw_J k (fw_tgt pc d) ll r σ out) : fw_J k pc ll ((0, x) :: r) σ out := by
  refine fw_jp hJ ?_
  intro base b L xs D p l e R s m args below meth c Q hC tys ws H locs cells slots ls cst hH hS hL hT h1 h2 kk
  obtain ⟨v0, r0, rfl, ⟨z0, rfl, e0⟩, t0⟩ := fw_St_cons hT
  clear hT; have hT := t0; clear t0
  have e0 : x = z0.toInt := e0
  exact lv_tableOut hC.1 hC.2.1 (fw_de' hd) (by rw [← e0]; exact hx) (fw_tgt_ok h0) (kk ls _ hL hT)
theorem fw_j_tswI {k pc len : Nat} {ll r : List fw_V} {x d lo hi off : Int} {offs : Array Int} {σ : fw_M} {out : fw_O} (hd : fw_dec k pc = some (.tableswitch d lo hi offs, len)) (h0 : 0 ≤ (pc : Int) + off) (hx : ¬ (x < lo ∨ hi < x)) (ho : offs[(x - lo).toNat]? = some off) (hJ : fw_J k (fw_tgt pc off) ll r σ out) : fw_J k pc ll ((0, x) :: r) σ out := by
  refine fw_jp hJ ?_
  intro base b L xs D p l e R s m args below meth c Q hC tys ws H locs cells slots ls cst hH hS hL hT h1 h2 kk
  obtain ⟨v0, r0, rfl, ⟨z0, rfl, e0⟩, t0⟩ := fw_St_cons hT
  clear hT; have hT := t0; clear t0
  have e0 : x = z0.toInt := e0
  exact lv_tableIn hC.1 hC.2.1 (fw_de' hd) (by rw [← e0]; omega) (by rw [← e0]; omega) (by rw [← e0]; exact ho) (fw_tgt_ok h0) (kk ls _ hL hT)
end
section
theorem fw_fn_10 : ∀ q ∈ fw_fnT, q.1 = 10 := by decide +kernel
theorem fw_fr_spec {o n c j : Nat} (h : fw_fr o n = some (c, j)) : (Cond.fieldLink (fw_CN o) n (fw_CN c) (fw_CT c j).2.1 (fw_CT c j).2.2.1 ∈ fw_ws ∨ (o = 10 ∧ Cond.fieldLinkNest (fw_CN o) n (fw_CN c) (fw_CT c j).2.1 (fw_CT c j).2.2.1 (fw_CN 10) ∈ fw_nz)) ∧ j < fw_nf c ∧ c < 10 ∧ (fw_CT c j).1 = fw_CN c := by
  unfold fw_fr at h
  obtain ⟨q, hq1, hq2⟩ := Option.map_eq_some_iff.mp h
  have hm := List.mem_of_find?_eq_some hq1
  have hp := List.find?_some hq1
  simp only [Bool.and_eq_true, beq_iff_eq] at hp
  obtain ⟨hp1, hp2⟩ := hp
  have e1 : q.2.2.1 = c := congrArg Prod.fst hq2
  have e2 : q.2.2.2.1 = j := congrArg Prod.snd hq2
  rcases List.mem_append.mp hm with hm | hm
  · obtain ⟨g1, g2, g3, g4⟩ := fw_fr_ok q hm
    rw [hp1, hp2, e1, e2] at g1
    rw [e1, e2] at g2
    rw [e1] at g3
    rw [e1, e2] at g4
    exact ⟨Or.inl (fw_wd _ _ g1 rfl), g2, g3, g4⟩
  · obtain ⟨g1, g2, g3, g4⟩ := fw_fn_ok q hm
    have g5 := fw_fn_10 q hm
    rw [e1, e2] at g2
    rw [e1] at g3
    rw [e1, e2] at g4
    refine ⟨Or.inr ⟨by rw [← hp1]; exact g5, List.mem_append_right _ (List.mem_map.mpr ⟨q, hm, ?_⟩)⟩, g2, g3, g4⟩
    rw [hp1, hp2, e1, e2]
def fw_tk (t : FieldType) : Nat := match t with
  | .int => 0
  | .long => 1
  | .object _ => 2
  | .array _ => 2
  | .boolean => 10
  | _ => 99
theorem fw_tk_ok : ∀ c ∈ List.range 10, ∀ j ∈ List.range (fw_nf c), fw_tk (fw_ty c j) = fw_fk c j ∧ fw_tk (fw_ty c j) ≠ 99 := by decide +kernel
theorem fw_nar {ty : FieldType} {al : List Nat} {b : Nat} {x : Int} {v : Value} (h : fw_vr al b (fw_tg (fw_tk ty), x) v) (hb : fw_tk ty = 10 → x = 0 ∨ x = 1) (h9 : fw_tk ty ≠ 99) : narrow ty v = v ∧ fits ty v = true := by
  cases ty with
  | int => obtain ⟨z, rfl, -⟩ := h; exact ⟨rfl, rfl⟩
  | long => obtain ⟨z, rfl, -⟩ := h; exact ⟨rfl, rfl⟩
  | object C => rcases h with ⟨-, rfl⟩ | ⟨i, a, -, -, rfl⟩ <;> exact ⟨rfl, rfl⟩
  | array t => rcases h with ⟨-, rfl⟩ | ⟨i, a, -, -, rfl⟩ <;> exact ⟨rfl, rfl⟩
  | boolean =>
    obtain ⟨z, rfl, ez⟩ := h
    have ez : x = z.toInt := ez
    rcases hb rfl with q | q
    · have : z = 0 := Int32.toInt_inj.mp (by rw [← ez, q]; rfl)
      subst this
      exact ⟨by decide, by decide⟩
    · have : z = 1 := Int32.toInt_inj.mp (by rw [← ez, q]; rfl)
      subst this
      exact ⟨by decide, by decide⟩
  | byte => exact absurd rfl h9
  | char => exact absurd rfl h9
  | short => exact absurd rfl h9
  | float => exact absurd rfl h9
  | double => exact absurd rfl h9
theorem fw_dflt {ty : FieldType} {al : List Nat} {b : Nat} (h9 : fw_tk ty ≠ 99) : fw_vr al b (fw_tg (fw_tk ty), 0) (defaultValue ty) := by
  cases ty with
  | int => exact ⟨0, rfl, rfl⟩
  | long => exact ⟨0, rfl, rfl⟩
  | object C => exact Or.inl ⟨rfl, rfl⟩
  | array t => exact Or.inl ⟨rfl, rfl⟩
  | boolean => exact ⟨0, rfl, rfl⟩
  | byte => exact absurd rfl h9
  | char => exact absurd rfl h9
  | short => exact absurd rfl h9
  | float => exact absurd rfl h9
  | double => exact absurd rfl h9
/-- the object behind a reference of a known class -/
theorem fw_obj {al : List Nat} {b : Nat} {tys : List (ClassId × FieldType)} {σ : fw_M} {a : Int} {e : va_E} {c : Nat} (h : fw_er al b tys σ a e) (hk : fw_kd a = (c : Int) + 3) (hc : c < 10) : ∃ fs : List Value, e = .inr (c + 2, fs) ∧ fs.length = fw_nf c ∧ ∀ j : Nat, j < fw_nf c → ∃ v, fs[j]? = some v ∧ fw_vr al b (fw_tg (fw_fk c j), σ a (j : Int)) v := by
  match e, h with
  | .inr (ci, fs), ⟨c', h1, h2, h3, h4, h5⟩ =>
    have : c' = c := by omega
    subst this
    exact ⟨fs, by rw [h1], h4, h5⟩
  | .inl (cA, n, .inl f), ⟨t0, ty, g1, g2, g3⟩ => omega
  | .inl (cA, n, .inr (.inl f)), ⟨t0, g1, g2, g3⟩ => omega
  | .inl (cA, n, .inr (.inr (.inr (.inl f)))), ⟨t0, g1, g2, g3⟩ => omega
  | .inl (cA, n, .inr (.inr (.inr (.inr f)))), ⟨t0, ty, g1, g2, g3⟩ => omega
theorem fw_kd_lt (a : Int) (h : fw_kd a ≠ 0) : 0 < a := by
  unfold fw_kd at h
  split at h
  · exact absurd rfl h
  · omega
theorem fw_clamp (z : Int32) (h : 0 ≤ z.toInt) : ((z.toNatClampNeg : Nat) : Int) = z.toInt := by
  show ((z.toInt.toNat : Nat) : Int) = z.toInt
  omega
theorem fw_j_get {k pc n c j : Nat} {ll r : List fw_V} {a : Int} {σ : fw_M} {out : fw_O} (hd : fw_dec k pc = some (.getfield n, 3)) (hf : fw_fr (fw_oc k) n = some (c, j)) (hk : fw_kd a = (c : Int) + 3) (hJ : fw_J k (pc + 3) ll ((fw_tg (fw_fk c j), σ a (j : Int)) :: r) σ out) : fw_J k pc ll ((2, a) :: r) σ out := by
  refine fw_jp hJ ?_
  intro base b L xs D p l e R s m args below meth c0 Q hC tys ws H locs cells slots ls cst hH hS hL hT h1 h2 kk
  obtain ⟨hw, hj, hc, hdecl⟩ := fw_fr_spec hf
  obtain ⟨v, r_v, rfl, hv, t9⟩ := fw_St_cons hT
  clear hT; have hT := t9; clear t9
  obtain ⟨q0, a0, ent, hp, ea, rfl, he⟩ := fw_H_at hH hv (by omega)
  obtain ⟨fs, rfl, hlen, hfs⟩ := fw_obj he hk hc
  obtain ⟨v, hv1, hv2⟩ := hfs j hj
  rcases hw with hw | ⟨-, hw⟩
  · refine va_get (D := D) (ci := c + 2) (v := v) (C := fw_CN c) (T := fw_CT c) (N := fw_nf c) hC.1 hC.2.1 hC.2.2.2.2.1 (fw_uw c hc) hC.2.2.2.1 hH.1 hH.2.1 q0 hp (fw_cl c hc) j hj (hC.2.2.2.2.1 _ hw) (fun x hx => by rw [← hdecl]; exact hx) hv1 (fw_de' hd) ?_
    exact kk ls _ hL ⟨hv2, hT⟩
  · refine va_getN (D := D) (ci := c + 2) (v := v) (C := fw_CN c) (T := fw_CT c) (N := fw_nf c) hC.1 hC.2.1 hC.2.2.2.2.1 (fw_uw c hc) hC.2.2.2.1 hH.1 hH.2.1 q0 hp (fw_cl c hc) j hj (va_Nw.use rfl (hC.2.2.2.2.2.2.2.2.2.2.2.1.2.2.1 _ hw)) (fun x hx => by rw [← hdecl]; exact hx) hv1 (fw_de' hd) ?_
    exact kk ls _ hL ⟨hv2, hT⟩
theorem fw_j_put {k pc n c j t : Nat} {ll r : List fw_V} {a v : Int} {σ : fw_M} {out : fw_O} (hd : fw_dec k pc = some (.putfield n, 3)) (hf : fw_fr (fw_oc k) n = some (c, j)) (hk : fw_kd a = (c : Int) + 3) (ht : t = fw_tg (fw_fk c j)) (hb : fw_fk c j = 10 → v = 0 ∨ v = 1)
    (hfin : (fw_CT c j).2.2.2 = true → fw_ki k = 2 ∧ fw_oc k = c) (hJ : fw_J k (pc + 3) ll r (fw_u σ a (j : Int) v) out) : fw_J k pc ll ((t, v) :: (2, a) :: r) σ out := by
  subst ht
  have ha9 := fw_kd_lt a (by omega)
  refine fw_jg hJ 0 0 (by rw [fw_u_ne (by omega)]; exact (Int.add_zero _).symm) (by rw [fw_u_ne (by omega)]; exact (Int.add_zero _).symm) ?_
  intro base b L xs D p l e R s m args below meth c0 Q hC tys ws H locs cells slots ls cst hH hS hL hT h1 h2 kk
  obtain ⟨hw, hj, hc, hdecl⟩ := fw_fr_spec hf
  obtain ⟨w, r_w, rfl, hw1, t9⟩ := fw_St_cons hT
  clear hT; have hT := t9; clear t9
  obtain ⟨v1, r_v1, rfl, hv, t9⟩ := fw_St_cons hT
  clear hT; have hT := t9; clear t9
  obtain ⟨q0, a0, ent, hp, ea, rfl, he⟩ := fw_H_at hH hv (by omega)
  obtain ⟨fs, rfl, hlen, hfs⟩ := fw_obj he hk hc
  have hal := fw_al_set (e := .inr (c + 2, fs.set j w)) hp
  obtain ⟨k1, k2⟩ := fw_tk_ok c (List.mem_range.mpr hc) j (List.mem_range.mpr hj)
  obtain ⟨n1, n2⟩ := fw_nar (ty := fw_ty c j) (v := w) (by rw [k1]; exact hw1) (by rw [k1]; exact hb) k2
  have hend : ∀ (H1 : Heap) (locs1 : List Loc), va_P D fw_Cl (ws.set q0 (a0, .inr (c + 2, fs.set j w))) H1 → va_D (fun q => base ≤ q) (ws.set q0 (a0, .inr (c + 2, fs.set j w))) → va_S (fun q => base ≤ q) s.heap H1 locs1 → W p l e R s m args below meth c0 H1 locs1 cells slots Q (F0 m (pc + 3) ls r_v1) := by
    intro H1 locs1 hP1 hD1 hS1
    refine kk tys _ H1 locs1 ls r_v1 ?_ hS1 (by rw [hal]; exact List.prefix_refl _) (by rw [hal]; exact hL) (by rw [hal]; exact hT)
    rw [ea]
    refine fw_H_set hH hp ⟨c, rfl, hc, by rw [← ea]; exact hk, by rw [List.length_set]; exact hlen, fun i hi => ?_⟩ hP1 hD1
    by_cases hij : i = j
    · subst hij
      refine ⟨w, List.getElem?_set_self (by omega), ?_⟩
      rw [fw_u_s]
      exact hw1
    · obtain ⟨v2, g1, g2⟩ := hfs i hi
      refine ⟨v2, by rw [List.getElem?_set_ne (Ne.symm hij)]; exact g1, ?_⟩
      rw [fw_u_nj (by omega), ← ea]
      exact g2
  rcases hw with hw | ⟨ho10, hw⟩
  rotate_left
  · have hfn : (fw_CT c j).2.2.2 = false := by
      cases hfn : (fw_CT c j).2.2.2 with
      | false => rfl
      | true =>
        have := (hfin hfn).2
        omega
    exact va_putN (D := D) (ci := c + 2) (v := w) (ty := fw_ty c j) (C := fw_CN c) (T := fw_CT c) (N := fw_nf c) hC.1 hC.2.1 hC.2.2.2.2.1 (fw_uw c hc) (fw_ty c) (fw_tyok c hc) (fw_nmok c hc) hC.2.2.2.1 hH.1 hH.2.1 hH.2.2.1 hS q0 hp (fw_cl c hc) j hj (va_Nw.use rfl (hC.2.2.2.2.2.2.2.2.2.2.2.1.2.2.1 _ hw)) (fun x hx => by rw [← hdecl]; exact hx) hfn (fw_tyok c hc j hj) n1 n2 (by omega) (fw_de' hd) hend
  cases hfn : (fw_CT c j).2.2.2 with
  | false => exact va_put (D := D) (ci := c + 2) (v := w) (ty := fw_ty c j) (C := fw_CN c) (T := fw_CT c) (N := fw_nf c) hC.1 hC.2.1 hC.2.2.2.2.1 (fw_uw c hc) (fw_ty c) (fw_tyok c hc) (fw_nmok c hc) hC.2.2.2.1 hH.1 hH.2.1 hH.2.2.1 hS q0 hp (fw_cl c hc) j hj (hC.2.2.2.2.1 _ hw) (fun x hx => by rw [← hdecl]; exact hx) hfn (fw_tyok c hc j hj) n1 n2 (by omega) (fw_de' hd) hend
  | true =>
    obtain ⟨f1, f2⟩ := hfin hfn
    exact va_putF (D := D) (ci := c + 2) (v := w) (ty := fw_ty c j) (C := fw_CN c) (T := fw_CT c) (N := fw_nf c) hC.1 hC.2.1 hC.2.2.2.2.1 (fw_uw c hc) (fw_ty c) (fw_tyok c hc) (fw_nmok c hc) hC.2.2.2.1 hH.1 hH.2.1 hH.2.2.1 hS q0 hp (fw_cl c hc) j hj (hC.2.2.2.2.1 _ hw) (fun x hx => by rw [← hdecl]; exact hx) hfn (hC.2.2.2.2.2.2.2.1 f1) (by rw [hdecl, f2]) (fw_tyok c hc j hj) n1 n2 (by omega) (fw_de' hd) hend
theorem fw_arI {al : List Nat} {b : Nat} {tys : List (ClassId × FieldType)} {σ : fw_M} {a : Int} {e : va_E} (h : fw_er al b tys σ a e) (hk : fw_kd a = 100 ∨ fw_kd a = 101 ∨ fw_kd a = 102) : ∃ (cA : ClassId) (n : Nat) (f : Nat → Int32) (t0 : Nat) (ty : FieldType), e = .inl (cA, n, .inl f) ∧ tys[t0]? = some (cA, ty) ∧ ((fw_kd a = 100 ∧ ty = .int) ∨ (fw_kd a = 101 ∧ ty = .char) ∨ (fw_kd a = 102 ∧ ty = .boolean)) ∧ fw_ln a = (n : Int) ∧ n ≤ 300 ∧ ∀ j : Nat, j < n → σ a (j : Int) = (f j).toInt := by
  match e, h with
  | .inr (ci, fs), ⟨c', h1, h2, h3, h4, h5⟩ => omega
  | .inl (cA, n, .inl f), ⟨t0, ty, g1, g2, g3⟩ => exact ⟨cA, n, f, t0, ty, rfl, g1, g2, g3⟩
  | .inl (cA, n, .inr (.inl f)), ⟨t0, g1, g2, g3⟩ => omega
  | .inl (cA, n, .inr (.inr (.inr (.inl f)))), ⟨t0, g1, g2, g3⟩ => omega
  | .inl (cA, n, .inr (.inr (.inr (.inr f)))), ⟨t0, ty, g1, g2, g3⟩ => omega
theorem fw_arL {al : List Nat} {b : Nat} {tys : List (ClassId × FieldType)} {σ : fw_M} {a : Int} {e : va_E} (h : fw_er al b tys σ a e) (hk : fw_kd a = 103) : ∃ (cA : ClassId) (n : Nat) (f : Nat → Int64) (t0 : Nat), e = .inl (cA, n, .inr (.inl f)) ∧ tys[t0]? = some (cA, .long) ∧ fw_ln a = (n : Int) ∧ n ≤ 300 ∧ ∀ j : Nat, j < n → σ a (j : Int) = (f j).toInt := by
  match e, h with
  | .inr (ci, fs), ⟨c', h1, h2, h3, h4, h5⟩ => omega
  | .inl (cA, n, .inl f), ⟨t0, ty, g1, g2, g3⟩ => omega
  | .inl (cA, n, .inr (.inl f)), ⟨t0, g1, g2, g3⟩ => exact ⟨cA, n, f, t0, rfl, g1, g3⟩
  | .inl (cA, n, .inr (.inr (.inr (.inl f)))), ⟨t0, g1, g2, g3⟩ => omega
  | .inl (cA, n, .inr (.inr (.inr (.inr f)))), ⟨t0, ty, g1, g2, g3⟩ => omega
theorem fw_arD {al : List Nat} {b : Nat} {tys : List (ClassId × FieldType)} {σ : fw_M} {a : Int} {e : va_E} (h : fw_er al b tys σ a e) (hk : fw_kd a = 104) : ∃ (cA : ClassId) (n : Nat) (f : Nat → UInt64) (t0 : Nat), e = .inl (cA, n, .inr (.inr (.inr (.inl f)))) ∧ tys[t0]? = some (cA, .double) ∧ fw_ln a = (n : Int) ∧ n ≤ 300 ∧ ∀ j : Nat, j < n → σ a (j : Int) = ((f j).toNat : Int) := by
  match e, h with
  | .inr (ci, fs), ⟨c', h1, h2, h3, h4, h5⟩ => omega
  | .inl (cA, n, .inl f), ⟨t0, ty, g1, g2, g3⟩ => omega
  | .inl (cA, n, .inr (.inl f)), ⟨t0, g1, g2, g3⟩ => omega
  | .inl (cA, n, .inr (.inr (.inr (.inl f)))), ⟨t0, g1, g2, g3⟩ => exact ⟨cA, n, f, t0, rfl, g1, g3⟩
  | .inl (cA, n, .inr (.inr (.inr (.inr f)))), ⟨t0, ty, g1, g2, g3⟩ => omega
theorem fw_arQ {al : List Nat} {b : Nat} {tys : List (ClassId × FieldType)} {σ : fw_M} {a : Int} {e : va_E} (h : fw_er al b tys σ a e) (hk : fw_kd a = 105 ∨ fw_kd a = 106) : ∃ (cA : ClassId) (n : Nat) (f : Nat → Option Nat) (t0 : Nat) (ty : FieldType), e = .inl (cA, n, .inr (.inr (.inr (.inr f)))) ∧ tys[t0]? = some (cA, ty) ∧ ((fw_kd a = 105 ∧ ty = .object RX1) ∨ (fw_kd a = 106 ∧ ty = .array .int)) ∧ fw_ln a = (n : Int) ∧ n ≤ 300 ∧ ∀ j : Nat, j < n → fw_vr al b (2, σ a (j : Int)) (va_rf (f j)) := by
  match e, h with
  | .inr (ci, fs), ⟨c', h1, h2, h3, h4, h5⟩ => omega
  | .inl (cA, n, .inl f), ⟨t0, ty, g1, g2, g3⟩ => omega
  | .inl (cA, n, .inr (.inl f)), ⟨t0, g1, g2, g3⟩ => omega
  | .inl (cA, n, .inr (.inr (.inr (.inl f)))), ⟨t0, g1, g2, g3⟩ => omega
  | .inl (cA, n, .inr (.inr (.inr (.inr f)))), ⟨t0, ty, g1, g2, g3⟩ => exact ⟨cA, n, f, t0, ty, rfl, g1, g2, g3⟩
theorem fw_j_iald {k pc : Nat} {ll r : List fw_V} {i a : Int} {σ : fw_M} {out : fw_O} (hd : fw_dec k pc = some (.iaload, 1)) (hk : fw_kd a = 100) (hi0 : 0 ≤ i) (hi1 : i < fw_ln a) (hJ : fw_J k (pc + 1) ll ((0, σ a i) :: r) σ out) : fw_J k pc ll ((0, i) :: (2, a) :: r) σ out := by
  refine fw_jp hJ ?_
  intro base b L xs D p l e R s m args below meth c0 Q hC tys ws H locs cells slots ls cst hH hS hL hT h1 h2 kk
  obtain ⟨v, r_v, rfl, ⟨z, rfl, ez⟩, t9⟩ := fw_St_cons hT
  clear hT; have hT := t9; clear t9
  obtain ⟨v1, r_v1, rfl, hv, t9⟩ := fw_St_cons hT
  clear hT; have hT := t9; clear t9
  have ez : i = z.toInt := ez
  obtain ⟨q0, a0, ent, hp, ea, rfl, he⟩ := fw_H_at hH hv (by omega)
  obtain ⟨cA, n0, f, t0, ty, rfl, g1, g2, g3, g4, g5⟩ := fw_arI he (by omega)
  have ety : ty = .int := by
    rcases g2 with ⟨q, e9⟩ | ⟨q, e9⟩ | ⟨q, e9⟩
    · first | exact e9 | (exfalso; omega)
    · first | exact e9 | (exfalso; omega)
    · first | exact e9 | (exfalso; omega)
  subst ety
  have hz := fw_clamp z (by omega)
  have hin : vp_in z n0 := vp_in_iff.mpr ⟨by omega, by omega⟩
  have g9 := g5 z.toNatClampNeg (by omega)
  rw [hz, ← ez] at g9
  refine va_iald hC.1 hC.2.1 hH.1 hH.2.1 q0 t0 hp g1 hin (fw_de' hd) ?_
  exact kk ls _ hL ⟨⟨_, rfl, g9⟩, hT⟩
theorem fw_j_cald {k pc : Nat} {ll r : List fw_V} {i a : Int} {σ : fw_M} {out : fw_O} (hd : fw_dec k pc = some (.caload, 1)) (hk : fw_kd a = 101) (hi0 : 0 ≤ i) (hi1 : i < fw_ln a) (hJ : fw_J k (pc + 1) ll ((0, σ a i) :: r) σ out) : fw_J k pc ll ((0, i) :: (2, a) :: r) σ out := by
  refine fw_jp hJ ?_
  intro base b L xs D p l e R s m args below meth c0 Q hC tys ws H locs cells slots ls cst hH hS hL hT h1 h2 kk
  obtain ⟨v, r_v, rfl, ⟨z, rfl, ez⟩, t9⟩ := fw_St_cons hT
  clear hT; have hT := t9; clear t9
  obtain ⟨v1, r_v1, rfl, hv, t9⟩ := fw_St_cons hT
  clear hT; have hT := t9; clear t9
  have ez : i = z.toInt := ez
  obtain ⟨q0, a0, ent, hp, ea, rfl, he⟩ := fw_H_at hH hv (by omega)
  obtain ⟨cA, n0, f, t0, ty, rfl, g1, g2, g3, g4, g5⟩ := fw_arI he (by omega)
  have ety : ty = .char := by
    rcases g2 with ⟨q, e9⟩ | ⟨q, e9⟩ | ⟨q, e9⟩
    · first | exact e9 | (exfalso; omega)
    · first | exact e9 | (exfalso; omega)
    · first | exact e9 | (exfalso; omega)
  subst ety
  have hz := fw_clamp z (by omega)
  have hin : vp_in z n0 := vp_in_iff.mpr ⟨by omega, by omega⟩
  have g9 := g5 z.toNatClampNeg (by omega)
  rw [hz, ← ez] at g9
  refine va_cald hC.1 hC.2.1 hH.1 hH.2.1 q0 t0 hp g1 hin (fw_de' hd) ?_
  exact kk ls _ hL ⟨⟨_, rfl, g9⟩, hT⟩
theorem fw_j_zald {k pc : Nat} {ll r : List fw_V} {i a : Int} {σ : fw_M} {out : fw_O} (hd : fw_dec k pc = some (.baload, 1)) (hk : fw_kd a = 102) (hi0 : 0 ≤ i) (hi1 : i < fw_ln a) (hJ : fw_J k (pc + 1) ll ((0, σ a i) :: r) σ out) : fw_J k pc ll ((0, i) :: (2, a) :: r) σ out := by
  refine fw_jp hJ ?_
  intro base b L xs D p l e R s m args below meth c0 Q hC tys ws H locs cells slots ls cst hH hS hL hT h1 h2 kk
  obtain ⟨v, r_v, rfl, ⟨z, rfl, ez⟩, t9⟩ := fw_St_cons hT
  clear hT; have hT := t9; clear t9
  obtain ⟨v1, r_v1, rfl, hv, t9⟩ := fw_St_cons hT
  clear hT; have hT := t9; clear t9
  have ez : i = z.toInt := ez
  obtain ⟨q0, a0, ent, hp, ea, rfl, he⟩ := fw_H_at hH hv (by omega)
  obtain ⟨cA, n0, f, t0, ty, rfl, g1, g2, g3, g4, g5⟩ := fw_arI he (by omega)
  have ety : ty = .boolean := by
    rcases g2 with ⟨q, e9⟩ | ⟨q, e9⟩ | ⟨q, e9⟩
    · first | exact e9 | (exfalso; omega)
    · first | exact e9 | (exfalso; omega)
    · first | exact e9 | (exfalso; omega)
  subst ety
  have hz := fw_clamp z (by omega)
  have hin : vp_in z n0 := vp_in_iff.mpr ⟨by omega, by omega⟩
  have g9 := g5 z.toNatClampNeg (by omega)
  rw [hz, ← ez] at g9
  refine va_zald hC.1 hC.2.1 hH.1 hH.2.1 q0 t0 hp g1 hin (fw_de' hd) ?_
  exact kk ls _ hL ⟨⟨_, rfl, g9⟩, hT⟩
theorem fw_j_lald {k pc : Nat} {ll r : List fw_V} {i a : Int} {σ : fw_M} {out : fw_O} (hd : fw_dec k pc = some (.laload, 1)) (hk : fw_kd a = 103) (hi0 : 0 ≤ i) (hi1 : i < fw_ln a) (hJ : fw_J k (pc + 1) ll ((1, σ a i) :: r) σ out) : fw_J k pc ll ((0, i) :: (2, a) :: r) σ out := by
  refine fw_jp hJ ?_
  intro base b L xs D p l e R s m args below meth c0 Q hC tys ws H locs cells slots ls cst hH hS hL hT h1 h2 kk
  obtain ⟨v, r_v, rfl, ⟨z, rfl, ez⟩, t9⟩ := fw_St_cons hT
  clear hT; have hT := t9; clear t9
  obtain ⟨v1, r_v1, rfl, hv, t9⟩ := fw_St_cons hT
  clear hT; have hT := t9; clear t9
  have ez : i = z.toInt := ez
  obtain ⟨q0, a0, ent, hp, ea, rfl, he⟩ := fw_H_at hH hv (by omega)
  obtain ⟨cA, n0, f, t0, rfl, g1, g3, g4, g5⟩ := fw_arL he hk
  have hz := fw_clamp z (by omega)
  have hin : vp_in z n0 := vp_in_iff.mpr ⟨by omega, by omega⟩
  have g9 := g5 z.toNatClampNeg (by omega)
  rw [hz, ← ez] at g9
  refine va_lald hC.1 hC.2.1 hH.1 hH.2.1 q0 t0 hp g1 hin (fw_de' hd) ?_
  exact kk ls _ hL ⟨⟨_, rfl, g9⟩, hT⟩
theorem fw_j_dald {k pc : Nat} {ll r : List fw_V} {i a : Int} {σ : fw_M} {out : fw_O} (hd : fw_dec k pc = some (.daload, 1)) (hk : fw_kd a = 104) (hi0 : 0 ≤ i) (hi1 : i < fw_ln a) (hJ : fw_J k (pc + 1) ll ((3, σ a i) :: r) σ out) : fw_J k pc ll ((0, i) :: (2, a) :: r) σ out := by
  refine fw_jp hJ ?_
  intro base b L xs D p l e R s m args below meth c0 Q hC tys ws H locs cells slots ls cst hH hS hL hT h1 h2 kk
  obtain ⟨v, r_v, rfl, ⟨z, rfl, ez⟩, t9⟩ := fw_St_cons hT
  clear hT; have hT := t9; clear t9
  obtain ⟨v1, r_v1, rfl, hv, t9⟩ := fw_St_cons hT
  clear hT; have hT := t9; clear t9
  have ez : i = z.toInt := ez
  obtain ⟨q0, a0, ent, hp, ea, rfl, he⟩ := fw_H_at hH hv (by omega)
  obtain ⟨cA, n0, f, t0, rfl, g1, g3, g4, g5⟩ := fw_arD he hk
  have hz := fw_clamp z (by omega)
  have hin : vp_in z n0 := vp_in_iff.mpr ⟨by omega, by omega⟩
  have g9 := g5 z.toNatClampNeg (by omega)
  rw [hz, ← ez] at g9
  refine va_dald hC.1 hC.2.1 hH.1 hH.2.1 q0 t0 hp g1 hin (fw_de' hd) ?_
  exact kk ls _ hL ⟨⟨_, rfl, g9⟩, hT⟩
theorem fw_j_aald {k pc : Nat} {ll r : List fw_V} {i a : Int} {σ : fw_M} {out : fw_O} (hd : fw_dec k pc = some (.aaload, 1)) (hk : fw_kd a = 105 ∨ fw_kd a = 106) (hi0 : 0 ≤ i) (hi1 : i < fw_ln a) (hJ : fw_J k (pc + 1) ll ((2, σ a i) :: r) σ out) : fw_J k pc ll ((0, i) :: (2, a) :: r) σ out := by
  refine fw_jp hJ ?_
  intro base b L xs D p l e R s m args below meth c0 Q hC tys ws H locs cells slots ls cst hH hS hL hT h1 h2 kk
  obtain ⟨v, r_v, rfl, ⟨z, rfl, ez⟩, t9⟩ := fw_St_cons hT
  clear hT; have hT := t9; clear t9
  obtain ⟨v1, r_v1, rfl, hv, t9⟩ := fw_St_cons hT
  clear hT; have hT := t9; clear t9
  have ez : i = z.toInt := ez
  obtain ⟨q0, a0, ent, hp, ea, rfl, he⟩ := fw_H_at hH hv (by omega)
  obtain ⟨cA, n0, f, t0, ty, rfl, g1, g2, g3, g4, g5⟩ := fw_arQ he hk
  have hz := fw_clamp z (by omega)
  have hin : vp_in z n0 := vp_in_iff.mpr ⟨by omega, by omega⟩
  have hlt : z.toNatClampNeg < n0 := by omega
  have g9 := g5 z.toNatClampNeg (by omega)
  rw [hz, ← ez] at g9
  rcases g2 with ⟨-, rfl⟩ | ⟨-, rfl⟩
  · refine va_aldq hC.1 hC.2.1 hH.1 hH.2.1 q0 t0 hp g1 hin (fw_de' hd) ?_
    exact kk ls _ hL ⟨g9, hT⟩
  · refine W.aald (v := va_rf (f z.toNatClampNeg)) (ty := .array .int) hC.1 hC.2.1 (hH.2.1 q0 _ hp) ((hH.1.2 t0 _ g1).1 n0 (fun j => va_rf (f j))) rfl (fun q => by cases q) (by show ¬ (z < 0 ∨ (arrV _ _ _).slots.size ≤ _); rw [arrV_size]; exact hin) (by show (arrV _ _ _).slots[_]? = _; rw [arrV_read _ _ hlt]) rfl rfl (fw_de' hd) ?_
    exact kk ls _ hL ⟨g9, hT⟩
theorem fw_j_iast {k pc : Nat} {ll r : List fw_V} {i a v : Int} {σ : fw_M} {out : fw_O} (hd : fw_dec k pc = some (.iastore, 1)) (hk : fw_kd a = 100) (hi0 : 0 ≤ i) (hi1 : i < fw_ln a) (hJ : fw_J k (pc + 1) ll r (fw_u σ a i v) out) : fw_J k pc ll ((0, v) :: (0, i) :: (2, a) :: r) σ out := by
  have ha9 := fw_kd_lt a (by omega)
  refine fw_jg hJ 0 0 (by rw [fw_u_ne (by omega)]; exact (Int.add_zero _).symm) (by rw [fw_u_ne (by omega)]; exact (Int.add_zero _).symm) ?_
  intro base b L xs D p l e R s m args below meth c0 Q hC tys ws H locs cells slots ls cst hH hS hL hT h1 h2 kk
  obtain ⟨w, r_w, rfl, ⟨zw, rfl, ew⟩, t9⟩ := fw_St_cons hT
  clear hT; have hT := t9; clear t9
  obtain ⟨v0, r_v0, rfl, ⟨z, rfl, ez⟩, t9⟩ := fw_St_cons hT
  clear hT; have hT := t9; clear t9
  obtain ⟨v1, r_v1, rfl, hv, t9⟩ := fw_St_cons hT
  clear hT; have hT := t9; clear t9
  have ez : i = z.toInt := ez
  obtain ⟨q0, a0, ent, hp, ea, rfl, he⟩ := fw_H_at hH hv (by omega)
  obtain ⟨cA, n0, f, t0, ty, rfl, g1, g2, g3, g4, g5⟩ := fw_arI he (by omega)
  have ety : ty = .int := by
    rcases g2 with ⟨q, e9⟩ | ⟨q, e9⟩ | ⟨q, e9⟩
    · first | exact e9 | (exfalso; omega)
    · first | exact e9 | (exfalso; omega)
    · first | exact e9 | (exfalso; omega)
  subst ety
  have hz := fw_clamp z (by omega)
  have hin : vp_in z n0 := vp_in_iff.mpr ⟨by omega, by omega⟩

  have hal := fw_al_set (e := .inl (cA, n0, .inl (upd f z.toNatClampNeg zw))) hp
  refine va_iast hC.1 hC.2.1 hH.1 hH.2.1 hH.2.2.1 hS q0 t0 hp g1 hin (fw_de' hd) (fun H1 locs1 hP1 hD1 hS1 => ?_)
  refine kk tys _ H1 locs1 ls r_v1 ?_ hS1 (by rw [hal]; exact List.prefix_refl _) (by rw [hal]; exact hL) (by rw [hal]; exact hT)
  rw [ea]
  refine fw_H_set hH hp ⟨t0, .int, g1, by rw [← ea]; exact g2, by rw [← ea]; exact g3, g4, fun j hj => ?_⟩ hP1 hD1
  by_cases hj9 : j = z.toNatClampNeg
  · subst hj9
    rw [hz, ← ez, fw_u_s]
    rw [pk_us]; exact ew
  · rw [fw_u_nj (by omega), ← ea]
    rw [pk_un hj9]; exact g5 j hj
theorem fw_j_cast {k pc : Nat} {ll r : List fw_V} {i a v : Int} {σ : fw_M} {out : fw_O} (hd : fw_dec k pc = some (.castore, 1)) (hk : fw_kd a = 101) (hi0 : 0 ≤ i) (hi1 : i < fw_ln a) (hv0 : 0 ≤ v) (hv1 : v < 65536) (hJ : fw_J k (pc + 1) ll r (fw_u σ a i v) out) : fw_J k pc ll ((0, v) :: (0, i) :: (2, a) :: r) σ out := by
  have ha9 := fw_kd_lt a (by omega)
  refine fw_jg hJ 0 0 (by rw [fw_u_ne (by omega)]; exact (Int.add_zero _).symm) (by rw [fw_u_ne (by omega)]; exact (Int.add_zero _).symm) ?_
  intro base b L xs D p l e R s m args below meth c0 Q hC tys ws H locs cells slots ls cst hH hS hL hT h1 h2 kk
  obtain ⟨w, r_w, rfl, ⟨zw, rfl, ew⟩, t9⟩ := fw_St_cons hT
  clear hT; have hT := t9; clear t9
  obtain ⟨v0, r_v0, rfl, ⟨z, rfl, ez⟩, t9⟩ := fw_St_cons hT
  clear hT; have hT := t9; clear t9
  obtain ⟨v1, r_v1, rfl, hv, t9⟩ := fw_St_cons hT
  clear hT; have hT := t9; clear t9
  have ez : i = z.toInt := ez
  obtain ⟨q0, a0, ent, hp, ea, rfl, he⟩ := fw_H_at hH hv (by omega)
  obtain ⟨cA, n0, f, t0, ty, rfl, g1, g2, g3, g4, g5⟩ := fw_arI he (by omega)
  have ety : ty = .char := by
    rcases g2 with ⟨q, e9⟩ | ⟨q, e9⟩ | ⟨q, e9⟩
    · first | exact e9 | (exfalso; omega)
    · first | exact e9 | (exfalso; omega)
    · first | exact e9 | (exfalso; omega)
  subst ety
  have hz := fw_clamp z (by omega)
  have hin : vp_in z n0 := vp_in_iff.mpr ⟨by omega, by omega⟩
  have ew : v = zw.toInt := ew
  have ech : vp_nar .char zw = zw := by
    obtain ⟨q9, hq9, rfl⟩ := nI_of (x := zw) (by rw [Int32.lt_iff_toInt_lt]; have : (0 : Int32).toInt = 0 := rfl; omega)
    rw [nI_toInt hq9] at ew
    unfold vp_nar
    rw [(pk_charN (q := q9) (by omega)).1]
  have hal := fw_al_set (e := .inl (cA, n0, .inl (upd f z.toNatClampNeg (vp_nar .char zw)))) hp
  refine va_cast hC.1 hC.2.1 hH.1 hH.2.1 hH.2.2.1 hS q0 t0 hp g1 hin (fw_de' hd) (fun H1 locs1 hP1 hD1 hS1 => ?_)
  refine kk tys _ H1 locs1 ls r_v1 ?_ hS1 (by rw [hal]; exact List.prefix_refl _) (by rw [hal]; exact hL) (by rw [hal]; exact hT)
  rw [ea]
  refine fw_H_set hH hp ⟨t0, .char, g1, by rw [← ea]; exact g2, by rw [← ea]; exact g3, g4, fun j hj => ?_⟩ hP1 hD1
  by_cases hj9 : j = z.toNatClampNeg
  · subst hj9
    rw [hz, ← ez, fw_u_s]
    rw [pk_us, ech]; exact ew
  · rw [fw_u_nj (by omega), ← ea]
    rw [pk_un hj9]; exact g5 j hj
theorem fw_j_zast {k pc : Nat} {ll r : List fw_V} {i a v : Int} {σ : fw_M} {out : fw_O} (hd : fw_dec k pc = some (.bastore, 1)) (hk : fw_kd a = 102) (hi0 : 0 ≤ i) (hi1 : i < fw_ln a) (hv0 : v = 0 ∨ v = 1) (hJ : fw_J k (pc + 1) ll r (fw_u σ a i v) out) : fw_J k pc ll ((0, v) :: (0, i) :: (2, a) :: r) σ out := by
  have ha9 := fw_kd_lt a (by omega)
  refine fw_jg hJ 0 0 (by rw [fw_u_ne (by omega)]; exact (Int.add_zero _).symm) (by rw [fw_u_ne (by omega)]; exact (Int.add_zero _).symm) ?_
  intro base b L xs D p l e R s m args below meth c0 Q hC tys ws H locs cells slots ls cst hH hS hL hT h1 h2 kk
  obtain ⟨w, r_w, rfl, ⟨zw, rfl, ew⟩, t9⟩ := fw_St_cons hT
  clear hT; have hT := t9; clear t9
  obtain ⟨v0, r_v0, rfl, ⟨z, rfl, ez⟩, t9⟩ := fw_St_cons hT
  clear hT; have hT := t9; clear t9
  obtain ⟨v1, r_v1, rfl, hv, t9⟩ := fw_St_cons hT
  clear hT; have hT := t9; clear t9
  have ez : i = z.toInt := ez
  obtain ⟨q0, a0, ent, hp, ea, rfl, he⟩ := fw_H_at hH hv (by omega)
  obtain ⟨cA, n0, f, t0, ty, rfl, g1, g2, g3, g4, g5⟩ := fw_arI he (by omega)
  have ety : ty = .boolean := by
    rcases g2 with ⟨q, e9⟩ | ⟨q, e9⟩ | ⟨q, e9⟩
    · first | exact e9 | (exfalso; omega)
    · first | exact e9 | (exfalso; omega)
    · first | exact e9 | (exfalso; omega)
  subst ety
  have hz := fw_clamp z (by omega)
  have hin : vp_in z n0 := vp_in_iff.mpr ⟨by omega, by omega⟩
  have ew : v = zw.toInt := ew
  have ech : vp_nar .boolean zw = zw := by
    rcases hv0 with q | q
    · have : zw = 0 := Int32.toInt_inj.mp (by rw [← ew, q]; rfl)
      subst this
      decide
    · have : zw = 1 := Int32.toInt_inj.mp (by rw [← ew, q]; rfl)
      subst this
      decide
  have hal := fw_al_set (e := .inl (cA, n0, .inl (upd f z.toNatClampNeg (vp_nar .boolean zw)))) hp
  refine va_zast hC.1 hC.2.1 hH.1 hH.2.1 hH.2.2.1 hS q0 t0 hp g1 hin (fw_de' hd) (fun H1 locs1 hP1 hD1 hS1 => ?_)
  refine kk tys _ H1 locs1 ls r_v1 ?_ hS1 (by rw [hal]; exact List.prefix_refl _) (by rw [hal]; exact hL) (by rw [hal]; exact hT)
  rw [ea]
  refine fw_H_set hH hp ⟨t0, .boolean, g1, by rw [← ea]; exact g2, by rw [← ea]; exact g3, g4, fun j hj => ?_⟩ hP1 hD1
  by_cases hj9 : j = z.toNatClampNeg
  · subst hj9
    rw [hz, ← ez, fw_u_s]
    rw [pk_us, ech]; exact ew
  · rw [fw_u_nj (by omega), ← ea]
    rw [pk_un hj9]; exact g5 j hj
theorem fw_j_last {k pc : Nat} {ll r : List fw_V} {i a v : Int} {σ : fw_M} {out : fw_O} (hd : fw_dec k pc = some (.lastore, 1)) (hk : fw_kd a = 103) (hi0 : 0 ≤ i) (hi1 : i < fw_ln a) (hJ : fw_J k (pc + 1) ll r (fw_u σ a i v) out) : fw_J k pc ll ((1, v) :: (0, i) :: (2, a) :: r) σ out := by
  have ha9 := fw_kd_lt a (by omega)
  refine fw_jg hJ 0 0 (by rw [fw_u_ne (by omega)]; exact (Int.add_zero _).symm) (by rw [fw_u_ne (by omega)]; exact (Int.add_zero _).symm) ?_
  intro base b L xs D p l e R s m args below meth c0 Q hC tys ws H locs cells slots ls cst hH hS hL hT h1 h2 kk
  obtain ⟨w, r_w, rfl, ⟨zw, rfl, ew⟩, t9⟩ := fw_St_cons hT
  clear hT; have hT := t9; clear t9
  obtain ⟨v0, r_v0, rfl, ⟨z, rfl, ez⟩, t9⟩ := fw_St_cons hT
  clear hT; have hT := t9; clear t9
  obtain ⟨v1, r_v1, rfl, hv, t9⟩ := fw_St_cons hT
  clear hT; have hT := t9; clear t9
  have ez : i = z.toInt := ez
  obtain ⟨q0, a0, ent, hp, ea, rfl, he⟩ := fw_H_at hH hv (by omega)
  obtain ⟨cA, n0, f, t0, rfl, g1, g3, g4, g5⟩ := fw_arL he hk
  have hz := fw_clamp z (by omega)
  have hin : vp_in z n0 := vp_in_iff.mpr ⟨by omega, by omega⟩

  have hal := fw_al_set (e := .inl (cA, n0, .inr (.inl (vp_updL f z.toNatClampNeg zw)))) hp
  refine va_last hC.1 hC.2.1 hH.1 hH.2.1 hH.2.2.1 hS q0 t0 hp g1 hin (fw_de' hd) (fun H1 locs1 hP1 hD1 hS1 => ?_)
  refine kk tys _ H1 locs1 ls r_v1 ?_ hS1 (by rw [hal]; exact List.prefix_refl _) (by rw [hal]; exact hL) (by rw [hal]; exact hT)
  rw [ea]
  refine fw_H_set hH hp ⟨t0, g1, by rw [← ea]; exact hk, by rw [← ea]; exact g3, g4, fun j hj => ?_⟩ hP1 hD1
  by_cases hj9 : j = z.toNatClampNeg
  · subst hj9
    rw [hz, ← ez, fw_u_s]
    rw [pk_uLs]; exact ew
  · rw [fw_u_nj (by omega), ← ea]
    rw [pk_uLn hj9]; exact g5 j hj
theorem fw_j_dast {k pc : Nat} {ll r : List fw_V} {i a v : Int} {σ : fw_M} {out : fw_O} (hd : fw_dec k pc = some (.dastore, 1)) (hk : fw_kd a = 104) (hi0 : 0 ≤ i) (hi1 : i < fw_ln a) (hJ : fw_J k (pc + 1) ll r (fw_u σ a i v) out) : fw_J k pc ll ((3, v) :: (0, i) :: (2, a) :: r) σ out := by
  have ha9 := fw_kd_lt a (by omega)
  refine fw_jg hJ 0 0 (by rw [fw_u_ne (by omega)]; exact (Int.add_zero _).symm) (by rw [fw_u_ne (by omega)]; exact (Int.add_zero _).symm) ?_
  intro base b L xs D p l e R s m args below meth c0 Q hC tys ws H locs cells slots ls cst hH hS hL hT h1 h2 kk
  obtain ⟨w, r_w, rfl, ⟨zw, rfl, ew⟩, t9⟩ := fw_St_cons hT
  clear hT; have hT := t9; clear t9
  obtain ⟨v0, r_v0, rfl, ⟨z, rfl, ez⟩, t9⟩ := fw_St_cons hT
  clear hT; have hT := t9; clear t9
  obtain ⟨v1, r_v1, rfl, hv, t9⟩ := fw_St_cons hT
  clear hT; have hT := t9; clear t9
  have ez : i = z.toInt := ez
  obtain ⟨q0, a0, ent, hp, ea, rfl, he⟩ := fw_H_at hH hv (by omega)
  obtain ⟨cA, n0, f, t0, rfl, g1, g3, g4, g5⟩ := fw_arD he hk
  have hz := fw_clamp z (by omega)
  have hin : vp_in z n0 := vp_in_iff.mpr ⟨by omega, by omega⟩

  have hal := fw_al_set (e := .inl (cA, n0, .inr (.inr (.inr (.inl (vf_upd f z.toNatClampNeg zw)))))) hp
  refine va_dast hC.1 hC.2.1 hH.1 hH.2.1 hH.2.2.1 hS q0 t0 hp g1 hin (fw_de' hd) (fun H1 locs1 hP1 hD1 hS1 => ?_)
  refine kk tys _ H1 locs1 ls r_v1 ?_ hS1 (by rw [hal]; exact List.prefix_refl _) (by rw [hal]; exact hL) (by rw [hal]; exact hT)
  rw [ea]
  refine fw_H_set hH hp ⟨t0, g1, by rw [← ea]; exact hk, by rw [← ea]; exact g3, g4, fun j hj => ?_⟩ hP1 hD1
  by_cases hj9 : j = z.toNatClampNeg
  · subst hj9
    rw [hz, ← ez, fw_u_s]
    unfold vf_upd; rw [if_pos rfl]; exact ew
  · rw [fw_u_nj (by omega), ← ea]
    unfold vf_upd; rw [if_neg hj9]; exact g5 j hj
theorem fw_j_aast {k pc : Nat} {ll r : List fw_V} {i a v : Int} {σ : fw_M} {out : fw_O} (hd : fw_dec k pc = some (.aastore, 1)) (hk : fw_kd a = 105) (hi0 : 0 ≤ i) (hi1 : i < fw_ln a) (hk4 : fw_kd v = 4) (hJ : fw_J k (pc + 1) ll r (fw_u σ a i v) out) : fw_J k pc ll ((2, v) :: (0, i) :: (2, a) :: r) σ out := by
  have ha9 := fw_kd_lt a (by omega)
  refine fw_jg hJ 0 0 (by rw [fw_u_ne (by omega)]; exact (Int.add_zero _).symm) (by rw [fw_u_ne (by omega)]; exact (Int.add_zero _).symm) ?_
  intro base b L xs D p l e R s m args below meth c0 Q hC tys ws H locs cells slots ls cst hH hS hL hT h1 h2 kk
  obtain ⟨w, r_w, rfl, hw1, t9⟩ := fw_St_cons hT
  clear hT; have hT := t9; clear t9
  obtain ⟨v0, r_v0, rfl, ⟨z, rfl, ez⟩, t9⟩ := fw_St_cons hT
  clear hT; have hT := t9; clear t9
  obtain ⟨v1, r_v1, rfl, hv, t9⟩ := fw_St_cons hT
  clear hT; have hT := t9; clear t9
  have ez : i = z.toInt := ez
  obtain ⟨q0, a0, ent, hp, ea, rfl, he⟩ := fw_H_at hH hv (by omega)
  obtain ⟨cA, n0, f, t0, ty, rfl, g1, g2, g3, g4, g5⟩ := fw_arQ he (Or.inl hk)
  have ety : ty = .object RX1 := by
    rcases g2 with ⟨q, e9⟩ | ⟨q, e9⟩
    · exact e9
    · exfalso; omega
  subst ety
  have hz := fw_clamp z (by omega)
  have hin : vp_in z n0 := vp_in_iff.mpr ⟨by omega, by omega⟩
  obtain ⟨qw, aw, entw, hpw, ew, rfl, hew⟩ := fw_H_at hH hw1 (by omega)
  obtain ⟨fsw, rfl, -, -⟩ := fw_obj (c := 1) hew (by omega) (by decide)
  have hal := fw_al_set (e := .inl (cA, n0, .inr (.inr (.inr (.inr (va_up f z.toNatClampNeg (some aw))))))) hp
  refine va_astq hC.1 hC.2.1 hH.1 hH.2.1 hH.2.2.1 hS q0 t0 qw 3 hp g1 hpw (fw_cl 1 (by decide)) hin (fw_de' hd) (fun H1 locs1 hP1 hD1 hS1 => ?_)
  refine kk tys _ H1 locs1 ls r_v1 ?_ hS1 (by rw [hal]; exact List.prefix_refl _) (by rw [hal]; exact hL) (by rw [hal]; exact hT)
  rw [ea]
  refine fw_H_set hH hp ⟨t0, .object RX1, g1, by rw [← ea]; exact g2, by rw [← ea]; exact g3, g4, fun j hj => ?_⟩ hP1 hD1
  by_cases hj9 : j = z.toNatClampNeg
  · subst hj9
    rw [hz, ← ez, fw_u_s]
    unfold va_up; rw [if_pos rfl]; exact hw1
  · rw [fw_u_nj (by omega), ← ea]
    unfold va_up; rw [if_neg hj9]; exact g5 j hj
theorem fw_j_alen {k pc : Nat} {ll r : List fw_V} {a : Int} {σ : fw_M} {out : fw_O} (hd : fw_dec k pc = some (.arraylength, 1)) (hk : 100 ≤ fw_kd a) (hJ : fw_J k (pc + 1) ll ((0, fw_ln a) :: r) σ out) : fw_J k pc ll ((2, a) :: r) σ out := by
  refine fw_jp hJ ?_
  intro base b L xs D p l e R s m args below meth c0 Q hC tys ws H locs cells slots ls cst hH hS hL hT h1 h2 kk
  obtain ⟨v1, r_v1, rfl, hv, t9⟩ := fw_St_cons hT
  clear hT; have hT := t9; clear t9
  obtain ⟨q0, a0, ent, hp, ea, rfl, he⟩ := fw_H_at hH hv (by omega)
  have key : ∀ (cA : ClassId) (x : vp_A) (t0 : Nat) (ty : FieldType), ent = .inl (cA, x) → tys[t0]? = some (cA, ty) → fw_ln a = (x.1 : Int) → x.1 ≤ 300 → W p l e R s m args below meth c0 H locs cells slots Q (F0 m pc ls (.ref a0 :: r_v1)) := by
    intro cA x t0 ty e1 e2 e3 e4
    subst e1
    refine va_alen hC.1 hC.2.1 hH.1 hH.2.1 q0 t0 hp e2 rfl (fw_de' hd) ?_
    exact kk ls _ hL ⟨⟨_, rfl, by rw [e3]; exact (nI_toInt (by omega)).symm⟩, hT⟩
  match ent, he, key with
  | .inr (ci, fs), ⟨c', g1, g2, g3, g4, g5⟩, _ => omega
  | .inl (cA, n, .inl f), ⟨t0, ty, g1, g2, g3, g4, g5⟩, key => exact key cA _ t0 ty rfl g1 g3 g4
  | .inl (cA, n, .inr (.inl f)), ⟨t0, g1, g2, g3, g4, g5⟩, key => exact key cA _ t0 _ rfl g1 g3 g4
  | .inl (cA, n, .inr (.inr (.inr (.inl f)))), ⟨t0, g1, g2, g3, g4, g5⟩, key => exact key cA _ t0 _ rfl g1 g3 g4
  | .inl (cA, n, .inr (.inr (.inr (.inr f)))), ⟨t0, ty, g1, g2, g3, g4, g5⟩, key => exact key cA _ t0 ty rfl g1 g3 g4
theorem fw_j_sald {k pc : Nat} {ll r : List fw_V} {i y : Int} {σ : fw_M} {out : fw_O} (hd : fw_dec k pc = some (.iaload, 1)) (hi0 : 0 ≤ i) (hi1 : i < σ (-3) 0) (hJ : fw_J k (pc + 1) ll ((0, σ (-2) i) :: r) σ out) : fw_J k pc ll ((0, i) :: (6, y) :: r) σ out := by
  refine fw_jp hJ ?_
  intro base b L xs D p l e R s m args below meth c0 Q hC tys ws H locs cells slots ls cst hH hS hL hT h1 h2 kk
  obtain ⟨v, r_v, rfl, ⟨z, rfl, ez⟩, t9⟩ := fw_St_cons hT
  clear hT; have hT := t9; clear t9
  obtain ⟨v1, r_v1, rfl, hv, t9⟩ := fw_St_cons hT
  clear hT; have hT := t9; clear t9
  have ez : i = z.toInt := ez
  cases hv
  obtain ⟨x1, x2, x3⟩ := hC.2.2.2.2.2.2.2.2.2.2.2.2.2.1
  have hz := fw_clamp z (by omega)
  have hn := hH.2.2.2.2.2.1
  refine va_sld hC.1 hC.2.1 x1 x2 (Nat.not_le.mpr x3) hS (vp_in_iff.mpr ⟨by omega, by omega⟩) (fw_de' hd) ?_
  have g9 := hH.2.2.2.2.2.2 z.toNatClampNeg (by omega)
  rw [hz, ← ez] at g9
  exact kk ls _ hL ⟨⟨_, rfl, g9⟩, hT⟩
theorem fw_j_slen {k pc : Nat} {ll r : List fw_V} {y : Int} {σ : fw_M} {out : fw_O} (hd : fw_dec k pc = some (.arraylength, 1)) (hb9 : σ (-3) 0 < 2147483648) (hJ : fw_J k (pc + 1) ll ((0, σ (-3) 0) :: r) σ out) : fw_J k pc ll ((6, y) :: r) σ out := by
  refine fw_jp hJ ?_
  intro base b L xs D p l e R s m args below meth c0 Q hC tys ws H locs cells slots ls cst hH hS hL hT h1 h2 kk
  obtain ⟨v1, r_v1, rfl, hv, t9⟩ := fw_St_cons hT
  clear hT; have hT := t9; clear t9
  cases hv
  obtain ⟨x1, x2, x3⟩ := hC.2.2.2.2.2.2.2.2.2.2.2.2.2.1
  have hn := hH.2.2.2.2.2.1
  refine va_slen hC.1 hC.2.1 x1 x2 (Nat.not_le.mpr x3) hS (fw_de' hd) ?_
  exact kk ls _ hL ⟨⟨_, rfl, by rw [hn]; exact (nI_toInt (by omega)).symm⟩, hT⟩
end
section
theorem fw_cr_spec {o n c : Nat} (h : fw_cr o n = some c) : Cond.classLink (fw_CN o) n (fw_CN c) ∈ fw_ws ∧ c < 10 := by
  unfold fw_cr at h
  obtain ⟨q, hq1, hq2⟩ := Option.map_eq_some_iff.mp h
  have hm := List.mem_of_find?_eq_some hq1
  have hp := List.find?_some hq1
  simp only [Bool.and_eq_true, beq_iff_eq] at hp
  obtain ⟨g1, g2⟩ := fw_cr_ok q hm
  obtain ⟨hp1, hp2⟩ := hp
  rw [hp1, hp2, hq2] at g1
  rw [hq2] at g2
  exact ⟨fw_wd _ _ g1 rfl, g2⟩
theorem fw_nw1 {σ : fw_M} {n : Int} (h : 1 ≤ σ (-1) 0) : fw_nw σ n (-1) 1 = σ (-1) 1 + 1 := by
  unfold fw_nw
  rw [if_neg (by omega), if_pos rfl, if_neg (by decide), if_pos rfl]
theorem fw_nw2 {σ : fw_M} {n : Int} (h : 1 ≤ σ (-1) 0) : fw_nw σ n (-1) 2 = σ (-1) 2 + n := by
  unfold fw_nw
  rw [if_neg (by omega), if_pos rfl, if_neg (by decide), if_neg (by decide), if_pos rfl]
theorem fw_vr_new {ws : va_W} {a : Nat} {e : va_E} {b : Nat} {x : Int} (h : x = (ws.length : Int) + 1) : fw_vr (fw_al (ws ++ [(a, e)])) b (2, x) (.ref a) := by
  refine Or.inr ⟨ws.length, a, ?_, h, rfl⟩
  unfold fw_al
  rw [List.getElem?_map, List.getElem?_append_right (Nat.le_refl _), Nat.sub_self]
  rfl
theorem fw_al_push {ws : va_W} {q : Nat × va_E} : fw_al ws <+: fw_al (ws ++ [q]) := by unfold fw_al; rw [List.map_append]; exact List.prefix_append _ _
theorem fw_j_new {k pc n c : Nat} {ll st : List fw_V} {σ : fw_M} {out : fw_O} (hd : fw_dec k pc = some (.new n, 3)) (hf : fw_cr (fw_oc k) n = some c) (hk : fw_kd (σ (-1) 0) = (c : Int) + 3) (hJ : fw_J k (pc + 3) ll ((2, σ (-1) 0) :: st) (fw_nw σ (fw_nf c)) out) : fw_J k pc ll st σ out := by
  have h9 := fw_kd_lt _ (show fw_kd (σ (-1) 0) ≠ 0 by omega)
  refine fw_jg hJ 1 (fw_nf c) (fw_nw1 (by omega)) (fw_nw2 (by omega)) ?_
  intro base b L xs D p l e R s m args below meth c0 Q hC tys ws H locs cells slots ls cst hH hS hL hT h1 h2 kk
  obtain ⟨hw, hc⟩ := fw_cr_spec hf
  refine va_new (ci := c + 2) (fs := (List.range (fw_nf c)).map (fun j => defaultValue (fw_ty c j))) (C := fw_CN c) (T := fw_CT c) (N := fw_nf c) hC.1 hC.2.1 hC.2.2.2.2.1 (fw_uw c hc) (fw_ty c) (fw_tyok c hc) hC.2.2.2.1 (hC.2.2.2.2.1 _ hw) (hC.2.2.2.2.1 _ (fw_ins c hc)) (hC.2.2.2.2.1 _ (fw_ini c (by omega))) hH.1 hH.2.1 hH.2.2.1 hS (fun q hq => Nat.le_trans hC.2.2.2.2.2.2.2.2.2.2.2.2.1 hq) (fw_cl c hc) (fun j hj => ?_) h1 h2 (fw_de' hd) (fun q H1 hP1 hD1 hS1 => ?_)
  · unfold vp_V
    simp [List.getD, hj]
  · refine kk tys _ H1 locs ls _ (fw_H_push hH (List.prefix_refl _) hH.1 hP1 hD1 ⟨c, rfl, hc, by rw [← hk, hH.2.2.2.1], by simp, fun j hj => ?_⟩) hS1 fw_al_push (fw_L_mono fw_al_push hL) ⟨fw_vr_new hH.2.2.2.1, fw_St_mono fw_al_push hT⟩
    obtain ⟨k1, k2⟩ := fw_tk_ok c (List.mem_range.mpr hc) j (List.mem_range.mpr hj)
    refine ⟨defaultValue (fw_ty c j), by simp [hj], ?_⟩
    rw [← k1]
    exact fw_dflt k2
theorem fw_j_newa_int {k pc : Nat} {ll r : List fw_V} {n : Int} {σ : fw_M} {out : fw_O} (hd : fw_dec k pc = some (.newarray .int, 2)) (hn0 : 0 ≤ n) (hn1 : n ≤ 300) (hk : fw_kd (σ (-1) 0) = 100) (hn : fw_ln (σ (-1) 0) = n) (hJ : fw_J k (pc + 2) ll ((2, σ (-1) 0) :: r) (fw_nw σ n) out) : fw_J k pc ll ((0, n) :: r) σ out := by
  have h9 := fw_kd_lt _ (show fw_kd (σ (-1) 0) ≠ 0 by omega)
  refine fw_jg hJ 1 n.toNat (fw_nw1 (by omega)) (by rw [fw_nw2 (by omega)]; omega) ?_
  intro base b L xs D p l e R s m args below meth c0 Q hC tys ws H locs cells slots ls cst hH hS hL hT h1 h2 kk
  obtain ⟨v, r_v, rfl, ⟨z, rfl, ez⟩, t9⟩ := fw_St_cons hT
  clear hT; have hT := t9; clear t9
  have ez : n = z.toInt := ez
  have hz := fw_clamp z (by omega)
  refine va_newa (atype := .int) (ty := .int) (N' := n.toNat) (a0 := (n.toNat, .inl (fun _ => (0 : Int32)))) hC.1 hC.2.1 (hC.2.2.2.2.1 _ (fw_wd 1 73 rfl rfl)) rfl hH.1 hH.2.1 hH.2.2.1 hS (fun q hq => Nat.le_trans hC.2.2.2.2.2.2.2.2.2.2.2.2.1 hq) (fun cA => rfl) ?_ (by omega) ?_ h1 h2 (fw_de' hd) (fun q cA H1 hK1 hP1 hD1 hS1 => ?_)
  · rw [Int32.lt_iff_toInt_lt]
    have : (0 : Int32).toInt = 0 := rfl
    omega
  · show n.toNat * 4 ≤ 536870912
    omega
  · exact kk (tys ++ [(cA, .int)]) _ H1 locs ls _ (fw_H_push hH (List.prefix_append _ _) hK1 hP1 hD1 ⟨tys.length, .int, by simp, Or.inl ⟨by rw [← hH.2.2.2.1]; exact hk, rfl⟩, by rw [← hH.2.2.2.1, hn]; omega, by omega, fun j hj => rfl⟩) hS1 fw_al_push (fw_L_mono fw_al_push hL) ⟨fw_vr_new hH.2.2.2.1, fw_St_mono fw_al_push hT⟩
theorem fw_j_newa_char {k pc : Nat} {ll r : List fw_V} {n : Int} {σ : fw_M} {out : fw_O} (hd : fw_dec k pc = some (.newarray .char, 2)) (hn0 : 0 ≤ n) (hn1 : n ≤ 300) (hk : fw_kd (σ (-1) 0) = 101) (hn : fw_ln (σ (-1) 0) = n) (hJ : fw_J k (pc + 2) ll ((2, σ (-1) 0) :: r) (fw_nw σ n) out) : fw_J k pc ll ((0, n) :: r) σ out := by
  have h9 := fw_kd_lt _ (show fw_kd (σ (-1) 0) ≠ 0 by omega)
  refine fw_jg hJ 1 n.toNat (fw_nw1 (by omega)) (by rw [fw_nw2 (by omega)]; omega) ?_
  intro base b L xs D p l e R s m args below meth c0 Q hC tys ws H locs cells slots ls cst hH hS hL hT h1 h2 kk
  obtain ⟨v, r_v, rfl, ⟨z, rfl, ez⟩, t9⟩ := fw_St_cons hT
  clear hT; have hT := t9; clear t9
  have ez : n = z.toInt := ez
  have hz := fw_clamp z (by omega)
  refine va_newa (atype := .char) (ty := .char) (N' := n.toNat) (a0 := (n.toNat, .inl (fun _ => (0 : Int32)))) hC.1 hC.2.1 (hC.2.2.2.2.1 _ (fw_wd 1 74 rfl rfl)) rfl hH.1 hH.2.1 hH.2.2.1 hS (fun q hq => Nat.le_trans hC.2.2.2.2.2.2.2.2.2.2.2.2.1 hq) (fun cA => rfl) ?_ (by omega) ?_ h1 h2 (fw_de' hd) (fun q cA H1 hK1 hP1 hD1 hS1 => ?_)
  · rw [Int32.lt_iff_toInt_lt]
    have : (0 : Int32).toInt = 0 := rfl
    omega
  · show n.toNat * 2 ≤ 536870912
    omega
  · exact kk (tys ++ [(cA, .char)]) _ H1 locs ls _ (fw_H_push hH (List.prefix_append _ _) hK1 hP1 hD1 ⟨tys.length, .char, by simp, Or.inr (Or.inl ⟨by rw [← hH.2.2.2.1]; exact hk, rfl⟩), by rw [← hH.2.2.2.1, hn]; omega, by omega, fun j hj => rfl⟩) hS1 fw_al_push (fw_L_mono fw_al_push hL) ⟨fw_vr_new hH.2.2.2.1, fw_St_mono fw_al_push hT⟩
theorem fw_j_newa_boolean {k pc : Nat} {ll r : List fw_V} {n : Int} {σ : fw_M} {out : fw_O} (hd : fw_dec k pc = some (.newarray .boolean, 2)) (hn0 : 0 ≤ n) (hn1 : n ≤ 300) (hk : fw_kd (σ (-1) 0) = 102) (hn : fw_ln (σ (-1) 0) = n) (hJ : fw_J k (pc + 2) ll ((2, σ (-1) 0) :: r) (fw_nw σ n) out) : fw_J k pc ll ((0, n) :: r) σ out := by
  have h9 := fw_kd_lt _ (show fw_kd (σ (-1) 0) ≠ 0 by omega)
  refine fw_jg hJ 1 n.toNat (fw_nw1 (by omega)) (by rw [fw_nw2 (by omega)]; omega) ?_
  intro base b L xs D p l e R s m args below meth c0 Q hC tys ws H locs cells slots ls cst hH hS hL hT h1 h2 kk
  obtain ⟨v, r_v, rfl, ⟨z, rfl, ez⟩, t9⟩ := fw_St_cons hT
  clear hT; have hT := t9; clear t9
  have ez : n = z.toInt := ez
  have hz := fw_clamp z (by omega)
  refine va_newa (atype := .boolean) (ty := .boolean) (N' := n.toNat) (a0 := (n.toNat, .inl (fun _ => (0 : Int32)))) hC.1 hC.2.1 (hC.2.2.2.2.1 _ (fw_wd 3 196 rfl rfl)) rfl hH.1 hH.2.1 hH.2.2.1 hS (fun q hq => Nat.le_trans hC.2.2.2.2.2.2.2.2.2.2.2.2.1 hq) (fun cA => rfl) ?_ (by omega) ?_ h1 h2 (fw_de' hd) (fun q cA H1 hK1 hP1 hD1 hS1 => ?_)
  · rw [Int32.lt_iff_toInt_lt]
    have : (0 : Int32).toInt = 0 := rfl
    omega
  · show n.toNat * 1 ≤ 536870912
    omega
  · exact kk (tys ++ [(cA, .boolean)]) _ H1 locs ls _ (fw_H_push hH (List.prefix_append _ _) hK1 hP1 hD1 ⟨tys.length, .boolean, by simp, Or.inr (Or.inr ⟨by rw [← hH.2.2.2.1]; exact hk, rfl⟩), by rw [← hH.2.2.2.1, hn]; omega, by omega, fun j hj => rfl⟩) hS1 fw_al_push (fw_L_mono fw_al_push hL) ⟨fw_vr_new hH.2.2.2.1, fw_St_mono fw_al_push hT⟩
theorem fw_j_newq {k pc : Nat} {ll r : List fw_V} {n : Int} {σ : fw_M} {out : fw_O} (hd : fw_dec k pc = some (.anewarray 9, 3)) (ho : fw_oc k = 6) (hn0 : 0 ≤ n) (hn1 : n ≤ 300) (hk : fw_kd (σ (-1) 0) = 105) (hn : fw_ln (σ (-1) 0) = n) (hJ : fw_J k (pc + 3) ll ((2, σ (-1) 0) :: r) (fw_nw σ n) out) : fw_J k pc ll ((0, n) :: r) σ out := by
  have h9 := fw_kd_lt _ (show fw_kd (σ (-1) 0) ≠ 0 by omega)
  refine fw_jg hJ 1 n.toNat (fw_nw1 (by omega)) (by rw [fw_nw2 (by omega)]; omega) ?_
  intro base b L xs D p l e R s m args below meth c0 Q hC tys ws H locs cells slots ls cst hH hS hL hT h1 h2 kk
  obtain ⟨v, r_v, rfl, ⟨z, rfl, ez⟩, t9⟩ := fw_St_cons hT
  clear hT; have hT := t9; clear t9
  have ez : n = z.toInt := ez
  have hz := fw_clamp z (by omega)
  have hown := hC.2.2.2.1
  rw [ho] at hown
  refine va_newq (C := RX1) (N' := n.toNat) hC.1 hC.2.1 hown (hC.2.2.2.2.1 _ (fw_wd 1 111 rfl rfl)) hC.2.2.2.2.2.2.2.2.2.2.2.1.2.2.2.2.1 hH.1 hH.2.1 hH.2.2.1 hS (fun q hq => Nat.le_trans hC.2.2.2.2.2.2.2.2.2.2.2.2.1 hq) ?_ (by omega) (by omega) h1 h2 (fw_de' hd) (fun q cA H1 hK1 hP1 hD1 hS1 => ?_)
  · rw [Int32.lt_iff_toInt_lt]
    have : (0 : Int32).toInt = 0 := rfl
    omega
  · exact kk (tys ++ [(cA, .object RX1)]) _ H1 locs ls _ (fw_H_push hH (List.prefix_append _ _) hK1 hP1 hD1 ⟨tys.length, .object RX1, by simp, Or.inl ⟨by rw [← hH.2.2.2.1]; exact hk, rfl⟩, by rw [← hH.2.2.2.1, hn]; omega, by omega, fun j hj => Or.inl ⟨rfl, rfl⟩⟩) hS1 fw_al_push (fw_L_mono fw_al_push hL) ⟨fw_vr_new hH.2.2.2.1, fw_St_mono fw_al_push hT⟩
/-- the cells as they lie behind new int[6][30] -/
theorem fw_mn_lo (σ : fw_M) {a : Int} (j : Int) (h : (0 ≤ a ∧ a < 37) ∨ 43 < a) : fw_mn σ a j = σ a j := by
  unfold fw_mn
  rw [if_neg (by omega), if_neg (by omega), if_neg (by omega)]
theorem fw_mn_sc (σ : fw_M) {a : Int} (j : Int) (h : a < -1) : fw_mn σ a j = σ a j := by
  unfold fw_mn
  rw [if_neg (by omega), if_neg (by omega), if_neg (by omega)]
theorem fw_j_mna {k pc : Nat} {ll : List fw_V} {z : Int} {σ : fw_M} {out : fw_O} (hd : fw_dec k pc = some (.multianewarray 23 2, 4)) (ho : fw_oc k = 9) (h37 : σ (-1) 0 = 37) (hJ : fw_J k (pc + 4) ll [(2, 37), (2, z)] (fw_mn σ) out) : fw_J k pc ll [(0, 30), (0, 6), (2, z)] σ out := by
  refine fw_jg hJ 7 186 (by show fw_mn σ (-1) 1 = _; unfold fw_mn; rw [if_neg (by decide), if_neg (by decide), if_pos rfl, if_neg (by decide), if_pos rfl]; rfl) (by show fw_mn σ (-1) 2 = _; unfold fw_mn; rw [if_neg (by decide), if_neg (by decide), if_pos rfl, if_neg (by decide), if_neg (by decide), if_pos rfl]; rfl) ?_
  intro base b L xs D p l e R s m args below meth c0 Q hC tys ws H locs cells slots ls cst hH hS hL hT h1 h2 kk
  obtain ⟨v, r_v, rfl, ⟨z0, rfl, ez⟩, t9⟩ := fw_St_cons hT
  clear hT; have hT := t9; clear t9
  obtain ⟨v1, r_v1, rfl, ⟨z1, rfl, ez1⟩, t9⟩ := fw_St_cons hT
  clear hT; have hT := t9; clear t9
  obtain ⟨v2, r_v2, rfl, hv2, t9⟩ := fw_St_cons hT
  clear hT; have hT := t9; clear t9
  have ez : (30 : Int) = z0.toInt := ez
  have ez1 : (6 : Int) = z1.toInt := ez1
  have e0 : z0 = 30 := Int32.toInt_inj.mp (by rw [← ez]; rfl)
  have e1 : z1 = 6 := Int32.toInt_inj.mp (by rw [← ez1]; rfl)
  subst e0
  subst e1
  have hr0 := fw_St_nil hT
  subst hr0
  have hown := hC.2.2.2.1
  rw [ho] at hown
  have hlen : ws.length = 36 := by have := hH.2.2.2.1; omega
  obtain ⟨t3, cI, t4, -⟩ : ∃ (t0 : Nat) (cI : ClassId), tys[t0]? = some (cI, FieldType.int) ∧ True := by
    have h2 : (2 : Nat) < ws.length := by omega
    obtain ⟨q, hq⟩ : ∃ q, ws[2]? = some q := ⟨ws[2], List.getElem?_eq_getElem h2⟩
    have he := hH.2.2.2.2.1 2 q hq
    obtain ⟨cA, n, f, t0, ty, -, g1, g2, -⟩ := fw_arI (a := ((2 : Nat) : Int) + 1) he (Or.inl rfl)
    rcases g2 with ⟨-, rfl⟩ | ⟨q9, -⟩ | ⟨q9, -⟩
    · exact ⟨t0, cA, g1, trivial⟩
    · exact absurd q9 (by decide)
    · exact absurd q9 (by decide)
  have hcy : s.vm.findClass (FieldType.array .int).toString = some cI := (hH.1.2 t3 _ t4).2
  have hPw : va_P D fw_Cl (ws ++ va_pl [] (fun _ => .inl (cI, 0, .inl (fun _ => 0)))) H := by
    show va_P D fw_Cl (ws ++ []) H
    rw [List.append_nil]
    exact hH.2.1
  have hDw : va_D (fun q => base ≤ q) (ws ++ va_pl [] (fun _ => .inl (cI, 0, .inl (fun _ => 0)))) := by
    show va_D _ (ws ++ [])
    rw [List.append_nil]
    exact hH.2.2.1
  refine va_mna (n := 6) (k := 30) (N' := 6) (K' := 30) (ty := .int) (cy := cI) (z := (30, .inl (fun _ => (0 : Int32)))) hC.1 hC.2.1 hown (hC.2.2.2.2.1 _ (fw_wd 3 105 rfl rfl)) hC.2.2.2.2.2.2.2.2.2.2.2.1.2.2.2.2.2 (hC.2.2.2.2.1 _ (fw_wd 1 73 rfl rfl)) hcy hH.1 hPw hDw hS (fun q hq => Nat.le_trans hC.2.2.2.2.2.2.2.2.2.2.2.2.1 hq) (by decide) (by decide) (by decide) (by decide) (by decide) (by decide) (by decide) rfl rfl (by omega) (by omega) (fun c9 => ?_) (fw_de' hd) (fun q r cA H1 hinj hrn hK1 hP1 hD1 hS1 => ?_)
  · rw [vp_cell_i, ← arrV_new]; rfl
  · have hws : (ws ++ [(q, (.inl (cA, 6, .inr (.inr (.inr (.inr (fun i => if i < 6 then some (r i) else none))))) : va_E))]) ++ va_pl ([] ++ (List.range 6).map r) (vr_up (fun _ => .inl (cI, 0, .inl (fun _ => 0))) ((List.range 6).map r) (.inl (cI, (30, .inl (fun _ => (0 : Int32)))))) = (ws ++ [(q, (.inl (cA, 6, .inr (.inr (.inr (.inr (fun i => if i < 6 then some (r i) else none))))) : va_E))]) ++ (List.range 6).map (fun i => (r i, (.inl (cI, (30, .inl (fun _ => (0 : Int32)))) : va_E))) := by
      congr 1
      unfold va_pl
      rw [List.nil_append, List.map_map]
      refine List.map_congr_left (fun i hi => ?_)
      show (r i, vr_up _ _ _ (r i)) = _
      rw [vr_up_in (List.mem_map_of_mem hi)]
    rw [hws] at hP1 hD1
    clear hws
    generalize hrows : (List.range 6).map (fun i => (r i, (.inl (cI, (30, .inl (fun _ => (0 : Int32)))) : va_E))) = rows at hP1 hD1
    have hrl : rows.length = 6 := by rw [← hrows, List.length_map, List.length_range]
    have hra : ∀ i : Nat, i < 6 → rows[i]? = some (r i, (.inl (cI, (30, .inl (fun _ => (0 : Int32)))) : va_E)) := fun i hi => by
      rw [← hrows, List.getElem?_map, List.getElem?_range hi]; rfl
    have hpre : fw_al ws <+: fw_al ((ws ++ [(q, (.inl (cA, 6, .inr (.inr (.inr (.inr (fun i => if i < 6 then some (r i) else none))))) : va_E))]) ++ rows) := by
      unfold fw_al
      rw [List.map_append, List.map_append, List.append_assoc]
      exact List.prefix_append _ _
    have hal36 : (fw_al ((ws ++ [(q, (.inl (cA, 6, .inr (.inr (.inr (.inr (fun i => if i < 6 then some (r i) else none))))) : va_E))]) ++ rows))[36]? = some q := by
      unfold fw_al
      rw [List.map_append, List.map_append, List.append_assoc, List.getElem?_append_right (by rw [List.length_map]; omega), List.length_map, hlen]
      rfl
    have hali : ∀ i : Nat, i < 6 → (fw_al ((ws ++ [(q, (.inl (cA, 6, .inr (.inr (.inr (.inr (fun i => if i < 6 then some (r i) else none))))) : va_E))]) ++ rows))[37 + i]? = some (r i) := fun i hi => by
      unfold fw_al
      rw [List.map_append, List.getElem?_append_right (by rw [List.length_map, List.length_append, List.length_singleton]; omega), List.length_map, List.length_append, List.length_singleton, hlen, show 37 + i - (36 + 1) = i by omega, List.getElem?_map, hra i hi]
      rfl
    obtain ⟨b1, b2, b3, b4, b5, b6, b7⟩ := hH
    have hHn : fw_H base b L xs D (fw_mn σ) (tys ++ [(cA, .array .int)]) ((ws ++ [(q, (.inl (cA, 6, .inr (.inr (.inr (.inr (fun i => if i < 6 then some (r i) else none))))) : va_E))]) ++ rows) s H1 := by
      refine ⟨hK1, hP1, hD1, ?_, fun k9 q9 hq9 => ?_, by rw [fw_mn_sc _ _ (by decide)]; exact b6, fun i hi => by rw [fw_mn_sc _ _ (by decide)]; exact b7 i hi⟩
      · rw [List.length_append, List.length_append, List.length_singleton, hlen, hrl]
        unfold fw_mn
        rw [if_neg (by decide), if_neg (by decide), if_pos rfl, if_pos rfl]
        rfl
      · by_cases h1 : k9 < 36
        · rw [List.append_assoc, List.getElem?_append_left (by omega)] at hq9
          exact fw_er_mono hpre (List.prefix_append _ _) (fun j => fw_mn_lo σ j (Or.inl ⟨by omega, by omega⟩)) (b5 k9 q9 hq9)
        · by_cases h2 : k9 = 36
          · subst h2
            rw [List.append_assoc, List.getElem?_append_right (by omega), hlen] at hq9
            cases hq9
            refine ⟨tys.length, .array .int, by simp, Or.inr ⟨rfl, rfl⟩, rfl, by decide, fun j hj => ?_⟩
            show fw_vr _ _ _ (va_rf (if j < 6 then some (r j) else none))
            rw [if_pos hj]
            refine Or.inr ⟨37 + j, r j, hali j hj, ?_, rfl⟩
            show fw_mn σ 37 (j : Int) = _
            unfold fw_mn
            rw [if_pos rfl, if_pos ⟨by omega, by omega⟩]
            omega
          · have h3 : k9 - 37 < 6 := by
              have := (List.getElem?_eq_some_iff.mp hq9).1
              rw [List.length_append, List.length_append, List.length_singleton, hlen, hrl] at this
              omega
            rw [List.getElem?_append_right (by rw [List.length_append, List.length_singleton]; omega), List.length_append, List.length_singleton, hlen, hra _ h3] at hq9
            cases hq9
            have kd9 : fw_kd ((k9 : Int) + 1) = 100 := by
              obtain ⟨i, hi, rfl⟩ : ∃ i, i < 6 ∧ k9 = 37 + i := ⟨k9 - 37, h3, by omega⟩
              match i, hi with
              | 0, _ => rfl
              | 1, _ => rfl
              | 2, _ => rfl
              | 3, _ => rfl
              | 4, _ => rfl
              | 5, _ => rfl
            have ln9 : fw_ln ((k9 : Int) + 1) = 30 := by
              obtain ⟨i, hi, rfl⟩ : ∃ i, i < 6 ∧ k9 = 37 + i := ⟨k9 - 37, h3, by omega⟩
              match i, hi with
              | 0, _ => rfl
              | 1, _ => rfl
              | 2, _ => rfl
              | 3, _ => rfl
              | 4, _ => rfl
              | 5, _ => rfl
            refine ⟨t3, .int, by rw [List.getElem?_append_left (List.getElem?_eq_some_iff.mp t4).1]; exact t4, Or.inl ⟨kd9, rfl⟩, ln9, by decide, fun j hj => ?_⟩
            show fw_mn σ _ _ = _
            unfold fw_mn
            rw [if_neg (by omega), if_pos ⟨by omega, by omega⟩]
            rfl
    exact kk (tys ++ [(cA, .array .int)]) _ H1 locs ls _ hHn hS1 hpre (fw_L_mono hpre hL) ⟨Or.inr ⟨36, q, hal36, rfl, rfl⟩, fw_vr_mono hpre hv2, trivial⟩
theorem fw_mr_find {o n cal ne : Nat} (h : fw_mr o n = some (cal, ne)) : ∃ q ∈ fw_mrT, q.1 = o ∧ q.2.1 = n ∧ q.2.2.1 = cal ∧ q.2.2.2.1 = ne := by
  unfold fw_mr at h
  obtain ⟨q, hq1, hq2⟩ := Option.map_eq_some_iff.mp h
  have hp := List.find?_some hq1
  simp only [Bool.and_eq_true, beq_iff_eq] at hp
  exact ⟨q, List.mem_of_find?_eq_some hq1, hp.1, hp.2, congrArg Prod.fst hq2, congrArg Prod.snd hq2⟩
theorem fw_mr_m : ∀ q ∈ fw_mrT, (q.2.2.1 = 1000 → (fw_t q.2.2.2.2.1)[q.2.2.2.2.2]? = some (.methodLink (fw_CN q.1) q.2.1 Lib.Math.max.name)) ∧ (q.2.2.1 = 1001 → (fw_t q.2.2.2.2.1)[q.2.2.2.2.2]? = some (.methodLink (fw_CN q.1) q.2.1 Lib.Math.min.name)) ∧ (q.2.2.1 = 1002 → (fw_t q.2.2.2.2.1)[q.2.2.2.2.2]? = some (.methodLink (fw_CN q.1) q.2.1 objectInit)) := by decide +kernel
theorem fw_sum4 {al : List Nat} {b : Nat} {st : List fw_V} {cst : List Value} (h : fw_St al b st cst) (h4 : st.length ≤ 4) : (cst.map fun v => v.category).sum ≤ 8 := by
  have := fw_St_cat h
  omega
theorem fw_j_max {k pc n : Nat} {ll r : List fw_V} {x y : Int} {σ : fw_M} {out : fw_O} (hd : fw_dec k pc = some (.invokestatic n, 3)) (hm : fw_mr (fw_oc k) n = some (1000, 0)) (hr : r.length ≤ 4) (hJ : fw_J k (pc + 3) ll ((0, if x < y then y else x) :: r) σ out) : fw_J k pc ll ((0, y) :: (0, x) :: r) σ out := by
  refine fw_jp hJ ?_
  intro base b L xs D p l e R s m args below meth c0 Q hC tys ws H locs cells slots ls cst hH hS hL hT h1 h2 kk
  obtain ⟨v, r_v, rfl, ⟨z0, rfl, e0⟩, t9⟩ := fw_St_cons hT
  clear hT; have hT := t9; clear t9
  obtain ⟨v1, r_v1, rfl, ⟨z1, rfl, e1⟩, t9⟩ := fw_St_cons hT
  clear hT; have hT := t9; clear t9
  have e0 : y = z0.toInt := e0
  have e1 : x = z1.toInt := e1
  obtain ⟨q, hq, q1, q2, q3, q4⟩ := fw_mr_find hm
  have hl := (fw_mr_m q hq).1 q3
  rw [q1, q2] at hl
  have hsm := fw_sum4 hT hr
  have hfr := hC.2.2.2.2.2.2.2.2.2.1
  have hlo := hC.2.2.2.2.2.2.2.2.2.2.1
  obtain ⟨l9, g1, g2, -⟩ := id hL
  refine va_mmax hC.1 hC.2.1 (by rw [hC.2.2.1]; exact g1.1.symm) hC.2.2.2.1 (hC.2.2.2.2.1 _ (fw_wd _ _ hl rfl)) (hC.2.2.2.2.1 _ (fw_wd 1 89 rfl rfl)) (hC.2.2.2.2.1 _ (fw_wd 1 4 rfl rfl)) (hC.2.2.2.2.1 _ (fw_wd 1 90 rfl rfl)) (by omega) (by omega) h1 h2 (fw_de' hd) ?_
  refine kk ls _ hL ⟨⟨_, rfl, ?_⟩, hT⟩
  show (if x < y then y else x) = _
  rw [e0, e1]
  by_cases q9 : z1 < z0
  · rw [if_pos q9, if_pos (Int32.lt_iff_toInt_lt.mp q9)]
  · rw [if_neg q9, if_neg (fun z => q9 (Int32.lt_iff_toInt_lt.mpr z))]
theorem fw_j_min {k pc n : Nat} {ll r : List fw_V} {x y : Int} {σ : fw_M} {out : fw_O} (hd : fw_dec k pc = some (.invokestatic n, 3)) (hm : fw_mr (fw_oc k) n = some (1001, 0)) (hr : r.length ≤ 4) (hJ : fw_J k (pc + 3) ll ((0, if y < x then y else x) :: r) σ out) : fw_J k pc ll ((0, y) :: (0, x) :: r) σ out := by
  refine fw_jp hJ ?_
  intro base b L xs D p l e R s m args below meth c0 Q hC tys ws H locs cells slots ls cst hH hS hL hT h1 h2 kk
  obtain ⟨v, r_v, rfl, ⟨z0, rfl, e0⟩, t9⟩ := fw_St_cons hT
  clear hT; have hT := t9; clear t9
  obtain ⟨v1, r_v1, rfl, ⟨z1, rfl, e1⟩, t9⟩ := fw_St_cons hT
  clear hT; have hT := t9; clear t9
  have e0 : y = z0.toInt := e0
  have e1 : x = z1.toInt := e1
  obtain ⟨q, hq, q1, q2, q3, q4⟩ := fw_mr_find hm
  have hl := (fw_mr_m q hq).2.1 q3
  rw [q1, q2] at hl
  have hsm := fw_sum4 hT hr
  have hfr := hC.2.2.2.2.2.2.2.2.2.1
  have hlo := hC.2.2.2.2.2.2.2.2.2.2.1
  obtain ⟨l9, g1, g2, -⟩ := id hL
  refine va_mmin hC.1 hC.2.1 (by rw [hC.2.2.1]; exact g1.1.symm) hC.2.2.2.1 (hC.2.2.2.2.1 _ (fw_wd _ _ hl rfl)) (hC.2.2.2.2.1 _ (fw_wd 1 86 rfl rfl)) (hC.2.2.2.2.1 _ (fw_wd 1 4 rfl rfl)) (hC.2.2.2.2.1 _ (fw_wd 1 87 rfl rfl)) (by omega) (by omega) h1 h2 (fw_de' hd) ?_
  refine kk ls _ hL ⟨⟨_, rfl, ?_⟩, hT⟩
  show (if y < x then y else x) = _
  rw [e0, e1]
  by_cases q9 : z0 < z1
  · rw [if_pos q9, if_pos (Int32.lt_iff_toInt_lt.mp q9)]
  · rw [if_neg q9, if_neg (fun z => q9 (Int32.lt_iff_toInt_lt.mpr z))]
theorem fw_j_obj {k pc n : Nat} {ll r : List fw_V} {x : Int} {σ : fw_M} {out : fw_O} (hd : fw_dec k pc = some (.invokespecial n, 3)) (hm : fw_mr (fw_oc k) n = some (1002, 0)) (hx0 : x ≠ 0) (hr : r.length ≤ 4) (hJ : fw_J k (pc + 3) ll r σ out) : fw_J k pc ll ((2, x) :: r) σ out := by
  refine fw_jp hJ ?_
  intro base b L xs D p l e R s m args below meth c0 Q hC tys ws H locs cells slots ls cst hH hS hL hT h1 h2 kk
  obtain ⟨v, r_v, rfl, hv, t9⟩ := fw_St_cons hT
  clear hT; have hT := t9; clear t9
  obtain ⟨q, hq, q1, q2, q3, q4⟩ := fw_mr_find hm
  have hl := (fw_mr_m q hq).2.2 q3
  rw [q1, q2] at hl
  have hsm := fw_sum4 hT hr
  have hfr := hC.2.2.2.2.2.2.2.2.2.1
  have hlo := hC.2.2.2.2.2.2.2.2.2.2.1
  obtain ⟨l9, g1, g2, -⟩ := id hL
  rcases hv with ⟨q9, -⟩ | ⟨i, a, -, -, rfl⟩
  · exact absurd q9 hx0
  · refine W.objInit (rest := r_v) hC.1 hC.2.1 hC.2.2.2.1 (hC.2.2.2.2.1 _ (fw_wd _ _ hl rfl)) (hC.2.2.2.2.1 _ (fw_wd 1 27 rfl rfl)) (hC.2.2.2.2.1 _ (fw_wd 1 28 rfl rfl)) rfl (by rw [hC.2.2.1]; exact g1.1) rfl (fw_de' hd) (by omega) (by show 2 * 0 + _ + 12 ≤ _; omega) ?_
    exact kk ls _ hL hT
end
section
/-! a method's contract, out of its run on the small machine -/
def fw_ov (al : List Nat) (b : Nat) (av : fw_V) (v : Option Value) : Prop := (av = (5, 0) ∧ v = none) ∨ (av.1 ≠ 5 ∧ av.1 ≠ 9 ∧ ∃ z, v = some z ∧ fw_vr al b av z)
def fw_Q (base b L : Nat) (xs : Nat → Int32) (D : va_G) (al0 : List Nat) (out : fw_O) : Array Value → State → Outcome → State → Prop := fun _ st o t =>
  ∃ v : Option Value, o = .returned v ∧ (∃ (tys : List (ClassId × FieldType)) (ws : va_W), fw_H base b L xs D out.2 tys ws t t.heap ∧ al0 <+: fw_al ws ∧ fw_ov (fw_al ws) b out.1 v) ∧ va_F (fun q => base ≤ q) st t
def fw_XQ (base b L : Nat) (xs : Nat → Int32) (D : va_G) (al0 : List Nat) (out : fw_O) : String → State → State → Prop := fun E st t =>
  out.1.1 = 9 ∧ E = fw_xn out.1.2.toNat ∧ (∃ (tys : List (ClassId × FieldType)) (ws : va_W), fw_H base b L xs D out.2 tys ws t t.heap ∧ al0 <+: fw_al ws) ∧ va_F (fun q => base ≤ q) st t
theorem fw_args_mem : ∀ (vs : List Value) (n i : Nat) (v : Value), (∀ w ∈ vs, w.category = 1) → vs[i]? = some v → (n + i, v) ∈ lv_args n vs
  | [], _, _, _, _, h => by simp at h
  | w :: vs, n, 0, v, hc, h => by
    rw [List.getElem?_cons_zero] at h
    cases h
    exact List.mem_cons_self
  | w :: vs, n, i + 1, v, hc, h => by
    rw [List.getElem?_cons_succ] at h
    have h1 : ¬ w.category = 2 := by rw [hc w List.mem_cons_self]; decide
    have h2 := fw_args_mem vs (n + 1) i v (fun x hx => hc x (List.mem_cons_of_mem _ hx)) h
    unfold lv_args
    rw [if_neg h1]
    refine List.mem_cons_of_mem _ ?_
    have e : n + (i + 1) = n + 1 + i := by omega
    rw [e]
    exact h2
theorem fw_args_cat : ∀ (vs : List Value) (n : Nat), (∀ w ∈ vs, w.category = 1) → ∀ q ∈ lv_args n vs, q.2.category = 1
  | [], _, _, _, h => by cases h
  | w :: vs, n, hc, q, h => by
    unfold lv_args at h
    rcases List.mem_cons.mp h with rfl | h
    · exact hc w List.mem_cons_self
    · exact fw_args_cat vs _ (fun x hx => hc x (List.mem_cons_of_mem _ hx)) q h
theorem fw_sl_len : ∀ (vs : List Value), (∀ w ∈ vs, w.category = 1) → (lg_sl vs).length = vs.length
  | [], _ => rfl
  | w :: vs, hc => by
    have h1 : ¬ w.category = 2 := by rw [hc w List.mem_cons_self]; decide
    have h2 := fw_sl_len vs (fun x hx => hc x (List.mem_cons_of_mem _ hx))
    have h3 : lg_sl (w :: vs) = .val w :: lg_sl vs := by
      unfold lg_sl
      rw [List.flatMap_cons, if_neg h1]
      rfl
    rw [h3, List.length_cons, h2, List.length_cons]
theorem fw_St_mem {al : List Nat} {b : Nat} : ∀ {st : List fw_V} {cst : List Value}, fw_St al b st cst → ∀ w ∈ cst, ∃ a ∈ st, fw_vr al b a w
  | [], [], _, _, h => by cases h
  | a :: st, v :: cst, hs, w, h => by
    rcases List.mem_cons.mp h with rfl | h
    · exact ⟨a, List.mem_cons_self, hs.1⟩
    · obtain ⟨a', h1, h2⟩ := fw_St_mem hs.2 w h
      exact ⟨a', List.mem_cons_of_mem _ h1, h2⟩
/-- a method's locals at its entry -/
theorem fw_L_entry {k : Nat} {al : List Nat} {b : Nat} {as : List fw_V} {vs : List Value} (hT : fw_St al b as vs) (ht : ∀ a ∈ as, a.1 ≠ 1 ∧ a.1 ≠ 3) (hn : as.length ≤ fw_mL k) :
    fw_L k al b ((lg_sl vs ++ List.replicate (fw_mL k - (lg_sl vs).length) Slot.unset).toArray) (fw_en k as) := by
  have hc : ∀ w ∈ vs, w.category = 1 := by
    intro w hw
    obtain ⟨a, h1, h2⟩ := fw_St_mem hT w hw
    exact fw_cat h2 (ht a h1).1 (ht a h1).2
  have hlen := fw_St_len hT
  have hsl := fw_sl_len vs hc
  refine ⟨lv_args 0 vs, lv_entry vs (by omega), ?_, fun i av hi ha => ?_, fun q hq h2 => ?_, fun av hav => ?_, fun _ av hav => ?_⟩
  · unfold fw_en
    rw [List.length_append, List.length_replicate]
    omega
  · unfold fw_en at hi
    by_cases hl : i < as.length
    · rw [List.getElem?_append_left hl] at hi
      obtain ⟨v, h1, h2⟩ := fw_St_at hT hi
      have h3 := fw_args_mem vs 0 i v hc h1
      rw [Nat.zero_add] at h3
      exact ⟨v, h3, h2⟩
    · rw [List.getElem?_append_right (by omega)] at hi
      have := (List.mem_replicate.mp (List.mem_of_getElem? hi)).2
      rw [this] at ha
      exact absurd rfl ha
  · have := fw_args_cat vs 0 hc q hq
    omega
  · unfold fw_en at hav
    rcases List.mem_append.mp hav with h | h
    · exact (ht av h).2
    · rw [(List.mem_replicate.mp h).2]; exact (by decide : (8 : Nat) ≠ 3)
  · unfold fw_en at hav
    rcases List.mem_append.mp hav with h | h
    · exact (ht av h).1
    · rw [(List.mem_replicate.mp h).2]; exact (by decide : (8 : Nat) ≠ 1)
def fw_rm (k mc ms : Nat) : Room := { frames := fw_rk k + 2, locals := 30 * fw_rk k + 100, cells := mc, slots := ms }
def fw_P (base b L : Nat) (xs : Nat → Int32) (D : va_G) (σ : fw_M) (tys : List (ClassId × FieldType)) (ws : va_W) (U : State) : Prop := fw_H base b L xs D σ tys ws U U.heap ∧ fw_Z base U U.heap ∧ base ≤ U.heap.size ∧ va_X b L xs U U.heap ∧ b < U.heap.size ∧ b < base
/-- the ends of a method other than the law -/
theorem fw_fin {k base b L : Nat} {xs : Nat → Int32} {D : va_G} {p : Program} {l : Launch} {e : Env} {R : Room} {s : State} {m : MethodId} {args : Array Value} {below : List Frame} {meth : Method} {c : Code} {al0 : List Nat} {C0 S0 : Int} {out : fw_O} {mc ms : Nat}
    (hC : fw_C k base b L xs p l R s m args meth c) (h0 : k ≠ 0) (hmc : (mc : Int) = out.2 (-1) 1 - C0) (hms : (ms : Int) = out.2 (-1) 2 - S0) :
    fw_F k base b L xs D p l e R s m args below meth c (vx_MQ below (fw_Q base b L xs D al0 out) (fw_XQ base b L xs D al0 out) args s mc ms (fun q => base ≤ q)) al0 C0 S0 out := by
  obtain ⟨hx, hb, hml, hown, hws, hlocks, htab, hini, htr, hfr, hlo, hZ, hbase, hscr, hr, hk⟩ := hC
  refine ⟨?_, ?_, ?_⟩
  · intro tys ws H locs cells slots pc ls cst i hd hH hS hal hc1 hc2 hv
    obtain rfl : cells = mc := by omega
    obtain rfl : slots = ms := by omega
    refine vx_ret ?_
    have key : ∀ (v : Option Value), fw_ov (fw_al ws) b out.1 v → ∀ t : State, t.heap = H → s.WarmedH t.vm → fw_Q base b L xs D al0 out args s (.returned v) t := by
      intro v hv t ht hW
      exact ⟨v, rfl, ⟨tys, ws, by rw [ht]; exact fw_H_moved hW.alike hH, hal, hv⟩, hS.F ht⟩
    rcases hv with ⟨h1, rfl, h3, rfl⟩ | ⟨h1, rfl, h3, z, h4, rfl⟩ | ⟨h1, rfl, h3, z, h4, rfl⟩ | ⟨h1, rfl, h3, z, h4, rfl⟩ | ⟨h1, rfl, h3, z, h4, rfl⟩ | ⟨h1, rfl, h3, z, h4, rfl⟩
    · exact W.vret hx hb (by rw [hr, h3]) (key none (Or.inl ⟨h1, rfl⟩)) hS.2.2 hd
    · have kz := key (some (.int z)) (Or.inr ⟨by omega, by omega, _, rfl, by unfold fw_vr; rw [h1]; exact ⟨z, rfl, h4⟩⟩)
      unfold fw_ri at h3
      split at h3
      · rename_i hq
        exact W.zret (ty := .int) hx hb (by rw [hr, hq]) rfl kz hS.2.2 hd
      · rename_i hq
        have h3 := of_decide_eq_true h3
        refine W.zret (ty := .boolean) hx hb (by rw [hr, hq]) ?_ kz hS.2.2 hd
        rcases h3 with q | q
        · have : z = 0 := Int32.toInt_inj.mp (by rw [← h4, q]; rfl)
          subst this
          decide
        · have : z = 1 := Int32.toInt_inj.mp (by rw [← h4, q]; rfl)
          subst this
          decide
      · rename_i hq
        have h3 := of_decide_eq_true h3
        refine W.zret (ty := .char) hx hb (by rw [hr, hq]) ?_ kz hS.2.2 hd
        obtain ⟨q9, hq9, rfl⟩ := nI_of (x := z) (by rw [Int32.lt_iff_toInt_lt]; have : (0 : Int32).toInt = 0 := rfl; omega)
        rw [nI_toInt hq9] at h4
        exact (pk_charN (by omega)).1
      · cases h3
    · exact W.lret hx hb (by rw [hr, h3]) (key (some (.long z)) (Or.inr ⟨by omega, by omega, _, rfl, by unfold fw_vr; rw [h1]; exact ⟨z, rfl, h4⟩⟩)) hS.2.2 hd
    · have h5 := h4
      unfold fw_vr at h5
      rw [h1] at h5
      exact W.aret (rt := .object RX1) hx hb (by rw [hr, h3]) (Or.inl ⟨_, rfl⟩) (by
        rcases h5 with ⟨-, rfl⟩ | ⟨i, a, -, -, rfl⟩
        · exact Or.inl rfl
        · exact Or.inr ⟨_, rfl⟩) (key (some z) (Or.inr ⟨by omega, by omega, _, rfl, h4⟩)) hS.2.2 hd
    · exact W.dret hx hb (by rw [hr, h3]) (key (some (.double z)) (Or.inr ⟨by omega, by omega, _, rfl, by unfold fw_vr; rw [h1]; exact ⟨z, rfl, h4⟩⟩)) hS.2.2 hd
    · exact W.fret hx hb (by rw [hr, h3]) (key (some (.float z)) (Or.inr ⟨by omega, by omega, _, rfl, by unfold fw_vr; rw [h1]; exact ⟨z, rfl, h4⟩⟩)) hS.2.2 hd
  · intro h9 _ hhs tys ws H locs cells slots pc ls rest q ce hH hS hal hc1 hc2 hq hv hcl
    have ht := htab h0
    rw [hhs] at ht
    exact vx_out (fun x hx => by rw [ht] at hx; cases hx) hlocks hq hv hcl (fun t ht hvm => ⟨h9, rfl, ⟨tys, ws, by rw [ht]; exact fw_H_moved hvm hH, hal⟩, hS.F ht⟩) hS.2.2 (by omega) (by omega)
  · intro σ ik ic x h9 hσ ho hhs _ h4r hex tys ws H locs cells slots pc ls hls d0 d3 d4 d7 hH hS hal hc1 hc2 hr1 hr2
    obtain ⟨q, hq, rfl, rfl, rfl⟩ := hex
    have ht := htab h0
    rw [hhs] at ht
    obtain ⟨g1, g2⟩ := fw_xr_ok q hq
    have g3 := fw_at_ok q hq
    have g4 := fw_at_tbl q hq
    have hx1 : out.2 (-1) 1 = σ (-1) 1 + 1 := by rw [hσ]; rfl
    have hx2 : out.2 (-1) 2 = σ (-1) 2 + 6 := by rw [hσ]; rfl
    rw [ho] at hown
    have hini9 : Cond.initialized (fw_xn q.2.2.1) ∈ fw_ws := fw_xini q.2.2.1 g2
    refine vx_throw0 (own := fw_CN 8) (cls := fw_xn q.2.2.1) (names := fw_nm) (ik := q.1) (ic := q.2.1) (A := fun z => base ≤ z) hx hb htr hown (fw_xfit q.2.2.1 g2).1 (by decide +kernel) (hws _ (fw_wd _ _ g1 rfl)) (hws _ hini9) (fun w hw => ?_) (fw_at_ot q hq) hZ.1 hZ.2.1 hS (by rw [hml]; exact hls) d0 d3 d4 d7 (fun x hx => by rw [ht] at hx; cases hx) ?_ ?_ hr1 hr2 hlocks (fun t hvm hz hk9 => ?_) hS.2.2 (by omega) (by omega)
    · rcases g3 w hw with hg | hg
      · exact hws w (List.mem_filter.mpr ⟨g4 w (List.mem_filter.mpr ⟨hw, hg⟩), hg⟩)
      · exact va_Nw.use (fw_nz_tbl w hg).2 (hZ.2.2.1 w hg)
    · show 2 + 3 < R.frames
      omega
    · show 0 + (13 * (2 + 1) + 42) ≤ R.locals
      omega
    · have hP9 : va_P D fw_Cl ws t.heap := hH.2.1.kept (fun k9 q9 hq9 => hk9 q9.1 ((hH.2.1 k9 q9 hq9).lt))
      refine ⟨by rw [h9], by rw [h9]; rfl, ⟨tys, ws, ?_, hal⟩, Nat.le_trans hS.1 hz, fun z h1 h2 => by rw [hk9 z (Nat.lt_of_lt_of_le h1 hS.1)]; exact hS.2.1 z h1 h2⟩
      rw [hσ]
      obtain ⟨a1, a2, a3, a4, a5, a6, a7⟩ := hH
      refine ⟨a1.moved hvm, hP9, a3, a4, fun k9 q9 hq9 => fw_er_mono (List.prefix_refl _) (List.prefix_refl _) (fun j => ?_) (a5 k9 q9 hq9), a6, a7⟩
      unfold fw_ex
      rw [if_neg (by omega)]
end
section
/-- (entry of an exception's class in the law, its number, and where the tables say so) -/
def fw_hlT : List (Nat × Nat × Nat × Nat) := [(15, 4, 4, 48)]
theorem fw_hl_ok : ∀ q ∈ fw_hlT, (fw_t q.2.2.1)[q.2.2.2]? = some (.classLink (fw_CN 10) q.1 (fw_xn q.2.1)) ∧ q.1 ≠ 0 ∧ q.2.1 < 6 := by decide +kernel
theorem fw_hs_ok : ∀ k ∈ List.range 137, (fw_hs k).all (fun h => fw_hlT.any (fun q => q.1 == h.2.2.2.1 && q.2.1 == h.2.2.2.2)) = true ∧ (fw_hs k).Pairwise (fun a c => (c.2.2.2.2, a.2.2.2.2) ∈ fw_nc) ∧ (fw_hs k = [] ∨ fw_oc k = 10) := by decide +kernel
theorem fw_mL_ok : ∀ k ∈ List.range 137, fw_mL k ≤ 11 ∧ (fw_ki k = 0 ∨ fw_ki k = 2 → (fw_pt k).length + 1 ≤ fw_mL k) ∧ (fw_pt k).length ≤ fw_mL k ∧ (fw_pt k).all (fun t => decide (t ≠ 1) && decide (t ≠ 3)) = true ∧ (k = 0 ∨ fw_ki k < 4) := by decide +kernel
theorem fw_cast_ok : ∀ x ∈ List.range 6, Cond.castable (fw_xn x) (fw_xn x) ∈ fw_nz := by decide +kernel
theorem fw_nest_ok : ∀ q ∈ fw_mrT, q.2.2.2.1 = 1 → Cond.methodLinkNest (fw_CN q.1) q.2.1 (fw_y q.2.2.1) (fw_CN 8) ∈ fw_nz ∧ (fw_ki q.2.2.1 = 1 ∨ fw_ki q.2.2.1 = 2) := by decide +kernel
section FW13
variable {k base b L : Nat} {xs : Nat → Int32} {D : va_G} {p : Program} {l : Launch} {e : Env} {R : Room} {s : State} {m : MethodId} {args : Array Value} {below : List Frame} {meth : Method} {c : Code} {Q : State → Prop} {H : Heap} {locs : List Loc} {cells slots mc ms : Nat} {out o : fw_O} {σ : fw_M}
/-- a body, from its entry -/
theorem fw_body {as : List fw_V} {vs : List Value} {tys : List (ClassId × FieldType)} {ws : va_W} {c1 s1 : Nat} (hJ : fw_J k 0 (fw_en k as) [] σ out) (h0 : k ≠ 0) (hT : fw_St (fw_al ws) b as vs) (ht : ∀ a ∈ as, a.1 ≠ 1 ∧ a.1 ≠ 3) (hn : as.length ≤ fw_mL k)
    (hmc : (mc : Int) = out.2 (-1) 1 - σ (-1) 1) (hms : (ms : Int) = out.2 (-1) 2 - σ (-1) 2) (hc1 : c1 = mc) (hs1 : s1 = ms) (ha : args = vs.toArray) (hC : fw_C k base b L xs p l (fw_rm k c1 s1) s m args meth c) (hH : fw_H base b L xs D σ tys ws s s.heap) :
    W p l e (fw_rm k c1 s1) s m args below meth c s.heap [] 0 0 (vx_MQ below (fw_Q base b L xs D (fw_al ws) out) (fw_XQ base b L xs D (fw_al ws) out) args s mc ms (fun q => base ≤ q)) (entryFrame m args (fw_mL k)) := by
  subst ha
  subst hc1
  subst hs1
  rw [lg_entry_eq]
  exact hJ.2 base b L xs D p l e _ s m _ below meth c _ (fw_al ws) (σ (-1) 1) (σ (-1) 2) hC (fw_fin hC h0 hmc hms) (by show _ ≤ ((c1 : Nat) : Int); omega) (by show _ ≤ ((s1 : Nat) : Int); omega) tys ws s.heap [] 0 0 _ [] hH va_S.rf (List.prefix_refl _) (by omega) (by omega) (fw_L_entry hT ht hn) trivial
theorem fw_met {as : List fw_V} {vs : List Value} {tys : List (ClassId × FieldType)} {ws : va_W} (hk : k < 137) (h0 : k ≠ 0) (hki : fw_ki k ≠ 3) (htr : l.stackTraces = false) (hJ : fw_J k 0 (fw_en k as) [] σ out) (hT : fw_St (fw_al ws) b as vs) (ht : ∀ a ∈ as, a.1 ≠ 1 ∧ a.1 ≠ 3) (hn : as.length ≤ fw_mL k)
    (hmc : (mc : Int) = out.2 (-1) 1 - σ (-1) 1) (hms : (ms : Int) = out.2 (-1) 2 - σ (-1) 2) :
    vx_Met l (fw_y k) (Cond.code (fw_y k) (fw_B k) (fw_mL k) (fw_rt k) :: fw_ws) (fw_rm k mc ms) (va_Pc vs (fw_P base b L xs D σ tys ws)) (fw_Q base b L xs D (fw_al ws) out) (fw_XQ base b L xs D (fw_al ws) out) mc ms (fun q => base ≤ q) := by
  obtain ⟨y1, y2, y3, y4, y5, y6, y7, y8⟩ := fw_y_ok k (List.mem_range.mpr hk)
  refine vx_ofW (cc := fw_B k) (maxL := fw_mL k) (ret := fw_rt k) y6 rfl ?_
  intro p e s m args below meth c s₁ B hml htab hv
  obtain ⟨ha, hH, hZ, hbase, hscr⟩ := hv
  have hts := atoms_spec (ws := Cond.code (fw_y k) (fw_B k) (fw_mL k) (fw_rt k) :: fw_ws) B.pre
  have hown : s.vm.findClass (fw_CN (fw_oc k)) = some m.cls := by rw [← y1]; exact findClass_of_methodNamed B.named
  refine fw_body hJ h0 hT ht hn hmc hms rfl rfl ha ⟨B.exec, B.bytes, hml, hown, fun w hw => hts w (List.mem_cons_of_mem _ hw), B.notSynchronized, fun _ => ?_, fun h2 => ?_, htr, Nat.le_refl _, Nat.le_refl _, hZ, hbase, hscr, B.returns, hk⟩ hH
  · rw [y8.mpr hki]
    exact List.eq_nil_iff_forall_not_mem.mpr htab
  · rw [(name_of_methodNamed B.named B.method).1]
    exact (y7 h2).1
/-- a call's two ends -/
theorem fw_go {al0 : List Nat} {pc : Nat} {ls : Array Slot} {st0 rest : List Value} {a : Array Value} (hr : vx_Run p l e R s m args below meth c H locs cells slots mc ms (F0 m pc ls st0) rest (fw_Q base b L xs D al0 o a) (fw_XQ base b L xs D al0 o) (fun q => base ≤ q)) (hS : va_S (fun q => base ≤ q) s.heap H locs)
    (kx : o.1.1 = 9 → ∀ (q : Addr) (ce : Cell) (tys : List (ClassId × FieldType)) (ws : va_W) (H1 : Heap) (locs1 : List Loc), fw_H base b L xs D o.2 tys ws s H1 → va_S (fun q => base ≤ q) s.heap H1 locs1 → al0 <+: fw_al ws → H1[q]? = some ce → ce.vm = .none → s.vm.findClass (fw_xn o.1.2.toNat) = some ce.cls → vx_W p l e R s m args below meth c H1 locs1 (cells + mc) (slots + ms) Q (F0 m pc ls rest) q)
    (kk : ∀ (v : Option Value) (tys : List (ClassId × FieldType)) (ws : va_W) (H1 : Heap) (locs1 : List Loc), fw_H base b L xs D o.2 tys ws s H1 → va_S (fun q => base ≤ q) s.heap H1 locs1 → al0 <+: fw_al ws → fw_ov (fw_al ws) b o.1 v → W p l e R s m args below meth c H1 locs1 (cells + mc) (slots + ms) Q (F0 m (pc + 3) ls (v.toList ++ rest))) :
    W p l e R s m args below meth c H locs cells slots Q (F0 m pc ls st0) := by
  intro T hT X
  rcases hr T hT X with ⟨v, st₀, t, T', L9, h0, X', hL, e1, e2, ⟨v', hv', ⟨tys, ws, hH, hal, hov⟩, hF⟩, st⟩ | ⟨q, st₀, t, T', L9, E, ce, h0, X', hL, e1, e2, ⟨h9, rfl, ⟨tys, ws, hH, hal⟩, hF⟩, hce, hcv, hcl, st⟩
  · cases hv'
    obtain ⟨k1, k2, k3⟩ := vx_keep h0 e1 hS (fun _ _ h => h) (fun _ h => h) hL hF
    have hvm : s.vm.Alike t.vm := by rw [← e2]; exact X'.warmed.alike
    obtain ⟨t2, a1, b1⟩ := kk v tys ws T'.heap (locs ++ L9) (by rw [e1]; exact fw_H_moved hvm.symm hH) k3 hal hov T' rfl X'
    exact ⟨t2, st t2 a1, b1⟩
  · obtain ⟨k1, k2, k3⟩ := vx_keep h0 e1 hS (fun _ _ h => h) (fun _ h => h) hL hF
    have hvm : s.vm.Alike t.vm := by rw [← e2]; exact X'.warmed.alike
    obtain ⟨t2, a1, b1⟩ := kx h9 q ce tys ws T'.heap (locs ++ L9) (by rw [e1]; exact fw_H_moved hvm.symm hH) k3 hal (by rw [e1]; exact hce) hcv hcl T' rfl X'
    exact ⟨t2, st.trans a1, b1⟩
/-- behind a call: on, caught, or out -/
def fw_AF (k pc : Nat) (ll rest : List fw_V) (o out : fw_O) : Prop := (∃ (pc' : Nat) (ll' st' : List fw_V), fw_af k pc ll rest o = some (.inl (pc', ll', st', o.2)) ∧ fw_J k pc' ll' st' o.2 out) ∨ (fw_af k pc ll rest o = some (.inr out) ∧ out = o)
theorem fw_core {al0 : List Nat} {C0 S0 : Int} {pc : Nat} {ll rest : List fw_V} {ls : Array Slot} {st0 crest : List Value} {a : Array Value} {tys : List (ClassId × FieldType)} {ws : va_W}
    (hAF : fw_AF k pc ll rest o out) (hC : fw_C k base b L xs p l R s m args meth c) (hF : fw_F k base b L xs D p l e R s m args below meth c Q al0 C0 S0 out) (hR1 : out.2 (-1) 1 - C0 ≤ R.cells) (hR2 : out.2 (-1) 2 - S0 ≤ R.slots)
    (hS : va_S (fun q => base ≤ q) s.heap H locs) (hal : al0 <+: fw_al ws) (hc1 : ((cells + mc : Nat) : Int) = o.2 (-1) 1 - C0) (hc2 : ((slots + ms : Nat) : Int) = o.2 (-1) 2 - S0) (hL : fw_L k (fw_al ws) b ls ll) (hT : fw_St (fw_al ws) b rest crest)
    (hr : vx_Run p l e R s m args below meth c H locs cells slots mc ms (F0 m pc ls st0) crest (fw_Q base b L xs D (fw_al ws) o a) (fw_XQ base b L xs D (fw_al ws) o) (fun q => base ≤ q)) :
    W p l e R s m args below meth c H locs cells slots Q (F0 m pc ls st0) := by
  refine fw_go hr hS ?_ ?_
  · intro h9 q ce tys1 ws1 H1 locs1 hH1 hS1 hal1 hq hv hcl
    rcases hAF with ⟨pc', ll', st', h1, hJ⟩ | ⟨h1, rfl⟩
    · unfold fw_af at h1
      rw [if_pos h9] at h1
      split at h1
      · rename_i hd hhd
        cases h1
        unfold fw_hd at hhd
        obtain ⟨x, hx1, hx2⟩ := Option.map_eq_some_iff.mp hhd
        obtain ⟨px, pre, suf, hsp, hpre⟩ := List.find?_eq_some_iff_append.mp hx1
        have hk := hC.2.2.2.2.2.2.2.2.2.2.2.2.2.2.2
        obtain ⟨o1, o2, o3⟩ := fw_hs_ok k (List.mem_range.mpr hk)
        have ho10 : fw_oc k = 10 := by
          rcases o3 with q9 | q9
          · rw [q9] at hsp; simp at hsp
          · exact q9
        have hk0 : k ≠ 0 := by
          intro hk0
          subst hk0
          have : fw_hs 0 = [] := by decide +kernel
          rw [this] at hsp; simp at hsp
        have htab := hC.2.2.2.2.2.2.1 hk0
        have hown := hC.2.2.2.1
        rw [ho10] at hown
        have link : ∀ h ∈ fw_hs k, ∃ q ∈ fw_hlT, q.1 = h.2.2.2.1 ∧ q.2.1 = h.2.2.2.2 := by
          intro h hh
          have := List.all_eq_true.mp o1 h hh
          obtain ⟨q, hq1, hq2⟩ := List.any_eq_true.mp this
          simp only [Bool.and_eq_true, beq_iff_eq] at hq2
          exact ⟨q, hq1, hq2⟩
        have hxm : x ∈ fw_hs k := by rw [hsp]; simp
        obtain ⟨qx, hqx, ex1, ex2⟩ := link x hxm
        obtain ⟨gx1, gx2, gx3⟩ := fw_hl_ok qx hqx
        simp only [Bool.and_eq_true, beq_iff_eq, decide_eq_true_eq] at px
        rw [ex1, ex2] at gx1
        rw [ex1] at gx2
        rw [ex2] at gx3
        have hexc : x.2.2.2.2 = o.1.2.toNat := px.1
        have hpw := o2
        rw [hsp] at hpw
        rw [List.pairwise_append] at hpw
        refine vx_catch (own := fw_CN 10) (name := fw_xn x.2.2.2.2) (E := fw_xn o.1.2.toNat) hown (pre.map (fun h => ⟨h.1, h.2.1, h.2.2.1, h.2.2.2.1⟩)) ⟨x.1, x.2.1, x.2.2.1, x.2.2.2.1⟩ (suf.map (fun h => ⟨h.1, h.2.1, h.2.2.1, h.2.2.2.1⟩)) ?_ ?_ ?_ gx2 (hC.2.2.2.2.1 _ (fw_wd _ _ gx1 rfl)) ?_ hq hv hcl ?_
        · rw [htab, hsp]
          unfold tableOf
          rw [List.map_append, List.map_append, List.map_cons, List.map_cons, List.map_map, List.map_map]
          rfl
        · intro z hz
          obtain ⟨h, hh, rfl⟩ := List.mem_map.mp hz
          have hm : h ∈ fw_hs k := by rw [hsp]; simp [hh]
          have hnp := hpre h hh
          by_cases hcov : decide (h.1 ≤ pc) && decide (pc < h.2.1)
          · have hne : h.2.2.2.2 ≠ o.1.2.toNat := by
              intro heq
              rw [heq] at hnp
              rw [hcov] at hnp
              simp at hnp
            obtain ⟨qh, hqh, eh1, eh2⟩ := link h hm
            obtain ⟨gh1, gh2, gh3⟩ := fw_hl_ok qh hqh
            rw [eh1, eh2] at gh1
            rw [eh1] at gh2
            refine Or.inr ⟨gh2, fw_xn h.2.2.2.2, hC.2.2.2.2.1 _ (fw_wd _ _ gh1 rfl), ?_⟩
            have hnc := hpw.2.2 h hh x List.mem_cons_self
            rw [← hexc]
            exact hC.2.2.2.2.2.2.2.2.2.2.2.1.2.2.2.1 _ hnc
          · refine Or.inl ?_
            simpa [covers] using hcov
        · simpa [covers] using px.2
        · rw [hexc]
          rw [hexc] at gx3
          exact va_Nw.use rfl (hC.2.2.2.2.2.2.2.2.2.2.2.1.2.2.1 _ (fw_cast_ok _ (List.mem_range.mpr gx3)))
        · have hx2 : x.2.2.1 = pc' := hx2
          show W p l e R s m args below meth c H1 locs1 (cells + mc) (slots + ms) Q (F0 m x.2.2.1 ls [.ref q])
          rw [hx2]
          exact hJ.2 base b L xs D p l e R s m args below meth c Q al0 C0 S0 hC hF hR1 hR2 tys1 ws1 H1 locs1 (cells + mc) (slots + ms) ls _ hH1 hS1 (hal.trans hal1) hc1 hc2 (fw_L_mono hal1 hL) ⟨⟨q, rfl⟩, trivial⟩
      · split at h1
        · cases h1
        · cases h1
    · unfold fw_af at h1
      rw [if_pos h9] at h1
      split at h1
      · cases h1
      · split at h1
        · rename_i hk9
          exact hF.2.1 h9 hk9.1 hk9.2 tys1 ws1 H1 locs1 (cells + mc) (slots + ms) pc ls crest q ce hH1 hS1 (hal.trans hal1) hc1 hc2 hq hv hcl
        · cases h1
  · intro v tys1 ws1 H1 locs1 hH1 hS1 hal1 hov
    have h9 : o.1.1 ≠ 9 := by
      rcases hov with ⟨h, -⟩ | ⟨-, h, -⟩
      · rw [h]; exact (by decide : (5 : Nat) ≠ 9)
      · exact h
    rcases hAF with ⟨pc', ll', st', h1, hJ⟩ | ⟨h1, rfl⟩
    · unfold fw_af at h1
      rw [if_neg h9] at h1
      split at h1
      · rename_i h5
        cases h1
        rcases hov with ⟨-, rfl⟩ | ⟨h, -, -⟩
        · exact hJ.2 base b L xs D p l e R s m args below meth c Q al0 C0 S0 hC hF hR1 hR2 tys1 ws1 H1 locs1 (cells + mc) (slots + ms) ls crest hH1 hS1 (hal.trans hal1) hc1 hc2 (fw_L_mono hal1 hL) (fw_St_mono hal1 hT)
        · exact absurd h5 h
      · rename_i h5
        cases h1
        rcases hov with ⟨h, -⟩ | ⟨-, -, z, rfl, hz⟩
        · exact absurd (by rw [h]) h5
        · exact hJ.2 base b L xs D p l e R s m args below meth c Q al0 C0 S0 hC hF hR1 hR2 tys1 ws1 H1 locs1 (cells + mc) (slots + ms) ls (z :: crest) hH1 hS1 (hal.trans hal1) hc1 hc2 (fw_L_mono hal1 hL) ⟨hz, fw_St_mono hal1 hT⟩
    · unfold fw_af at h1
      rw [if_neg h9] at h1
      split at h1 <;> cases h1
theorem fw_AF_mono {pc : Nat} {ll rest : List fw_V} (h : fw_AF k pc ll rest o out) : o.2 (-1) 1 ≤ out.2 (-1) 1 ∧ o.2 (-1) 2 ≤ out.2 (-1) 2 := by
  rcases h with ⟨pc', ll', st', h1, hJ⟩ | ⟨-, rfl⟩
  · exact hJ.1
  · exact ⟨Int.le_refl _, Int.le_refl _⟩
end FW13
end
section
section FW14
variable {k base b L : Nat} {xs : Nat → Int32} {D : va_G} {p : Program} {l : Launch} {e : Env} {R : Room} {s : State} {m : MethodId} {args : Array Value} {below : List Frame} {meth : Method} {c : Code} {Q : State → Prop} {H : Heap} {locs : List Loc} {cells slots mc ms : Nat} {out o : fw_O} {σ : fw_M}
set_option maxHeartbeats 200000 in
theorem fw_metH {hh : List (Nat × Nat × Nat × Nat)} {as : List fw_V} {vs : List Value} {tys : List (ClassId × FieldType)} {ws : va_W} (hk : k < 137) (h0 : k ≠ 0) (hki : fw_ki k = 3) (htr : l.stackTraces = false) (hhe : hh = (fw_hs k).map (fun h => (h.1, h.2.1, h.2.2.1, h.2.2.2.1))) (hJ : fw_J k 0 (fw_en k as) [] σ out) (hT : fw_St (fw_al ws) b as vs) (ht : ∀ a ∈ as, a.1 ≠ 1 ∧ a.1 ≠ 3) (hn : as.length ≤ fw_mL k)
    (hmc : (mc : Int) = out.2 (-1) 1 - σ (-1) 1) (hms : (ms : Int) = out.2 (-1) 2 - σ (-1) 2) :
    vx_Met l (fw_y k) (Cond.codeWith (fw_y k) (fw_B k) (fw_mL k) (fw_rt k) hh :: fw_ws) (fw_rm k mc ms) (va_Pc vs (fw_P base b L xs D σ tys ws)) (fw_Q base b L xs D (fw_al ws) out) (fw_XQ base b L xs D (fw_al ws) out) mc ms (fun q => base ≤ q) := by
  obtain ⟨y1, y2, y3, y4, y5, y6, y7, y8⟩ := fw_y_ok k (List.mem_range.mpr hk)
  refine vx_ofWH (cc := fw_B k) (maxL := fw_mL k) (ret := fw_rt k) (hh := hh) y6 rfl ?_
  intro p e s m args below meth c s₁ B hml hv
  obtain ⟨ha, hH, hZ, hbase, hscr⟩ := hv
  have hts := atoms_spec (ws := Cond.codeWith (fw_y k) (fw_B k) (fw_mL k) (fw_rt k) hh :: fw_ws) B.pre
  have hown : s.vm.findClass (fw_CN (fw_oc k)) = some m.cls := by rw [← y1]; exact findClass_of_methodNamed B.named
  have htab : c.exceptionTable.toList = tableOf hh := vx_table (x := fw_y k) B (hts _ List.mem_cons_self)
  have hki2 : fw_ki k ≠ 2 := by rw [hki]; decide
  refine fw_body hJ h0 hT ht hn hmc hms rfl rfl ha ⟨B.exec, B.bytes, hml, hown, fun w hw => hts w (List.mem_cons_of_mem _ hw), B.notSynchronized, fun _ => ?_, fun h2 => absurd h2 hki2, htr, Nat.le_refl _, Nat.le_refl _, hZ, hbase, hscr, B.returns, hk⟩ hH
  rw [htab, hhe]
end FW14
end
section
theorem fw_oc_ok : ∀ k ∈ List.range 137, (fw_ki k = 0 ∨ fw_ki k = 2 → fw_oc k < 10) ∧ fw_oc k < 11 := by decide +kernel
theorem fw_blind {base b L : Nat} {xs : Nat → Int32} {D : va_G} {σ : fw_M} {tys : List (ClassId × FieldType)} {ws : va_W} {vs : List Value} : FrameBlind (va_Pc vs (fw_P base b L xs D σ tys ws)) := by
  intro a U g mk q
  obtain ⟨q1, q2, q3, q4, q5, q6, q7⟩ := q
  exact ⟨q1, fw_H_moved (s := U) (t := U.calling g mk a) (Vm.Alike.refl U.vm) q2, fw_Z_go (s := U) (U := U.calling g mk a) (State.WarmedH.refl U) va_S.rf q3, q4, va_X.moved (u := U) (U := U.calling g mk a) (Vm.Alike.refl U.vm) q5, q6, q7⟩
theorem fw_pre {base b L : Nat} {xs : Nat → Int32} {D : va_G} {σ : fw_M} {tys : List (ClassId × FieldType)} {ws : va_W} {vs : List Value} {s : State} {H : Heap} {locs : List Loc} (hH : fw_H base b L xs D σ tys ws s H) (hS : va_S (fun q => base ≤ q) s.heap H locs) (hZ : fw_Z base s s.heap) (hb : base ≤ s.heap.size) (hX : va_X b L xs s s.heap ∧ b < s.heap.size ∧ b < base) :
    ∀ U : State, U.heap = H → s.WarmedH U.vm → va_Pc vs (fw_P base b L xs D σ tys ws) vs.toArray U := by
  intro U hU hW
  exact ⟨rfl, by rw [hU]; exact fw_H_moved hW.alike hH, by rw [hU]; exact fw_Z_go hW hS hZ, by rw [hU]; exact Nat.le_trans hb hS.1, by rw [hU]; exact va_X.moved hW.alike (hX.1.kept (hS.2.1 b hX.2.1 (Nat.not_le.mpr hX.2.2))), by rw [hU]; exact Nat.lt_of_lt_of_le hX.2.1 hS.1, hX.2.2⟩
theorem fw_tags {as : List fw_V} {cal : Nat} (hk : cal < 137) (h : as.map Prod.fst = fw_pt cal) : ∀ a ∈ as, a.1 ≠ 1 ∧ a.1 ≠ 3 := by
  intro a ha
  have h1 := (fw_mL_ok cal (List.mem_range.mpr hk)).2.2.2.1
  have h2 := List.all_eq_true.mp h1 a.1 (by rw [← h]; exact List.mem_map_of_mem ha)
  simp only [Bool.and_eq_true, decide_eq_true_eq] at h2
  exact h2
theorem fw_good1 {w : Cond} (h : w ∈ fw_ws) : GoodIn fw_ws (w :: fw_ws) := fw_goodIn fun x hx => (List.mem_cons.mp hx).elim (fun e => e ▸ h) id
theorem fw_cwc {k : Nat} (hk : k < 137) (h0 : k ≠ 0) (h3 : fw_ki k ≠ 3) : Cond.code (fw_y k) (fw_B k) (fw_mL k) (fw_rt k) ∈ fw_ws := by
  have := fw_cwi k hk (by omega)
  unfold fw_cw at this
  rw [if_neg h3] at this
  exact this
theorem fw_cwh {k : Nat} (hk : k < 137) (h0 : k ≠ 0) (h3 : fw_ki k = 3) : Cond.codeWith (fw_y k) (fw_B k) (fw_mL k) (fw_rt k) ((fw_hs k).map (fun h => (h.1, h.2.1, h.2.2.1, h.2.2.2.1))) ∈ fw_ws := by
  have := fw_cwi k hk (by omega)
  unfold fw_cw at this
  rw [if_pos h3] at this
  exact this
theorem fw_j_callV {k pc n cal : Nat} {ll rest as : List fw_V} {r : Int} {σ : fw_M} {o out : fw_O} (hd : fw_dec k pc = some (.invokevirtual n, 3)) (hm : fw_mr (fw_oc k) n = some (cal, 0)) (hki : fw_ki cal = 0) (hrk : fw_rk cal < fw_rk k) (hlt : cal < 137) (h0 : cal ≠ 0) (htag : as.map Prod.fst = fw_pt cal) (hrcv : fw_kd r = (fw_oc cal : Int) + 3) (h4 : rest.length ≤ 4) (hcal : fw_J cal 0 (fw_en cal ((2, r) :: as)) [] σ o) (hAF : fw_AF k pc ll rest o out) : fw_J k pc ll (as.reverse ++ (2, r) :: rest) σ out := by
  obtain ⟨m1, m2⟩ := fw_AF_mono hAF
  have c1 := hcal.1.1
  have c2 := hcal.1.2
  refine ⟨⟨by omega, by omega⟩, ?_⟩
  intro base b L xs D p l e R s m args below meth c Q al0 C0 S0 hC hF hR1 hR2 tys ws H locs cells slots ls cst hH hS hal hc1 hc2 hL hT
  obtain ⟨y1, y2, y3, y4, y5, y6, y7, y8⟩ := fw_y_ok cal (List.mem_range.mpr hlt)
  obtain ⟨z1, z2, z3, z4, z5⟩ := fw_mL_ok cal (List.mem_range.mpr hlt)
  obtain ⟨q, hq, q1, q2, q3, q4⟩ := fw_mr_find hm
  have htr := hC.2.2.2.2.2.2.2.2.1
  have hfr := hC.2.2.2.2.2.2.2.2.2.1
  have hlo := hC.2.2.2.2.2.2.2.2.2.2.1
  have hlen : as.length = (fw_pt cal).length := by rw [← htag, List.length_map]
  obtain ⟨mc, hmc⟩ : ∃ mc : Nat, (mc : Int) = o.2 (-1) 1 - σ (-1) 1 := ⟨(o.2 (-1) 1 - σ (-1) 1).toNat, by omega⟩
  obtain ⟨ms, hms⟩ : ∃ ms : Nat, (ms : Int) = o.2 (-1) 2 - σ (-1) 2 := ⟨(o.2 (-1) 2 - σ (-1) 2).toNat, by omega⟩
  have hl := fw_mr_ok q hq (by rw [q3]; exact hlt) q4
  rw [q1, q2, q3] at hl
  obtain ⟨cas, crest0, rfl, hT1, hT2⟩ := fw_St_app hT
  obtain ⟨v, crest, rfl, hv, hT3⟩ := fw_St_cons hT2
  have has := fw_St_rev hT1
  rw [List.reverse_reverse] at has
  have hsm := fw_sum4 hT3 h4
  have hoc := (fw_oc_ok cal (List.mem_range.mpr hlt)).1 (by omega)
  obtain ⟨p0, a0, ent, hp, ea, rfl, he⟩ := fw_H_at hH hv (by omega)
  obtain ⟨fs, rfl, hfl, hfs⟩ := fw_obj he hrcv hoc
  have hM := fw_met (l := l) (as := (2, r) :: as) (vs := .ref a0 :: cas.reverse) (base := base) (b := b) (L := L) (xs := xs) (D := D) (tys := tys) (ws := ws) hlt h0 (by omega) htr hcal ⟨hv, has⟩ (fun a ha => (List.mem_cons.mp ha).elim (fun e => by rw [e]; exact ⟨show (2 : Nat) ≠ 1 by decide, show (2 : Nat) ≠ 3 by decide⟩) (fw_tags hlt htag a)) (by rw [List.length_cons]; omega) hmc hms
  have hsz : ls.size = fw_mL k := by obtain ⟨l9, g1, -⟩ := hL; exact g1.1
  have hcl : cas.length = as.length := by have := fw_St_len hT1; rw [List.length_reverse] at this; exact this
  refine fw_core (tys := tys) (a := (Value.ref a0 :: cas.reverse).toArray) (mc := mc) (ms := ms) hAF hC hF hR1 hR2 hS hal (by omega) (by omega) hL hT3 ?_
  refine vx_runV (As := cas.reverse) (rest := crest) (b := a0) ⟨hC.1, hC.2.1, hC.2.2.1, hC.2.2.2.1, hC.2.2.2.2.1⟩ hM (cwV (C := fw_CN (fw_oc cal)) (fw_pt cal).length hC.2.2.2.2.1 (fw_goodIn fun w hw => ?_) rfl rfl rfl ⟨y1, y3, y4, y5⟩ ⟨by show fw_rk cal + 2 + 1 ≤ R.frames; omega, by show 8 + (fw_mL cal + 11) + (30 * fw_rk cal + 100) ≤ R.locals; omega⟩) ⟨fw_blind, va_recv hH.1 hH.2.1 (fw_cl _ hoc) hp, fw_pre hH hS hC.2.2.2.2.2.2.2.2.2.2.2.1 hC.2.2.2.2.2.2.2.2.2.2.2.2.1 hC.2.2.2.2.2.2.2.2.2.2.2.2.2.1⟩ rfl (by rw [List.length_reverse]; omega) hsz (by rw [List.reverse_reverse]) (lv_room hsm) (fw_de' hd) ⟨by omega, by omega⟩
  unfold wsV at hw
  rcases List.mem_append.mp hw with hw | hw
  · simp only [List.mem_cons, List.not_mem_nil, or_false] at hw
    rcases hw with rfl | rfl | rfl | rfl
    · exact fw_wd _ _ hl rfl
    · exact fw_in hlt (by omega) (Or.inl hki)
    · exact fw_sel hlt (by omega) hki
    · exact fw_ini _ (by omega)
  · exact (fw_good1 (fw_cwc hlt h0 (by omega)) w hw).1
theorem fw_j_callI {k pc n cal : Nat} {ll rest as : List fw_V} {r : Int} {σ : fw_M} {o out : fw_O} (hd : fw_dec k pc = some (.invokespecial n, 3)) (hm : fw_mr (fw_oc k) n = some (cal, 0)) (hki : fw_ki cal = 2) (hrk : fw_rk cal < fw_rk k) (hlt : cal < 137) (h0 : cal ≠ 0) (htag : as.map Prod.fst = fw_pt cal) (hrcv : fw_kd r = (fw_oc cal : Int) + 3) (h4 : rest.length ≤ 4) (hcal : fw_J cal 0 (fw_en cal ((2, r) :: as)) [] σ o) (hAF : fw_AF k pc ll rest o out) : fw_J k pc ll (as.reverse ++ (2, r) :: rest) σ out := by
  obtain ⟨m1, m2⟩ := fw_AF_mono hAF
  have c1 := hcal.1.1
  have c2 := hcal.1.2
  refine ⟨⟨by omega, by omega⟩, ?_⟩
  intro base b L xs D p l e R s m args below meth c Q al0 C0 S0 hC hF hR1 hR2 tys ws H locs cells slots ls cst hH hS hal hc1 hc2 hL hT
  obtain ⟨y1, y2, y3, y4, y5, y6, y7, y8⟩ := fw_y_ok cal (List.mem_range.mpr hlt)
  obtain ⟨z1, z2, z3, z4, z5⟩ := fw_mL_ok cal (List.mem_range.mpr hlt)
  obtain ⟨q, hq, q1, q2, q3, q4⟩ := fw_mr_find hm
  have htr := hC.2.2.2.2.2.2.2.2.1
  have hfr := hC.2.2.2.2.2.2.2.2.2.1
  have hlo := hC.2.2.2.2.2.2.2.2.2.2.1
  have hlen : as.length = (fw_pt cal).length := by rw [← htag, List.length_map]
  obtain ⟨mc, hmc⟩ : ∃ mc : Nat, (mc : Int) = o.2 (-1) 1 - σ (-1) 1 := ⟨(o.2 (-1) 1 - σ (-1) 1).toNat, by omega⟩
  obtain ⟨ms, hms⟩ : ∃ ms : Nat, (ms : Int) = o.2 (-1) 2 - σ (-1) 2 := ⟨(o.2 (-1) 2 - σ (-1) 2).toNat, by omega⟩
  have hl := fw_mr_ok q hq (by rw [q3]; exact hlt) q4
  rw [q1, q2, q3] at hl
  obtain ⟨cas, crest0, rfl, hT1, hT2⟩ := fw_St_app hT
  obtain ⟨v, crest, rfl, hv, hT3⟩ := fw_St_cons hT2
  have has := fw_St_rev hT1
  rw [List.reverse_reverse] at has
  have hsm := fw_sum4 hT3 h4
  have hoc := (fw_oc_ok cal (List.mem_range.mpr hlt)).1 (by omega)
  obtain ⟨p0, a0, ent, hp, ea, rfl, he⟩ := fw_H_at hH hv (by omega)
  obtain ⟨fs, rfl, hfl, hfs⟩ := fw_obj he hrcv hoc
  have hM := fw_met (l := l) (as := (2, r) :: as) (vs := .ref a0 :: cas.reverse) (base := base) (b := b) (L := L) (xs := xs) (D := D) (tys := tys) (ws := ws) hlt h0 (by omega) htr hcal ⟨hv, has⟩ (fun a ha => (List.mem_cons.mp ha).elim (fun e => by rw [e]; exact ⟨show (2 : Nat) ≠ 1 by decide, show (2 : Nat) ≠ 3 by decide⟩) (fw_tags hlt htag a)) (by rw [List.length_cons]; omega) hmc hms
  have hsz : ls.size = fw_mL k := by obtain ⟨l9, g1, -⟩ := hL; exact g1.1
  have hcl : cas.length = as.length := by have := fw_St_len hT1; rw [List.length_reverse] at this; exact this
  refine fw_core (tys := tys) (a := (Value.ref a0 :: cas.reverse).toArray) (mc := mc) (ms := ms) hAF hC hF hR1 hR2 hS hal (by omega) (by omega) hL hT3 ?_
  obtain ⟨yi1, yi2⟩ := y7 hki
  rw [yi2] at hM
  exact vx_runI (As := cas.reverse) (rest := crest) (b := a0) ⟨hC.1, hC.2.1, hC.2.2.1, hC.2.2.2.1, hC.2.2.2.2.1⟩ hM (cwI (fw_pt cal).length hC.2.2.2.2.1 (fw_good1 (by rw [← yi2]; exact fw_cwc hlt h0 (by omega))) rfl rfl rfl (by rw [y1]; exact hC.2.2.2.2.1 _ (fw_ini _ (by omega))) (hC.2.2.2.2.1 _ (fw_wd _ _ hl rfl)) (hC.2.2.2.2.1 _ (fw_in hlt (by omega) (Or.inr hki))) yi1 ⟨y3, y4, y5⟩ ⟨by show fw_rk cal + 2 + 1 ≤ R.frames; omega, by show 8 + (fw_mL cal + 11) + (30 * fw_rk cal + 100) ≤ R.locals; omega⟩) ⟨fw_blind, fw_pre hH hS hC.2.2.2.2.2.2.2.2.2.2.2.1 hC.2.2.2.2.2.2.2.2.2.2.2.2.1 hC.2.2.2.2.2.2.2.2.2.2.2.2.2.1⟩ rfl (by rw [List.length_reverse]; omega) hsz (by rw [List.reverse_reverse]) (lv_room hsm) (fw_de' hd) ⟨by omega, by omega⟩
theorem fw_j_callIN {k pc n cal : Nat} {ll rest as : List fw_V} {r : Int} {σ : fw_M} {o out : fw_O} (hd : fw_dec k pc = some (.invokespecial n, 3)) (hm : fw_mr (fw_oc k) n = some (cal, 1)) (hki : fw_ki cal = 2) (hrk : fw_rk cal < fw_rk k) (hlt : cal < 137) (h0 : cal ≠ 0) (htag : as.map Prod.fst = fw_pt cal) (hrcv : fw_kd r = (fw_oc cal : Int) + 3) (h4 : rest.length ≤ 4) (hcal : fw_J cal 0 (fw_en cal ((2, r) :: as)) [] σ o) (hAF : fw_AF k pc ll rest o out) : fw_J k pc ll (as.reverse ++ (2, r) :: rest) σ out := by
  obtain ⟨m1, m2⟩ := fw_AF_mono hAF
  have c1 := hcal.1.1
  have c2 := hcal.1.2
  refine ⟨⟨by omega, by omega⟩, ?_⟩
  intro base b L xs D p l e R s m args below meth c Q al0 C0 S0 hC hF hR1 hR2 tys ws H locs cells slots ls cst hH hS hal hc1 hc2 hL hT
  obtain ⟨y1, y2, y3, y4, y5, y6, y7, y8⟩ := fw_y_ok cal (List.mem_range.mpr hlt)
  obtain ⟨z1, z2, z3, z4, z5⟩ := fw_mL_ok cal (List.mem_range.mpr hlt)
  obtain ⟨q, hq, q1, q2, q3, q4⟩ := fw_mr_find hm
  have htr := hC.2.2.2.2.2.2.2.2.1
  have hfr := hC.2.2.2.2.2.2.2.2.2.1
  have hlo := hC.2.2.2.2.2.2.2.2.2.2.1
  have hlen : as.length = (fw_pt cal).length := by rw [← htag, List.length_map]
  obtain ⟨mc, hmc⟩ : ∃ mc : Nat, (mc : Int) = o.2 (-1) 1 - σ (-1) 1 := ⟨(o.2 (-1) 1 - σ (-1) 1).toNat, by omega⟩
  obtain ⟨ms, hms⟩ : ∃ ms : Nat, (ms : Int) = o.2 (-1) 2 - σ (-1) 2 := ⟨(o.2 (-1) 2 - σ (-1) 2).toNat, by omega⟩
  have hl := (fw_nest_ok q hq q4).1
  rw [q1, q2, q3] at hl
  obtain ⟨cas, crest0, rfl, hT1, hT2⟩ := fw_St_app hT
  obtain ⟨v, crest, rfl, hv, hT3⟩ := fw_St_cons hT2
  have has := fw_St_rev hT1
  rw [List.reverse_reverse] at has
  have hsm := fw_sum4 hT3 h4
  have hoc := (fw_oc_ok cal (List.mem_range.mpr hlt)).1 (by omega)
  obtain ⟨p0, a0, ent, hp, ea, rfl, he⟩ := fw_H_at hH hv (by omega)
  obtain ⟨fs, rfl, hfl, hfs⟩ := fw_obj he hrcv hoc
  have hM := fw_met (l := l) (as := (2, r) :: as) (vs := .ref a0 :: cas.reverse) (base := base) (b := b) (L := L) (xs := xs) (D := D) (tys := tys) (ws := ws) hlt h0 (by omega) htr hcal ⟨hv, has⟩ (fun a ha => (List.mem_cons.mp ha).elim (fun e => by rw [e]; exact ⟨show (2 : Nat) ≠ 1 by decide, show (2 : Nat) ≠ 3 by decide⟩) (fw_tags hlt htag a)) (by rw [List.length_cons]; omega) hmc hms
  have hsz : ls.size = fw_mL k := by obtain ⟨l9, g1, -⟩ := hL; exact g1.1
  have hcl : cas.length = as.length := by have := fw_St_len hT1; rw [List.length_reverse] at this; exact this
  refine fw_core (tys := tys) (a := (Value.ref a0 :: cas.reverse).toArray) (mc := mc) (ms := ms) hAF hC hF hR1 hR2 hS hal (by omega) (by omega) hL hT3 ?_
  obtain ⟨yi1, yi2⟩ := y7 hki
  rw [yi2] at hM
  exact vx_runIN (As := cas.reverse) (rest := crest) (b := a0) ⟨hC.1, hC.2.1, hC.2.2.1, hC.2.2.2.1, hC.2.2.2.2.1⟩ hM ⟨va_cnB (fw_pt cal).length hC.2.2.2.2.1 (fw_good1 (by rw [← yi2]; exact fw_cwc hlt h0 (by omega))) rfl rfl rfl (hC.2.2.2.2.2.2.2.2.2.2.2.1.2.2.1 _ hl) (by rw [y1]; exact hC.2.2.2.2.1 _ (fw_ini _ (by omega))) ⟨y3, y4, y5⟩ ⟨by show fw_rk cal + 2 + 1 ≤ R.frames; omega, by show 8 + (fw_mL cal + 11) + (30 * fw_rk cal + 100) ≤ R.locals; omega⟩, yi1, hC.2.2.2.2.1 _ (fw_in hlt (by omega) (Or.inr hki))⟩ ⟨fw_blind, fw_pre hH hS hC.2.2.2.2.2.2.2.2.2.2.2.1 hC.2.2.2.2.2.2.2.2.2.2.2.2.1 hC.2.2.2.2.2.2.2.2.2.2.2.2.2.1⟩ rfl (by rw [List.length_reverse]; omega) hsz (by rw [List.reverse_reverse]) (lv_room hsm) (fw_de' hd) ⟨by omega, by omega⟩
theorem fw_j_callS {k pc n cal : Nat} {ll rest as : List fw_V} {σ : fw_M} {o out : fw_O} (hd : fw_dec k pc = some (.invokestatic n, 3)) (hm : fw_mr (fw_oc k) n = some (cal, 0)) (hki : fw_ki cal = 1) (hrk : fw_rk cal < fw_rk k) (hlt : cal < 137) (h0 : cal ≠ 0) (htag : as.map Prod.fst = fw_pt cal) (h4 : rest.length ≤ 4) (hcal : fw_J cal 0 (fw_en cal (as)) [] σ o) (hAF : fw_AF k pc ll rest o out) : fw_J k pc ll (as.reverse ++ rest) σ out := by
  obtain ⟨m1, m2⟩ := fw_AF_mono hAF
  have c1 := hcal.1.1
  have c2 := hcal.1.2
  refine ⟨⟨by omega, by omega⟩, ?_⟩
  intro base b L xs D p l e R s m args below meth c Q al0 C0 S0 hC hF hR1 hR2 tys ws H locs cells slots ls cst hH hS hal hc1 hc2 hL hT
  obtain ⟨y1, y2, y3, y4, y5, y6, y7, y8⟩ := fw_y_ok cal (List.mem_range.mpr hlt)
  obtain ⟨z1, z2, z3, z4, z5⟩ := fw_mL_ok cal (List.mem_range.mpr hlt)
  obtain ⟨q, hq, q1, q2, q3, q4⟩ := fw_mr_find hm
  have htr := hC.2.2.2.2.2.2.2.2.1
  have hfr := hC.2.2.2.2.2.2.2.2.2.1
  have hlo := hC.2.2.2.2.2.2.2.2.2.2.1
  have hlen : as.length = (fw_pt cal).length := by rw [← htag, List.length_map]
  obtain ⟨mc, hmc⟩ : ∃ mc : Nat, (mc : Int) = o.2 (-1) 1 - σ (-1) 1 := ⟨(o.2 (-1) 1 - σ (-1) 1).toNat, by omega⟩
  obtain ⟨ms, hms⟩ : ∃ ms : Nat, (ms : Int) = o.2 (-1) 2 - σ (-1) 2 := ⟨(o.2 (-1) 2 - σ (-1) 2).toNat, by omega⟩
  have hl := fw_mr_ok q hq (by rw [q3]; exact hlt) q4
  rw [q1, q2, q3] at hl
  obtain ⟨cas, crest, rfl, hT1, hT3⟩ := fw_St_app hT
  have has := fw_St_rev hT1
  rw [List.reverse_reverse] at has
  have hsm := fw_sum4 hT3 h4
  have hsz : ls.size = fw_mL k := by obtain ⟨l9, g1, -⟩ := hL; exact g1.1
  have hcl : cas.length = as.length := by have := fw_St_len hT1; rw [List.length_reverse] at this; exact this
  have hM := fw_met (l := l) (as := as) (vs := cas.reverse) (base := base) (b := b) (L := L) (xs := xs) (D := D) (tys := tys) (ws := ws) hlt h0 (by omega) htr hcal has (fw_tags hlt htag) (by omega) hmc hms
  refine fw_core (tys := tys) (a := cas.reverse.toArray) (mc := mc) (ms := ms) hAF hC hF hR1 hR2 hS hal (by omega) (by omega) hL hT3 ?_
  refine vx_runS (As := cas.reverse) (rest := crest) ⟨hC.1, hC.2.1, hC.2.2.1, hC.2.2.2.1, hC.2.2.2.2.1⟩ hM (va_cwS (fw_pt cal).length hC.2.2.2.2.1 (fw_goodIn fun w hw => ?_) rfl rfl rfl ⟨y3, y4, y5⟩ ⟨by show fw_rk cal + 2 + 1 ≤ R.frames; omega, by show 8 + (fw_mL cal + 11) + (30 * fw_rk cal + 100) ≤ R.locals; omega⟩) ⟨fw_blind, fw_pre hH hS hC.2.2.2.2.2.2.2.2.2.2.2.1 hC.2.2.2.2.2.2.2.2.2.2.2.2.1 hC.2.2.2.2.2.2.2.2.2.2.2.2.2.1⟩ rfl (by rw [List.length_reverse]; omega) hsz (by rw [List.reverse_reverse]) (lv_room hsm) (fw_de' hd) ⟨by omega, by omega⟩
  unfold va_wsS at hw
  rcases List.mem_append.mp hw with hw | hw
  · simp only [List.mem_cons, List.not_mem_nil, or_false] at hw
    rcases hw with rfl | rfl | rfl
    · exact fw_wd _ _ hl rfl
    · exact fw_stt hlt (by omega) (Or.inl hki)
    · rw [y1]; exact fw_ini _ y2
  · exact (fw_good1 (fw_cwc hlt h0 (by omega)) w hw).1
theorem fw_j_callSN {k pc n cal : Nat} {ll rest as : List fw_V} {σ : fw_M} {o out : fw_O} (hd : fw_dec k pc = some (.invokestatic n, 3)) (hm : fw_mr (fw_oc k) n = some (cal, 1)) (hki : fw_ki cal = 1) (hrk : fw_rk cal < fw_rk k) (hlt : cal < 137) (h0 : cal ≠ 0) (htag : as.map Prod.fst = fw_pt cal) (h4 : rest.length ≤ 4) (hcal : fw_J cal 0 (fw_en cal (as)) [] σ o) (hAF : fw_AF k pc ll rest o out) : fw_J k pc ll (as.reverse ++ rest) σ out := by
  obtain ⟨m1, m2⟩ := fw_AF_mono hAF
  have c1 := hcal.1.1
  have c2 := hcal.1.2
  refine ⟨⟨by omega, by omega⟩, ?_⟩
  intro base b L xs D p l e R s m args below meth c Q al0 C0 S0 hC hF hR1 hR2 tys ws H locs cells slots ls cst hH hS hal hc1 hc2 hL hT
  obtain ⟨y1, y2, y3, y4, y5, y6, y7, y8⟩ := fw_y_ok cal (List.mem_range.mpr hlt)
  obtain ⟨z1, z2, z3, z4, z5⟩ := fw_mL_ok cal (List.mem_range.mpr hlt)
  obtain ⟨q, hq, q1, q2, q3, q4⟩ := fw_mr_find hm
  have htr := hC.2.2.2.2.2.2.2.2.1
  have hfr := hC.2.2.2.2.2.2.2.2.2.1
  have hlo := hC.2.2.2.2.2.2.2.2.2.2.1
  have hlen : as.length = (fw_pt cal).length := by rw [← htag, List.length_map]
  obtain ⟨mc, hmc⟩ : ∃ mc : Nat, (mc : Int) = o.2 (-1) 1 - σ (-1) 1 := ⟨(o.2 (-1) 1 - σ (-1) 1).toNat, by omega⟩
  obtain ⟨ms, hms⟩ : ∃ ms : Nat, (ms : Int) = o.2 (-1) 2 - σ (-1) 2 := ⟨(o.2 (-1) 2 - σ (-1) 2).toNat, by omega⟩
  have hl := (fw_nest_ok q hq q4).1
  rw [q1, q2, q3] at hl
  obtain ⟨cas, crest, rfl, hT1, hT3⟩ := fw_St_app hT
  have has := fw_St_rev hT1
  rw [List.reverse_reverse] at has
  have hsm := fw_sum4 hT3 h4
  have hsz : ls.size = fw_mL k := by obtain ⟨l9, g1, -⟩ := hL; exact g1.1
  have hcl : cas.length = as.length := by have := fw_St_len hT1; rw [List.length_reverse] at this; exact this
  have hM := fw_met (l := l) (as := as) (vs := cas.reverse) (base := base) (b := b) (L := L) (xs := xs) (D := D) (tys := tys) (ws := ws) hlt h0 (by omega) htr hcal has (fw_tags hlt htag) (by omega) hmc hms
  refine fw_core (tys := tys) (a := cas.reverse.toArray) (mc := mc) (ms := ms) hAF hC hF hR1 hR2 hS hal (by omega) (by omega) hL hT3 ?_
  exact vx_runSN (As := cas.reverse) (rest := crest) ⟨hC.1, hC.2.1, hC.2.2.1, hC.2.2.2.1, hC.2.2.2.2.1⟩ hM ⟨va_cnB (fw_pt cal).length hC.2.2.2.2.1 (fw_good1 (fw_cwc hlt h0 (by omega))) rfl rfl rfl (hC.2.2.2.2.2.2.2.2.2.2.2.1.2.2.1 _ hl) (by rw [y1]; exact hC.2.2.2.2.1 _ (fw_ini _ y2)) ⟨y3, y4, y5⟩ ⟨by show fw_rk cal + 2 + 1 ≤ R.frames; omega, by show 8 + (fw_mL cal + 11) + (30 * fw_rk cal + 100) ≤ R.locals; omega⟩, hC.2.2.2.2.1 _ (fw_stt hlt (by omega) (Or.inl hki)), trivial⟩ ⟨fw_blind, fw_pre hH hS hC.2.2.2.2.2.2.2.2.2.2.2.1 hC.2.2.2.2.2.2.2.2.2.2.2.2.1 hC.2.2.2.2.2.2.2.2.2.2.2.2.2.1⟩ rfl (by rw [List.length_reverse]; omega) hsz (by rw [List.reverse_reverse]) (lv_room hsm) (fw_de' hd) ⟨by omega, by omega⟩
theorem fw_j_callSX {k pc n cal : Nat} {ll rest as : List fw_V} {σ : fw_M} {o out : fw_O} (hd : fw_dec k pc = some (.invokestatic n, 3)) (hm : fw_mr (fw_oc k) n = some (cal, 0)) (hki : fw_ki cal = 3) (hrk : fw_rk cal < fw_rk k) (hlt : cal < 137) (h0 : cal ≠ 0) (htag : as.map Prod.fst = fw_pt cal) (h4 : rest.length ≤ 4) (hcal : fw_J cal 0 (fw_en cal (as)) [] σ o) (hAF : fw_AF k pc ll rest o out) : fw_J k pc ll (as.reverse ++ rest) σ out := by
  obtain ⟨m1, m2⟩ := fw_AF_mono hAF
  have c1 := hcal.1.1
  have c2 := hcal.1.2
  refine ⟨⟨by omega, by omega⟩, ?_⟩
  intro base b L xs D p l e R s m args below meth c Q al0 C0 S0 hC hF hR1 hR2 tys ws H locs cells slots ls cst hH hS hal hc1 hc2 hL hT
  obtain ⟨y1, y2, y3, y4, y5, y6, y7, y8⟩ := fw_y_ok cal (List.mem_range.mpr hlt)
  obtain ⟨z1, z2, z3, z4, z5⟩ := fw_mL_ok cal (List.mem_range.mpr hlt)
  obtain ⟨q, hq, q1, q2, q3, q4⟩ := fw_mr_find hm
  have htr := hC.2.2.2.2.2.2.2.2.1
  have hfr := hC.2.2.2.2.2.2.2.2.2.1
  have hlo := hC.2.2.2.2.2.2.2.2.2.2.1
  have hlen : as.length = (fw_pt cal).length := by rw [← htag, List.length_map]
  obtain ⟨mc, hmc⟩ : ∃ mc : Nat, (mc : Int) = o.2 (-1) 1 - σ (-1) 1 := ⟨(o.2 (-1) 1 - σ (-1) 1).toNat, by omega⟩
  obtain ⟨ms, hms⟩ : ∃ ms : Nat, (ms : Int) = o.2 (-1) 2 - σ (-1) 2 := ⟨(o.2 (-1) 2 - σ (-1) 2).toNat, by omega⟩
  have hl := fw_mr_ok q hq (by rw [q3]; exact hlt) q4
  rw [q1, q2, q3] at hl
  obtain ⟨cas, crest, rfl, hT1, hT3⟩ := fw_St_app hT
  have has := fw_St_rev hT1
  rw [List.reverse_reverse] at has
  have hsm := fw_sum4 hT3 h4
  have hsz : ls.size = fw_mL k := by obtain ⟨l9, g1, -⟩ := hL; exact g1.1
  have hcl : cas.length = as.length := by have := fw_St_len hT1; rw [List.length_reverse] at this; exact this
  obtain ⟨hh, hhe⟩ : ∃ hh, hh = (fw_hs cal).map (fun h => (h.1, h.2.1, h.2.2.1, h.2.2.2.1)) := ⟨_, rfl⟩
  have hcw := fw_cwh hlt h0 hki
  rw [← hhe] at hcw
  have hM := fw_metH (l := l) (as := as) (vs := cas.reverse) (base := base) (b := b) (L := L) (xs := xs) (D := D) (tys := tys) (ws := ws) hlt h0 hki htr hhe hcal has (fw_tags hlt htag) (by omega) hmc hms
  refine fw_core (tys := tys) (a := cas.reverse.toArray) (mc := mc) (ms := ms) hAF hC hF hR1 hR2 hS hal (by omega) (by omega) hL hT3 ?_
  refine vx_runSX (hh := hh) (As := cas.reverse) (rest := crest) ⟨hC.1, hC.2.1, hC.2.2.1, hC.2.2.2.1, hC.2.2.2.2.1⟩ hM (vx_cwSW (fw_pt cal).length hC.2.2.2.2.1 (fw_goodIn fun w hw => ?_) rfl rfl rfl ⟨y3, y4, y5⟩ ⟨by show fw_rk cal + 2 + 1 ≤ R.frames; omega, by show 8 + (fw_mL cal + 11) + (30 * fw_rk cal + 100) ≤ R.locals; omega⟩) ⟨fw_blind, fw_pre hH hS hC.2.2.2.2.2.2.2.2.2.2.2.1 hC.2.2.2.2.2.2.2.2.2.2.2.2.1 hC.2.2.2.2.2.2.2.2.2.2.2.2.2.1⟩ rfl (by rw [List.length_reverse]; omega) hsz (by rw [List.reverse_reverse]) (lv_room hsm) (fw_de' hd) ⟨by omega, by omega⟩
  unfold va_wsS at hw
  rcases List.mem_append.mp hw with hw | hw
  · simp only [List.mem_cons, List.not_mem_nil, or_false] at hw
    rcases hw with rfl | rfl | rfl
    · exact fw_wd _ _ hl rfl
    · exact fw_stt hlt (by omega) (Or.inr hki)
    · rw [y1]; exact fw_ini _ y2
  · exact (fw_good1 hcw w hw).1
theorem fw_j_throw {k pc n ic x : Nat} {ll : List fw_V} {σ : fw_M} (hd : fw_dec k pc = some (.new n, 3)) (hx : fw_xr n = some (ic, x)) (ho : fw_oc k = 8) (hhs : fw_hs k = []) (h4r : 4 ≤ fw_rk k) (d3 : fw_dec k (pc + 3) = some (.dup, 1)) (d4 : fw_dec k (pc + 4) = some (.invokespecial ic, 3)) (d7 : fw_dec k (pc + 7) = some (.athrow, 1)) : fw_J k pc ll [] σ ((9, (x : Int)), fw_ex σ) := by
  have e1 : fw_ex σ (-1) 1 = σ (-1) 1 + 1 := rfl
  have e2 : fw_ex σ (-1) 2 = σ (-1) 2 + 6 := rfl
  refine ⟨⟨by show σ (-1) 1 ≤ fw_ex σ (-1) 1; omega, by show σ (-1) 2 ≤ fw_ex σ (-1) 2; omega⟩, ?_⟩
  intro base b L xs D p l e R s m args below meth c Q al0 C0 S0 hC hF hR1 hR2 tys ws H locs cells slots ls cst hH hS hal hc1 hc2 hL hT
  have hR1 : fw_ex σ (-1) 1 - C0 ≤ R.cells := hR1
  have hR2 : fw_ex σ (-1) 2 - S0 ≤ R.slots := hR2
  have := fw_St_nil hT
  subst this
  have hk0 : k ≠ 0 := by
    intro h
    subst h
    have : fw_oc 0 = 10 := by decide +kernel
    omega
  have hsz : ls.size = fw_mL k := by obtain ⟨l9, g1, -⟩ := hL; exact g1.1
  unfold fw_xr at hx
  obtain ⟨q, hq1, hq2⟩ := Option.map_eq_some_iff.mp hx
  have hp := List.find?_some hq1
  simp only [beq_iff_eq] at hp
  exact hF.2.2 σ n ic x rfl rfl ho hhs hk0 h4r ⟨q, List.mem_of_find?_eq_some hq1, hp, congrArg Prod.fst hq2, congrArg Prod.snd hq2⟩ tys ws H locs cells slots pc ls hsz (fw_de' hd) (fw_de' d3) (fw_de' d4) (fw_de' d7) hH hS hal hc1 hc2 (by omega) (by omega)
theorem fw_j_ret {k pc : Nat} {ll st : List fw_V} {σ : fw_M} {v : fw_V} {i : Instr} (hd : fw_dec k pc = some (i, 1)) (hv : ∀ (al : List Nat) (b : Nat) (cst : List Value), fw_St al b st cst → fw_rv k al b v i cst) : fw_J k pc ll st σ (v, σ) := by
  refine ⟨⟨Int.le_refl _, Int.le_refl _⟩, ?_⟩
  intro base b L xs D p l e R s m args below meth c Q al0 C0 S0 hC hF hR1 hR2 tys ws H locs cells slots ls cst hH hS hal hc1 hc2 hL hT
  exact hF.1 tys ws H locs cells slots pc ls cst i (fw_de' hd) hH hS hal hc1 hc2 (hv _ _ _ hT)
end
section
/-- a step is sound -/
def fw_sr (k pc : Nat) (ll st : List fw_V) (σ : fw_M) (act : fw_A) : Prop := match act with
  | .inl (pc', ll', st', σ') => ∀ out, fw_J k pc' ll' st' σ' out → fw_J k pc ll st σ out
  | .inr (.inl o) => fw_J k pc ll st σ o
  | .inr (.inr (cal, as, rest)) => ∀ o out, fw_J cal 0 (fw_en cal as) [] σ o → fw_AF k pc ll rest o out → fw_J k pc ll st σ out
theorem fw_take_app {α : Type} (st : List α) (n : Nat) : st = (st.take n).reverse.reverse ++ st.drop n := by rw [List.reverse_reverse, List.take_append_drop]
theorem fw_ca_r {k cal : Nat} {st : List fw_V} {act : fw_A} (h : fw_ca k cal true st = some act) : ∃ (as rest : List fw_V) (r : Int), act = .inr (.inr (cal, (2, r) :: as, rest)) ∧ st = as.reverse ++ (2, r) :: rest ∧ as.map Prod.fst = fw_pt cal ∧ fw_rk cal < fw_rk k ∧ cal < 137 ∧ cal ≠ 0 ∧ fw_kd r = (fw_oc cal : Int) + 3 ∧ rest.length ≤ 4 := by
  unfold fw_ca at h
  simp only [if_true] at h
  split at h
  · rename_i hc
    split at h
    · rename_i r rest hst
      split at h
      · rename_i hk
        cases h
        refine ⟨_, _, _, rfl, ?_, hc.1, hc.2.1, hc.2.2.1, hc.2.2.2, hk.1, hk.2⟩
        rw [← hst]
        exact fw_take_app st _
      · cases h
    · cases h
  · cases h
theorem fw_ca_s {k cal : Nat} {st : List fw_V} {act : fw_A} (h : fw_ca k cal false st = some act) : ∃ (as rest : List fw_V), act = .inr (.inr (cal, as, rest)) ∧ st = as.reverse ++ rest ∧ as.map Prod.fst = fw_pt cal ∧ fw_rk cal < fw_rk k ∧ cal < 137 ∧ cal ≠ 0 ∧ rest.length ≤ 4 := by
  unfold fw_ca at h
  simp only [Bool.false_eq_true, if_false] at h
  split at h
  · rename_i hc
    split at h
    · rename_i hk
      cases h
      exact ⟨_, _, rfl, fw_take_app st _, hc.1, hc.2.1, hc.2.2.1, hc.2.2.2, hk⟩
    · cases h
  · cases h
theorem fw_mr_2 {o n cal ne : Nat} (h : fw_mr o n = some (cal, ne)) : ne = 0 ∨ ne = 1 := by
  obtain ⟨q, hq, q1, q2, q3, q4⟩ := fw_mr_find h
  have := (fw_mr_lt q hq).2
  omega
theorem fw_kd99 (a : Int) : fw_kd a ≠ 99 := by
  have key : ∀ k, k < 50 → fw_kdT.getD k 0 ≠ 99 := by decide +kernel
  unfold fw_kd
  split
  · decide
  · split
    · exact key _ (by omega)
    · split
      · decide
      · split <;> decide
theorem fw_k_iconst {k pc : Nat} {n : Int} {ll st : List fw_V} {σ : fw_M} {act : fw_A} (hd : fw_dec k pc = some (.iconst n, 1)) (h : fw_si k pc ll st σ (.iconst n) = some act) : fw_sr k pc ll st σ act := by
    simp only [fw_si, fw_nx, fw_fi] at h
    cases h
    exact fun out hJ => fw_j_iconst hd hJ
theorem fw_k_bipush {k pc : Nat} {n : Int} {ll st : List fw_V} {σ : fw_M} {act : fw_A} (hd : fw_dec k pc = some (.bipush n, 2)) (h : fw_si k pc ll st σ (.bipush n) = some act) : fw_sr k pc ll st σ act := by
    simp only [fw_si, fw_nx, fw_fi] at h
    cases h
    exact fun out hJ => fw_j_bipush hd hJ
theorem fw_k_sipush {k pc : Nat} {n : Int} {ll st : List fw_V} {σ : fw_M} {act : fw_A} (hd : fw_dec k pc = some (.sipush n, 3)) (h : fw_si k pc ll st σ (.sipush n) = some act) : fw_sr k pc ll st σ act := by
    simp only [fw_si, fw_nx, fw_fi] at h
    cases h
    exact fun out hJ => fw_j_sipush hd hJ
theorem fw_k_lconst {k pc : Nat} {n : Fin 2} {ll st : List fw_V} {σ : fw_M} {act : fw_A} (hd : fw_dec k pc = some (.lconst n, 1)) (h : fw_si k pc ll st σ (.lconst n) = some act) : fw_sr k pc ll st σ act := by
    simp only [fw_si, fw_nx, fw_fi] at h
    cases h
    exact fun out hJ => fw_j_lconst hd hJ
theorem fw_k_fconst {k pc : Nat} {n : Fin 3} {ll st : List fw_V} {σ : fw_M} {act : fw_A} (hd : fw_dec k pc = some (.fconst n, 1)) (h : fw_si k pc ll st σ (.fconst n) = some act) : fw_sr k pc ll st σ act := by
    simp only [fw_si, fw_nx, fw_fi] at h
    split at h
    · rename_i hc
      cases h
      exact fun out hJ => by subst hc; exact fw_j_fconst hd hJ
    · cases h
theorem fw_k_dconst {k pc : Nat} {n : Fin 2} {ll st : List fw_V} {σ : fw_M} {act : fw_A} (hd : fw_dec k pc = some (.dconst n, 1)) (h : fw_si k pc ll st σ (.dconst n) = some act) : fw_sr k pc ll st σ act := by
    simp only [fw_si, fw_nx, fw_fi] at h
    split at h
    · rename_i hc
      cases h
      exact fun out hJ => by subst hc; exact fw_j_dconst hd hJ
    · cases h
theorem fw_k_aconst_null {k pc : Nat}  {ll st : List fw_V} {σ : fw_M} {act : fw_A} (hd : fw_dec k pc = some (.aconst_null, 1)) (h : fw_si k pc ll st σ (.aconst_null) = some act) : fw_sr k pc ll st σ act := by
    simp only [fw_si, fw_nx, fw_fi] at h
    cases h
    exact fun out hJ => fw_j_null hd hJ
theorem fw_k_ldc {k pc : Nat} {n : Nat} {ll st : List fw_V} {σ : fw_M} {act : fw_A} (hd : fw_dec k pc = some (.ldc n, 2)) (h : fw_si k pc ll st σ (.ldc n) = some act) : fw_sr k pc ll st σ act := by
    simp only [fw_si, fw_nx, fw_fi] at h
    split at h
    · rename_i hv
      cases h
      exact fun out hJ => fw_j_ldc hv hd hJ
    · cases h
theorem fw_k_ldc2_w {k pc : Nat} {n : Nat} {ll st : List fw_V} {σ : fw_M} {act : fw_A} (hd : fw_dec k pc = some (.ldc2_w n, 3)) (h : fw_si k pc ll st σ (.ldc2_w n) = some act) : fw_sr k pc ll st σ act := by
    simp only [fw_si, fw_nx, fw_fi] at h
    split at h
    · rename_i hv
      cases h
      exact fun out hJ => fw_j_ldc2 hv hd hJ
    · cases h
theorem fw_k_iload_n {k pc : Nat} {n : Fin 4} {ll st : List fw_V} {σ : fw_M} {act : fw_A} (hd : fw_dec k pc = some (.iload_n n, 1)) (h : fw_si k pc ll st σ (.iload_n n) = some act) : fw_sr k pc ll st σ act := by
    simp only [fw_si, fw_nx, fw_fi] at h
    split at h
    · rename_i hc
      cases h
      exact fun out hJ => fw_j_iload_n hd hc hJ
    · cases h
theorem fw_k_iload {k pc : Nat} {n : Nat} {ll st : List fw_V} {σ : fw_M} {act : fw_A} (hd : fw_dec k pc = some (.iload n, 2)) (h : fw_si k pc ll st σ (.iload n) = some act) : fw_sr k pc ll st σ act := by
    simp only [fw_si, fw_nx, fw_fi] at h
    split at h
    · rename_i hc
      cases h
      exact fun out hJ => fw_j_iload hd hc hJ
    · cases h
theorem fw_k_aload_n {k pc : Nat} {n : Fin 4} {ll st : List fw_V} {σ : fw_M} {act : fw_A} (hd : fw_dec k pc = some (.aload_n n, 1)) (h : fw_si k pc ll st σ (.aload_n n) = some act) : fw_sr k pc ll st σ act := by
    simp only [fw_si, fw_nx, fw_fi] at h
    split at h
    · rename_i hc
      cases h
      exact fun out hJ => fw_j_aload_n hd hc hJ
    · cases h
theorem fw_k_aload {k pc : Nat} {n : Nat} {ll st : List fw_V} {σ : fw_M} {act : fw_A} (hd : fw_dec k pc = some (.aload n, 2)) (h : fw_si k pc ll st σ (.aload n) = some act) : fw_sr k pc ll st σ act := by
    simp only [fw_si, fw_nx, fw_fi] at h
    split at h
    · rename_i hc
      cases h
      exact fun out hJ => fw_j_aload hd hc hJ
    · cases h
theorem fw_k_lload_n {k pc : Nat} {n : Fin 4} {ll st : List fw_V} {σ : fw_M} {act : fw_A} (hd : fw_dec k pc = some (.lload_n n, 1)) (h : fw_si k pc ll st σ (.lload_n n) = some act) : fw_sr k pc ll st σ act := by
    simp only [fw_si, fw_nx, fw_fi] at h
    split at h
    · rename_i hc
      cases h
      exact fun out hJ => fw_j_lload_n hd hc hJ
    · cases h
theorem fw_k_lload {k pc : Nat} {n : Nat} {ll st : List fw_V} {σ : fw_M} {act : fw_A} (hd : fw_dec k pc = some (.lload n, 2)) (h : fw_si k pc ll st σ (.lload n) = some act) : fw_sr k pc ll st σ act := by
    simp only [fw_si, fw_nx, fw_fi] at h
    split at h
    · rename_i hc
      cases h
      exact fun out hJ => fw_j_lload hd hc hJ
    · cases h
theorem fw_k_fload {k pc : Nat} {n : Nat} {ll st : List fw_V} {σ : fw_M} {act : fw_A} (hd : fw_dec k pc = some (.fload n, 2)) (h : fw_si k pc ll st σ (.fload n) = some act) : fw_sr k pc ll st σ act := by
    simp only [fw_si, fw_nx, fw_fi] at h
    split at h
    · rename_i hc
      cases h
      exact fun out hJ => fw_j_fload hd hc hJ
    · cases h
theorem fw_k_istore_n {k pc : Nat} {n : Fin 4} {ll st : List fw_V} {σ : fw_M} {act : fw_A} (hd : fw_dec k pc = some (.istore_n n, 1)) (h : fw_si k pc ll st σ (.istore_n n) = some act) : fw_sr k pc ll st σ act := by
    simp only [fw_si, fw_nx, fw_fi] at h
    split at h
    · split at h
      · rename_i hc
        cases h
        exact fun out hJ => fw_j_istore_n hd hc hJ
      · cases h
    · cases h
theorem fw_k_istore {k pc : Nat} {n : Nat} {ll st : List fw_V} {σ : fw_M} {act : fw_A} (hd : fw_dec k pc = some (.istore n, 2)) (h : fw_si k pc ll st σ (.istore n) = some act) : fw_sr k pc ll st σ act := by
    simp only [fw_si, fw_nx, fw_fi] at h
    split at h
    · split at h
      · rename_i hc
        cases h
        exact fun out hJ => fw_j_istore hd hc hJ
      · cases h
    · cases h
theorem fw_k_fstore {k pc : Nat} {n : Nat} {ll st : List fw_V} {σ : fw_M} {act : fw_A} (hd : fw_dec k pc = some (.fstore n, 2)) (h : fw_si k pc ll st σ (.fstore n) = some act) : fw_sr k pc ll st σ act := by
    simp only [fw_si, fw_nx, fw_fi] at h
    split at h
    · split at h
      · rename_i hc
        cases h
        exact fun out hJ => fw_j_fstore hd hc hJ
      · cases h
    · cases h
theorem fw_k_astore_n {k pc : Nat} {n : Fin 4} {ll st : List fw_V} {σ : fw_M} {act : fw_A} (hd : fw_dec k pc = some (.astore_n n, 1)) (h : fw_si k pc ll st σ (.astore_n n) = some act) : fw_sr k pc ll st σ act := by
    simp only [fw_si, fw_nx, fw_fi] at h
    split at h
    · split at h
      · rename_i hc
        cases h
        exact fun out hJ => fw_j_astore_n hd hc hJ
      · cases h
    · split at h
      · rename_i hc
        cases h
        exact fun out hJ => fw_j_astore_n7 hd hc hJ
      · cases h
    · cases h
theorem fw_k_astore {k pc : Nat} {n : Nat} {ll st : List fw_V} {σ : fw_M} {act : fw_A} (hd : fw_dec k pc = some (.astore n, 2)) (h : fw_si k pc ll st σ (.astore n) = some act) : fw_sr k pc ll st σ act := by
    simp only [fw_si, fw_nx, fw_fi] at h
    split at h
    · split at h
      · rename_i hc
        cases h
        exact fun out hJ => fw_j_astore hd hc hJ
      · cases h
    · split at h
      · rename_i hc
        cases h
        exact fun out hJ => fw_j_astore7 hd hc hJ
      · cases h
    · cases h
theorem fw_k_lstore_n {k pc : Nat} {n : Fin 4} {ll st : List fw_V} {σ : fw_M} {act : fw_A} (hd : fw_dec k pc = some (.lstore_n n, 1)) (h : fw_si k pc ll st σ (.lstore_n n) = some act) : fw_sr k pc ll st σ act := by
    simp only [fw_si, fw_nx, fw_fi] at h
    split at h
    · split at h
      · rename_i hc
        cases h
        exact fun out hJ => by obtain ⟨hc1, rfl, hc3⟩ := hc; exact fw_j_lstore_n hd hc1 hc3 hJ
      · cases h
    · cases h
theorem fw_k_lstore {k pc : Nat} {n : Nat} {ll st : List fw_V} {σ : fw_M} {act : fw_A} (hd : fw_dec k pc = some (.lstore n, 2)) (h : fw_si k pc ll st σ (.lstore n) = some act) : fw_sr k pc ll st σ act := by
    simp only [fw_si, fw_nx, fw_fi] at h
    split at h
    · split at h
      · rename_i hc
        cases h
        exact fun out hJ => by obtain ⟨hc1, rfl, hc3⟩ := hc; exact fw_j_lstore hd hc1 hc3 hJ
      · cases h
    · cases h
theorem fw_k_iinc {k pc : Nat} {n : Nat} {c0 : Int} {ll st : List fw_V} {σ : fw_M} {act : fw_A} (hd : fw_dec k pc = some (.iinc n c0, 3)) (h : fw_si k pc ll st σ (.iinc n c0) = some act) : fw_sr k pc ll st σ act := by
    simp only [fw_si, fw_nx, fw_fi] at h
    split at h
    · rename_i hc
      cases h
      exact fun out hJ => fw_j_iinc hd hc.1 hc.2 hJ
    · cases h
theorem fw_k_iadd {k pc : Nat}  {ll st : List fw_V} {σ : fw_M} {act : fw_A} (hd : fw_dec k pc = some (.iadd, 1)) (h : fw_si k pc ll st σ (.iadd) = some act) : fw_sr k pc ll st σ act := by
    simp only [fw_si, fw_nx, fw_fi] at h
    split at h
    · cases h
      exact fun out hJ => fw_j_iadd hd hJ
    · cases h
theorem fw_k_isub {k pc : Nat}  {ll st : List fw_V} {σ : fw_M} {act : fw_A} (hd : fw_dec k pc = some (.isub, 1)) (h : fw_si k pc ll st σ (.isub) = some act) : fw_sr k pc ll st σ act := by
    simp only [fw_si, fw_nx, fw_fi] at h
    split at h
    · cases h
      exact fun out hJ => fw_j_isub hd hJ
    · cases h
theorem fw_k_imul {k pc : Nat}  {ll st : List fw_V} {σ : fw_M} {act : fw_A} (hd : fw_dec k pc = some (.imul, 1)) (h : fw_si k pc ll st σ (.imul) = some act) : fw_sr k pc ll st σ act := by
    simp only [fw_si, fw_nx, fw_fi] at h
    split at h
    · cases h
      exact fun out hJ => fw_j_imul hd hJ
    · cases h
theorem fw_k_ladd {k pc : Nat}  {ll st : List fw_V} {σ : fw_M} {act : fw_A} (hd : fw_dec k pc = some (.ladd, 1)) (h : fw_si k pc ll st σ (.ladd) = some act) : fw_sr k pc ll st σ act := by
    simp only [fw_si, fw_nx, fw_fi] at h
    split at h
    · cases h
      exact fun out hJ => fw_j_ladd hd hJ
    · cases h
theorem fw_k_lcmp {k pc : Nat}  {ll st : List fw_V} {σ : fw_M} {act : fw_A} (hd : fw_dec k pc = some (.lcmp, 1)) (h : fw_si k pc ll st σ (.lcmp) = some act) : fw_sr k pc ll st σ act := by
    simp only [fw_si, fw_nx, fw_fi] at h
    split at h
    · cases h
      exact fun out hJ => fw_j_lcmp hd hJ
    · cases h
theorem fw_k_i2l {k pc : Nat}  {ll st : List fw_V} {σ : fw_M} {act : fw_A} (hd : fw_dec k pc = some (.i2l, 1)) (h : fw_si k pc ll st σ (.i2l) = some act) : fw_sr k pc ll st σ act := by
    simp only [fw_si, fw_nx, fw_fi] at h
    split at h
    · cases h
      exact fun out hJ => fw_j_i2l hd hJ
    · cases h
theorem fw_k_i2d {k pc : Nat}  {ll st : List fw_V} {σ : fw_M} {act : fw_A} (hd : fw_dec k pc = some (.i2d, 1)) (h : fw_si k pc ll st σ (.i2d) = some act) : fw_sr k pc ll st σ act := by
    simp only [fw_si, fw_nx, fw_fi] at h
    split at h
    · cases h
      exact fun out hJ => fw_j_i2d hd hJ
    · cases h
theorem fw_k_i2f {k pc : Nat}  {ll st : List fw_V} {σ : fw_M} {act : fw_A} (hd : fw_dec k pc = some (.i2f, 1)) (h : fw_si k pc ll st σ (.i2f) = some act) : fw_sr k pc ll st σ act := by
    simp only [fw_si, fw_nx, fw_fi] at h
    split at h
    · cases h
      exact fun out hJ => fw_j_i2f hd hJ
    · cases h
theorem fw_k_l2d {k pc : Nat}  {ll st : List fw_V} {σ : fw_M} {act : fw_A} (hd : fw_dec k pc = some (.l2d, 1)) (h : fw_si k pc ll st σ (.l2d) = some act) : fw_sr k pc ll st σ act := by
    simp only [fw_si, fw_nx, fw_fi] at h
    split at h
    · cases h
      exact fun out hJ => fw_j_l2d hd hJ
    · cases h
theorem fw_k_dup2 {k pc : Nat}  {ll st : List fw_V} {σ : fw_M} {act : fw_A} (hd : fw_dec k pc = some (.dup2, 1)) (h : fw_si k pc ll st σ (.dup2) = some act) : fw_sr k pc ll st σ act := by
    simp only [fw_si, fw_nx, fw_fi] at h
    split at h
    · cases h
      exact fun out hJ => fw_j_dup2 hd hJ
    · cases h
theorem fw_k_iand {k pc : Nat}  {ll st : List fw_V} {σ : fw_M} {act : fw_A} (hd : fw_dec k pc = some (.iand, 1)) (h : fw_si k pc ll st σ (.iand) = some act) : fw_sr k pc ll st σ act := by
    simp only [fw_si, fw_nx, fw_fi] at h
    split at h
    · cases h
      exact fun out hJ => fw_j_iand hd hJ
    · cases h
theorem fw_k_ishr {k pc : Nat}  {ll st : List fw_V} {σ : fw_M} {act : fw_A} (hd : fw_dec k pc = some (.ishr, 1)) (h : fw_si k pc ll st σ (.ishr) = some act) : fw_sr k pc ll st σ act := by
    simp only [fw_si, fw_nx, fw_fi] at h
    split at h
    · cases h
      exact fun out hJ => fw_j_ishr hd hJ
    · cases h
theorem fw_k_lmul {k pc : Nat}  {ll st : List fw_V} {σ : fw_M} {act : fw_A} (hd : fw_dec k pc = some (.lmul, 1)) (h : fw_si k pc ll st σ (.lmul) = some act) : fw_sr k pc ll st σ act := by
    simp only [fw_si, fw_nx, fw_fi] at h
    split at h
    · cases h
      exact fun out hJ => fw_j_lmul hd hJ
    · cases h
theorem fw_k_l2i {k pc : Nat}  {ll st : List fw_V} {σ : fw_M} {act : fw_A} (hd : fw_dec k pc = some (.l2i, 1)) (h : fw_si k pc ll st σ (.l2i) = some act) : fw_sr k pc ll st σ act := by
    simp only [fw_si, fw_nx, fw_fi] at h
    split at h
    · cases h
      exact fun out hJ => fw_j_l2i hd hJ
    · cases h
theorem fw_k_dup_x2 {k pc : Nat}  {ll st : List fw_V} {σ : fw_M} {act : fw_A} (hd : fw_dec k pc = some (.dup_x2, 1)) (h : fw_si k pc ll st σ (.dup_x2) = some act) : fw_sr k pc ll st σ act := by
    simp only [fw_si, fw_nx, fw_fi] at h
    split at h
    · cases h
      exact fun out hJ => fw_j_dup_x2 hd hJ
    · cases h
theorem fw_k_irem {k pc : Nat}  {ll st : List fw_V} {σ : fw_M} {act : fw_A} (hd : fw_dec k pc = some (.irem, 1)) (h : fw_si k pc ll st σ (.irem) = some act) : fw_sr k pc ll st σ act := by
    simp only [fw_si, fw_nx, fw_fi] at h
    split at h
    · split at h
      · rename_i hc
        cases h
        exact fun out hJ => fw_j_irem hd hc.1 hc.2 hJ
      · cases h
    · cases h
theorem fw_k_lrem {k pc : Nat}  {ll st : List fw_V} {σ : fw_M} {act : fw_A} (hd : fw_dec k pc = some (.lrem, 1)) (h : fw_si k pc ll st σ (.lrem) = some act) : fw_sr k pc ll st σ act := by
    simp only [fw_si, fw_nx, fw_fi] at h
    split at h
    · split at h
      · rename_i hc
        cases h
        exact fun out hJ => fw_j_lrem hd hc.1 hc.2 hJ
      · cases h
    · cases h
theorem fw_k_f2d {k pc : Nat}  {ll st : List fw_V} {σ : fw_M} {act : fw_A} (hd : fw_dec k pc = some (.f2d, 1)) (h : fw_si k pc ll st σ (.f2d) = some act) : fw_sr k pc ll st σ act := by
    simp only [fw_si, fw_nx, fw_fi] at h
    split at h
    · split at h
      · rename_i hc
        cases h
        exact fun out hJ => fw_j_f2d hd hc hJ
      · cases h
    · cases h
theorem fw_k_ddiv {k pc : Nat}  {ll st : List fw_V} {σ : fw_M} {act : fw_A} (hd : fw_dec k pc = some (.ddiv, 1)) (h : fw_si k pc ll st σ (.ddiv) = some act) : fw_sr k pc ll st σ act := by
    simp only [fw_si, fw_nx, fw_fi] at h
    split at h
    · split at h
      · rename_i hc
        cases h
        exact fun out hJ => fw_j_ddiv hd hc hJ
      · cases h
    · cases h
theorem fw_k_fdiv {k pc : Nat}  {ll st : List fw_V} {σ : fw_M} {act : fw_A} (hd : fw_dec k pc = some (.fdiv, 1)) (h : fw_si k pc ll st σ (.fdiv) = some act) : fw_sr k pc ll st σ act := by
    simp only [fw_si, fw_nx, fw_fi] at h
    split at h
    · split at h
      · rename_i hc
        cases h
        exact fun out hJ => fw_j_fdiv hd hc hJ
      · cases h
    · cases h
theorem fw_k_dcmp {k pc : Nat} {op : CmpOp} {ll st : List fw_V} {σ : fw_M} {act : fw_A} (hd : fw_dec k pc = some (.dcmp op, 1)) (h : fw_si k pc ll st σ (.dcmp op) = some act) : fw_sr k pc ll st σ act := by
    simp only [fw_si, fw_nx, fw_fi] at h
    split at h
    · cases h
      exact fun out hJ => fw_j_dcmp hd hJ
    · cases h
theorem fw_k_fcmp {k pc : Nat} {op : CmpOp} {ll st : List fw_V} {σ : fw_M} {act : fw_A} (hd : fw_dec k pc = some (.fcmp op, 1)) (h : fw_si k pc ll st σ (.fcmp op) = some act) : fw_sr k pc ll st σ act := by
    simp only [fw_si, fw_nx, fw_fi] at h
    split at h
    · cases h
      exact fun out hJ => fw_j_fcmp hd hJ
    · cases h
theorem fw_k_dup {k pc : Nat}  {ll st : List fw_V} {σ : fw_M} {act : fw_A} (hd : fw_dec k pc = some (.dup, 1)) (h : fw_si k pc ll st σ (.dup) = some act) : fw_sr k pc ll st σ act := by
    simp only [fw_si, fw_nx, fw_fi] at h
    split at h
    · split at h
      · rename_i hc
        cases h
        exact fun out hJ => fw_j_dup hd hc hJ
      · cases h
    · cases h
theorem fw_k_pop {k pc : Nat}  {ll st : List fw_V} {σ : fw_M} {act : fw_A} (hd : fw_dec k pc = some (.pop, 1)) (h : fw_si k pc ll st σ (.pop) = some act) : fw_sr k pc ll st σ act := by
    simp only [fw_si, fw_nx, fw_fi] at h
    split at h
    · split at h
      · rename_i hc
        cases h
        exact fun out hJ => fw_j_pop hd hc hJ
      · cases h
    · cases h
theorem fw_k_goto {k pc : Nat} {off : Int} {ll st : List fw_V} {σ : fw_M} {act : fw_A} (hd : fw_dec k pc = some (.goto off, 3)) (h : fw_si k pc ll st σ (.goto off) = some act) : fw_sr k pc ll st σ act := by
    simp only [fw_si, fw_nx, fw_fi] at h
    split at h
    · rename_i hc
      cases h
      exact fun out hJ => fw_j_goto hd hc hJ
    · cases h
theorem fw_k_ifCond {k pc : Nat} {cc : ClassFile.Cond} {off : Int} {ll st : List fw_V} {σ : fw_M} {act : fw_A} (hd : fw_dec k pc = some (.ifCond cc off, 3)) (h : fw_si k pc ll st σ (.ifCond cc off) = some act) : fw_sr k pc ll st σ act := by
    simp only [fw_si, fw_nx, fw_fi] at h
    split at h
    · split at h
      · rename_i hc
        unfold fw_br at h
        split at h
        · rename_i hq
          cases h
          exact fun out hJ => fw_j_ifc hd hc (by rw [if_pos hq]; exact hJ)
        · rename_i hq
          cases h
          exact fun out hJ => fw_j_ifc hd hc (by rw [if_neg hq]; exact hJ)
      · cases h
    · cases h
theorem fw_k_if_icmp {k pc : Nat} {cc : ClassFile.Cond} {off : Int} {ll st : List fw_V} {σ : fw_M} {act : fw_A} (hd : fw_dec k pc = some (.if_icmp cc off, 3)) (h : fw_si k pc ll st σ (.if_icmp cc off) = some act) : fw_sr k pc ll st σ act := by
    simp only [fw_si, fw_nx, fw_fi] at h
    split at h
    · split at h
      · rename_i hc
        unfold fw_br at h
        split at h
        · rename_i hq
          cases h
          exact fun out hJ => fw_j_icmp hd hc (by rw [if_pos hq]; exact hJ)
        · rename_i hq
          cases h
          exact fun out hJ => fw_j_icmp hd hc (by rw [if_neg hq]; exact hJ)
      · cases h
    · cases h
theorem fw_k_ifnull {k pc : Nat} {off : Int} {ll st : List fw_V} {σ : fw_M} {act : fw_A} (hd : fw_dec k pc = some (.ifnull off, 3)) (h : fw_si k pc ll st σ (.ifnull off) = some act) : fw_sr k pc ll st σ act := by
    simp only [fw_si, fw_nx, fw_fi] at h
    split at h
    · split at h
      · rename_i hc
        unfold fw_br at h
        split at h
        · rename_i hq
          cases h
          exact fun out hJ => fw_j_ifnull hd hc (by rw [if_pos hq]; exact hJ)
        · rename_i hq
          cases h
          exact fun out hJ => fw_j_ifnull hd hc (by rw [if_neg hq]; exact hJ)
      · cases h
    · cases h
theorem fw_k_ifnonnull {k pc : Nat} {off : Int} {ll st : List fw_V} {σ : fw_M} {act : fw_A} (hd : fw_dec k pc = some (.ifnonnull off, 3)) (h : fw_si k pc ll st σ (.ifnonnull off) = some act) : fw_sr k pc ll st σ act := by
    simp only [fw_si, fw_nx, fw_fi] at h
    split at h
    · split at h
      · rename_i hc
        unfold fw_br at h
        split at h
        · rename_i hq
          cases h
          exact fun out hJ => fw_j_ifnonnull hd hc (by rw [if_pos hq]; exact hJ)
        · rename_i hq
          cases h
          exact fun out hJ => fw_j_ifnonnull hd hc (by rw [if_neg hq]; exact hJ)
      · cases h
    · cases h
theorem fw_k_tableswitch {k pc len : Nat} {d : Int} {lo : Int} {hi : Int} {offs : Array Int} {ll st : List fw_V} {σ : fw_M} {act : fw_A} (hd : fw_dec k pc = some (.tableswitch d lo hi offs, len)) (h : fw_si k pc ll st σ (.tableswitch d lo hi offs) = some act) : fw_sr k pc ll st σ act := by
    simp only [fw_si, fw_nx, fw_fi] at h
    split at h
    · split at h
      · rename_i hx
        split at h
        · rename_i hc
          cases h
          exact fun out hJ => fw_j_tswO hd hc hx hJ
        · cases h
      · rename_i hx
        split at h
        · rename_i ho
          split at h
          · rename_i hc
            cases h
            exact fun out hJ => fw_j_tswI hd hc hx ho hJ
          · cases h
        · cases h
    · cases h
theorem fw_k_iaload {k pc : Nat}  {ll st : List fw_V} {σ : fw_M} {act : fw_A} (hd : fw_dec k pc = some (.iaload, 1)) (h : fw_si k pc ll st σ (.iaload) = some act) : fw_sr k pc ll st σ act := by
    simp only [fw_si, fw_nx, fw_fi] at h
    split at h
    · split at h
      · rename_i hc
        cases h
        exact fun out hJ => fw_j_iald hd hc.1 hc.2.1 hc.2.2 hJ
      · cases h
    · split at h
      · rename_i hc
        cases h
        exact fun out hJ => fw_j_sald hd hc.1 hc.2 hJ
      · cases h
    · cases h
theorem fw_k_caload {k pc : Nat}  {ll st : List fw_V} {σ : fw_M} {act : fw_A} (hd : fw_dec k pc = some (.caload, 1)) (h : fw_si k pc ll st σ (.caload) = some act) : fw_sr k pc ll st σ act := by
    simp only [fw_si, fw_nx, fw_fi] at h
    split at h
    · split at h
      · rename_i hc
        cases h
        exact fun out hJ => fw_j_cald hd hc.1 hc.2.1 hc.2.2 hJ
      · cases h
    · cases h
theorem fw_k_baload {k pc : Nat}  {ll st : List fw_V} {σ : fw_M} {act : fw_A} (hd : fw_dec k pc = some (.baload, 1)) (h : fw_si k pc ll st σ (.baload) = some act) : fw_sr k pc ll st σ act := by
    simp only [fw_si, fw_nx, fw_fi] at h
    split at h
    · split at h
      · rename_i hc
        cases h
        exact fun out hJ => fw_j_zald hd hc.1 hc.2.1 hc.2.2 hJ
      · cases h
    · cases h
theorem fw_k_laload {k pc : Nat}  {ll st : List fw_V} {σ : fw_M} {act : fw_A} (hd : fw_dec k pc = some (.laload, 1)) (h : fw_si k pc ll st σ (.laload) = some act) : fw_sr k pc ll st σ act := by
    simp only [fw_si, fw_nx, fw_fi] at h
    split at h
    · split at h
      · rename_i hc
        cases h
        exact fun out hJ => fw_j_lald hd hc.1 hc.2.1 hc.2.2 hJ
      · cases h
    · cases h
theorem fw_k_daload {k pc : Nat}  {ll st : List fw_V} {σ : fw_M} {act : fw_A} (hd : fw_dec k pc = some (.daload, 1)) (h : fw_si k pc ll st σ (.daload) = some act) : fw_sr k pc ll st σ act := by
    simp only [fw_si, fw_nx, fw_fi] at h
    split at h
    · split at h
      · rename_i hc
        cases h
        exact fun out hJ => fw_j_dald hd hc.1 hc.2.1 hc.2.2 hJ
      · cases h
    · cases h
theorem fw_k_aaload {k pc : Nat}  {ll st : List fw_V} {σ : fw_M} {act : fw_A} (hd : fw_dec k pc = some (.aaload, 1)) (h : fw_si k pc ll st σ (.aaload) = some act) : fw_sr k pc ll st σ act := by
    simp only [fw_si, fw_nx, fw_fi] at h
    split at h
    · split at h
      · rename_i hc
        cases h
        exact fun out hJ => fw_j_aald hd hc.1 hc.2.1 hc.2.2 hJ
      · cases h
    · cases h
theorem fw_k_iastore {k pc : Nat}  {ll st : List fw_V} {σ : fw_M} {act : fw_A} (hd : fw_dec k pc = some (.iastore, 1)) (h : fw_si k pc ll st σ (.iastore) = some act) : fw_sr k pc ll st σ act := by
    simp only [fw_si, fw_nx, fw_fi] at h
    split at h
    · split at h
      · rename_i hc
        cases h
        exact fun out hJ => fw_j_iast hd hc.1 hc.2.1 hc.2.2 hJ
      · cases h
    · cases h
theorem fw_k_lastore {k pc : Nat}  {ll st : List fw_V} {σ : fw_M} {act : fw_A} (hd : fw_dec k pc = some (.lastore, 1)) (h : fw_si k pc ll st σ (.lastore) = some act) : fw_sr k pc ll st σ act := by
    simp only [fw_si, fw_nx, fw_fi] at h
    split at h
    · split at h
      · rename_i hc
        cases h
        exact fun out hJ => fw_j_last hd hc.1 hc.2.1 hc.2.2 hJ
      · cases h
    · cases h
theorem fw_k_dastore {k pc : Nat}  {ll st : List fw_V} {σ : fw_M} {act : fw_A} (hd : fw_dec k pc = some (.dastore, 1)) (h : fw_si k pc ll st σ (.dastore) = some act) : fw_sr k pc ll st σ act := by
    simp only [fw_si, fw_nx, fw_fi] at h
    split at h
    · split at h
      · rename_i hc
        cases h
        exact fun out hJ => fw_j_dast hd hc.1 hc.2.1 hc.2.2 hJ
      · cases h
    · cases h
theorem fw_k_castore {k pc : Nat}  {ll st : List fw_V} {σ : fw_M} {act : fw_A} (hd : fw_dec k pc = some (.castore, 1)) (h : fw_si k pc ll st σ (.castore) = some act) : fw_sr k pc ll st σ act := by
    simp only [fw_si, fw_nx, fw_fi] at h
    split at h
    · split at h
      · rename_i hc
        cases h
        exact fun out hJ => fw_j_cast hd hc.1 hc.2.1 hc.2.2.1 hc.2.2.2.1 hc.2.2.2.2 hJ
      · cases h
    · cases h
theorem fw_k_bastore {k pc : Nat}  {ll st : List fw_V} {σ : fw_M} {act : fw_A} (hd : fw_dec k pc = some (.bastore, 1)) (h : fw_si k pc ll st σ (.bastore) = some act) : fw_sr k pc ll st σ act := by
    simp only [fw_si, fw_nx, fw_fi] at h
    split at h
    · split at h
      · rename_i hc
        cases h
        exact fun out hJ => fw_j_zast hd hc.1 hc.2.1 hc.2.2.1 hc.2.2.2 hJ
      · cases h
    · cases h
theorem fw_k_aastore {k pc : Nat}  {ll st : List fw_V} {σ : fw_M} {act : fw_A} (hd : fw_dec k pc = some (.aastore, 1)) (h : fw_si k pc ll st σ (.aastore) = some act) : fw_sr k pc ll st σ act := by
    simp only [fw_si, fw_nx, fw_fi] at h
    split at h
    · split at h
      · rename_i hc
        cases h
        exact fun out hJ => fw_j_aast hd hc.1 hc.2.2.1 hc.2.2.2 hc.2.1 hJ
      · cases h
    · cases h
theorem fw_k_arraylength {k pc : Nat}  {ll st : List fw_V} {σ : fw_M} {act : fw_A} (hd : fw_dec k pc = some (.arraylength, 1)) (h : fw_si k pc ll st σ (.arraylength) = some act) : fw_sr k pc ll st σ act := by
    simp only [fw_si, fw_nx, fw_fi] at h
    split at h
    · split at h
      · rename_i hc
        cases h
        exact fun out hJ => fw_j_alen hd hc hJ
      · cases h
    · split at h
      · rename_i hc
        cases h
        exact fun out hJ => fw_j_slen hd hc hJ
      · cases h
    · cases h
theorem fw_k_getfield {k pc : Nat} {n : Nat} {ll st : List fw_V} {σ : fw_M} {act : fw_A} (hd : fw_dec k pc = some (.getfield n, 3)) (h : fw_si k pc ll st σ (.getfield n) = some act) : fw_sr k pc ll st σ act := by
    simp only [fw_si, fw_nx, fw_fi] at h
    split at h
    · split at h
      · rename_i hf
        split at h
        · rename_i hc
          cases h
          exact fun out hJ => fw_j_get hd hf hc hJ
        · cases h
      · cases h
    · cases h
theorem fw_k_putfield {k pc : Nat} {n : Nat} {ll st : List fw_V} {σ : fw_M} {act : fw_A} (hd : fw_dec k pc = some (.putfield n, 3)) (h : fw_si k pc ll st σ (.putfield n) = some act) : fw_sr k pc ll st σ act := by
    simp only [fw_si, fw_nx, fw_fi] at h
    split at h
    · split at h
      · rename_i hf
        split at h
        · rename_i hc
          cases h
          exact fun out hJ => fw_j_put hd hf hc.1 hc.2.1 hc.2.2.1 hc.2.2.2 hJ
        · cases h
      · cases h
    · cases h
theorem fw_k_new {k pc : Nat} {n : Nat} {ll st : List fw_V} {σ : fw_M} {act : fw_A} (hd : fw_dec k pc = some (.new n, 3)) (h : fw_si k pc ll st σ (.new n) = some act) : fw_sr k pc ll st σ act := by
    simp only [fw_si, fw_nx, fw_fi] at h
    split at h
    · rename_i hf
      split at h
      · rename_i hc
        cases h
        exact fun out hJ => fw_j_new hd hf hc hJ
      · cases h
    · split at h
      · rename_i hx
        split at h
        · rename_i hc
          cases h
          obtain ⟨c1, c2, rfl, c3, c4, c5, c6⟩ := hc
          exact fw_j_throw hd hx c1 c2 c3 c4 c5 c6
        · cases h
      · cases h
theorem fw_k_newarray {k pc : Nat} {t : ArrayType} {ll st : List fw_V} {σ : fw_M} {act : fw_A} (hd : fw_dec k pc = some (.newarray t, 2)) (h : fw_si k pc ll st σ (.newarray t) = some act) : fw_sr k pc ll st σ act := by
    simp only [fw_si, fw_nx, fw_fi] at h
    split at h
    · split at h
      · rename_i hc
        cases h
        obtain ⟨c1, c2, c3, c4⟩ := hc
        intro out hJ
        cases t with
        | int => exact fw_j_newa_int hd c1 c2 c3 c4 hJ
        | char => exact fw_j_newa_char hd c1 c2 c3 c4 hJ
        | boolean => exact fw_j_newa_boolean hd c1 c2 c3 c4 hJ
        | _ => exact absurd c3 (fw_kd99 _)
      · cases h
    · cases h
theorem fw_k_anewarray {k pc : Nat} {m : Nat} {ll st : List fw_V} {σ : fw_M} {act : fw_A} (hd : fw_dec k pc = some (.anewarray m, 3)) (h : fw_si k pc ll st σ (.anewarray m) = some act) : fw_sr k pc ll st σ act := by
    simp only [fw_si, fw_nx, fw_fi] at h
    split at h
    · split at h
      · rename_i hc
        cases h
        obtain ⟨c1, rfl, c2, c3, c4, c5⟩ := hc
        exact fun out hJ => fw_j_newq hd c1 c2 c3 c4 c5 hJ
      · cases h
    · cases h
theorem fw_k_multianewarray {k pc : Nat} {m : Nat} {dn : Nat} {ll st : List fw_V} {σ : fw_M} {act : fw_A} (hd : fw_dec k pc = some (.multianewarray m dn, 4)) (h : fw_si k pc ll st σ (.multianewarray m dn) = some act) : fw_sr k pc ll st σ act := by
    simp only [fw_si, fw_nx, fw_fi] at h
    split at h
    · split at h
      · rename_i hc
        cases h
        obtain ⟨rfl, rfl, c1, rfl, rfl, c2⟩ := hc
        exact fun out hJ => fw_j_mna hd c1 c2 hJ
      · cases h
    · cases h
theorem fw_k_invokevirtual {k pc : Nat} {n : Nat} {ll st : List fw_V} {σ : fw_M} {act : fw_A} (hd : fw_dec k pc = some (.invokevirtual n, 3)) (h : fw_si k pc ll st σ (.invokevirtual n) = some act) : fw_sr k pc ll st σ act := by
    simp only [fw_si, fw_nx, fw_fi] at h
    split at h
    · rename_i hm
      split at h
      · rename_i hki
        obtain ⟨as, rest, r, rfl, rfl, c1, c2, c3, c4, c5, c6⟩ := fw_ca_r h
        exact fun o out hcal hAF => fw_j_callV hd hm hki c2 c3 c4 c1 c5 c6 hcal hAF
      · cases h
    · cases h
theorem fw_k_invokespecial {k pc : Nat} {n : Nat} {ll st : List fw_V} {σ : fw_M} {act : fw_A} (hd : fw_dec k pc = some (.invokespecial n, 3)) (h : fw_si k pc ll st σ (.invokespecial n) = some act) : fw_sr k pc ll st σ act := by
    simp only [fw_si, fw_nx, fw_fi] at h
    split at h
    · rename_i hm
      split at h
      · split at h
        · rename_i hc
          cases h
          exact fun out hJ => fw_j_obj hd hm hc.1 hc.2 hJ
        · cases h
      · cases h
    · rename_i cal ne _ hm
      split at h
      · rename_i hki
        obtain ⟨as, rest, r, rfl, rfl, c1, c2, c3, c4, c5, c6⟩ := fw_ca_r h
        rcases fw_mr_2 hm with rfl | rfl
        · exact fun o out hcal hAF => fw_j_callI hd hm hki c2 c3 c4 c1 c5 c6 hcal hAF
        · exact fun o out hcal hAF => fw_j_callIN hd hm hki c2 c3 c4 c1 c5 c6 hcal hAF
      · cases h
    · cases h
theorem fw_k_invokestatic {k pc : Nat} {n : Nat} {ll st : List fw_V} {σ : fw_M} {act : fw_A} (hd : fw_dec k pc = some (.invokestatic n, 3)) (h : fw_si k pc ll st σ (.invokestatic n) = some act) : fw_sr k pc ll st σ act := by
    simp only [fw_si, fw_nx, fw_fi] at h
    split at h
    · rename_i hm
      split at h
      · split at h
        · rename_i hc
          cases h
          exact fun out hJ => fw_j_max hd hm hc hJ
        · cases h
      · cases h
    · rename_i hm
      split at h
      · split at h
        · rename_i hc
          cases h
          exact fun out hJ => fw_j_min hd hm hc hJ
        · cases h
      · cases h
    · rename_i cal ne _ _ hm
      split at h
      · rename_i hki
        obtain ⟨as, rest, rfl, rfl, c1, c2, c3, c4, c6⟩ := fw_ca_s h
        rcases hki with hki | hki
        · rcases fw_mr_2 hm with rfl | rfl
          · exact fun o out hcal hAF => fw_j_callS hd hm hki c2 c3 c4 c1 c6 hcal hAF
          · exact fun o out hcal hAF => fw_j_callSN hd hm hki c2 c3 c4 c1 c6 hcal hAF
        · rcases fw_mr_2 hm with rfl | rfl
          · exact fun o out hcal hAF => fw_j_callSX hd hm hki c2 c3 c4 c1 c6 hcal hAF
          · obtain ⟨q, hq, q1, q2, q3, q4⟩ := fw_mr_find hm
            have := (fw_nest_ok q hq q4).2
            rw [q3] at this
            omega
      · cases h
    · cases h
theorem fw_k_ireturn {k pc : Nat}  {ll st : List fw_V} {σ : fw_M} {act : fw_A} (hd : fw_dec k pc = some (.ireturn, 1)) (h : fw_si k pc ll st σ (.ireturn) = some act) : fw_sr k pc ll st σ act := by
    simp only [fw_si, fw_nx, fw_fi] at h
    split at h
    · split at h
      · rename_i hc
        cases h
        refine fw_j_ret hd (fun al b cst hT => ?_)
        obtain ⟨v, r, rfl, hv, hT⟩ := fw_St_cons hT
        have := fw_St_nil hT
        subst this
        obtain ⟨z, rfl, ez⟩ := hv
        exact Or.inr (Or.inl ⟨rfl, rfl, hc, z, ez, rfl⟩)
      · cases h
    · cases h
theorem fw_k_lreturn {k pc : Nat}  {ll st : List fw_V} {σ : fw_M} {act : fw_A} (hd : fw_dec k pc = some (.lreturn, 1)) (h : fw_si k pc ll st σ (.lreturn) = some act) : fw_sr k pc ll st σ act := by
    simp only [fw_si, fw_nx, fw_fi] at h
    split at h
    · split at h
      · rename_i hc
        cases h
        refine fw_j_ret hd (fun al b cst hT => ?_)
        obtain ⟨v, r, rfl, hv, hT⟩ := fw_St_cons hT
        have := fw_St_nil hT
        subst this
        obtain ⟨z, rfl, ez⟩ := hv
        exact Or.inr (Or.inr (Or.inl ⟨rfl, rfl, hc, z, ez, rfl⟩))
      · cases h
    · cases h
theorem fw_k_areturn {k pc : Nat}  {ll st : List fw_V} {σ : fw_M} {act : fw_A} (hd : fw_dec k pc = some (.areturn, 1)) (h : fw_si k pc ll st σ (.areturn) = some act) : fw_sr k pc ll st σ act := by
    simp only [fw_si, fw_nx, fw_fi] at h
    split at h
    · split at h
      · rename_i hc
        cases h
        refine fw_j_ret hd (fun al b cst hT => ?_)
        obtain ⟨v, r, rfl, hv, hT⟩ := fw_St_cons hT
        have := fw_St_nil hT
        subst this
        exact Or.inr (Or.inr (Or.inr (Or.inl ⟨rfl, rfl, hc, v, hv, rfl⟩)))
      · cases h
    · cases h
theorem fw_k_dreturn {k pc : Nat}  {ll st : List fw_V} {σ : fw_M} {act : fw_A} (hd : fw_dec k pc = some (.dreturn, 1)) (h : fw_si k pc ll st σ (.dreturn) = some act) : fw_sr k pc ll st σ act := by
    simp only [fw_si, fw_nx, fw_fi] at h
    split at h
    · split at h
      · rename_i hc
        cases h
        refine fw_j_ret hd (fun al b cst hT => ?_)
        obtain ⟨v, r, rfl, hv, hT⟩ := fw_St_cons hT
        have := fw_St_nil hT
        subst this
        obtain ⟨z, rfl, ez⟩ := hv
        exact Or.inr (Or.inr (Or.inr (Or.inr (Or.inl ⟨rfl, rfl, hc, z, ez, rfl⟩))))
      · cases h
    · cases h
theorem fw_k_freturn {k pc : Nat}  {ll st : List fw_V} {σ : fw_M} {act : fw_A} (hd : fw_dec k pc = some (.freturn, 1)) (h : fw_si k pc ll st σ (.freturn) = some act) : fw_sr k pc ll st σ act := by
    simp only [fw_si, fw_nx, fw_fi] at h
    split at h
    · split at h
      · rename_i hc
        cases h
        refine fw_j_ret hd (fun al b cst hT => ?_)
        obtain ⟨v, r, rfl, hv, hT⟩ := fw_St_cons hT
        have := fw_St_nil hT
        subst this
        obtain ⟨z, rfl, ez⟩ := hv
        exact Or.inr (Or.inr (Or.inr (Or.inr (Or.inr ⟨rfl, rfl, hc, z, ez, rfl⟩))))
      · cases h
    · cases h
theorem fw_k_return_ {k pc : Nat}  {ll st : List fw_V} {σ : fw_M} {act : fw_A} (hd : fw_dec k pc = some (.return_, 1)) (h : fw_si k pc ll st σ (.return_) = some act) : fw_sr k pc ll st σ act := by
    simp only [fw_si, fw_nx, fw_fi] at h
    split at h
    · rename_i hc
      cases h
      obtain ⟨c1, rfl⟩ := hc
      refine fw_j_ret hd (fun al b cst hT => ?_)
      have := fw_St_nil hT
      subst this
      exact Or.inl ⟨rfl, rfl, c1, rfl⟩
    · cases h
theorem fw_si_ok {k pc n : Nat} {i : Instr} {ll st : List fw_V} {σ : fw_M} {act : fw_A} (hd : fw_dec k pc = some (i, n)) (hn : fw_il i n = true) (h : fw_si k pc ll st σ i = some act) : fw_sr k pc ll st σ act := by
  cases i with
  | iconst x0 => exact fw_k_iconst (by rw [hd, show n = 1 from eq_of_beq hn]) h
  | bipush x0 => exact fw_k_bipush (by rw [hd, show n = 2 from eq_of_beq hn]) h
  | sipush x0 => exact fw_k_sipush (by rw [hd, show n = 3 from eq_of_beq hn]) h
  | lconst x0 => exact fw_k_lconst (by rw [hd, show n = 1 from eq_of_beq hn]) h
  | fconst x0 => exact fw_k_fconst (by rw [hd, show n = 1 from eq_of_beq hn]) h
  | dconst x0 => exact fw_k_dconst (by rw [hd, show n = 1 from eq_of_beq hn]) h
  | aconst_null  => exact fw_k_aconst_null (by rw [hd, show n = 1 from eq_of_beq hn]) h
  | ldc x0 => exact fw_k_ldc (by rw [hd, show n = 2 from eq_of_beq hn]) h
  | ldc2_w x0 => exact fw_k_ldc2_w (by rw [hd, show n = 3 from eq_of_beq hn]) h
  | iload_n x0 => exact fw_k_iload_n (by rw [hd, show n = 1 from eq_of_beq hn]) h
  | iload x0 => exact fw_k_iload (by rw [hd, show n = 2 from eq_of_beq hn]) h
  | aload_n x0 => exact fw_k_aload_n (by rw [hd, show n = 1 from eq_of_beq hn]) h
  | aload x0 => exact fw_k_aload (by rw [hd, show n = 2 from eq_of_beq hn]) h
  | lload_n x0 => exact fw_k_lload_n (by rw [hd, show n = 1 from eq_of_beq hn]) h
  | lload x0 => exact fw_k_lload (by rw [hd, show n = 2 from eq_of_beq hn]) h
  | fload x0 => exact fw_k_fload (by rw [hd, show n = 2 from eq_of_beq hn]) h
  | istore_n x0 => exact fw_k_istore_n (by rw [hd, show n = 1 from eq_of_beq hn]) h
  | istore x0 => exact fw_k_istore (by rw [hd, show n = 2 from eq_of_beq hn]) h
  | fstore x0 => exact fw_k_fstore (by rw [hd, show n = 2 from eq_of_beq hn]) h
  | astore_n x0 => exact fw_k_astore_n (by rw [hd, show n = 1 from eq_of_beq hn]) h
  | astore x0 => exact fw_k_astore (by rw [hd, show n = 2 from eq_of_beq hn]) h
  | lstore_n x0 => exact fw_k_lstore_n (by rw [hd, show n = 1 from eq_of_beq hn]) h
  | lstore x0 => exact fw_k_lstore (by rw [hd, show n = 2 from eq_of_beq hn]) h
  | iinc x0 x1 => exact fw_k_iinc (by rw [hd, show n = 3 from eq_of_beq hn]) h
  | iadd  => exact fw_k_iadd (by rw [hd, show n = 1 from eq_of_beq hn]) h
  | isub  => exact fw_k_isub (by rw [hd, show n = 1 from eq_of_beq hn]) h
  | imul  => exact fw_k_imul (by rw [hd, show n = 1 from eq_of_beq hn]) h
  | ladd  => exact fw_k_ladd (by rw [hd, show n = 1 from eq_of_beq hn]) h
  | lcmp  => exact fw_k_lcmp (by rw [hd, show n = 1 from eq_of_beq hn]) h
  | i2l  => exact fw_k_i2l (by rw [hd, show n = 1 from eq_of_beq hn]) h
  | i2d  => exact fw_k_i2d (by rw [hd, show n = 1 from eq_of_beq hn]) h
  | i2f  => exact fw_k_i2f (by rw [hd, show n = 1 from eq_of_beq hn]) h
  | l2d  => exact fw_k_l2d (by rw [hd, show n = 1 from eq_of_beq hn]) h
  | dup2  => exact fw_k_dup2 (by rw [hd, show n = 1 from eq_of_beq hn]) h
  | iand  => exact fw_k_iand (by rw [hd, show n = 1 from eq_of_beq hn]) h
  | ishr  => exact fw_k_ishr (by rw [hd, show n = 1 from eq_of_beq hn]) h
  | lmul  => exact fw_k_lmul (by rw [hd, show n = 1 from eq_of_beq hn]) h
  | l2i  => exact fw_k_l2i (by rw [hd, show n = 1 from eq_of_beq hn]) h
  | dup_x2  => exact fw_k_dup_x2 (by rw [hd, show n = 1 from eq_of_beq hn]) h
  | irem  => exact fw_k_irem (by rw [hd, show n = 1 from eq_of_beq hn]) h
  | lrem  => exact fw_k_lrem (by rw [hd, show n = 1 from eq_of_beq hn]) h
  | f2d  => exact fw_k_f2d (by rw [hd, show n = 1 from eq_of_beq hn]) h
  | ddiv  => exact fw_k_ddiv (by rw [hd, show n = 1 from eq_of_beq hn]) h
  | fdiv  => exact fw_k_fdiv (by rw [hd, show n = 1 from eq_of_beq hn]) h
  | dcmp x0 => exact fw_k_dcmp (by rw [hd, show n = 1 from eq_of_beq hn]) h
  | fcmp x0 => exact fw_k_fcmp (by rw [hd, show n = 1 from eq_of_beq hn]) h
  | dup  => exact fw_k_dup (by rw [hd, show n = 1 from eq_of_beq hn]) h
  | pop  => exact fw_k_pop (by rw [hd, show n = 1 from eq_of_beq hn]) h
  | goto x0 => exact fw_k_goto (by rw [hd, show n = 3 from eq_of_beq hn]) h
  | ifCond x0 x1 => exact fw_k_ifCond (by rw [hd, show n = 3 from eq_of_beq hn]) h
  | if_icmp x0 x1 => exact fw_k_if_icmp (by rw [hd, show n = 3 from eq_of_beq hn]) h
  | ifnull x0 => exact fw_k_ifnull (by rw [hd, show n = 3 from eq_of_beq hn]) h
  | ifnonnull x0 => exact fw_k_ifnonnull (by rw [hd, show n = 3 from eq_of_beq hn]) h
  | tableswitch x0 x1 x2 x3 => exact fw_k_tableswitch hd h
  | iaload  => exact fw_k_iaload (by rw [hd, show n = 1 from eq_of_beq hn]) h
  | caload  => exact fw_k_caload (by rw [hd, show n = 1 from eq_of_beq hn]) h
  | baload  => exact fw_k_baload (by rw [hd, show n = 1 from eq_of_beq hn]) h
  | laload  => exact fw_k_laload (by rw [hd, show n = 1 from eq_of_beq hn]) h
  | daload  => exact fw_k_daload (by rw [hd, show n = 1 from eq_of_beq hn]) h
  | aaload  => exact fw_k_aaload (by rw [hd, show n = 1 from eq_of_beq hn]) h
  | iastore  => exact fw_k_iastore (by rw [hd, show n = 1 from eq_of_beq hn]) h
  | lastore  => exact fw_k_lastore (by rw [hd, show n = 1 from eq_of_beq hn]) h
  | dastore  => exact fw_k_dastore (by rw [hd, show n = 1 from eq_of_beq hn]) h
  | castore  => exact fw_k_castore (by rw [hd, show n = 1 from eq_of_beq hn]) h
  | bastore  => exact fw_k_bastore (by rw [hd, show n = 1 from eq_of_beq hn]) h
  | aastore  => exact fw_k_aastore (by rw [hd, show n = 1 from eq_of_beq hn]) h
  | arraylength  => exact fw_k_arraylength (by rw [hd, show n = 1 from eq_of_beq hn]) h
  | getfield x0 => exact fw_k_getfield (by rw [hd, show n = 3 from eq_of_beq hn]) h
  | putfield x0 => exact fw_k_putfield (by rw [hd, show n = 3 from eq_of_beq hn]) h
  | new x0 => exact fw_k_new (by rw [hd, show n = 3 from eq_of_beq hn]) h
  | newarray x0 => exact fw_k_newarray (by rw [hd, show n = 2 from eq_of_beq hn]) h
  | anewarray x0 => exact fw_k_anewarray (by rw [hd, show n = 3 from eq_of_beq hn]) h
  | multianewarray x0 x1 => exact fw_k_multianewarray (by rw [hd, show n = 4 from eq_of_beq hn]) h
  | invokevirtual x0 => exact fw_k_invokevirtual (by rw [hd, show n = 3 from eq_of_beq hn]) h
  | invokespecial x0 => exact fw_k_invokespecial (by rw [hd, show n = 3 from eq_of_beq hn]) h
  | invokestatic x0 => exact fw_k_invokestatic (by rw [hd, show n = 3 from eq_of_beq hn]) h
  | ireturn  => exact fw_k_ireturn (by rw [hd, show n = 1 from eq_of_beq hn]) h
  | lreturn  => exact fw_k_lreturn (by rw [hd, show n = 1 from eq_of_beq hn]) h
  | areturn  => exact fw_k_areturn (by rw [hd, show n = 1 from eq_of_beq hn]) h
  | dreturn  => exact fw_k_dreturn (by rw [hd, show n = 1 from eq_of_beq hn]) h
  | freturn  => exact fw_k_freturn (by rw [hd, show n = 1 from eq_of_beq hn]) h
  | return_  => exact fw_k_return_ (by rw [hd, show n = 1 from eq_of_beq hn]) h
  | _ => cases h
theorem fw_s1_ok {k pc : Nat} {ll st : List fw_V} {σ : fw_M} {act : fw_A} (h : fw_s1 k pc ll st σ = some act) : fw_sr k pc ll st σ act := by
  unfold fw_s1 at h
  split at h
  · rename_i i n hd
    split at h
    · rename_i hn
      exact fw_si_ok hd hn h
    · cases h
  · cases h
theorem fw_sound : ∀ (n k pc : Nat) (ll st : List fw_V) (σ : fw_M) (out : fw_O), fw_ev n k pc ll st σ = some out → fw_J k pc ll st σ out := by
  intro n
  induction n with
  | zero => intro k pc ll st σ out h; cases h
  | succ n ih =>
    intro k pc ll st σ out h
    unfold fw_ev at h
    split at h
    · cases h
    · rename_i pc' ll' st' σ' hs
      exact fw_s1_ok hs out (ih _ _ _ _ _ _ h)
    · rename_i o hs
      cases h
      exact fw_s1_ok hs
    · rename_i c as rest hs
      split at h
      · cases h
      · rename_i o hc
        split at h
        · cases h
        · rename_i pc' ll' st' σ' ha
          refine fw_s1_ok hs o out (ih _ _ _ _ _ _ hc) (Or.inl ⟨pc', ll', st', ?_⟩)
          have : σ' = o.2 := by
            unfold fw_af at ha
            split at ha
            · split at ha
              · cases ha; rfl
              · split at ha <;> cases ha
            · split at ha
              · cases ha; rfl
              · cases ha; rfl
          subst this
          exact ⟨ha, ih _ _ _ _ _ _ h⟩
        · rename_i o' ha
          cases h
          refine fw_s1_ok hs o _ (ih _ _ _ _ _ _ hc) (Or.inr ⟨ha, ?_⟩)
          unfold fw_af at ha
          split at ha
          · split at ha
            · cases ha
            · split at ha
              · cases ha; rfl
              · cases ha
          · split at ha <;> cases ha
end
section
/-! THE CLAIM OUT OF ONE WALK OF THE LAW'S BODY. Your part is whole_start (and what it stands on); all else here is the same for every law, but numbers. -/
def R_law : String := "CrossdockSorterLaw"
def lw_P (b : Addr) (xs : List Int32) (args : Array Value) (s : State) : Prop := args = #[.ref b] ∧ s.IntsAt b xs ∧ xs.length ≤ 260 ∧ (Jvm.Cond.and given_1 narrow_1).before args s = true
/-- what a walk over the start with the record d0 says of its end, said of the start itself -/
theorem lw_closed {s t : State} {o : Outcome} {d0 : Drawn} {L : List Loc} {k n : Nat} (hd0 : s.drawn.sameBut d0 lw_cs) (hv : ∃ v, o = .returned v) (hW : (s.setDrawn d0).WarmedH t.vm) (hs : (s.setDrawn d0).sameButNew ({ t with vm := s.vm } : State) L k n) : State.butDraws s t lw_cs (fun t1 => Framed s o t1 L k n) := by
  have h2 : t.drawn = d0 := congrArg State.drawn hs.1
  refine ⟨⟨hv, hW, State.sameButNew.setDrawn hs s.drawn⟩, ?_, by decide⟩
  rw [h2]
  exact hd0
def lw_Q (_ : Array Value) (s : State) (o : Outcome) (t : State) : Prop := o = .returned (some (.int 1)) ∧ State.butDraws s t lw_cs (fun t1 => Framed s o t1 [] 676181 7072639)
def lw_Z (below : List Frame) (a : Array Value) (s : State) : State → Prop := fun t => ∃ o, t.status = .running ∧ Ended t below o ∧ lw_Q a s o t
/-- the law's own end, with 1 on the stack, nothing written that was there before, its room as the claim has it; d0: the record of draws at this point (at the entry s.drawn: begin with 'refine W.base ?_' and 'have hd0 := Drawn.sameBut.refl s.drawn lw_cs') -/
theorem lw_ret {p : Program} {l : Launch} {e : Env} {s : State} {m : MethodId} {below : List Frame} {meth : Method} {c : Code} {b : Nat} {d0 : Drawn} (hd0 : s.drawn.sameBut d0 lw_cs) (hx : p.tables.exec = Jvm.exec) (hb : c.code = code) (hr : meth.sig.returnType = ret) (hlocks : meth.locks = false) {pc : Nat} {H : Heap} {ls : Array Slot} (hdg : decode code pc = .ok (.ireturn, 1)) : W p l e room_1 (s.setDrawn d0) m #[Value.ref b] below meth c H [] 676181 7072639 (lw_Z below #[Value.ref b] s) (F0 m pc ls [.int 1]) := by
  intro T hT X
  obtain ⟨fs, hret, hrun, hended, hW, hframe⟩ := X.leave (v := some (.int 1)) (hlocks := hlocks) (fun h => by rw [hr] at h; cases h)
  have hmeth' : T.vm.method? m = some meth := X.method'
  refine ⟨T.setFrames fs, ?_, .returned (some (.int 1)), hrun, hended, rfl, lw_closed hd0 ⟨_, rfl⟩ hW hframe⟩
  jvm_step X.here [X.here.top, hx, hb, hdg, hmeth', hr, ret, narrow_b1]
  (try refine ⟨rfl, ?_⟩); (try refine ⟨rfl, ?_⟩)
  first | (intro acts; rw [hret _ acts rfl rfl rfl]) | rw [hret _ _ rfl rfl rfl]
  exact Steps.refl _
/-- what holds at the law's entry: the machine, the code, the tables' words (any of lw_tbl by 'hts w (by decide +kernel)'), the script of L ints xs at the cell b, what the Statement gives of the start (any of its parts by flat_of_before) -/
def lw_At (p : Program) (s : State) (m : MethodId) (meth : Method) (c : Code) (b L : Nat) (xs : Nat → Int32) : Prop :=
  p.tables.exec = Jvm.exec ∧ c.code = code ∧ meth.sig.returnType = ret ∧ c.maxLocals = 5 ∧ s.vm.findClass R_law = some m.cls ∧ (∀ w ∈ lw_tbl, w.before #[Value.ref b] s = true) ∧ va_X b L xs s s.heap ∧ b < s.heap.size ∧ meth.locks = false ∧ (Jvm.Cond.and given_1 narrow_1).before #[Value.ref b] s = true

/-- the small machine's cells at the law's entry -/
def fw_s0 (L : Nat) (xs : Nat → Int32) : fw_M := fun a j => if a = -1 then (if j = 0 then 1 else 0) else if a = -2 then (xs j.toNat).toInt else if a = -3 then (L : Int) else 0
theorem fw_nc_ok : ∀ q ∈ fw_nc, Cond.not (.castable (fw_xn q.1) (fw_xn q.2)) ∈ flatC (Jvm.Cond.and given_1 narrow_1) := by decide +kernel
theorem fw_na_ok : Cond.isRef (.static Bundle.tN "UNASSIGNED_STACK" Bundle.steD) ∈ flatC (Jvm.Cond.and given_1 narrow_1) ∧ Cond.isRef (.static Bundle.tN "SUPPRESSED_SENTINEL" Bundle.listD) ∈ flatC (Jvm.Cond.and given_1 narrow_1) := by decide +kernel
theorem fw_Z0 {s : State} {b : Nat} (hts : ∀ w ∈ lw_tbl, w.before #[Value.ref b] s = true) (hgv : (Jvm.Cond.and given_1 narrow_1).before #[Value.ref b] s = true) : fw_Z s.heap.size s s.heap := by
  have hs := flat_of_before _ hgv
  have hA : ∀ a : Nat, a < s.heap.size → ¬ (fun q => s.heap.size ≤ q) a := fun a h => Nat.not_le.mpr h
  refine ⟨vx_Zqof (hts _ (fw_tw 2 51 rfl)) (hts _ (fw_tw 1 11 rfl)) (hs _ fw_na_ok.1) hA, vx_Zqof (hts _ (fw_tw 2 53 rfl)) (hts _ (fw_tw 1 11 rfl)) (hs _ fw_na_ok.2) hA, fun w hw => va_Nw.of (fw_nz_tbl w hw).2 (hts w (fw_nz_tbl w hw).1), fun q hq => va_Nc.of (hs _ (fw_nc_ok q hq)), va_AO.of (hts _ (fw_tw 1 112 rfl)), va_AOA.of (hts _ (fw_tw 3 106 rfl))⟩
theorem fw_H0 {s : State} {b L : Nat} {xs : Nat → Int32} (hts : ∀ w ∈ lw_tbl, w.before #[Value.ref b] s = true) : ∃ D : va_G, fw_H s.heap.size b L xs D (fw_s0 L xs) [] [] s s.heap := by
  have hw : ∀ w ∈ fw_ws, w.before #[Value.ref b] s = true := fun w h => hts w (fw_ws_tbl w h)
  have h1 : ∀ c, ∃ (cC : ClassId) (iS : Nat → Nat), c < 10 → u_Kn s (fw_CN c) (fw_CT c) (fw_nf c) cC iS := by
    intro c
    by_cases hc : c < 10
    · obtain ⟨cC, iS, h⟩ := u_known hw (fw_uw c hc) (hw _ (fw_ins c hc))
      exact ⟨cC, iS, fun _ => h⟩
    · exact ⟨0, fun _ => 0, fun h => absurd h hc⟩
  obtain ⟨dC, h2⟩ := Classical.axiomOfChoice h1
  obtain ⟨dI, h3⟩ := Classical.axiomOfChoice h2
  refine ⟨(fun k => dC (k - 2), fun k => dI (k - 2)), ⟨fun c q hq => ?_, fun k q h => by simp at h⟩, fun k q h => by simp at h, ⟨fun i j p q h => by simp at h, fun k q h => by simp at h⟩, rfl, fun k q h => by simp at h, rfl, fun j hj => rfl⟩
  match c, hq with
  | 0, hq => cases hq; exact h3 0 (by decide)
  | 1, hq => cases hq; exact h3 0 (by decide)
  | c + 2, hq =>
    have hc : c < 10 := by
      have := (List.getElem?_eq_some_iff.mp hq).1
      have h9 : fw_Cl.length = 12 := rfl
      omega
    rw [fw_cl c hc] at hq
    cases hq
    exact h3 c hc
/-- the claim's walk, out of the law's run on the small machine -/
theorem fw_start {p : Program} {e : Env} {s : State} {m : MethodId} {below : List Frame} {meth : Method} {c : Code} (l : Launch) (hflags : l.flags = flags0) {b L : Nat} {xs : Nat → Int32} (C0 : lw_At p s m meth c b L xs)
    (hrun : ∃ (n : Nat) (σ : fw_M), fw_ev n 0 0 (fw_en 0 [(6, 0)]) [] (fw_s0 L xs) = some ((0, 1), σ) ∧ σ (-1) 1 ≤ 676181 ∧ σ (-1) 2 ≤ 7072639) : W p l e room_1 s m #[Value.ref b] below meth c s.heap [] 0 0 (lw_Z below #[Value.ref b] s) (entryFrame m ([Value.ref b] : List Value).toArray 5) := by
  obtain ⟨hx, hb, hr, hml, hown, hts, hX, hbl, hlocks, hgv⟩ := id C0
  obtain ⟨n, σ, hev, hc, hsl⟩ := hrun
  have hJ := fw_sound _ _ _ _ _ _ _ hev
  obtain ⟨D, hH⟩ := fw_H0 (b := b) (L := L) (xs := xs) hts
  have htr : l.stackTraces = false := by
    unfold Launch.stackTraces
    rw [hflags]
    decide
  rw [lg_entry_eq]
  have hT : fw_St (fw_al []) b [(6, 0)] [Value.ref b] := ⟨rfl, trivial⟩
  refine hJ.2 s.heap.size b L xs D p l e room_1 s m #[Value.ref b] below meth c (lw_Z below #[Value.ref b] s) [] 0 0 ⟨hx, hb, hml, hown, fun w h => hts w (fw_ws_tbl w h), hlocks, fun h => absurd rfl h, fun h => absurd h (by decide +kernel), htr, by decide +kernel, by decide +kernel, fw_Z0 hts hgv, Nat.le_refl _, ⟨hX, hbl, hbl⟩, hr, by decide⟩ ⟨?_, fun h => absurd h (show ¬ (0 : Nat) = 9 by decide), fun σ ik ic x h => ?_⟩ ?_ ?_ [] [] s.heap [] 0 0 _ [] hH va_S.rf (List.prefix_refl _) rfl rfl (fw_L_entry hT (fun a ha => ?_) (by decide +kernel)) trivial
  · intro tys ws H locs cells slots pc ls cst i hd hH1 hS1 hal h1 h2 hv
    have hi : i = .ireturn ∧ ∃ z : Int32, (1 : Int) = z.toInt ∧ cst = [.int z] := by
      rcases hv with ⟨h, -⟩ | ⟨-, hi, -, z, hz, hc⟩ | ⟨h, -⟩ | ⟨h, -⟩ | ⟨h, -⟩ | ⟨h, -⟩
      · exact absurd (congrArg Prod.fst h) (show ¬ (0 : Nat) = 5 by decide)
      · exact ⟨hi, z, hz, hc⟩
      · exact absurd h (show ¬ (0 : Nat) = 1 by decide)
      · exact absurd h (show ¬ (0 : Nat) = 2 by decide)
      · exact absurd h (show ¬ (0 : Nat) = 3 by decide)
      · exact absurd h (show ¬ (0 : Nat) = 4 by decide)
    obtain ⟨rfl, z, hz, rfl⟩ := hi
    have hz1 : z = 1 := Int32.toInt_inj.mp (by rw [← hz]; rfl)
    subst hz1
    have h1 : (cells : Int) = σ (-1) 1 - 0 := h1
    have h2 : (slots : Int) = σ (-1) 2 - 0 := h2
    refine va_forget (fun q hq => hS1.2.2 q hq) ?_
    refine W.widen (k := 676181) (n := 7072639) (by omega) (by omega) ?_
    exact lw_ret (Drawn.sameBut.refl s.drawn lw_cs) hx hb hr hlocks hd
  · exact absurd (congrArg Prod.fst h) (show (0 : Nat) ≠ 9 by decide)
  · show σ (-1) 1 - 0 ≤ ((676181 : Nat) : Int)
    omega
  · show σ (-1) 2 - 0 ≤ ((7072639 : Nat) : Int)
    omega
  · rcases List.mem_cons.mp ha with rfl | h
    · exact ⟨show (6 : Nat) ≠ 1 by decide, show (6 : Nat) ≠ 3 by decide⟩
    · cases h
end
section
/-! the small machine without fuel: equations -/
theorem fw_ev_mono : ∀ (n k pc : Nat) (ll st : List fw_V) (σ : fw_M) (o : fw_O), fw_ev n k pc ll st σ = some o → fw_ev (n + 1) k pc ll st σ = some o := by
  intro n
  induction n with
  | zero => intro k pc ll st σ o h; cases h
  | succ n ih =>
    intro k pc ll st σ o h
    rw [fw_ev] at h ⊢
    cases hs : fw_s1 k pc ll st σ with
    | none => rw [hs] at h; cases h
    | some act =>
      rw [hs] at h
      match act, h with
      | .inl (pc', ll', st', σ'), h => exact ih _ _ _ _ _ _ h
      | .inr (.inl o'), h => exact h
      | .inr (.inr (c, as, rest)), h =>
        dsimp only at h ⊢
        cases hc : fw_ev n c 0 (fw_en c as) [] σ with
        | none => rw [hc] at h; cases h
        | some o1 =>
          rw [hc] at h
          rw [ih _ _ _ _ _ _ hc]
          dsimp only at h ⊢
          cases ha : fw_af k pc ll rest o1 with
          | none => rw [ha] at h; cases h
          | some r =>
            rw [ha] at h
            match r, h with
            | .inl (pc', ll', st', σ'), h => exact ih _ _ _ _ _ _ h
            | .inr o', h => exact h
theorem fw_ev_le {n m k pc : Nat} {ll st : List fw_V} {σ : fw_M} {o : fw_O} (h : fw_ev n k pc ll st σ = some o) (hm : n ≤ m) : fw_ev m k pc ll st σ = some o := by
  obtain ⟨d, rfl⟩ := Nat.le.dest hm
  induction d with
  | zero => exact h
  | succ d ih => exact fw_ev_mono _ _ _ _ _ _ _ (ih (by omega))
noncomputable def fw_E (k pc : Nat) (ll st : List fw_V) (σ : fw_M) : Option fw_O := @dite _ (∃ (o : fw_O) (n : Nat), fw_ev n k pc ll st σ = some o) (Classical.propDecidable _) (fun h => some (Classical.choose h)) (fun _ => none)
theorem fw_E_of {n k pc : Nat} {ll st : List fw_V} {σ : fw_M} {o : fw_O} (h : fw_ev n k pc ll st σ = some o) : fw_E k pc ll st σ = some o := by
  unfold fw_E
  have hx : ∃ (o : fw_O) (n : Nat), fw_ev n k pc ll st σ = some o := ⟨o, n, h⟩
  rw [dif_pos hx]
  obtain ⟨m, hm⟩ := Classical.choose_spec hx
  have h1 := fw_ev_le h (Nat.le_max_left n m)
  have h2 := fw_ev_le hm (Nat.le_max_right n m)
  exact h2.symm.trans h1
theorem fw_E_to {k pc : Nat} {ll st : List fw_V} {σ : fw_M} {o : fw_O} (h : fw_E k pc ll st σ = some o) : ∃ n : Nat, fw_ev n k pc ll st σ = some o := by
  unfold fw_E at h
  split at h
  · rename_i hx
    cases h
    exact Classical.choose_spec hx
  · cases h
theorem fw_E_ext {k pc k' pc' : Nat} {ll st ll' st' : List fw_V} {σ σ' : fw_M} (h : ∀ o, (∃ n, fw_ev n k pc ll st σ = some o) ↔ ∃ n, fw_ev n k' pc' ll' st' σ' = some o) : fw_E k pc ll st σ = fw_E k' pc' ll' st' σ' := by
  apply Option.ext
  intro o
  constructor
  · intro h1
    obtain ⟨n, hn⟩ := (h o).mp (fw_E_to h1)
    exact fw_E_of hn
  · intro h1
    obtain ⟨n, hn⟩ := (h o).mpr (fw_E_to h1)
    exact fw_E_of hn
theorem fw_E_nx {k pc pc' : Nat} {ll st ll' st' : List fw_V} {σ σ' : fw_M} (h : fw_s1 k pc ll st σ = some (.inl (pc', ll', st', σ'))) : fw_E k pc ll st σ = fw_E k pc' ll' st' σ' := by
  refine fw_E_ext (fun o => ⟨?_, ?_⟩)
  · rintro ⟨n, hn⟩
    match n, hn with
    | 0, hn => cases hn
    | n + 1, hn => rw [fw_ev, h] at hn; exact ⟨n, hn⟩
  · rintro ⟨n, hn⟩
    exact ⟨n + 1, by rw [fw_ev, h]; exact hn⟩
theorem fw_E_fi {k pc : Nat} {ll st : List fw_V} {σ : fw_M} {o : fw_O} (h : fw_s1 k pc ll st σ = some (.inr (.inl o))) : fw_E k pc ll st σ = some o :=
  fw_E_of (n := 1) (by rw [fw_ev, h])
noncomputable def fw_cn (k pc : Nat) (ll rest : List fw_V) (o : fw_O) : Option fw_O := match fw_af k pc ll rest o with
  | none => none
  | some (.inl (pc', ll', st', σ')) => fw_E k pc' ll' st' σ'
  | some (.inr o') => some o'
theorem fw_E_ca {k pc c : Nat} {ll st as rest : List fw_V} {σ : fw_M} (h : fw_s1 k pc ll st σ = some (.inr (.inr (c, as, rest)))) : fw_E k pc ll st σ = (fw_E c 0 (fw_en c as) [] σ).bind (fw_cn k pc ll rest) := by
  apply Option.ext
  intro o
  constructor
  · intro h1
    obtain ⟨n, hn⟩ := fw_E_to h1
    match n, hn with
    | 0, hn => cases hn
    | n + 1, hn =>
      rw [fw_ev, h] at hn
      dsimp only at hn
      cases hc : fw_ev n c 0 (fw_en c as) [] σ with
      | none => rw [hc] at hn; cases hn
      | some o1 =>
        rw [hc] at hn
        rw [fw_E_of hc]
        show fw_cn k pc ll rest o1 = some o
        unfold fw_cn
        dsimp only at hn
        cases ha : fw_af k pc ll rest o1 with
        | none => rw [ha] at hn; cases hn
        | some r =>
          rw [ha] at hn
          match r, hn with
          | .inl (pc', ll', st', σ'), hn => exact fw_E_of hn
          | .inr o', hn => exact hn
  · intro h1
    cases hc : fw_E c 0 (fw_en c as) [] σ with
    | none => rw [hc] at h1; cases h1
    | some o1 =>
      rw [hc] at h1
      obtain ⟨n, hn⟩ := fw_E_to hc
      have h2 : fw_cn k pc ll rest o1 = some o := h1
      unfold fw_cn at h2
      cases ha : fw_af k pc ll rest o1 with
      | none => rw [ha] at h2; cases h2
      | some r =>
        rw [ha] at h2
        match r, ha, h2 with
        | .inl (pc', ll', st', σ'), ha, h2 =>
          obtain ⟨m, hm⟩ := fw_E_to h2
          refine fw_E_of (n := max n m + 1) ?_
          rw [fw_ev, h]
          dsimp only
          rw [fw_ev_le hn (Nat.le_max_left n m)]
          dsimp only
          rw [ha]
          exact fw_ev_le hm (Nat.le_max_right n m)
        | .inr o', ha, h2 =>
          refine fw_E_of (n := n + 1) ?_
          rw [fw_ev, h]
          dsimp only
          rw [hn]
          dsimp only
          rw [ha]
          exact h2
/-! a read of the memory -/
def fw_r (σ : fw_M) (a b : Int) : Int := σ a b
theorem fw_r_u (σ : fw_M) (k j v a b : Int) : fw_r (fw_u σ k j v) a b = if a = k ∧ b = j then v else fw_r σ a b := rfl
theorem fw_r_k (σ : fw_M) {k j v a b : Int} (h : a ≠ k) : fw_r (fw_u σ k j v) a b = fw_r σ a b := by rw [fw_r_u, if_neg (fun h1 => h h1.1)]
theorem fw_r_j (σ : fw_M) {k j v a b : Int} (h : b ≠ j) : fw_r (fw_u σ k j v) a b = fw_r σ a b := by rw [fw_r_u, if_neg (fun h1 => h h1.2)]
theorem fw_r_s (σ : fw_M) (k j v : Int) : fw_r (fw_u σ k j v) k j = v := by rw [fw_r_u, if_pos ⟨rfl, rfl⟩]
theorem fw_r_e (σ : fw_M) {k j v a b : Int} (h : a = k) (h2 : b = j) : fw_r (fw_u σ k j v) a b = v := by rw [fw_r_u, if_pos ⟨h, h2⟩]
theorem fw_r_x (σ : fw_M) (a b : Int) (h : a ≠ -1) : fw_r (fw_ex σ) a b = fw_r σ a b := by
  unfold fw_r fw_ex
  rw [if_neg h]
theorem fw_w_id {x : Int} (h0 : -2147483648 ≤ x) (h1 : x ≤ 2147483647) : fw_w x = x := by
  unfold fw_w; rw [Int.bmod_def]; split <;> omega
theorem fw_wl_id {x : Int} (h0 : -9223372036854775808 ≤ x) (h1 : x ≤ 9223372036854775807) : fw_wl x = x := by
  unfold fw_wl; rw [Int.bmod_def]; split <;> omega
end
section
/-! instructions as equations -/
theorem fw_e_i {k pc n : Nat} {i : Instr} {ll st : List fw_V} {σ : fw_M} (hd : fw_dec k pc = some (i, n)) (hl : fw_il i n = true) : fw_s1 k pc ll st σ = fw_si k pc ll st σ i := by
  unfold fw_s1
  rw [hd]
  exact if_pos hl
theorem fw_e_iconst {k pc : Nat} {ll st : List fw_V} {σ : fw_M} {n : Int} {z : Int} (hd : fw_dec k pc = some (.iconst n, 1)) (hz : (Int32.ofInt n).toInt = z) : fw_E k pc ll st σ = fw_E k (pc + 1) ll ((0, z) :: st) σ := fw_E_nx (by
  rw [fw_e_i hd rfl]
  unfold fw_si
  rw [← hz]; rfl)
theorem fw_e_bipush {k pc : Nat} {ll st : List fw_V} {σ : fw_M} {n : Int} {z : Int} (hd : fw_dec k pc = some (.bipush n, 2)) (hz : (Int8.ofInt n).toInt32.toInt = z) : fw_E k pc ll st σ = fw_E k (pc + 2) ll ((0, z) :: st) σ := fw_E_nx (by
  rw [fw_e_i hd rfl]
  unfold fw_si
  rw [← hz]; rfl)
theorem fw_e_sipush {k pc : Nat} {ll st : List fw_V} {σ : fw_M} {n : Int} {z : Int} (hd : fw_dec k pc = some (.sipush n, 3)) (hz : (Int16.ofInt n).toInt32.toInt = z) : fw_E k pc ll st σ = fw_E k (pc + 3) ll ((0, z) :: st) σ := fw_E_nx (by
  rw [fw_e_i hd rfl]
  unfold fw_si
  rw [← hz]; rfl)
theorem fw_e_lconst {k pc : Nat} {ll st : List fw_V} {σ : fw_M} {n : Fin 2} {z : Int} (hd : fw_dec k pc = some (.lconst n, 1)) (hz : (Int64.ofNat (n : Nat)).toInt = z) : fw_E k pc ll st σ = fw_E k (pc + 1) ll ((1, z) :: st) σ := fw_E_nx (by
  rw [fw_e_i hd rfl]
  unfold fw_si
  rw [← hz]; rfl)
theorem fw_e_fconst0 {k pc : Nat} {ll st : List fw_V} {σ : fw_M} (hd : fw_dec k pc = some (.fconst 0, 1)) : fw_E k pc ll st σ = fw_E k (pc + 1) ll ((4, (FP.fconst0.toNat : Int)) :: st) σ := fw_E_nx (by
  rw [fw_e_i hd rfl]
  unfold fw_si
  exact if_pos rfl)
theorem fw_e_dconst0 {k pc : Nat} {ll st : List fw_V} {σ : fw_M} (hd : fw_dec k pc = some (.dconst 0, 1)) : fw_E k pc ll st σ = fw_E k (pc + 1) ll ((3, (FP.dconst0.toNat : Int)) :: st) σ := fw_E_nx (by
  rw [fw_e_i hd rfl]
  unfold fw_si
  exact if_pos rfl)
theorem fw_e_null {k pc : Nat} {ll st : List fw_V} {σ : fw_M} (hd : fw_dec k pc = some (.aconst_null, 1)) : fw_E k pc ll st σ = fw_E k (pc + 1) ll ((2, 0) :: st) σ := fw_E_nx (by
  rw [fw_e_i hd rfl]
  unfold fw_si
  rfl)
theorem fw_e_ldc {k pc : Nat} {ll st : List fw_V} {σ : fw_M} {n : Nat} {v : Int} (hd : fw_dec k pc = some (.ldc n, 2)) (hv : fw_ck (fw_oc k) n = some v) : fw_E k pc ll st σ = fw_E k (pc + 2) ll ((0, v) :: st) σ := fw_E_nx (by
  rw [fw_e_i hd rfl]
  unfold fw_si
  dsimp only; rw [hv]; rfl)
theorem fw_e_ldc2 {k pc : Nat} {ll st : List fw_V} {σ : fw_M} {n : Nat} {v : Int} (hd : fw_dec k pc = some (.ldc2_w n, 3)) (hv : fw_cl2 (fw_oc k) n = some v) : fw_E k pc ll st σ = fw_E k (pc + 3) ll ((1, v) :: st) σ := fw_E_nx (by
  rw [fw_e_i hd rfl]
  unfold fw_si
  dsimp only; rw [hv]; rfl)
theorem fw_e_iload_n {k pc : Nat} {ll st : List fw_V} {σ : fw_M} {n : Fin 4} {x : Int} (hd : fw_dec k pc = some (.iload_n n, 1)) (hg : fw_g ll n = (0, x)) : fw_E k pc ll st σ = fw_E k (pc + 1) ll ((0, x) :: st) σ := fw_E_nx (by
  rw [fw_e_i hd rfl]
  unfold fw_si
  simp only [hg]; rfl)
theorem fw_e_iload {k pc : Nat} {ll st : List fw_V} {σ : fw_M} {n : Nat} {x : Int} (hd : fw_dec k pc = some (.iload n, 2)) (hg : fw_g ll n = (0, x)) : fw_E k pc ll st σ = fw_E k (pc + 2) ll ((0, x) :: st) σ := fw_E_nx (by
  rw [fw_e_i hd rfl]
  unfold fw_si
  simp only [hg]; rfl)
theorem fw_e_aload_n2 {k pc : Nat} {ll st : List fw_V} {σ : fw_M} {n : Fin 4} {x : Int} (hd : fw_dec k pc = some (.aload_n n, 1)) (hg : fw_g ll n = (2, x)) : fw_E k pc ll st σ = fw_E k (pc + 1) ll ((2, x) :: st) σ := fw_E_nx (by
  rw [fw_e_i hd rfl]
  unfold fw_si
  simp only [hg]; rfl)
theorem fw_e_aload_n6 {k pc : Nat} {ll st : List fw_V} {σ : fw_M} {n : Fin 4} {x : Int} (hd : fw_dec k pc = some (.aload_n n, 1)) (hg : fw_g ll n = (6, x)) : fw_E k pc ll st σ = fw_E k (pc + 1) ll ((6, x) :: st) σ := fw_E_nx (by
  rw [fw_e_i hd rfl]
  unfold fw_si
  simp only [hg]; rfl)
theorem fw_e_aload2 {k pc : Nat} {ll st : List fw_V} {σ : fw_M} {n : Nat} {x : Int} (hd : fw_dec k pc = some (.aload n, 2)) (hg : fw_g ll n = (2, x)) : fw_E k pc ll st σ = fw_E k (pc + 2) ll ((2, x) :: st) σ := fw_E_nx (by
  rw [fw_e_i hd rfl]
  unfold fw_si
  simp only [hg]; rfl)
theorem fw_e_aload6 {k pc : Nat} {ll st : List fw_V} {σ : fw_M} {n : Nat} {x : Int} (hd : fw_dec k pc = some (.aload n, 2)) (hg : fw_g ll n = (6, x)) : fw_E k pc ll st σ = fw_E k (pc + 2) ll ((6, x) :: st) σ := fw_E_nx (by
  rw [fw_e_i hd rfl]
  unfold fw_si
  simp only [hg]; rfl)
theorem fw_e_lload_n {k pc : Nat} {ll st : List fw_V} {σ : fw_M} {n : Fin 4} {x : Int} (hd : fw_dec k pc = some (.lload_n n, 1)) (hg : fw_g ll n = (1, x)) : fw_E k pc ll st σ = fw_E k (pc + 1) ll ((1, x) :: st) σ := fw_E_nx (by
  rw [fw_e_i hd rfl]
  unfold fw_si
  simp only [hg]; rfl)
theorem fw_e_lload {k pc : Nat} {ll st : List fw_V} {σ : fw_M} {n : Nat} {x : Int} (hd : fw_dec k pc = some (.lload n, 2)) (hg : fw_g ll n = (1, x)) : fw_E k pc ll st σ = fw_E k (pc + 2) ll ((1, x) :: st) σ := fw_E_nx (by
  rw [fw_e_i hd rfl]
  unfold fw_si
  simp only [hg]; rfl)
theorem fw_e_fload {k pc : Nat} {ll st : List fw_V} {σ : fw_M} {n : Nat} {x : Int} (hd : fw_dec k pc = some (.fload n, 2)) (hg : fw_g ll n = (4, x)) : fw_E k pc ll st σ = fw_E k (pc + 2) ll ((4, x) :: st) σ := fw_E_nx (by
  rw [fw_e_i hd rfl]
  unfold fw_si
  simp only [hg]; rfl)
theorem fw_e_istore_n {k pc : Nat} {ll st : List fw_V} {σ : fw_M} {n : Fin 4} {x : Int} (hd : fw_dec k pc = some (.istore_n n, 1)) (hs : fw_so k ll n = true) : fw_E k pc ll ((0, x) :: st) σ = fw_E k (pc + 1) (ll.set n (0, x)) st σ := fw_E_nx (by
  rw [fw_e_i hd rfl]
  unfold fw_si
  exact if_pos hs)
theorem fw_e_istore {k pc : Nat} {ll st : List fw_V} {σ : fw_M} {n : Nat} {x : Int} (hd : fw_dec k pc = some (.istore n, 2)) (hs : fw_so k ll n = true) : fw_E k pc ll ((0, x) :: st) σ = fw_E k (pc + 2) (ll.set n (0, x)) st σ := fw_E_nx (by
  rw [fw_e_i hd rfl]
  unfold fw_si
  exact if_pos hs)
theorem fw_e_astore_n {k pc : Nat} {ll st : List fw_V} {σ : fw_M} {n : Fin 4} {x : Int} (hd : fw_dec k pc = some (.astore_n n, 1)) (hs : fw_so k ll n = true) : fw_E k pc ll ((2, x) :: st) σ = fw_E k (pc + 1) (ll.set n (2, x)) st σ := fw_E_nx (by
  rw [fw_e_i hd rfl]
  unfold fw_si
  exact if_pos hs)
theorem fw_e_astore {k pc : Nat} {ll st : List fw_V} {σ : fw_M} {n : Nat} {x : Int} (hd : fw_dec k pc = some (.astore n, 2)) (hs : fw_so k ll n = true) : fw_E k pc ll ((2, x) :: st) σ = fw_E k (pc + 2) (ll.set n (2, x)) st σ := fw_E_nx (by
  rw [fw_e_i hd rfl]
  unfold fw_si
  exact if_pos hs)
theorem fw_e_astore_n7 {k pc : Nat} {ll st : List fw_V} {σ : fw_M} {n : Fin 4} {x : Int} (hd : fw_dec k pc = some (.astore_n n, 1)) (hs : fw_so k ll n = true) : fw_E k pc ll ((7, x) :: st) σ = fw_E k (pc + 1) (ll.set n (7, x)) st σ := fw_E_nx (by
  rw [fw_e_i hd rfl]
  unfold fw_si
  exact if_pos hs)
theorem fw_e_astore7 {k pc : Nat} {ll st : List fw_V} {σ : fw_M} {n : Nat} {x : Int} (hd : fw_dec k pc = some (.astore n, 2)) (hs : fw_so k ll n = true) : fw_E k pc ll ((7, x) :: st) σ = fw_E k (pc + 2) (ll.set n (7, x)) st σ := fw_E_nx (by
  rw [fw_e_i hd rfl]
  unfold fw_si
  exact if_pos hs)
theorem fw_e_fstore {k pc : Nat} {ll st : List fw_V} {σ : fw_M} {n : Nat} {x : Int} (hd : fw_dec k pc = some (.fstore n, 2)) (hs : fw_so k ll n = true) : fw_E k pc ll ((4, x) :: st) σ = fw_E k (pc + 2) (ll.set n (4, x)) st σ := fw_E_nx (by
  rw [fw_e_i hd rfl]
  unfold fw_si
  exact if_pos hs)
theorem fw_e_lstore_n {k pc : Nat} {ll st : List fw_V} {σ : fw_M} {n : Fin 4} {x : Int} (hd : fw_dec k pc = some (.lstore_n n, 1)) (hs : fw_so k ll n = true) (h0 : k = fw_KS) (hm : (n : Nat) + 1 < fw_mL k) : fw_E k pc ll ((1, x) :: st) σ = fw_E k (pc + 1) ((ll.set n (1, x)).set ((n : Nat) + 1) (8, 0)) st σ := fw_E_nx (by
  rw [fw_e_i hd rfl]
  unfold fw_si
  exact if_pos ⟨hs, h0, hm⟩)
theorem fw_e_lstore {k pc : Nat} {ll st : List fw_V} {σ : fw_M} {n : Nat} {x : Int} (hd : fw_dec k pc = some (.lstore n, 2)) (hs : fw_so k ll n = true) (h0 : k = fw_KS) (hm : n + 1 < fw_mL k) : fw_E k pc ll ((1, x) :: st) σ = fw_E k (pc + 2) ((ll.set n (1, x)).set (n + 1) (8, 0)) st σ := fw_E_nx (by
  rw [fw_e_i hd rfl]
  unfold fw_si
  exact if_pos ⟨hs, h0, hm⟩)
theorem fw_e_iinc {k pc : Nat} {ll st : List fw_V} {σ : fw_M} {n : Nat} {x c : Int} (hd : fw_dec k pc = some (.iinc n c, 3)) (hg : fw_g ll n = (0, x)) (hs : fw_so k ll n = true) : fw_E k pc ll st σ = fw_E k (pc + 3) (ll.set n (0, fw_w (x + c))) st σ := fw_E_nx (by
  rw [fw_e_i hd rfl]
  unfold fw_si
  simp only [hg]; exact if_pos ⟨trivial, hs⟩)
theorem fw_e_iadd {k pc : Nat} {ll st : List fw_V} {σ : fw_M} {x y : Int} (hd : fw_dec k pc = some (.iadd, 1)) : fw_E k pc ll ((0, y) :: (0, x) :: st) σ = fw_E k (pc + 1) ll ((0, fw_w (x + y)) :: st) σ := fw_E_nx (by
  rw [fw_e_i hd rfl]
  unfold fw_si
  rfl)
theorem fw_e_isub {k pc : Nat} {ll st : List fw_V} {σ : fw_M} {x y : Int} (hd : fw_dec k pc = some (.isub, 1)) : fw_E k pc ll ((0, y) :: (0, x) :: st) σ = fw_E k (pc + 1) ll ((0, fw_w (x - y)) :: st) σ := fw_E_nx (by
  rw [fw_e_i hd rfl]
  unfold fw_si
  rfl)
theorem fw_e_imul {k pc : Nat} {ll st : List fw_V} {σ : fw_M} {x y : Int} (hd : fw_dec k pc = some (.imul, 1)) : fw_E k pc ll ((0, y) :: (0, x) :: st) σ = fw_E k (pc + 1) ll ((0, fw_w (x * y)) :: st) σ := fw_E_nx (by
  rw [fw_e_i hd rfl]
  unfold fw_si
  rfl)
theorem fw_e_irem {k pc : Nat} {ll st : List fw_V} {σ : fw_M} {x y : Int} (hd : fw_dec k pc = some (.irem, 1)) (h0 : 0 ≤ x) (h1 : 0 < y) : fw_E k pc ll ((0, y) :: (0, x) :: st) σ = fw_E k (pc + 1) ll ((0, x % y) :: st) σ := fw_E_nx (by
  rw [fw_e_i hd rfl]
  unfold fw_si
  exact if_pos ⟨h0, h1⟩)
theorem fw_e_iand {k pc : Nat} {ll st : List fw_V} {σ : fw_M} {x y : Int} (hd : fw_dec k pc = some (.iand, 1)) : fw_E k pc ll ((0, y) :: (0, x) :: st) σ = fw_E k (pc + 1) ll ((0, fw_an x y) :: st) σ := fw_E_nx (by
  rw [fw_e_i hd rfl]
  unfold fw_si
  rfl)
theorem fw_e_ishr {k pc : Nat} {ll st : List fw_V} {σ : fw_M} {x y : Int} (hd : fw_dec k pc = some (.ishr, 1)) : fw_E k pc ll ((0, y) :: (0, x) :: st) σ = fw_E k (pc + 1) ll ((0, fw_sh x y) :: st) σ := fw_E_nx (by
  rw [fw_e_i hd rfl]
  unfold fw_si
  rfl)
theorem fw_e_lrem {k pc : Nat} {ll st : List fw_V} {σ : fw_M} {x y : Int} (hd : fw_dec k pc = some (.lrem, 1)) (h0 : 0 ≤ x) (h1 : 0 < y) : fw_E k pc ll ((1, y) :: (1, x) :: st) σ = fw_E k (pc + 1) ll ((1, x % y) :: st) σ := fw_E_nx (by
  rw [fw_e_i hd rfl]
  unfold fw_si
  exact if_pos ⟨h0, h1⟩)
theorem fw_e_lmul {k pc : Nat} {ll st : List fw_V} {σ : fw_M} {x y : Int} (hd : fw_dec k pc = some (.lmul, 1)) : fw_E k pc ll ((1, y) :: (1, x) :: st) σ = fw_E k (pc + 1) ll ((1, fw_wl (x * y)) :: st) σ := fw_E_nx (by
  rw [fw_e_i hd rfl]
  unfold fw_si
  rfl)
theorem fw_e_l2i {k pc : Nat} {ll st : List fw_V} {σ : fw_M} {x : Int} (hd : fw_dec k pc = some (.l2i, 1)) : fw_E k pc ll ((1, x) :: st) σ = fw_E k (pc + 1) ll ((0, fw_w x) :: st) σ := fw_E_nx (by
  rw [fw_e_i hd rfl]
  unfold fw_si
  rfl)
theorem fw_e_dup_x2 {k pc : Nat} {ll st : List fw_V} {σ : fw_M} {x y z : Int} (hd : fw_dec k pc = some (.dup_x2, 1)) : fw_E k pc ll ((0, x) :: (0, y) :: (2, z) :: st) σ = fw_E k (pc + 1) ll ((0, x) :: (0, y) :: (2, z) :: (0, x) :: st) σ := fw_E_nx (by
  rw [fw_e_i hd rfl]
  unfold fw_si
  rfl)
theorem fw_e_mna {k pc : Nat} {ll st : List fw_V} {σ : fw_M} {z : Int} (hd : fw_dec k pc = some (.multianewarray 23 2, 4)) (ho : fw_oc k = 9) (h37 : fw_r σ (-1) 0 = 37) : fw_E k pc ll [(0, 30), (0, 6), (2, z)] σ = fw_E k (pc + 4) ll [(2, 37), (2, z)] (fw_mn σ) := fw_E_nx (by
  rw [fw_e_i hd rfl]
  unfold fw_si
  exact if_pos ⟨rfl, rfl, ho, rfl, rfl, h37⟩)
theorem fw_e_ladd {k pc : Nat} {ll st : List fw_V} {σ : fw_M} {x y : Int} (hd : fw_dec k pc = some (.ladd, 1)) : fw_E k pc ll ((1, y) :: (1, x) :: st) σ = fw_E k (pc + 1) ll ((1, fw_wl (x + y)) :: st) σ := fw_E_nx (by
  rw [fw_e_i hd rfl]
  unfold fw_si
  rfl)
theorem fw_e_lcmp {k pc : Nat} {ll st : List fw_V} {σ : fw_M} {x y : Int} (hd : fw_dec k pc = some (.lcmp, 1)) : fw_E k pc ll ((1, y) :: (1, x) :: st) σ = fw_E k (pc + 1) ll ((0, if y < x then 1 else if x = y then 0 else -1) :: st) σ := fw_E_nx (by
  rw [fw_e_i hd rfl]
  unfold fw_si
  rfl)
theorem fw_e_i2l {k pc : Nat} {ll st : List fw_V} {σ : fw_M} {x : Int} (hd : fw_dec k pc = some (.i2l, 1)) : fw_E k pc ll ((0, x) :: st) σ = fw_E k (pc + 1) ll ((1, x) :: st) σ := fw_E_nx (by
  rw [fw_e_i hd rfl]
  unfold fw_si
  rfl)
theorem fw_e_i2d {k pc : Nat} {ll st : List fw_V} {σ : fw_M} {x : Int} (hd : fw_dec k pc = some (.i2d, 1)) : fw_E k pc ll ((0, x) :: st) σ = fw_E k (pc + 1) ll ((3, ((FP.i2d (Int32.ofInt x)).toNat : Int)) :: st) σ := fw_E_nx (by
  rw [fw_e_i hd rfl]
  unfold fw_si
  rfl)
theorem fw_e_i2f {k pc : Nat} {ll st : List fw_V} {σ : fw_M} {x : Int} (hd : fw_dec k pc = some (.i2f, 1)) : fw_E k pc ll ((0, x) :: st) σ = fw_E k (pc + 1) ll ((4, ((FP.i2f (Int32.ofInt x)).toNat : Int)) :: st) σ := fw_E_nx (by
  rw [fw_e_i hd rfl]
  unfold fw_si
  rfl)
theorem fw_e_l2d {k pc : Nat} {ll st : List fw_V} {σ : fw_M} {x : Int} (hd : fw_dec k pc = some (.l2d, 1)) : fw_E k pc ll ((1, x) :: st) σ = fw_E k (pc + 1) ll ((3, ((FP.l2d (Int64.ofInt x)).toNat : Int)) :: st) σ := fw_E_nx (by
  rw [fw_e_i hd rfl]
  unfold fw_si
  rfl)
theorem fw_e_f2d {k pc : Nat} {ll st : List fw_V} {σ : fw_M} {x : Int} (hd : fw_dec k pc = some (.f2d, 1)) (hn : fw_n64 (FP.f2d (fw_ff x)) = true) : fw_E k pc ll ((4, x) :: st) σ = fw_E k (pc + 1) ll ((3, ((FP.f2d (fw_ff x)).toNat : Int)) :: st) σ := fw_E_nx (by
  rw [fw_e_i hd rfl]
  unfold fw_si
  exact if_pos hn)
theorem fw_e_ddiv {k pc : Nat} {ll st : List fw_V} {σ : fw_M} {x y : Int} (hd : fw_dec k pc = some (.ddiv, 1)) (hn : fw_n64 (FP.ddiv (fw_dd x) (fw_dd y)) = true) : fw_E k pc ll ((3, y) :: (3, x) :: st) σ = fw_E k (pc + 1) ll ((3, ((FP.ddiv (fw_dd x) (fw_dd y)).toNat : Int)) :: st) σ := fw_E_nx (by
  rw [fw_e_i hd rfl]
  unfold fw_si
  exact if_pos hn)
theorem fw_e_fdiv {k pc : Nat} {ll st : List fw_V} {σ : fw_M} {x y : Int} (hd : fw_dec k pc = some (.fdiv, 1)) (hn : fw_n32 (FP.fdiv (fw_ff x) (fw_ff y)) = true) : fw_E k pc ll ((4, y) :: (4, x) :: st) σ = fw_E k (pc + 1) ll ((4, ((FP.fdiv (fw_ff x) (fw_ff y)).toNat : Int)) :: st) σ := fw_E_nx (by
  rw [fw_e_i hd rfl]
  unfold fw_si
  exact if_pos hn)
theorem fw_e_dcmp {k pc : Nat} {ll st : List fw_V} {σ : fw_M} {x y : Int} {op : _} (hd : fw_dec k pc = some (.dcmp op, 1)) : fw_E k pc ll ((3, y) :: (3, x) :: st) σ = fw_E k (pc + 1) ll ((0, (Op.cmpValue (FP.dcmp (fw_dd x) (fw_dd y)) op).toInt) :: st) σ := fw_E_nx (by
  rw [fw_e_i hd rfl]
  unfold fw_si
  rfl)
theorem fw_e_fcmp {k pc : Nat} {ll st : List fw_V} {σ : fw_M} {x y : Int} {op : _} (hd : fw_dec k pc = some (.fcmp op, 1)) : fw_E k pc ll ((4, y) :: (4, x) :: st) σ = fw_E k (pc + 1) ll ((0, (Op.cmpValue (FP.fcmp (fw_ff x) (fw_ff y)) op).toInt) :: st) σ := fw_E_nx (by
  rw [fw_e_i hd rfl]
  unfold fw_si
  rfl)
theorem fw_e_dup0 {k pc : Nat} {ll st : List fw_V} {σ : fw_M} {x : Int} (hd : fw_dec k pc = some (.dup, 1)) : fw_E k pc ll ((0, x) :: st) σ = fw_E k (pc + 1) ll ((0, x) :: (0, x) :: st) σ := fw_E_nx (by
  rw [fw_e_i hd rfl]
  unfold fw_si
  rfl)
theorem fw_e_dup2 {k pc : Nat} {ll st : List fw_V} {σ : fw_M} {x : Int} (hd : fw_dec k pc = some (.dup, 1)) : fw_E k pc ll ((2, x) :: st) σ = fw_E k (pc + 1) ll ((2, x) :: (2, x) :: st) σ := fw_E_nx (by
  rw [fw_e_i hd rfl]
  unfold fw_si
  rfl)
theorem fw_e_dup_2 {k pc : Nat} {ll st : List fw_V} {σ : fw_M} {x y : Int} (hd : fw_dec k pc = some (.dup2, 1)) : fw_E k pc ll ((0, x) :: (2, y) :: st) σ = fw_E k (pc + 1) ll ((0, x) :: (2, y) :: (0, x) :: (2, y) :: st) σ := fw_E_nx (by
  rw [fw_e_i hd rfl]
  unfold fw_si
  rfl)
theorem fw_e_pop0 {k pc : Nat} {ll st : List fw_V} {σ : fw_M} {x : Int} (hd : fw_dec k pc = some (.pop, 1)) : fw_E k pc ll ((0, x) :: st) σ = fw_E k (pc + 1) ll st σ := fw_E_nx (by
  rw [fw_e_i hd rfl]
  unfold fw_si
  rfl)
theorem fw_e_pop2 {k pc : Nat} {ll st : List fw_V} {σ : fw_M} {x : Int} (hd : fw_dec k pc = some (.pop, 1)) : fw_E k pc ll ((2, x) :: st) σ = fw_E k (pc + 1) ll st σ := fw_E_nx (by
  rw [fw_e_i hd rfl]
  unfold fw_si
  rfl)
theorem fw_e_goto {k pc : Nat} {ll st : List fw_V} {σ : fw_M} {off : Int} {t : Nat} (hd : fw_dec k pc = some (.goto off, 3)) (h : (pc : Int) + off = (t : Int)) : fw_E k pc ll st σ = fw_E k (t) ll st σ := fw_E_nx (by
  rw [fw_e_i hd rfl]
  unfold fw_si
  have h1 : fw_tgt pc off = t := by unfold fw_tgt; omega
  have h2 : (0 : Int) ≤ (pc : Int) + off := by omega
  dsimp only
  rw [if_pos h2, h1]; rfl)
theorem fw_e_ic_eq {k pc : Nat} {ll st : List fw_V} {σ : fw_M} {x y : Int} {off : Int} {t : Nat} (hd : fw_dec k pc = some (.if_icmp .eq off, 3)) (h : (pc : Int) + off = (t : Int)) : fw_E k pc ll ((0, y) :: (0, x) :: st) σ = if x = y then fw_E k t ll st σ else fw_E k (pc + 3) ll st σ := by
  have h1 : fw_tgt pc off = t := by unfold fw_tgt; omega
  have h2 : (0 : Int) ≤ (pc : Int) + off := by omega
  by_cases hc : x = y
  · rw [if_pos hc]
    refine fw_E_nx ?_
    rw [fw_e_i hd rfl]
    unfold fw_si
    simp only [fw_br, if_pos h2, h1, fw_nx]
    exact if_pos (decide_eq_true hc)
  · rw [if_neg hc]
    refine fw_E_nx ?_
    rw [fw_e_i hd rfl]
    unfold fw_si
    simp only [fw_br, if_pos h2, h1, fw_nx]
    exact if_neg (fun h => hc (of_decide_eq_true h))
theorem fw_e_if_eq {k pc : Nat} {ll st : List fw_V} {σ : fw_M} {x : Int} {off : Int} {t : Nat} (hd : fw_dec k pc = some (.ifCond .eq off, 3)) (h : (pc : Int) + off = (t : Int)) : fw_E k pc ll ((0, x) :: st) σ = if x = 0 then fw_E k t ll st σ else fw_E k (pc + 3) ll st σ := by
  have h1 : fw_tgt pc off = t := by unfold fw_tgt; omega
  have h2 : (0 : Int) ≤ (pc : Int) + off := by omega
  by_cases hc : x = 0
  · rw [if_pos hc]
    refine fw_E_nx ?_
    rw [fw_e_i hd rfl]
    unfold fw_si
    simp only [fw_br, if_pos h2, h1, fw_nx]
    exact if_pos (decide_eq_true hc)
  · rw [if_neg hc]
    refine fw_E_nx ?_
    rw [fw_e_i hd rfl]
    unfold fw_si
    simp only [fw_br, if_pos h2, h1, fw_nx]
    exact if_neg (fun h => hc (of_decide_eq_true h))
theorem fw_e_ic_ne {k pc : Nat} {ll st : List fw_V} {σ : fw_M} {x y : Int} {off : Int} {t : Nat} (hd : fw_dec k pc = some (.if_icmp .ne off, 3)) (h : (pc : Int) + off = (t : Int)) : fw_E k pc ll ((0, y) :: (0, x) :: st) σ = if x = y then fw_E k (pc + 3) ll st σ else fw_E k t ll st σ := by
  have h1 : fw_tgt pc off = t := by unfold fw_tgt; omega
  have h2 : (0 : Int) ≤ (pc : Int) + off := by omega
  by_cases hc : x = y
  · rw [if_pos hc]
    refine fw_E_nx ?_
    rw [fw_e_i hd rfl]
    unfold fw_si
    simp only [fw_br, if_pos h2, h1, fw_nx]
    exact if_neg (fun h => (of_decide_eq_true h) hc)
  · rw [if_neg hc]
    refine fw_E_nx ?_
    rw [fw_e_i hd rfl]
    unfold fw_si
    simp only [fw_br, if_pos h2, h1, fw_nx]
    exact if_pos (decide_eq_true hc)
theorem fw_e_if_ne {k pc : Nat} {ll st : List fw_V} {σ : fw_M} {x : Int} {off : Int} {t : Nat} (hd : fw_dec k pc = some (.ifCond .ne off, 3)) (h : (pc : Int) + off = (t : Int)) : fw_E k pc ll ((0, x) :: st) σ = if x = 0 then fw_E k (pc + 3) ll st σ else fw_E k t ll st σ := by
  have h1 : fw_tgt pc off = t := by unfold fw_tgt; omega
  have h2 : (0 : Int) ≤ (pc : Int) + off := by omega
  by_cases hc : x = 0
  · rw [if_pos hc]
    refine fw_E_nx ?_
    rw [fw_e_i hd rfl]
    unfold fw_si
    simp only [fw_br, if_pos h2, h1, fw_nx]
    exact if_neg (fun h => (of_decide_eq_true h) hc)
  · rw [if_neg hc]
    refine fw_E_nx ?_
    rw [fw_e_i hd rfl]
    unfold fw_si
    simp only [fw_br, if_pos h2, h1, fw_nx]
    exact if_pos (decide_eq_true hc)
theorem fw_e_ic_lt {k pc : Nat} {ll st : List fw_V} {σ : fw_M} {x y : Int} {off : Int} {t : Nat} (hd : fw_dec k pc = some (.if_icmp .lt off, 3)) (h : (pc : Int) + off = (t : Int)) : fw_E k pc ll ((0, y) :: (0, x) :: st) σ = if x < y then fw_E k t ll st σ else fw_E k (pc + 3) ll st σ := by
  have h1 : fw_tgt pc off = t := by unfold fw_tgt; omega
  have h2 : (0 : Int) ≤ (pc : Int) + off := by omega
  by_cases hc : x < y
  · rw [if_pos hc]
    refine fw_E_nx ?_
    rw [fw_e_i hd rfl]
    unfold fw_si
    simp only [fw_br, if_pos h2, h1, fw_nx]
    exact if_pos (decide_eq_true hc)
  · rw [if_neg hc]
    refine fw_E_nx ?_
    rw [fw_e_i hd rfl]
    unfold fw_si
    simp only [fw_br, if_pos h2, h1, fw_nx]
    exact if_neg (fun h => hc (of_decide_eq_true h))
theorem fw_e_if_lt {k pc : Nat} {ll st : List fw_V} {σ : fw_M} {x : Int} {off : Int} {t : Nat} (hd : fw_dec k pc = some (.ifCond .lt off, 3)) (h : (pc : Int) + off = (t : Int)) : fw_E k pc ll ((0, x) :: st) σ = if x < 0 then fw_E k t ll st σ else fw_E k (pc + 3) ll st σ := by
  have h1 : fw_tgt pc off = t := by unfold fw_tgt; omega
  have h2 : (0 : Int) ≤ (pc : Int) + off := by omega
  by_cases hc : x < 0
  · rw [if_pos hc]
    refine fw_E_nx ?_
    rw [fw_e_i hd rfl]
    unfold fw_si
    simp only [fw_br, if_pos h2, h1, fw_nx]
    exact if_pos (decide_eq_true hc)
  · rw [if_neg hc]
    refine fw_E_nx ?_
    rw [fw_e_i hd rfl]
    unfold fw_si
    simp only [fw_br, if_pos h2, h1, fw_nx]
    exact if_neg (fun h => hc (of_decide_eq_true h))
theorem fw_e_ic_ge {k pc : Nat} {ll st : List fw_V} {σ : fw_M} {x y : Int} {off : Int} {t : Nat} (hd : fw_dec k pc = some (.if_icmp .ge off, 3)) (h : (pc : Int) + off = (t : Int)) : fw_E k pc ll ((0, y) :: (0, x) :: st) σ = if x < y then fw_E k (pc + 3) ll st σ else fw_E k t ll st σ := by
  have h1 : fw_tgt pc off = t := by unfold fw_tgt; omega
  have h2 : (0 : Int) ≤ (pc : Int) + off := by omega
  by_cases hc : x < y
  · rw [if_pos hc]
    refine fw_E_nx ?_
    rw [fw_e_i hd rfl]
    unfold fw_si
    simp only [fw_br, if_pos h2, h1, fw_nx]
    exact if_neg (fun h => absurd hc (Int.not_lt.mpr (of_decide_eq_true h)))
  · rw [if_neg hc]
    refine fw_E_nx ?_
    rw [fw_e_i hd rfl]
    unfold fw_si
    simp only [fw_br, if_pos h2, h1, fw_nx]
    exact if_pos (decide_eq_true (Int.not_lt.mp hc))
theorem fw_e_if_ge {k pc : Nat} {ll st : List fw_V} {σ : fw_M} {x : Int} {off : Int} {t : Nat} (hd : fw_dec k pc = some (.ifCond .ge off, 3)) (h : (pc : Int) + off = (t : Int)) : fw_E k pc ll ((0, x) :: st) σ = if x < 0 then fw_E k (pc + 3) ll st σ else fw_E k t ll st σ := by
  have h1 : fw_tgt pc off = t := by unfold fw_tgt; omega
  have h2 : (0 : Int) ≤ (pc : Int) + off := by omega
  by_cases hc : x < 0
  · rw [if_pos hc]
    refine fw_E_nx ?_
    rw [fw_e_i hd rfl]
    unfold fw_si
    simp only [fw_br, if_pos h2, h1, fw_nx]
    exact if_neg (fun h => absurd hc (Int.not_lt.mpr (of_decide_eq_true h)))
  · rw [if_neg hc]
    refine fw_E_nx ?_
    rw [fw_e_i hd rfl]
    unfold fw_si
    simp only [fw_br, if_pos h2, h1, fw_nx]
    exact if_pos (decide_eq_true (Int.not_lt.mp hc))
theorem fw_e_ic_gt {k pc : Nat} {ll st : List fw_V} {σ : fw_M} {x y : Int} {off : Int} {t : Nat} (hd : fw_dec k pc = some (.if_icmp .gt off, 3)) (h : (pc : Int) + off = (t : Int)) : fw_E k pc ll ((0, y) :: (0, x) :: st) σ = if y < x then fw_E k t ll st σ else fw_E k (pc + 3) ll st σ := by
  have h1 : fw_tgt pc off = t := by unfold fw_tgt; omega
  have h2 : (0 : Int) ≤ (pc : Int) + off := by omega
  by_cases hc : y < x
  · rw [if_pos hc]
    refine fw_E_nx ?_
    rw [fw_e_i hd rfl]
    unfold fw_si
    simp only [fw_br, if_pos h2, h1, fw_nx]
    exact if_pos (decide_eq_true hc)
  · rw [if_neg hc]
    refine fw_E_nx ?_
    rw [fw_e_i hd rfl]
    unfold fw_si
    simp only [fw_br, if_pos h2, h1, fw_nx]
    exact if_neg (fun h => hc (of_decide_eq_true h))
theorem fw_e_if_gt {k pc : Nat} {ll st : List fw_V} {σ : fw_M} {x : Int} {off : Int} {t : Nat} (hd : fw_dec k pc = some (.ifCond .gt off, 3)) (h : (pc : Int) + off = (t : Int)) : fw_E k pc ll ((0, x) :: st) σ = if 0 < x then fw_E k t ll st σ else fw_E k (pc + 3) ll st σ := by
  have h1 : fw_tgt pc off = t := by unfold fw_tgt; omega
  have h2 : (0 : Int) ≤ (pc : Int) + off := by omega
  by_cases hc : 0 < x
  · rw [if_pos hc]
    refine fw_E_nx ?_
    rw [fw_e_i hd rfl]
    unfold fw_si
    simp only [fw_br, if_pos h2, h1, fw_nx]
    exact if_pos (decide_eq_true hc)
  · rw [if_neg hc]
    refine fw_E_nx ?_
    rw [fw_e_i hd rfl]
    unfold fw_si
    simp only [fw_br, if_pos h2, h1, fw_nx]
    exact if_neg (fun h => hc (of_decide_eq_true h))
theorem fw_e_ic_le {k pc : Nat} {ll st : List fw_V} {σ : fw_M} {x y : Int} {off : Int} {t : Nat} (hd : fw_dec k pc = some (.if_icmp .le off, 3)) (h : (pc : Int) + off = (t : Int)) : fw_E k pc ll ((0, y) :: (0, x) :: st) σ = if y < x then fw_E k (pc + 3) ll st σ else fw_E k t ll st σ := by
  have h1 : fw_tgt pc off = t := by unfold fw_tgt; omega
  have h2 : (0 : Int) ≤ (pc : Int) + off := by omega
  by_cases hc : y < x
  · rw [if_pos hc]
    refine fw_E_nx ?_
    rw [fw_e_i hd rfl]
    unfold fw_si
    simp only [fw_br, if_pos h2, h1, fw_nx]
    exact if_neg (fun h => absurd hc (Int.not_lt.mpr (of_decide_eq_true h)))
  · rw [if_neg hc]
    refine fw_E_nx ?_
    rw [fw_e_i hd rfl]
    unfold fw_si
    simp only [fw_br, if_pos h2, h1, fw_nx]
    exact if_pos (decide_eq_true (Int.not_lt.mp hc))
theorem fw_e_if_le {k pc : Nat} {ll st : List fw_V} {σ : fw_M} {x : Int} {off : Int} {t : Nat} (hd : fw_dec k pc = some (.ifCond .le off, 3)) (h : (pc : Int) + off = (t : Int)) : fw_E k pc ll ((0, x) :: st) σ = if 0 < x then fw_E k (pc + 3) ll st σ else fw_E k t ll st σ := by
  have h1 : fw_tgt pc off = t := by unfold fw_tgt; omega
  have h2 : (0 : Int) ≤ (pc : Int) + off := by omega
  by_cases hc : 0 < x
  · rw [if_pos hc]
    refine fw_E_nx ?_
    rw [fw_e_i hd rfl]
    unfold fw_si
    simp only [fw_br, if_pos h2, h1, fw_nx]
    exact if_neg (fun h => absurd hc (Int.not_lt.mpr (of_decide_eq_true h)))
  · rw [if_neg hc]
    refine fw_E_nx ?_
    rw [fw_e_i hd rfl]
    unfold fw_si
    simp only [fw_br, if_pos h2, h1, fw_nx]
    exact if_pos (decide_eq_true (Int.not_lt.mp hc))
theorem fw_e_ifnull {k pc : Nat} {ll st : List fw_V} {σ : fw_M} {x : Int} {off : Int} {t : Nat} (hd : fw_dec k pc = some (.ifnull off, 3)) (h : (pc : Int) + off = (t : Int)) : fw_E k pc ll ((2, x) :: st) σ = if x = 0 then fw_E k t ll st σ else fw_E k (pc + 3) ll st σ := by
  have h1 : fw_tgt pc off = t := by unfold fw_tgt; omega
  have h2 : (0 : Int) ≤ (pc : Int) + off := by omega
  by_cases hc : x = 0
  · rw [if_pos hc]
    refine fw_E_nx ?_
    rw [fw_e_i hd rfl]
    unfold fw_si
    simp only [fw_br, if_pos h2, h1, fw_nx]
    exact if_pos (hc)
  · rw [if_neg hc]
    refine fw_E_nx ?_
    rw [fw_e_i hd rfl]
    unfold fw_si
    simp only [fw_br, if_pos h2, h1, fw_nx]
    exact if_neg (hc)
theorem fw_e_ifnonnull {k pc : Nat} {ll st : List fw_V} {σ : fw_M} {x : Int} {off : Int} {t : Nat} (hd : fw_dec k pc = some (.ifnonnull off, 3)) (h : (pc : Int) + off = (t : Int)) : fw_E k pc ll ((2, x) :: st) σ = if x = 0 then fw_E k (pc + 3) ll st σ else fw_E k t ll st σ := by
  have h1 : fw_tgt pc off = t := by unfold fw_tgt; omega
  have h2 : (0 : Int) ≤ (pc : Int) + off := by omega
  by_cases hc : x = 0
  · rw [if_pos hc]
    refine fw_E_nx ?_
    rw [fw_e_i hd rfl]
    unfold fw_si
    simp only [fw_br, if_pos h2, h1, fw_nx]
    exact if_neg (fun h => h hc)
  · rw [if_neg hc]
    refine fw_E_nx ?_
    rw [fw_e_i hd rfl]
    unfold fw_si
    simp only [fw_br, if_pos h2, h1, fw_nx]
    exact if_pos (hc)
theorem fw_e_switch {k pc : Nat} {ll st : List fw_V} {σ : fw_M} {x d lo hi : Int} {offs : Array Int} {n t : Nat} (hd : fw_dec k pc = some (.tableswitch d lo hi offs, n)) (h : if x < lo ∨ hi < x then (pc : Int) + d = (t : Int) else ∃ off, offs[(x - lo).toNat]? = some off ∧ (pc : Int) + off = (t : Int)) : fw_E k pc ll ((0, x) :: st) σ = fw_E k t ll st σ := by
  refine fw_E_nx ?_
  rw [fw_e_i hd rfl]
  unfold fw_si
  dsimp only
  by_cases hc : x < lo ∨ hi < x
  · rw [if_pos hc] at h
    simp only [if_pos hc]
    have h1 : fw_tgt pc d = t := by unfold fw_tgt; omega
    have h2 : (0 : Int) ≤ (pc : Int) + d := by omega
    rw [if_pos h2, h1]; rfl
  · rw [if_neg hc] at h
    simp only [if_neg hc]
    obtain ⟨off, h0, h1⟩ := h
    have h2 : fw_tgt pc off = t := by unfold fw_tgt; omega
    rw [h0]
    dsimp only
    have h3 : (0 : Int) ≤ (pc : Int) + off := by omega
    rw [if_pos h3, h2]; rfl
theorem fw_e_aaload {k pc : Nat} {ll st : List fw_V} {σ : fw_M} {a i l : Int} (hd : fw_dec k pc = some (.aaload, 1)) (hk : fw_kd a = 105) (hl : fw_ln a = l) (h0 : 0 ≤ i) (h1 : i < l) : fw_E k pc ll ((0, i) :: (2, a) :: st) σ = fw_E k (pc + 1) ll ((2, fw_r σ a i) :: st) σ := fw_E_nx (by
  rw [fw_e_i hd rfl]
  unfold fw_si
  subst hl; exact if_pos ⟨Or.inl hk, h0, h1⟩)
theorem fw_e_aaload6 {k pc : Nat} {ll st : List fw_V} {σ : fw_M} {a i l : Int} (hd : fw_dec k pc = some (.aaload, 1)) (hk : fw_kd a = 106) (hl : fw_ln a = l) (h0 : 0 ≤ i) (h1 : i < l) : fw_E k pc ll ((0, i) :: (2, a) :: st) σ = fw_E k (pc + 1) ll ((2, fw_r σ a i) :: st) σ := fw_E_nx (by
  rw [fw_e_i hd rfl]
  unfold fw_si
  subst hl; exact if_pos ⟨Or.inr hk, h0, h1⟩)
theorem fw_e_iaload {k pc : Nat} {ll st : List fw_V} {σ : fw_M} {a i l : Int} (hd : fw_dec k pc = some (.iaload, 1)) (hk : fw_kd a = 100) (hl : fw_ln a = l) (h0 : 0 ≤ i) (h1 : i < l) : fw_E k pc ll ((0, i) :: (2, a) :: st) σ = fw_E k (pc + 1) ll ((0, fw_r σ a i) :: st) σ := fw_E_nx (by
  rw [fw_e_i hd rfl]
  unfold fw_si
  subst hl; exact if_pos ⟨hk, h0, h1⟩)
theorem fw_e_caload {k pc : Nat} {ll st : List fw_V} {σ : fw_M} {a i l : Int} (hd : fw_dec k pc = some (.caload, 1)) (hk : fw_kd a = 101) (hl : fw_ln a = l) (h0 : 0 ≤ i) (h1 : i < l) : fw_E k pc ll ((0, i) :: (2, a) :: st) σ = fw_E k (pc + 1) ll ((0, fw_r σ a i) :: st) σ := fw_E_nx (by
  rw [fw_e_i hd rfl]
  unfold fw_si
  subst hl; exact if_pos ⟨hk, h0, h1⟩)
theorem fw_e_baload {k pc : Nat} {ll st : List fw_V} {σ : fw_M} {a i l : Int} (hd : fw_dec k pc = some (.baload, 1)) (hk : fw_kd a = 102) (hl : fw_ln a = l) (h0 : 0 ≤ i) (h1 : i < l) : fw_E k pc ll ((0, i) :: (2, a) :: st) σ = fw_E k (pc + 1) ll ((0, fw_r σ a i) :: st) σ := fw_E_nx (by
  rw [fw_e_i hd rfl]
  unfold fw_si
  subst hl; exact if_pos ⟨hk, h0, h1⟩)
theorem fw_e_laload {k pc : Nat} {ll st : List fw_V} {σ : fw_M} {a i l : Int} (hd : fw_dec k pc = some (.laload, 1)) (hk : fw_kd a = 103) (hl : fw_ln a = l) (h0 : 0 ≤ i) (h1 : i < l) : fw_E k pc ll ((0, i) :: (2, a) :: st) σ = fw_E k (pc + 1) ll ((1, fw_r σ a i) :: st) σ := fw_E_nx (by
  rw [fw_e_i hd rfl]
  unfold fw_si
  subst hl; exact if_pos ⟨hk, h0, h1⟩)
theorem fw_e_daload {k pc : Nat} {ll st : List fw_V} {σ : fw_M} {a i l : Int} (hd : fw_dec k pc = some (.daload, 1)) (hk : fw_kd a = 104) (hl : fw_ln a = l) (h0 : 0 ≤ i) (h1 : i < l) : fw_E k pc ll ((0, i) :: (2, a) :: st) σ = fw_E k (pc + 1) ll ((3, fw_r σ a i) :: st) σ := fw_E_nx (by
  rw [fw_e_i hd rfl]
  unfold fw_si
  subst hl; exact if_pos ⟨hk, h0, h1⟩)
theorem fw_e_script {k pc : Nat} {ll st : List fw_V} {σ : fw_M} {i z : Int} (hd : fw_dec k pc = some (.iaload, 1)) (h0 : 0 ≤ i) (h1 : i < fw_r σ (-3) 0) : fw_E k pc ll ((0, i) :: (6, z) :: st) σ = fw_E k (pc + 1) ll ((0, fw_r σ (-2) i) :: st) σ := fw_E_nx (by
  rw [fw_e_i hd rfl]
  unfold fw_si
  exact if_pos ⟨h0, h1⟩)
theorem fw_e_iastore {k pc : Nat} {ll st : List fw_V} {σ : fw_M} {a i l v : Int} (hd : fw_dec k pc = some (.iastore, 1)) (hk : fw_kd a = 100) (hl : fw_ln a = l) (h0 : 0 ≤ i) (h1 : i < l) : fw_E k pc ll ((0, v) :: (0, i) :: (2, a) :: st) σ = fw_E k (pc + 1) ll st (fw_u σ a i v) := fw_E_nx (by
  rw [fw_e_i hd rfl]
  unfold fw_si
  subst hl; exact if_pos ⟨hk, h0, h1⟩)
theorem fw_e_castore {k pc : Nat} {ll st : List fw_V} {σ : fw_M} {a i l v : Int} (hd : fw_dec k pc = some (.castore, 1)) (hk : fw_kd a = 101) (hl : fw_ln a = l) (h0 : 0 ≤ i) (h1 : i < l) (h2 : 0 ≤ v) (h3 : v < 65536) : fw_E k pc ll ((0, v) :: (0, i) :: (2, a) :: st) σ = fw_E k (pc + 1) ll st (fw_u σ a i v) := fw_E_nx (by
  rw [fw_e_i hd rfl]
  unfold fw_si
  subst hl; exact if_pos ⟨hk, h0, h1, h2, h3⟩)
theorem fw_e_bastore {k pc : Nat} {ll st : List fw_V} {σ : fw_M} {a i l v : Int} (hd : fw_dec k pc = some (.bastore, 1)) (hk : fw_kd a = 102) (hl : fw_ln a = l) (h0 : 0 ≤ i) (h1 : i < l) (h2 : v = 0 ∨ v = 1) : fw_E k pc ll ((0, v) :: (0, i) :: (2, a) :: st) σ = fw_E k (pc + 1) ll st (fw_u σ a i v) := fw_E_nx (by
  rw [fw_e_i hd rfl]
  unfold fw_si
  subst hl; exact if_pos ⟨hk, h0, h1, h2⟩)
theorem fw_e_lastore {k pc : Nat} {ll st : List fw_V} {σ : fw_M} {a i l v : Int} (hd : fw_dec k pc = some (.lastore, 1)) (hk : fw_kd a = 103) (hl : fw_ln a = l) (h0 : 0 ≤ i) (h1 : i < l) : fw_E k pc ll ((1, v) :: (0, i) :: (2, a) :: st) σ = fw_E k (pc + 1) ll st (fw_u σ a i v) := fw_E_nx (by
  rw [fw_e_i hd rfl]
  unfold fw_si
  subst hl; exact if_pos ⟨hk, h0, h1⟩)
theorem fw_e_dastore {k pc : Nat} {ll st : List fw_V} {σ : fw_M} {a i l v : Int} (hd : fw_dec k pc = some (.dastore, 1)) (hk : fw_kd a = 104) (hl : fw_ln a = l) (h0 : 0 ≤ i) (h1 : i < l) : fw_E k pc ll ((3, v) :: (0, i) :: (2, a) :: st) σ = fw_E k (pc + 1) ll st (fw_u σ a i v) := fw_E_nx (by
  rw [fw_e_i hd rfl]
  unfold fw_si
  subst hl; exact if_pos ⟨hk, h0, h1⟩)
theorem fw_e_aastore {k pc : Nat} {ll st : List fw_V} {σ : fw_M} {a i l v : Int} (hd : fw_dec k pc = some (.aastore, 1)) (hk : fw_kd a = 105) (hl : fw_ln a = l) (h0 : 0 ≤ i) (h1 : i < l) (hv : fw_kd v = 4) : fw_E k pc ll ((2, v) :: (0, i) :: (2, a) :: st) σ = fw_E k (pc + 1) ll st (fw_u σ a i v) := fw_E_nx (by
  rw [fw_e_i hd rfl]
  unfold fw_si
  subst hl; exact if_pos ⟨hk, hv, h0, h1⟩)
theorem fw_e_arraylength {k pc : Nat} {ll st : List fw_V} {σ : fw_M} {a : Int} (hd : fw_dec k pc = some (.arraylength, 1)) (hk : 100 ≤ fw_kd a) : fw_E k pc ll ((2, a) :: st) σ = fw_E k (pc + 1) ll ((0, fw_ln a) :: st) σ := fw_E_nx (by
  rw [fw_e_i hd rfl]
  unfold fw_si
  exact if_pos hk)
theorem fw_e_scriptlength {k pc : Nat} {ll st : List fw_V} {σ : fw_M} {z : Int} (hd : fw_dec k pc = some (.arraylength, 1)) (hl : fw_r σ (-3) 0 < 2147483648) : fw_E k pc ll ((6, z) :: st) σ = fw_E k (pc + 1) ll ((0, fw_r σ (-3) 0) :: st) σ := fw_E_nx (by
  rw [fw_e_i hd rfl]
  unfold fw_si
  exact if_pos hl)
theorem fw_e_get {k pc : Nat} {ll st : List fw_V} {σ : fw_M} {a : Int} {n c j t : Nat} {kd : Int} (hd : fw_dec k pc = some (.getfield n, 3)) (hf : fw_fr (fw_oc k) n = some (c, j)) (ht : fw_tg (fw_fk c j) = t) (hk : fw_kd a = kd) (hc : kd = (c : Int) + 3) : fw_E k pc ll ((2, a) :: st) σ = fw_E k (pc + 3) ll ((t, fw_r σ a (j : Int)) :: st) σ := fw_E_nx (by
  rw [fw_e_i hd rfl]
  unfold fw_si
  dsimp only
  rw [hf]
  subst ht
  exact if_pos (hk.trans hc))
theorem fw_e_put {k pc : Nat} {ll st : List fw_V} {σ : fw_M} {a v : Int} {n c j t : Nat} {kd : Int} (hd : fw_dec k pc = some (.putfield n, 3)) (hf : fw_fr (fw_oc k) n = some (c, j)) (ht : t = fw_tg (fw_fk c j)) (hk : fw_kd a = kd) (hc : kd = (c : Int) + 3) (hb : fw_fk c j = 10 → v = 0 ∨ v = 1) (hfin : (fw_CT c j).2.2.2 = true → fw_ki k = 2 ∧ fw_oc k = c) : fw_E k pc ll ((t, v) :: (2, a) :: st) σ = fw_E k (pc + 3) ll st (fw_u σ a (j : Int) v) := fw_E_nx (by
  rw [fw_e_i hd rfl]
  unfold fw_si
  dsimp only
  rw [hf]
  exact if_pos ⟨hk.trans hc, ht, hb, hfin⟩)
theorem fw_e_new {k pc : Nat} {ll st : List fw_V} {σ : fw_M} {n c : Nat} (hd : fw_dec k pc = some (.new n, 3)) (hc : fw_cr (fw_oc k) n = some c) (hk : fw_kd (fw_r σ (-1) 0) = (c : Int) + 3) : fw_E k pc ll st σ = fw_E k (pc + 3) ll ((2, fw_r σ (-1) 0) :: st) (fw_nw σ (fw_nf c)) := fw_E_nx (by
  rw [fw_e_i hd rfl]
  unfold fw_si
  dsimp only
  rw [hc]
  exact if_pos hk)
theorem fw_e_throw {k pc : Nat} {ll : List fw_V} {σ : fw_M} {n ic x : Nat} (hd : fw_dec k pc = some (.new n, 3)) (hc : fw_cr (fw_oc k) n = none) (hx : fw_xr n = some (ic, x)) (ho : fw_oc k = 8) (hh : fw_hs k = []) (h4r : 4 ≤ fw_rk k) (d1 : fw_dec k (pc + 3) = some (.dup, 1)) (d2 : fw_dec k (pc + 4) = some (.invokespecial ic, 3)) (d3 : fw_dec k (pc + 7) = some (.athrow, 1)) : fw_E k pc ll [] σ = some ((9, (x : Int)), fw_ex σ) := fw_E_fi (by
  rw [fw_e_i hd rfl]
  unfold fw_si
  dsimp only
  rw [hc, hx]
  exact if_pos ⟨ho, hh, rfl, h4r, d1, d2, d3⟩)
theorem fw_e_newarray {k pc : Nat} {ll st : List fw_V} {σ : fw_M} {n : Int} {t : ArrayType} (hd : fw_dec k pc = some (.newarray t, 2)) (h0 : 0 ≤ n) (h1 : n ≤ 300) (hk : fw_kd (fw_r σ (-1) 0) = fw_ak t) (hl : fw_ln (fw_r σ (-1) 0) = n) : fw_E k pc ll ((0, n) :: st) σ = fw_E k (pc + 2) ll ((2, fw_r σ (-1) 0) :: st) (fw_nw σ n) := fw_E_nx (by
  rw [fw_e_i hd rfl]
  unfold fw_si
  exact if_pos ⟨h0, h1, hk, hl⟩)
theorem fw_e_anewarray {k pc : Nat} {ll st : List fw_V} {σ : fw_M} {n : Int} (hd : fw_dec k pc = some (.anewarray 9, 3)) (ho : fw_oc k = 6) (h0 : 0 ≤ n) (h1 : n ≤ 300) (hk : fw_kd (fw_r σ (-1) 0) = 105) (hl : fw_ln (fw_r σ (-1) 0) = n) : fw_E k pc ll ((0, n) :: st) σ = fw_E k (pc + 3) ll ((2, fw_r σ (-1) 0) :: st) (fw_nw σ n) := fw_E_nx (by
  rw [fw_e_i hd rfl]
  unfold fw_si
  exact if_pos ⟨ho, rfl, h0, h1, hk, hl⟩)
theorem fw_e_obj {k pc : Nat} {ll st : List fw_V} {σ : fw_M} {n : Nat} {x : Int} (hd : fw_dec k pc = some (.invokespecial n, 3)) (hm : fw_mr (fw_oc k) n = some (1002, 0)) (hx : x ≠ 0) (hr : st.length ≤ 4) : fw_E k pc ll ((2, x) :: st) σ = fw_E k (pc + 3) ll st σ := fw_E_nx (by
  rw [fw_e_i hd rfl]
  unfold fw_si
  dsimp only
  rw [hm]
  exact if_pos ⟨hx, hr⟩)
theorem fw_e_max {k pc : Nat} {ll st : List fw_V} {σ : fw_M} {n : Nat} {x y : Int} (hd : fw_dec k pc = some (.invokestatic n, 3)) (hm : fw_mr (fw_oc k) n = some (1000, 0)) (hr : st.length ≤ 4) : fw_E k pc ll ((0, y) :: (0, x) :: st) σ = fw_E k (pc + 3) ll ((0, if x < y then y else x) :: st) σ := fw_E_nx (by
  rw [fw_e_i hd rfl]
  unfold fw_si
  dsimp only
  rw [hm]
  exact if_pos hr)
theorem fw_e_min {k pc : Nat} {ll st : List fw_V} {σ : fw_M} {n : Nat} {x y : Int} (hd : fw_dec k pc = some (.invokestatic n, 3)) (hm : fw_mr (fw_oc k) n = some (1001, 0)) (hr : st.length ≤ 4) : fw_E k pc ll ((0, y) :: (0, x) :: st) σ = fw_E k (pc + 3) ll ((0, if y < x then y else x) :: st) σ := fw_E_nx (by
  rw [fw_e_i hd rfl]
  unfold fw_si
  dsimp only
  rw [hm]
  exact if_pos hr)
/-- calls: the arguments as on the stack (as, the last one first), the receiver below them -/
theorem fw_e_virtual {k pc : Nat} {ll st : List fw_V} {σ : fw_M} {n cal : Nat} {as en : List fw_V} {r : Int} (hd : fw_dec k pc = some (.invokevirtual n, 3)) (hm : fw_mr (fw_oc k) n = some (cal, 0)) (hi : fw_ki cal = 0) (hn : as.length = (fw_pt cal).length) (ht : as.reverse.map Prod.fst = fw_pt cal) (hq : fw_rk cal < fw_rk k ∧ cal < 137 ∧ cal ≠ 0) (hk : fw_kd r = (fw_oc cal : Int) + 3) (hr : st.length ≤ 4) (he : fw_en cal ((2, r) :: as.reverse) = en) : fw_E k pc ll (as ++ (2, r) :: st) σ = (fw_E cal 0 en [] σ).bind (fw_cn k pc ll st) := by
  subst he
  refine fw_E_ca ?_
  rw [fw_e_i hd rfl]
  unfold fw_si
  dsimp only
  rw [hm]
  simp only [if_pos hi]
  unfold fw_ca
  have e1 : (as ++ (2, r) :: st).take (fw_pt cal).length = as := by rw [← hn]; exact List.take_left
  have e2 : (as ++ (2, r) :: st).drop (fw_pt cal).length = (2, r) :: st := by rw [← hn]; exact List.drop_left
  simp only [e1, e2]
  rw [if_pos ⟨ht, hq⟩, if_pos trivial, if_pos ⟨hk, hr⟩]
theorem fw_e_special {k pc : Nat} {ll st : List fw_V} {σ : fw_M} {n cal e : Nat} {as en : List fw_V} {r : Int} (hd : fw_dec k pc = some (.invokespecial n, 3)) (hm : fw_mr (fw_oc k) n = some (cal, e)) (h2 : cal ≠ 1002) (hi : fw_ki cal = 2) (hn : as.length = (fw_pt cal).length) (ht : as.reverse.map Prod.fst = fw_pt cal) (hq : fw_rk cal < fw_rk k ∧ cal < 137 ∧ cal ≠ 0) (hk : fw_kd r = (fw_oc cal : Int) + 3) (hr : st.length ≤ 4) (he : fw_en cal ((2, r) :: as.reverse) = en) : fw_E k pc ll (as ++ (2, r) :: st) σ = (fw_E cal 0 en [] σ).bind (fw_cn k pc ll st) := by
  subst he
  refine fw_E_ca ?_
  rw [fw_e_i hd rfl]
  unfold fw_si
  dsimp only
  rw [hm]
  split
  · rename_i hx
    exact absurd (congrArg Prod.fst (Option.some.inj hx)) h2
  · rename_i hx
    cases hx
    rw [if_pos hi]
    unfold fw_ca
    have e1 : (as ++ (2, r) :: st).take (fw_pt cal).length = as := by rw [← hn]; exact List.take_left
    have e2 : (as ++ (2, r) :: st).drop (fw_pt cal).length = (2, r) :: st := by rw [← hn]; exact List.drop_left
    simp only [e1, e2]
    rw [if_pos ⟨ht, hq⟩, if_pos trivial, if_pos ⟨hk, hr⟩]
  · rename_i hx
    cases hx
theorem fw_e_static {k pc : Nat} {ll st : List fw_V} {σ : fw_M} {n cal e : Nat} {as en : List fw_V} (hd : fw_dec k pc = some (.invokestatic n, 3)) (hm : fw_mr (fw_oc k) n = some (cal, e)) (h2 : cal < 1000) (hi : fw_ki cal = 1 ∨ fw_ki cal = 3) (hn : as.length = (fw_pt cal).length) (ht : as.reverse.map Prod.fst = fw_pt cal) (hq : fw_rk cal < fw_rk k ∧ cal < 137 ∧ cal ≠ 0) (hr : st.length ≤ 4) (he : fw_en cal as.reverse = en) : fw_E k pc ll (as ++ st) σ = (fw_E cal 0 en [] σ).bind (fw_cn k pc ll st) := by
  subst he
  refine fw_E_ca ?_
  rw [fw_e_i hd rfl]
  unfold fw_si
  dsimp only
  rw [hm]
  split
  · rename_i hx
    have := congrArg Prod.fst (Option.some.inj hx)
    dsimp only at this
    omega
  · rename_i hx
    have := congrArg Prod.fst (Option.some.inj hx)
    dsimp only at this
    omega
  · rename_i hx
    cases hx
    rw [if_pos hi]
    unfold fw_ca
    have e1 : (as ++ st).take (fw_pt cal).length = as := by rw [← hn]; exact List.take_left
    have e2 : (as ++ st).drop (fw_pt cal).length = st := by rw [← hn]; exact List.drop_left
    simp only [e1, e2]
    rw [if_pos ⟨ht, hq⟩, if_neg (by decide), if_pos hr]
  · rename_i hx
    cases hx
theorem fw_e_ireturn {k pc : Nat} {ll : List fw_V} {σ : fw_M} {x : Int} (hd : fw_dec k pc = some (.ireturn, 1)) (hr : fw_ri k x = true) : fw_E k pc ll [(0, x)] σ = some ((0, x), σ) := fw_E_fi (by
  rw [fw_e_i hd rfl]
  unfold fw_si
  exact if_pos hr)
theorem fw_e_lreturn {k pc : Nat} {ll : List fw_V} {σ : fw_M} {x : Int} (hd : fw_dec k pc = some (.lreturn, 1)) (hr : fw_rt k = some .long) : fw_E k pc ll [(1, x)] σ = some ((1, x), σ) := fw_E_fi (by
  rw [fw_e_i hd rfl]
  unfold fw_si
  exact if_pos hr)
theorem fw_e_dreturn {k pc : Nat} {ll : List fw_V} {σ : fw_M} {x : Int} (hd : fw_dec k pc = some (.dreturn, 1)) (hr : fw_rt k = some .double) : fw_E k pc ll [(3, x)] σ = some ((3, x), σ) := fw_E_fi (by
  rw [fw_e_i hd rfl]
  unfold fw_si
  exact if_pos hr)
theorem fw_e_freturn {k pc : Nat} {ll : List fw_V} {σ : fw_M} {x : Int} (hd : fw_dec k pc = some (.freturn, 1)) (hr : fw_rt k = some .float) : fw_E k pc ll [(4, x)] σ = some ((4, x), σ) := fw_E_fi (by
  rw [fw_e_i hd rfl]
  unfold fw_si
  exact if_pos hr)
theorem fw_e_areturn {k pc : Nat} {ll : List fw_V} {σ : fw_M} {x : Int} (hd : fw_dec k pc = some (.areturn, 1)) (hr : fw_rt k = some (.object RX1)) : fw_E k pc ll [(2, x)] σ = some ((2, x), σ) := fw_E_fi (by
  rw [fw_e_i hd rfl]
  unfold fw_si
  exact if_pos hr)
theorem fw_e_return {k pc : Nat} {ll : List fw_V} {σ : fw_M}  (hd : fw_dec k pc = some (.return_, 1)) (hr : fw_rt k = none) : fw_E k pc ll [] σ = some ((5, 0), σ) := fw_E_fi (by
  rw [fw_e_i hd rfl]
  unfold fw_si
  exact if_pos ⟨hr, rfl⟩)
theorem fw_ri_i {k : Nat} {x : Int} (h : fw_rt k = some .int) : fw_ri k x = true := by unfold fw_ri; rw [h]
theorem fw_ri_b {k : Nat} {x : Int} (h : fw_rt k = some .boolean) (hx : x = 0 ∨ x = 1) : fw_ri k x = true := by unfold fw_ri; rw [h]; exact decide_eq_true hx
theorem fw_ri_c {k : Nat} {x : Int} (h : fw_rt k = some .char) (h0 : 0 ≤ x) (h1 : x < 65536) : fw_ri k x = true := by unfold fw_ri; rw [h]; exact decide_eq_true ⟨h0, h1⟩
/-! behind a call -/
theorem fw_cn_0 (k pc : Nat) (ll st : List fw_V) (x : Int) (σ : fw_M) : fw_cn k pc ll st ((0, x), σ) = fw_E k (pc + 3) ll ((0, x) :: st) σ := rfl
theorem fw_cn_1 (k pc : Nat) (ll st : List fw_V) (x : Int) (σ : fw_M) : fw_cn k pc ll st ((1, x), σ) = fw_E k (pc + 3) ll ((1, x) :: st) σ := rfl
theorem fw_cn_2 (k pc : Nat) (ll st : List fw_V) (x : Int) (σ : fw_M) : fw_cn k pc ll st ((2, x), σ) = fw_E k (pc + 3) ll ((2, x) :: st) σ := rfl
theorem fw_cn_3 (k pc : Nat) (ll st : List fw_V) (x : Int) (σ : fw_M) : fw_cn k pc ll st ((3, x), σ) = fw_E k (pc + 3) ll ((3, x) :: st) σ := rfl
theorem fw_cn_4 (k pc : Nat) (ll st : List fw_V) (x : Int) (σ : fw_M) : fw_cn k pc ll st ((4, x), σ) = fw_E k (pc + 3) ll ((4, x) :: st) σ := rfl
theorem fw_cn_5 (k pc : Nat) (ll st : List fw_V) (x : Int) (σ : fw_M) : fw_cn k pc ll st ((5, x), σ) = fw_E k (pc + 3) ll st σ := rfl
theorem fw_cn_9 {k pc : Nat} {ll st : List fw_V} {x : Int} {σ : fw_M} (hk : k ≠ 0) (hh : fw_hs k = []) : fw_cn k pc ll st ((9, x), σ) = some ((9, x), σ) := by
  unfold fw_cn fw_af
  have h1 : fw_hd k pc x.toNat = none := by unfold fw_hd; rw [hh]; rfl
  simp only [h1, if_true]
  rw [if_pos ⟨hk, hh⟩]
theorem fw_cn_h {k pc h : Nat} {ll st : List fw_V} {x : Int} {σ : fw_M} (hh : fw_hd k pc x.toNat = some h) : fw_cn k pc ll st ((9, x), σ) = fw_E k h ll [(7, 0)] σ := by
  unfold fw_cn fw_af
  simp only [hh, if_true]
end
section
theorem zz_last : True := trivial
end
