/-! THE CLAIM OUT OF ONE WALK OF THE LAW'S BODY. Your part is whole_start (and what it stands on); all else here is the same for every law, but numbers. -/
def R_law : String := "CrossdockSorterLaw"
def lw_P (b : Addr) (xs : List Int32) (args : Array Value) (s : State) : Prop := args = #[.ref b] ∧ s.IntsAt b xs ∧ xs.length ≤ 260 ∧ (Jvm.Cond.and given_1 narrow_1).before args s = true
/-- what a walk over the start with the record d0 says of its end, said of the start itself -/
theorem lw_closed {s t : State} {o : Outcome} {d0 : Drawn} {L : List Loc} {k n : Nat} (hd0 : s.drawn.sameBut d0 lw_cs) (hv : ∃ v, o = .returned v) (hW : (s.setDrawn d0).WarmedH t.vm) (hs : (s.setDrawn d0).sameButNew ({ t with vm := s.vm } : State) L k n) : State.butDraws s t lw_cs (fun t1 => Framed s o t1 L k n) := by
  have h2 : t.drawn = d0 := congrArg State.drawn hs.1
  refine ⟨⟨hv, hW, State.sameButNew.setDrawn hs s.drawn⟩, ?_, by decide⟩
  rw [h2]
  exact hd0
def lw_Q (_ : Array Value) (s : State) (o : Outcome) (t : State) : Prop := o = .returned (some (.int 1)) ∧ State.butDraws s t lw_cs (fun t1 => Framed s o t1 [] 676181 7072639)
def lw_Z (below : List Frame) (a : Array Value) (s : State) : State → Prop := fun t => ∃ o, t.status = .running ∧ Ended t below o ∧ lw_Q a s o t
/-- the law's own end, with 1 on the stack, nothing written that was there before, its room as the claim has it; d0: the record of draws at this point (at the entry s.drawn: begin with 'refine W.base ?_' and 'have hd0 := Drawn.sameBut.refl s.drawn lw_cs') -/
theorem lw_ret {p : Program} {l : Launch} {e : Env} {s : State} {m : MethodId} {below : List Frame} {meth : Method} {c : Code} {b : Nat} {d0 : Drawn} (hd0 : s.drawn.sameBut d0 lw_cs) (hx : p.tables.exec = Jvm.exec) (hb : c.code = code) (hr : meth.sig.returnType = ret) (hlocks : meth.locks = false) {pc : Nat} {H : Heap} {ls : Array Slot} (hdg : decode code pc = .ok (.ireturn, 1)) : W p l e room_1 (s.setDrawn d0) m #[Value.ref b] below meth c H [] 676181 7072639 (lw_Z below #[Value.ref b] s) (F0 m pc ls [.int 1]) := by
  intro T hT X
  obtain ⟨fs, hret, hrun, hended, hW, hframe⟩ := X.leave (v := some (.int 1)) (hlocks := hlocks) (fun h => by rw [hr] at h; cases h)
  have hmeth' : T.vm.method? m = some meth := X.method'
  refine ⟨T.setFrames fs, ?_, .returned (some (.int 1)), hrun, hended, rfl, lw_closed hd0 ⟨_, rfl⟩ hW hframe⟩
  jvm_step X.here [X.here.top, hx, hb, hdg, hmeth', hr, ret, narrow_b1]
  (try refine ⟨rfl, ?_⟩); (try refine ⟨rfl, ?_⟩)
  first | (intro acts; rw [hret _ acts rfl rfl rfl]) | rw [hret _ _ rfl rfl rfl]
  exact Steps.refl _
/-- what holds at the law's entry: the machine, the code, the tables' words (any of lw_tbl by 'hts w (by decide +kernel)'), the script of L ints xs at the cell b, what the Statement gives of the start (any of its parts by flat_of_before) -/
def lw_At (p : Program) (s : State) (m : MethodId) (meth : Method) (c : Code) (b L : Nat) (xs : Nat → Int32) : Prop :=
  p.tables.exec = Jvm.exec ∧ c.code = code ∧ meth.sig.returnType = ret ∧ c.maxLocals = 5 ∧ s.vm.findClass R_law = some m.cls ∧ (∀ w ∈ lw_tbl, w.before #[Value.ref b] s = true) ∧ va_X b L xs s s.heap ∧ b < s.heap.size ∧ meth.locks = false ∧ (Jvm.Cond.and given_1 narrow_1).before #[Value.ref b] s = true

/-- the small machine's cells at the law's entry -/
def fw_s0 (L : Nat) (xs : Nat → Int32) : fw_M := fun a j => if a = -1 then (if j = 0 then 1 else 0) else if a = -2 then (xs j.toNat).toInt else if a = -3 then (L : Int) else 0
theorem fw_nc_ok : ∀ q ∈ fw_nc, Cond.not (.castable (fw_xn q.1) (fw_xn q.2)) ∈ flatC (Jvm.Cond.and given_1 narrow_1) := by decide +kernel
theorem fw_na_ok : Cond.isRef (.static Bundle.tN "UNASSIGNED_STACK" Bundle.steD) ∈ flatC (Jvm.Cond.and given_1 narrow_1) ∧ Cond.isRef (.static Bundle.tN "SUPPRESSED_SENTINEL" Bundle.listD) ∈ flatC (Jvm.Cond.and given_1 narrow_1) := by decide +kernel
theorem fw_Z0 {s : State} {b : Nat} (hts : ∀ w ∈ lw_tbl, w.before #[Value.ref b] s = true) (hgv : (Jvm.Cond.and given_1 narrow_1).before #[Value.ref b] s = true) : fw_Z s.heap.size s s.heap := by
  have hs := flat_of_before _ hgv
  have hA : ∀ a : Nat, a < s.heap.size → ¬ (fun q => s.heap.size ≤ q) a := fun a h => Nat.not_le.mpr h
  refine ⟨vx_Zqof (hts _ (fw_tw 2 51 rfl)) (hts _ (fw_tw 1 11 rfl)) (hs _ fw_na_ok.1) hA, vx_Zqof (hts _ (fw_tw 2 53 rfl)) (hts _ (fw_tw 1 11 rfl)) (hs _ fw_na_ok.2) hA, fun w hw => va_Nw.of (fw_nz_tbl w hw).2 (hts w (fw_nz_tbl w hw).1), fun q hq => va_Nc.of (hs _ (fw_nc_ok q hq)), va_AO.of (hts _ (fw_tw 1 112 rfl)), va_AOA.of (hts _ (fw_tw 3 106 rfl))⟩
theorem fw_H0 {s : State} {b L : Nat} {xs : Nat → Int32} (hts : ∀ w ∈ lw_tbl, w.before #[Value.ref b] s = true) : ∃ D : va_G, fw_H s.heap.size b L xs D (fw_s0 L xs) [] [] s s.heap := by
  have hw : ∀ w ∈ fw_ws, w.before #[Value.ref b] s = true := fun w h => hts w (fw_ws_tbl w h)
  have h1 : ∀ c, ∃ (cC : ClassId) (iS : Nat → Nat), c < 10 → u_Kn s (fw_CN c) (fw_CT c) (fw_nf c) cC iS := by
    intro c
    by_cases hc : c < 10
    · obtain ⟨cC, iS, h⟩ := u_known hw (fw_uw c hc) (hw _ (fw_ins c hc))
      exact ⟨cC, iS, fun _ => h⟩
    · exact ⟨0, fun _ => 0, fun h => absurd h hc⟩
  obtain ⟨dC, h2⟩ := Classical.axiomOfChoice h1
  obtain ⟨dI, h3⟩ := Classical.axiomOfChoice h2
  refine ⟨(fun k => dC (k - 2), fun k => dI (k - 2)), ⟨fun c q hq => ?_, fun k q h => by simp at h⟩, fun k q h => by simp at h, ⟨fun i j p q h => by simp at h, fun k q h => by simp at h⟩, rfl, fun k q h => by simp at h, rfl, fun j hj => rfl⟩
  match c, hq with
  | 0, hq => cases hq; exact h3 0 (by decide)
  | 1, hq => cases hq; exact h3 0 (by decide)
  | c + 2, hq =>
    have hc : c < 10 := by
      have := (List.getElem?_eq_some_iff.mp hq).1
      have h9 : fw_Cl.length = 12 := rfl
      omega
    rw [fw_cl c hc] at hq
    cases hq
    exact h3 c hc
/-- the claim's walk, out of the law's run on the small machine -/
theorem fw_start {p : Program} {e : Env} {s : State} {m : MethodId} {below : List Frame} {meth : Method} {c : Code} (l : Launch) (hflags : l.flags = flags0) {b L : Nat} {xs : Nat → Int32} (C0 : lw_At p s m meth c b L xs)
    (hrun : ∃ (n : Nat) (σ : fw_M), fw_ev n 0 0 (fw_en 0 [(6, 0)]) [] (fw_s0 L xs) = some ((0, 1), σ) ∧ σ (-1) 1 ≤ 676181 ∧ σ (-1) 2 ≤ 7072639) : W p l e room_1 s m #[Value.ref b] below meth c s.heap [] 0 0 (lw_Z below #[Value.ref b] s) (entryFrame m ([Value.ref b] : List Value).toArray 5) := by
  obtain ⟨hx, hb, hr, hml, hown, hts, hX, hbl, hlocks, hgv⟩ := id C0
  obtain ⟨n, σ, hev, hc, hsl⟩ := hrun
  have hJ := fw_sound _ _ _ _ _ _ _ hev
  obtain ⟨D, hH⟩ := fw_H0 (b := b) (L := L) (xs := xs) hts
  have htr : l.stackTraces = false := by
    unfold Launch.stackTraces
    rw [hflags]
    decide
  rw [lg_entry_eq]
  have hT : fw_St (fw_al []) b [(6, 0)] [Value.ref b] := ⟨rfl, trivial⟩
  refine hJ.2 s.heap.size b L xs D p l e room_1 s m #[Value.ref b] below meth c (lw_Z below #[Value.ref b] s) [] 0 0 ⟨hx, hb, hml, hown, fun w h => hts w (fw_ws_tbl w h), hlocks, fun h => absurd rfl h, fun h => absurd h (by decide +kernel), htr, by decide +kernel, by decide +kernel, fw_Z0 hts hgv, Nat.le_refl _, ⟨hX, hbl, hbl⟩, hr, by decide⟩ ⟨?_, fun h => absurd h (show ¬ (0 : Nat) = 9 by decide), fun σ ik ic x h => ?_⟩ ?_ ?_ [] [] s.heap [] 0 0 _ [] hH va_S.rf (List.prefix_refl _) rfl rfl (fw_L_entry hT (fun a ha => ?_) (by decide +kernel)) trivial
  · intro tys ws H locs cells slots pc ls cst i hd hH1 hS1 hal h1 h2 hv
    have hi : i = .ireturn ∧ ∃ z : Int32, (1 : Int) = z.toInt ∧ cst = [.int z] := by
      rcases hv with ⟨h, -⟩ | ⟨-, hi, -, z, hz, hc⟩ | ⟨h, -⟩ | ⟨h, -⟩ | ⟨h, -⟩ | ⟨h, -⟩
      · exact absurd (congrArg Prod.fst h) (show ¬ (0 : Nat) = 5 by decide)
      · exact ⟨hi, z, hz, hc⟩
      · exact absurd h (show ¬ (0 : Nat) = 1 by decide)
      · exact absurd h (show ¬ (0 : Nat) = 2 by decide)
      · exact absurd h (show ¬ (0 : Nat) = 3 by decide)
      · exact absurd h (show ¬ (0 : Nat) = 4 by decide)
    obtain ⟨rfl, z, hz, rfl⟩ := hi
    have hz1 : z = 1 := Int32.toInt_inj.mp (by rw [← hz]; rfl)
    subst hz1
    have h1 : (cells : Int) = σ (-1) 1 - 0 := h1
    have h2 : (slots : Int) = σ (-1) 2 - 0 := h2
    refine va_forget (fun q hq => hS1.2.2 q hq) ?_
    refine W.widen (k := 676181) (n := 7072639) (by omega) (by omega) ?_
    exact lw_ret (Drawn.sameBut.refl s.drawn lw_cs) hx hb hr hlocks hd
  · exact absurd (congrArg Prod.fst h) (show (0 : Nat) ≠ 9 by decide)
  · show σ (-1) 1 - 0 ≤ ((676181 : Nat) : Int)
    omega
  · show σ (-1) 2 - 0 ≤ ((7072639 : Nat) : Int)
    omega
  · rcases List.mem_cons.mp ha with rfl | h
    · exact ⟨show (6 : Nat) ≠ 1 by decide, show (6 : Nat) ≠ 3 by decide⟩
    · cases h
