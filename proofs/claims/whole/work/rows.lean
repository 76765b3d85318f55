section
-- ===== PART A: goes FIRST, ahead of the names: the tables' words, and 'selects' of the private methods out of them =====
/-- a private method of a class that the tables say can be made, by its rows of tables_1 -/
def lw_okq (q : MethodName × Nat) : Prop := (q.1.cls ≠ "java/lang/invoke/MethodHandle" ∧ q.1.cls ≠ "java/lang/invoke/VarHandle") ∧ Cond.instantiable q.1.cls q.2 ∈ tables_1 ∧ Cond.privateMethod q.1 ∈ tables_1 ∧ Cond.instanceMethod q.1 ∈ tables_1
theorem lw_p0 : lw_okq (⟨"CrossdockSorter", "eachParcelIsOnce", "()Z"⟩, 9) := ⟨⟨by decide +kernel, by decide +kernel⟩, List.mem_of_getElem? (i := 24) (by decide +kernel), List.mem_of_getElem? (i := 291) (by decide +kernel), List.mem_of_getElem? (i := 292) (by decide +kernel)⟩
theorem lw_p1 : lw_okq (⟨"CrossdockSorter", "see", "(I)V"⟩, 9) := ⟨⟨by decide +kernel, by decide +kernel⟩, List.mem_of_getElem? (i := 24) (by decide +kernel), List.mem_of_getElem? (i := 295) (by decide +kernel), List.mem_of_getElem? (i := 296) (by decide +kernel)⟩
theorem lw_p2 : lw_okq (⟨"CrossdockSorter", "seeAll", "(LCrossdockSorter$Row;)V"⟩, 9) := ⟨⟨by decide +kernel, by decide +kernel⟩, List.mem_of_getElem? (i := 24) (by decide +kernel), List.mem_of_getElem? (i := 315) (by decide +kernel), List.mem_of_getElem? (i := 316) (by decide +kernel)⟩
theorem lw_p3 : lw_okq (⟨"java/lang/Throwable", "fillInStackTrace", "(I)Ljava/lang/Throwable;"⟩, 6) := ⟨⟨by decide +kernel, by decide +kernel⟩, List.mem_of_getElem? (i := 475) (by decide +kernel), List.mem_of_getElem? (i := 473) (by decide +kernel), List.mem_of_getElem? (i := 474) (by decide +kernel)⟩
theorem lw_p4 : lw_okq (⟨"CrossdockSorter", "requireChute", "(I)LCrossdockSorter$Chute;"⟩, 9) := ⟨⟨by decide +kernel, by decide +kernel⟩, List.mem_of_getElem? (i := 24) (by decide +kernel), List.mem_of_getElem? (i := 626) (by decide +kernel), List.mem_of_getElem? (i := 627) (by decide +kernel)⟩
theorem lw_p5 : lw_okq (⟨"CrossdockSorter", "requireStation", "(I)V"⟩, 9) := ⟨⟨by decide +kernel, by decide +kernel⟩, List.mem_of_getElem? (i := 24) (by decide +kernel), List.mem_of_getElem? (i := 660) (by decide +kernel), List.mem_of_getElem? (i := 661) (by decide +kernel)⟩
theorem lw_p6 : lw_okq (⟨"CrossdockSorter", "requirePosition", "(I)V"⟩, 9) := ⟨⟨by decide +kernel, by decide +kernel⟩, List.mem_of_getElem? (i := 24) (by decide +kernel), List.mem_of_getElem? (i := 710) (by decide +kernel), List.mem_of_getElem? (i := 711) (by decide +kernel)⟩
theorem lw_p7 : lw_okq (⟨"CrossdockSorter", "passOneTick", "()I"⟩, 9) := ⟨⟨by decide +kernel, by decide +kernel⟩, List.mem_of_getElem? (i := 24) (by decide +kernel), List.mem_of_getElem? (i := 737) (by decide +kernel), List.mem_of_getElem? (i := 738) (by decide +kernel)⟩
theorem lw_p8 : lw_okq (⟨"CrossdockSorter", "dropInto", "(I)I"⟩, 9) := ⟨⟨by decide +kernel, by decide +kernel⟩, List.mem_of_getElem? (i := 24) (by decide +kernel), List.mem_of_getElem? (i := 748) (by decide +kernel), List.mem_of_getElem? (i := 749) (by decide +kernel)⟩
theorem lw_p9 : lw_okq (⟨"CrossdockSorter", "dropIntoOverflow", "()I"⟩, 9) := ⟨⟨by decide +kernel, by decide +kernel⟩, List.mem_of_getElem? (i := 24) (by decide +kernel), List.mem_of_getElem? (i := 768) (by decide +kernel), List.mem_of_getElem? (i := 769) (by decide +kernel)⟩
theorem lw_p10 : lw_okq (⟨"CrossdockSorter", "requireParcel", "(I)V"⟩, 9) := ⟨⟨by decide +kernel, by decide +kernel⟩, List.mem_of_getElem? (i := 24) (by decide +kernel), List.mem_of_getElem? (i := 781) (by decide +kernel), List.mem_of_getElem? (i := 782) (by decide +kernel)⟩
theorem lw_p11 : lw_okq (⟨"CrossdockSorter", "requireTruck", "(I)V"⟩, 9) := ⟨⟨by decide +kernel, by decide +kernel⟩, List.mem_of_getElem? (i := 24) (by decide +kernel), List.mem_of_getElem? (i := 956) (by decide +kernel), List.mem_of_getElem? (i := 957) (by decide +kernel)⟩
theorem lw_p12 : lw_okq (⟨"CrossdockSorter", "requireSomeLeft", "()V"⟩, 9) := ⟨⟨by decide +kernel, by decide +kernel⟩, List.mem_of_getElem? (i := 24) (by decide +kernel), List.mem_of_getElem? (i := 1022) (by decide +kernel), List.mem_of_getElem? (i := 1023) (by decide +kernel)⟩
theorem lw_p13 : lw_okq (⟨"CrossdockSorterModel", "goesOn", "(I)Z"⟩, 35) := ⟨⟨by decide +kernel, by decide +kernel⟩, List.mem_of_getElem? (i := 1038) (by decide +kernel), List.mem_of_getElem? (i := 1162) (by decide +kernel), List.mem_of_getElem? (i := 1163) (by decide +kernel)⟩
theorem lw_p14 : lw_okq (⟨"CrossdockSorterModel", "chuteAt", "(I)I"⟩, 35) := ⟨⟨by decide +kernel, by decide +kernel⟩, List.mem_of_getElem? (i := 1038) (by decide +kernel), List.mem_of_getElem? (i := 1170) (by decide +kernel), List.mem_of_getElem? (i := 1171) (by decide +kernel)⟩
theorem lw_p15 : lw_okq (⟨"CrossdockSorterModel", "isChute", "(I)Z"⟩, 35) := ⟨⟨by decide +kernel, by decide +kernel⟩, List.mem_of_getElem? (i := 1038) (by decide +kernel), List.mem_of_getElem? (i := 1178) (by decide +kernel), List.mem_of_getElem? (i := 1179) (by decide +kernel)⟩
def lw_privs_1 : List (MethodName × Nat) := [(⟨"CrossdockSorter", "eachParcelIsOnce", "()Z"⟩, 9), (⟨"CrossdockSorter", "see", "(I)V"⟩, 9), (⟨"CrossdockSorter", "seeAll", "(LCrossdockSorter$Row;)V"⟩, 9), (⟨"java/lang/Throwable", "fillInStackTrace", "(I)Ljava/lang/Throwable;"⟩, 6), (⟨"CrossdockSorter", "requireChute", "(I)LCrossdockSorter$Chute;"⟩, 9), (⟨"CrossdockSorter", "requireStation", "(I)V"⟩, 9), (⟨"CrossdockSorter", "requirePosition", "(I)V"⟩, 9), (⟨"CrossdockSorter", "passOneTick", "()I"⟩, 9), (⟨"CrossdockSorter", "dropInto", "(I)I"⟩, 9), (⟨"CrossdockSorter", "dropIntoOverflow", "()I"⟩, 9), (⟨"CrossdockSorter", "requireParcel", "(I)V"⟩, 9), (⟨"CrossdockSorter", "requireTruck", "(I)V"⟩, 9), (⟨"CrossdockSorter", "requireSomeLeft", "()V"⟩, 9), (⟨"CrossdockSorterModel", "goesOn", "(I)Z"⟩, 35), (⟨"CrossdockSorterModel", "chuteAt", "(I)I"⟩, 35), (⟨"CrossdockSorterModel", "isChute", "(I)Z"⟩, 35)]
theorem lw_r1 : ∀ q ∈ lw_privs_1, lw_okq q := List.forall_mem_cons.mpr ⟨lw_p0, List.forall_mem_cons.mpr ⟨lw_p1, List.forall_mem_cons.mpr ⟨lw_p2, List.forall_mem_cons.mpr ⟨lw_p3, List.forall_mem_cons.mpr ⟨lw_p4, List.forall_mem_cons.mpr ⟨lw_p5, List.forall_mem_cons.mpr ⟨lw_p6, List.forall_mem_cons.mpr ⟨lw_p7, List.forall_mem_cons.mpr ⟨lw_p8, List.forall_mem_cons.mpr ⟨lw_p9, List.forall_mem_cons.mpr ⟨lw_p10, List.forall_mem_cons.mpr ⟨lw_p11, List.forall_mem_cons.mpr ⟨lw_p12, List.forall_mem_cons.mpr ⟨lw_p13, List.forall_mem_cons.mpr ⟨lw_p14, List.forall_mem_cons.mpr ⟨lw_p15, fun _ h => absurd h List.not_mem_nil⟩⟩⟩⟩⟩⟩⟩⟩⟩⟩⟩⟩⟩⟩⟩⟩
theorem lw_p16 : lw_okq (⟨"CrossdockSorterModel", "isStation", "(I)Z"⟩, 35) := ⟨⟨by decide +kernel, by decide +kernel⟩, List.mem_of_getElem? (i := 1038) (by decide +kernel), List.mem_of_getElem? (i := 1190) (by decide +kernel), List.mem_of_getElem? (i := 1191) (by decide +kernel)⟩
theorem lw_p17 : lw_okq (⟨"CrossdockSorterModel", "isJammedAt", "(I)Z"⟩, 35) := ⟨⟨by decide +kernel, by decide +kernel⟩, List.mem_of_getElem? (i := 1038) (by decide +kernel), List.mem_of_getElem? (i := 1194) (by decide +kernel), List.mem_of_getElem? (i := 1195) (by decide +kernel)⟩
theorem lw_p18 : lw_okq (⟨"CrossdockSorterModel", "sets", "(IZ)V"⟩, 35) := ⟨⟨by decide +kernel, by decide +kernel⟩, List.mem_of_getElem? (i := 1038) (by decide +kernel), List.mem_of_getElem? (i := 1198) (by decide +kernel), List.mem_of_getElem? (i := 1199) (by decide +kernel)⟩
theorem lw_p19 : lw_okq (⟨"CrossdockSorterModel", "jams", "()I"⟩, 35) := ⟨⟨by decide +kernel, by decide +kernel⟩, List.mem_of_getElem? (i := 1038) (by decide +kernel), List.mem_of_getElem? (i := 1202) (by decide +kernel), List.mem_of_getElem? (i := 1203) (by decide +kernel)⟩
theorem lw_p20 : lw_okq (⟨"CrossdockSorterModel", "isPosition", "(I)Z"⟩, 35) := ⟨⟨by decide +kernel, by decide +kernel⟩, List.mem_of_getElem? (i := 1038) (by decide +kernel), List.mem_of_getElem? (i := 1214) (by decide +kernel), List.mem_of_getElem? (i := 1215) (by decide +kernel)⟩
theorem lw_p21 : lw_okq (⟨"CrossdockSorterModel", "passesOne", "()I"⟩, 35) := ⟨⟨by decide +kernel, by decide +kernel⟩, List.mem_of_getElem? (i := 1038) (by decide +kernel), List.mem_of_getElem? (i := 1222) (by decide +kernel), List.mem_of_getElem? (i := 1223) (by decide +kernel)⟩
theorem lw_p22 : lw_okq (⟨"CrossdockSorterModel", "moves", "()V"⟩, 35) := ⟨⟨by decide +kernel, by decide +kernel⟩, List.mem_of_getElem? (i := 1038) (by decide +kernel), List.mem_of_getElem? (i := 1226) (by decide +kernel), List.mem_of_getElem? (i := 1227) (by decide +kernel)⟩
theorem lw_p23 : lw_okq (⟨"CrossdockSorterModel", "drops", "(I)Z"⟩, 35) := ⟨⟨by decide +kernel, by decide +kernel⟩, List.mem_of_getElem? (i := 1038) (by decide +kernel), List.mem_of_getElem? (i := 1230) (by decide +kernel), List.mem_of_getElem? (i := 1231) (by decide +kernel)⟩
theorem lw_p24 : lw_okq (⟨"CrossdockSorterModel", "leaves", "(II)V"⟩, 35) := ⟨⟨by decide +kernel, by decide +kernel⟩, List.mem_of_getElem? (i := 1038) (by decide +kernel), List.mem_of_getElem? (i := 1234) (by decide +kernel), List.mem_of_getElem? (i := 1235) (by decide +kernel)⟩
theorem lw_p25 : lw_okq (⟨"CrossdockSorterModel", "overflows", "()Z"⟩, 35) := ⟨⟨by decide +kernel, by decide +kernel⟩, List.mem_of_getElem? (i := 1038) (by decide +kernel), List.mem_of_getElem? (i := 1238) (by decide +kernel), List.mem_of_getElem? (i := 1239) (by decide +kernel)⟩
theorem lw_p26 : lw_okq (⟨"CrossdockSorterModel", "looksOne", "()I"⟩, 35) := ⟨⟨by decide +kernel, by decide +kernel⟩, List.mem_of_getElem? (i := 1038) (by decide +kernel), List.mem_of_getElem? (i := 1246) (by decide +kernel), List.mem_of_getElem? (i := 1247) (by decide +kernel)⟩
theorem lw_p27 : lw_okq (⟨"CrossdockSorterModel", "isParcel", "(I)Z"⟩, 35) := ⟨⟨by decide +kernel, by decide +kernel⟩, List.mem_of_getElem? (i := 1038) (by decide +kernel), List.mem_of_getElem? (i := 1267) (by decide +kernel), List.mem_of_getElem? (i := 1268) (by decide +kernel)⟩
theorem lw_p28 : lw_okq (⟨"CrossdockSorterModel", "positionIn", "(I)I"⟩, 35) := ⟨⟨by decide +kernel, by decide +kernel⟩, List.mem_of_getElem? (i := 1038) (by decide +kernel), List.mem_of_getElem? (i := 1275) (by decide +kernel), List.mem_of_getElem? (i := 1276) (by decide +kernel)⟩
theorem lw_p29 : lw_okq (⟨"CrossdockSorterModel", "isSomeFree", "()Z"⟩, 35) := ⟨⟨by decide +kernel, by decide +kernel⟩, List.mem_of_getElem? (i := 1038) (by decide +kernel), List.mem_of_getElem? (i := 1303) (by decide +kernel), List.mem_of_getElem? (i := 1304) (by decide +kernel)⟩
theorem lw_p30 : lw_okq (⟨"CrossdockSorterModel", "loadOf", "(I)I"⟩, 35) := ⟨⟨by decide +kernel, by decide +kernel⟩, List.mem_of_getElem? (i := 1038) (by decide +kernel), List.mem_of_getElem? (i := 1307) (by decide +kernel), List.mem_of_getElem? (i := 1308) (by decide +kernel)⟩
theorem lw_p31 : lw_okq (⟨"CrossdockSorterModel", "greatestRoute", "()I"⟩, 35) := ⟨⟨by decide +kernel, by decide +kernel⟩, List.mem_of_getElem? (i := 1038) (by decide +kernel), List.mem_of_getElem? (i := 1311) (by decide +kernel), List.mem_of_getElem? (i := 1312) (by decide +kernel)⟩
def lw_privs_2 : List (MethodName × Nat) := [(⟨"CrossdockSorterModel", "isStation", "(I)Z"⟩, 35), (⟨"CrossdockSorterModel", "isJammedAt", "(I)Z"⟩, 35), (⟨"CrossdockSorterModel", "sets", "(IZ)V"⟩, 35), (⟨"CrossdockSorterModel", "jams", "()I"⟩, 35), (⟨"CrossdockSorterModel", "isPosition", "(I)Z"⟩, 35), (⟨"CrossdockSorterModel", "passesOne", "()I"⟩, 35), (⟨"CrossdockSorterModel", "moves", "()V"⟩, 35), (⟨"CrossdockSorterModel", "drops", "(I)Z"⟩, 35), (⟨"CrossdockSorterModel", "leaves", "(II)V"⟩, 35), (⟨"CrossdockSorterModel", "overflows", "()Z"⟩, 35), (⟨"CrossdockSorterModel", "looksOne", "()I"⟩, 35), (⟨"CrossdockSorterModel", "isParcel", "(I)Z"⟩, 35), (⟨"CrossdockSorterModel", "positionIn", "(I)I"⟩, 35), (⟨"CrossdockSorterModel", "isSomeFree", "()Z"⟩, 35), (⟨"CrossdockSorterModel", "loadOf", "(I)I"⟩, 35), (⟨"CrossdockSorterModel", "greatestRoute", "()I"⟩, 35)]
theorem lw_r2 : ∀ q ∈ lw_privs_2, lw_okq q := List.forall_mem_cons.mpr ⟨lw_p16, List.forall_mem_cons.mpr ⟨lw_p17, List.forall_mem_cons.mpr ⟨lw_p18, List.forall_mem_cons.mpr ⟨lw_p19, List.forall_mem_cons.mpr ⟨lw_p20, List.forall_mem_cons.mpr ⟨lw_p21, List.forall_mem_cons.mpr ⟨lw_p22, List.forall_mem_cons.mpr ⟨lw_p23, List.forall_mem_cons.mpr ⟨lw_p24, List.forall_mem_cons.mpr ⟨lw_p25, List.forall_mem_cons.mpr ⟨lw_p26, List.forall_mem_cons.mpr ⟨lw_p27, List.forall_mem_cons.mpr ⟨lw_p28, List.forall_mem_cons.mpr ⟨lw_p29, List.forall_mem_cons.mpr ⟨lw_p30, List.forall_mem_cons.mpr ⟨lw_p31, fun _ h => absurd h List.not_mem_nil⟩⟩⟩⟩⟩⟩⟩⟩⟩⟩⟩⟩⟩⟩⟩⟩
theorem lw_p32 : lw_okq (⟨"CrossdockSorterModel", "leastChute", "()I"⟩, 35) := ⟨⟨by decide +kernel, by decide +kernel⟩, List.mem_of_getElem? (i := 1038) (by decide +kernel), List.mem_of_getElem? (i := 1315) (by decide +kernel), List.mem_of_getElem? (i := 1316) (by decide +kernel)⟩
theorem lw_p33 : lw_okq (⟨"CrossdockSorterModel", "sealOf", "(I)I"⟩, 35) := ⟨⟨by decide +kernel, by decide +kernel⟩, List.mem_of_getElem? (i := 1038) (by decide +kernel), List.mem_of_getElem? (i := 1346) (by decide +kernel), List.mem_of_getElem? (i := 1347) (by decide +kernel)⟩
theorem lw_p34 : lw_okq (⟨"CrossdockSorterModel", "parcelAt", "(II)I"⟩, 35) := ⟨⟨by decide +kernel, by decide +kernel⟩, List.mem_of_getElem? (i := 1038) (by decide +kernel), List.mem_of_getElem? (i := 1367) (by decide +kernel), List.mem_of_getElem? (i := 1368) (by decide +kernel)⟩
def lw_privs_3 : List (MethodName × Nat) := [(⟨"CrossdockSorterModel", "leastChute", "()I"⟩, 35), (⟨"CrossdockSorterModel", "sealOf", "(I)I"⟩, 35), (⟨"CrossdockSorterModel", "parcelAt", "(II)I"⟩, 35)]
theorem lw_r3 : ∀ q ∈ lw_privs_3, lw_okq q := List.forall_mem_cons.mpr ⟨lw_p32, List.forall_mem_cons.mpr ⟨lw_p33, List.forall_mem_cons.mpr ⟨lw_p34, fun _ h => absurd h List.not_mem_nil⟩⟩⟩
def lw_privs : List (MethodName × Nat) := lw_privs_1 ++ (lw_privs_2 ++ (lw_privs_3))
def lw_tbl : List Cond := k2_sels lw_privs ++ tables_1
theorem lw_privs_ok : ∀ q ∈ lw_privs, lw_okq q := by
  show ∀ q ∈ lw_privs_1 ++ (lw_privs_2 ++ (lw_privs_3)), lw_okq q
  exact List.forall_mem_append.mpr ⟨lw_r1, List.forall_mem_append.mpr ⟨lw_r2, lw_r3⟩⟩
/-- the streams that the claim lets the run draw from -/
abbrev lw_cs : List Choice := [Jvm.Choice.named "NaN.bits"]
theorem lw_bits : nanBits ∈ lw_cs := by first | decide | exact List.mem_cons_self | simp [lw_cs, nanBits]
-- ===== end of PART A
/-! ===== BEGIN words of one list among another's, by their places ===== -/
theorem goodIn_r {big : List Cond} (ws : List Cond) (ps : List Nat) (hp : ws = ps.filterMap (fun i => big[i]?)) (h : ws.all goodWord = true) : GoodIn big ws := by
  intro w hw
  have h1 := List.all_eq_true.mp h w hw
  rw [hp] at hw
  obtain ⟨i, -, hi⟩ := List.mem_filterMap.mp hw
  have hm : w ∈ big := by first | exact List.mem_of_getElem? hi | exact List.getElem?_mem hi
  exact ⟨hm, good_of_word h1⟩
theorem goodIn_app {big a b : List Cond} (ha : GoodIn big a) (hb : GoodIn big b) : GoodIn big (a ++ b) := fun w h => (List.mem_append.mp h).elim (ha w) (hb w)
theorem goodIn_ca {big a b : List Cond} {c : Cond} (ha : GoodIn big (c :: a)) (hb : GoodIn big b) : GoodIn big (c :: (a ++ b)) := fun w h => (List.mem_cons.mp h).elim (fun e => ha w (List.mem_cons.mpr (Or.inl e))) (fun h => (List.mem_append.mp h).elim (fun h => ha w (List.mem_cons.mpr (Or.inr h))) (hb w))
theorem goodIn_sub {big ws : List Cond} (hm : ∀ w ∈ ws, w ∈ big) (h : ws.all goodWord = true) : GoodIn big ws := fun w hw => ⟨hm w hw, good_of_word (List.all_eq_true.mp h w hw)⟩
/-! ===== END ===== -/

/-! ===== BEGIN exceptions that leave a method, and their catching by the caller (launches without stack traces) ===== -/
section VXA
/-! The laws vx_back, vx_callV, vx_callS, vx_callSW, vx_throw0, vx_throwS follow proofs of the library, with one case more: JvmDerived/Free/Laws.lean (Back.of_free), Shelf42/LK1.lean (callV, callS), Shelf/KitTraced.lean (throwNew0V, throwNewS). -/
/-- where a method has thrown q: the class by its name, the cell, what was written, the world -/
def vx_T (XC : String → State → State → Prop) (st : State) (q : Addr) (t : State) (mc ms : Nat) (free : Addr → Prop) : Prop :=
  ∃ (E : String) (ce : Cell) (L : List Loc), XC E st t ∧ t.heap[q]? = some ce ∧ ce.vm = .none ∧ st.vm.findClass E = some ce.cls ∧ st.WarmedH t.vm ∧ st.sameButNew ({ t with vm := st.vm } : State) L mc ms ∧ ∀ z ∈ L, free z.base
def vx_Q (Qc : Array Value → State → Outcome → State → Prop) (XC : String → State → State → Prop) (mc ms : Nat) (free : Addr → Prop) : Array Value → State → Outcome → State → Prop := fun a st o t =>
  (Qc a st o t ∧ ∃ L, FrameEnd st o t L mc ms ∧ ∀ q ∈ L, free q.base) ∨ ∃ q, o = .threw q ∧ vx_T XC st q t mc ms free
/-- a callee that returns or throws -/
def vx_Met (l : Launch) (y : MethodName) (ws : List Cond) (rm : Room) (Pc : Array Value → State → Prop) (Qc : Array Value → State → Outcome → State → Prop) (XC : String → State → State → Prop) (mc ms : Nat) (free : Addr → Prop) : Prop :=
  MetFree l y (headSpec ws rm) Pc (fun _ _ _ _ _ => True) (vx_Q Qc XC mc ms free)
def vx_Post (XC : String → State → State → Prop) (mc ms : Nat) (free : Addr → Prop) : Pt → Array Value → Addr → Pt → Prop := fun A a q B =>
  ∃ (g : JFrame) (mk : MethodId) (t : State) (L : List Loc) (E : String) (ce : Cell), B.U.heap = t.heap ∧ B.U.vm = t.vm ∧ XC E (A.U.calling g mk a) t ∧ t.heap[q]? = some ce ∧ ce.vm = .none ∧ A.U.vm.findClass E = some ce.cls ∧ B.locs = A.locs ++ L ∧ (∀ z ∈ L, free z.base) ∧ B.cells = A.cells + mc ∧ B.slots = A.slots + ms
def vx_Back (l : Launch) (R : Room) (p : Program) (e : Env) (below : List Frame) (s : State) (sargs : Array Value) (y : MethodName) (len W9 : Nat)
    (Pre : Pt → Array Value → Prop) (Post : Pt → Array Value → Option Value → Pt → Prop) (PostX : Pt → Array Value → Addr → Pt → Prop) : Prop :=
  ∀ (m : MethodId) (meth : Method) (c : Code) (A : Pt) (g : JFrame) (ig : Instr) (mk : MethodId) (a : Array Value),
    Stand p l e R s m sargs below meth c A.U A.locs A.cells A.slots → g.method = m → g.locals.size = c.maxLocals → decode c.code g.pc = .ok (ig, len) →
    2 * g.monitorRoom + (g.stack.map fun v => v.category).sum ≤ W9 → A.U.methodNamed? y = some mk → Pre A a →
    (∃ (v : Option Value) (B : Pt), Stand p l e R s m sargs below meth c B.U B.locs B.cells B.slots ∧ Post A a v B ∧
      Steps p.tables e below (doInvoke e (A.U.setTop g) [] mk a).1 (B.U.setTop { g with pc := g.pc + len, stack := v.toList ++ g.stack })) ∨
    (∃ (q : Addr) (B : Pt), Stand p l e R s m sargs below meth c B.U B.locs B.cells B.slots ∧ PostX A a q B ∧
      Steps p.tables e below (doInvoke e (A.U.setTop g) [] mk a).1 ((B.U.setTop g).pushFrame (.throwing q)))
section Payer
variable {l : Launch} {R : Room} {p : Program} {e : Env} {below : List Frame} {s : State} {sargs : Array Value} {y : MethodName} {len W9 : Nat}
theorem vx_back {ws : List Cond} {rm : Room} {Pc : Array Value → State → Prop} {Qc : Array Value → State → Outcome → State → Prop} {XC : String → State → State → Prop} {mc ms : Nat} {free : Addr → Prop} {bytes : ByteArray} {maxL : Nat} {ret : Option FieldType}
    (hM : vx_Met l y ws rm Pc Qc XC mc ms free) (hblind : FrameBlind Pc) (hrc : rm.cells = mc) (hrs : rm.slots = ms)
    (hframes : rm.frames + 1 ≤ R.frames) (hlocals : W9 + (maxL + 11) + rm.locals ≤ R.locals)
    (hws : ∀ w ∈ ws, ∀ a' U, s.WarmedH U.vm → w.before a' U = true) (hcode : Cond.code y bytes maxL ret ∈ ws) (hinit : ∀ a' U, s.WarmedH U.vm → (Cond.initialized y.cls).before a' U = true) :
    vx_Back l R p e below s sargs y len W9 (PreOf R mc ms Pc) (PostOf Qc mc ms free) (vx_Post XC mc ms free) := by
  intro m meth c A g ig mk a X hg hsize hdg hW hn hp
  have h1 : (headSpec ws rm).pre.before a A.U = true := atoms_intro fun w hw => hws w hw _ _ X.warmed
  have h2 : (Cond.code y bytes maxL ret).before a A.U = true := hws _ hcode _ _ X.warmed
  have h3 : (Cond.initialized y.cls).before a A.U = true := hinit _ _ X.warmed
  have h4 : A.cells + (headSpec ws rm).room.cells ≤ R.cells := by rw [show (headSpec ws rm).room.cells = mc from hrc]; exact hp.1
  have h5 : A.slots + (headSpec ws rm).room.slots ≤ R.slots := by rw [show (headSpec ws rm).room.slots = ms from hrs]; exact hp.2.1
  have hPc : Pc a (A.U.calling g mk a) := hblind _ _ _ _ hp.2.2
  obtain ⟨U, Ls, c0, s0⟩ := A
  dsimp only [Pt.U, Pt.locs, Pt.cells, Pt.slots] at h1 h2 h3 h4 h5 X hn hPc ⊢
  obtain ⟨methY, cY, hmY, hcY, -, hlY, -, -, -, -⟩ := Cond.code_spec hn h2
  obtain ⟨kY, hkY, -⟩ := className_of_methodNamed hn
  have hinitY : kY.init = .initialized := Cond.initialized_spec (findClass_of_methodNamed hn) hkY h3
  have h : At U g.method c below := by rw [hg]; exact X.here
  have hlocals9 : W9 + (maxL + 11) + (headSpec ws rm).room.locals ≤ R.locals := hlocals
  have happ : (headSpec ws rm).appliesLoose y e.platform (U.calling g mk a) = true :=
    Spec.appliesLoose_calling (g := g) h hdg hn hkY hinitY
      (X.room_calling (g := g) (R' := (headSpec ws rm).room) hsize hmY hcY hframes (by rw [hlY]; omega) h4 h5) h1
  obtain ⟨mid, hmid⟩ := h.above
  have hfr : (U.setTop g).frames = (.java g :: mid) ++ below := by rw [State.frames_setTop' g h.top, hmid]; rfl
  obtain ⟨o, s₂, hsteps, -, hend, hq⟩ := Steps.callFree hM p X.admits X.cas X.clock (acts := []) hfr happ hPc trivial
  have hq' : vx_Q Qc XC mc ms free a (U.calling g mk a) o s₂ := hq
  rw [State.frames_setTop' g h.top] at hend
  obtain ⟨g₀, hg0⟩ := Option.isSome_iff_exists.mp h.top
  obtain ⟨r, hr⟩ := State.topJava?_eq_some.mp hg0
  have hr' : (({ U with heap := s₂.heap, slotsUsed := s₂.slotsUsed } : State).setVm s₂.vm).frames = .java g₀ :: r := hr
  rcases hq' with ⟨hqc, L, hfe, hL⟩ | ⟨q, rfl, E, ce, L, hx, hce, hcv, hcl, hW₂, hsm, hL⟩
  · obtain ⟨⟨v, rfl⟩, hW₂, e2, q2, q3, q4, q5, q6⟩ := id hfe
    have e3 : s₂ = ({ (U.calling g mk a).setFrames s₂.frames with heap := s₂.heap, slotsUsed := s₂.slotsUsed } : State).setVm s₂.vm := by
      have : s₂ = ({ s₂ with vm := (U.calling g mk a).vm } : State).setVm s₂.vm := rfl
      rw [e2] at this
      exact this
    obtain ⟨c₂, i₂, len₂, hc₂, hd₂, hf₂⟩ := hend
    have hW' : U.WarmedH s₂.vm := hW₂
    have hcc : c₂ = c := by
      have h1 : s₂.code? g.method = U.code? g.method := by
        rw [State.code?_eq, State.code?_eq, hW'.alike.method?]
      exact Option.some.inj (hc₂.symm.trans (h1.trans h.code))
    subst hcc
    have hlen : len₂ = len := by rw [hdg] at hd₂; cases hd₂; rfl
    subst hlen
    have hs₂ : s₂ = (({ U with heap := s₂.heap, slotsUsed := s₂.slotsUsed } : State).setVm s₂.vm).setTop { g with pc := g.pc + len₂, stack := v.toList ++ g.stack } := by
      refine e3.trans ?_
      rw [hf₂, State.calling_eq h.top, State.setFrames_setFrames, State.setTop_of_frames _ hr', hr]
      rfl
    have hsame : U.sameButNew ({ U with heap := s₂.heap, slotsUsed := s₂.slotsUsed } : State) L mc ms := by
      refine ⟨?_, q2, q3, q4, q5, q6⟩
      obtain ⟨t, ht, -⟩ := State.frames_cons hr
      show ({ U with heap := s₂.heap, slotsUsed := s₂.slotsUsed } : State) = { U.setFrames U.frames with heap := s₂.heap, slotsUsed := s₂.slotsUsed }
      rw [State.setFrames_self ht]
    subst hg
    refine Or.inl ⟨v, ⟨(({ U with heap := s₂.heap, slotsUsed := s₂.slotsUsed } : State).setVm s₂.vm), Ls ++ L, c0 + mc, s0 + ms⟩,
      ⟨X.admits, X.cas, X.clock, X.frames, X.room, X.hears, X.method, X.code, (X.here.setHeapUsed s₂.heap s₂.slotsUsed).setVm hW'.alike, X.tail, State.WarmedH.trans X.warmed hW', X.limits, X.bytes, X.same.trans (hsame.setVm s.vm)⟩,
      ⟨g, mk, s₂, L, rfl, rfl, hqc, rfl, hL, rfl, rfl⟩, ?_⟩
    show Steps p.tables e below _ ((({ U with heap := s₂.heap, slotsUsed := s₂.slotsUsed } : State).setVm s₂.vm).setTop { g with pc := g.pc + len₂, stack := v.toList ++ g.stack })
    rw [← hs₂]
    exact hsteps
  · obtain ⟨e2, q2, q3, q4, q5, q6⟩ := id hsm
    have e3 : s₂ = ({ (U.calling g mk a).setFrames s₂.frames with heap := s₂.heap, slotsUsed := s₂.slotsUsed } : State).setVm s₂.vm := by
      have : s₂ = ({ s₂ with vm := (U.calling g mk a).vm } : State).setVm s₂.vm := rfl
      rw [e2] at this
      exact this
    have hf₂ : s₂.frames = .throwing q :: .java g :: U.frames.tail := hend
    have hW' : U.WarmedH s₂.vm := hW₂
    have hs₂ : s₂ = ((({ U with heap := s₂.heap, slotsUsed := s₂.slotsUsed } : State).setVm s₂.vm).setTop g).pushFrame (.throwing q) := by
      refine e3.trans ?_
      rw [hf₂, State.calling_eq h.top, State.setFrames_setFrames, State.pushFrame, State.frames_setTop _ hr', State.setTop_of_frames _ hr', State.setFrames_setFrames, hr]
      rfl
    have hsame : U.sameButNew ({ U with heap := s₂.heap, slotsUsed := s₂.slotsUsed } : State) L mc ms := by
      refine ⟨?_, q2, q3, q4, q5, q6⟩
      obtain ⟨t, ht, -⟩ := State.frames_cons hr
      show ({ U with heap := s₂.heap, slotsUsed := s₂.slotsUsed } : State) = { U.setFrames U.frames with heap := s₂.heap, slotsUsed := s₂.slotsUsed }
      rw [State.setFrames_self ht]
    subst hg
    refine Or.inr ⟨q, ⟨(({ U with heap := s₂.heap, slotsUsed := s₂.slotsUsed } : State).setVm s₂.vm), Ls ++ L, c0 + mc, s0 + ms⟩,
      ⟨X.admits, X.cas, X.clock, X.frames, X.room, X.hears, X.method, X.code, (X.here.setHeapUsed s₂.heap s₂.slotsUsed).setVm hW'.alike, X.tail, State.WarmedH.trans X.warmed hW', X.limits, X.bytes, X.same.trans (hsame.setVm s.vm)⟩,
      ⟨g, mk, s₂, L, E, ce, rfl, rfl, hx, hce, hcv, hcl, rfl, hL, rfl, rfl⟩, ?_⟩
    show Steps p.tables e below _ (((({ U with heap := s₂.heap, slotsUsed := s₂.slotsUsed } : State).setVm s₂.vm).setTop g).pushFrame (.throwing q))
    rw [← hs₂]
    exact hsteps
end Payer
section Calls
variable {p : Program} {l : Launch} {e : Env} {R : Room} {s : State} {m : MethodId} {args : Array Value} {below : List Frame} {meth : Method} {c : Code} {T : State} {locs : List Loc} {cells slots : Nat}
theorem vx_callV (X : Stand p l e R s m args below meth c T locs cells slots) (hexec : p.tables.exec = Jvm.exec) {own C : String} {index : Nat} {y : MethodName} {bytes : ByteArray} {maxL : Nat} {ret : Option FieldType}
    (hown : s.vm.findClass own = some m.cls) (hlink : (Cond.methodLink own index y).before args s = true) (hinst : (Cond.instanceMethod y).before args s = true) (hsel : (Cond.selects C y y).before args s = true)
    (hcode : (Cond.code y bytes maxL ret).before args s = true) (hy : y.cls ≠ "java/lang/invoke/MethodHandle" ∧ y.cls ≠ "java/lang/invoke/VarHandle")
    {W9 : Nat} {Pre : Pt → Array Value → Prop} {Post : Pt → Array Value → Option Value → Pt → Prop} {PostX : Pt → Array Value → Addr → Pt → Prop} (hK : vx_Back l R p e below s args y 3 W9 Pre Post PostX)
    {b : Addr} {cellB : Cell} (hcell : T.heap[b]? = some cellB) (hobj : cellB.vm.isStatics = false) (hcls : s.vm.findClass C = some cellB.cls)
    {g : JFrame} (hg : g.method = m) (hsize : g.locals.size = c.maxLocals) {argsL rest : List Value} (hlen : ∀ sig, parseMethodDescriptor y.desc = some sig → argsL.length = sig.parameters.length)
    (hstack : g.stack = argsL.reverse ++ .ref b :: rest) (hW : 2 * g.monitorRoom + (rest.map fun v => v.category).sum ≤ W9) (hdg : decode c.code g.pc = .ok (.invokevirtual index, 3))
    (hpre : ∀ vm₁, s.WarmedH vm₁ → Pre ⟨T.setVm vm₁, locs, cells, slots⟩ (Value.ref b :: argsL).toArray) :
    (∃ (v : Option Value) (vm₁ : Vm) (B : Pt), s.WarmedH vm₁ ∧ Stand p l e R s m args below meth c B.U B.locs B.cells B.slots ∧ Post ⟨T.setVm vm₁, locs, cells, slots⟩ (Value.ref b :: argsL).toArray v B ∧
      ∀ target, Steps p.tables e below (B.U.setTop { g with pc := g.pc + 3, stack := v.toList ++ rest }) target → Steps p.tables e below (T.setTop g) target) ∨
    (∃ (q : Addr) (vm₁ : Vm) (B : Pt), s.WarmedH vm₁ ∧ Stand p l e R s m args below meth c B.U B.locs B.cells B.slots ∧ PostX ⟨T.setVm vm₁, locs, cells, slots⟩ (Value.ref b :: argsL).toArray q B ∧
      Steps p.tables e below (T.setTop g) ((B.U.setTop { g with stack := rest }).pushFrame (.throwing q))) := by
  obtain ⟨mk, methM, hnamed, hmethM, hstM, habM⟩ := Cond.instanceMethod_spec hinst
  obtain ⟨methM', cM, hmethM', -, -, -, -, -, -, hsigM⟩ := Cond.code_spec hnamed hcode
  cases hmethM.symm.trans hmethM'
  obtain ⟨c2, r2, m2, q1, q2, q3, q4, kP, hkP, hkPi⟩ := Cond.selects_spec hsel
  cases hcls.symm.trans q1
  cases (State.methodFound?_of_named hnamed hy).symm.trans q2
  cases hnamed.symm.trans q3
  have hselP : selectMethod e.platform s.vm cellB.cls mk = .method mk := by rw [Launch.admits_selectMethod X.admits]; exact q4
  obtain ⟨vm₁, X₁, hstep₁⟩ := X.invokevirtual hexec hown hlink hnamed hmethM hstM hkP hkPi hy (a := b) (cell := cellB) hcell
    (fun z h => by rw [h] at hobj; cases hobj) hselP hmethM habM hkP hkPi (g := g) hg (argsL := argsL) (rest := rest) (hlen _ hsigM) hstack hdg
  rcases hK m meth c ⟨T.setVm vm₁, locs, cells, slots⟩ { g with stack := rest } (.invokevirtual index) mk (Value.ref b :: argsL).toArray X₁ hg hsize hdg hW (X₁.named hnamed) (hpre vm₁ X₁.warmed) with ⟨v, B, X', hpost, hsteps⟩ | ⟨q, B, X', hpost, hsteps⟩
  · exact Or.inl ⟨v, vm₁, B, X₁.warmed, X', hpost, fun target h => hstep₁ _ fun acts => by rw [doInvoke_state]; exact hsteps.trans h⟩
  · exact Or.inr ⟨q, vm₁, B, X₁.warmed, X', hpost, hstep₁ _ fun acts => by rw [doInvoke_state]; exact hsteps⟩
theorem vx_callS (X : Stand p l e R s m args below meth c T locs cells slots) (hexec : p.tables.exec = Jvm.exec) {own : String} {index : Nat} {y : MethodName} {bytes : ByteArray} {maxL : Nat} {ret : Option FieldType}
    (hown : s.vm.findClass own = some m.cls) (hlink : (Cond.methodLink own index y).before args s = true) (hstat : (Cond.static y).before args s = true) (hinit : (Cond.initialized y.cls).before args s = true)
    (hcode : (Cond.code y bytes maxL ret).before args s = true) (hy : y.cls ≠ "java/lang/invoke/MethodHandle" ∧ y.cls ≠ "java/lang/invoke/VarHandle")
    {W9 : Nat} {Pre : Pt → Array Value → Prop} {Post : Pt → Array Value → Option Value → Pt → Prop} {PostX : Pt → Array Value → Addr → Pt → Prop} (hK : vx_Back l R p e below s args y 3 W9 Pre Post PostX)
    {g : JFrame} (hg : g.method = m) (hsize : g.locals.size = c.maxLocals) {argsL rest : List Value} (hlen : ∀ sig, parseMethodDescriptor y.desc = some sig → argsL.length = sig.parameters.length)
    (hstack : g.stack = argsL.reverse ++ rest) (hW : 2 * g.monitorRoom + (rest.map fun v => v.category).sum ≤ W9) (hdg : decode c.code g.pc = .ok (.invokestatic index, 3))
    (hpre : ∀ vm₁, s.WarmedH vm₁ → Pre ⟨T.setVm vm₁, locs, cells, slots⟩ argsL.toArray) :
    (∃ (v : Option Value) (vm₁ : Vm) (B : Pt), s.WarmedH vm₁ ∧ Stand p l e R s m args below meth c B.U B.locs B.cells B.slots ∧ Post ⟨T.setVm vm₁, locs, cells, slots⟩ argsL.toArray v B ∧
      ∀ target, Steps p.tables e below (B.U.setTop { g with pc := g.pc + 3, stack := v.toList ++ rest }) target → Steps p.tables e below (T.setTop g) target) ∨
    (∃ (q : Addr) (vm₁ : Vm) (B : Pt), s.WarmedH vm₁ ∧ Stand p l e R s m args below meth c B.U B.locs B.cells B.slots ∧ PostX ⟨T.setVm vm₁, locs, cells, slots⟩ argsL.toArray q B ∧
      Steps p.tables e below (T.setTop g) ((B.U.setTop { g with stack := rest }).pushFrame (.throwing q))) := by
  obtain ⟨mk, hnamed⟩ := Cond.code_named hcode
  obtain ⟨methM, cM, hmethM, -, -, -, -, -, -, hsigM⟩ := Cond.code_spec hnamed hcode
  have hstatic : methM.isStatic = true := Cond.static_spec hnamed hmethM hstat
  obtain ⟨kP, hkP, -⟩ := className_of_methodNamed hnamed
  have hinitP : kP.init = .initialized := Cond.initialized_spec (findClass_of_methodNamed hnamed) hkP hinit
  obtain ⟨vm₁, X₁, hstep₁⟩ := X.invokestatic hexec hown hlink hnamed hmethM hstatic hkP hinitP hy (g := g) hg (argsL := argsL) (rest := rest) (hlen _ hsigM) hstack hdg
  rcases hK m meth c ⟨T.setVm vm₁, locs, cells, slots⟩ { g with stack := rest } (.invokestatic index) mk argsL.toArray X₁ hg hsize hdg hW (X₁.named hnamed) (hpre vm₁ X₁.warmed) with ⟨v, B, X', hpost, hsteps⟩ | ⟨q, B, X', hpost, hsteps⟩
  · exact Or.inl ⟨v, vm₁, B, X₁.warmed, X', hpost, fun target h => hstep₁ _ fun acts => by rw [doInvoke_state]; exact hsteps.trans h⟩
  · exact Or.inr ⟨q, vm₁, B, X₁.warmed, X', hpost, hstep₁ _ fun acts => by rw [doInvoke_state]; exact hsteps⟩
end Calls
theorem vx_cls {s : State} {T : State} {vm₁ : Vm} {E : String} {k : ClassId} (hW : s.WarmedH vm₁) (h : (T.setVm vm₁).vm.findClass E = some k) : s.vm.findClass E = some k := by
  have h1 : vm₁.findClass E = some k := h
  rw [hW.alike.findClass] at h1
  exact h1
/-- the method's frame g, with q thrown over it -/
def vx_W (p : Program) (l : Launch) (e : Env) (R : Room) (s : State) (m : MethodId) (args : Array Value) (below : List Frame) (meth : Method) (c : Code) (H : Heap) (locs : List Loc) (cells slots : Nat) (Q : State → Prop) (g : JFrame) (q : Addr) : Prop :=
  ∀ T : State, T.heap = H → Stand p l e R s m args below meth c T locs cells slots → ∃ t, Steps p.tables e below ((T.setTop g).pushFrame (.throwing q)) t ∧ Q t
def vx_Run (p : Program) (l : Launch) (e : Env) (R : Room) (s : State) (m : MethodId) (args : Array Value) (below : List Frame) (meth : Method) (c : Code) (H : Heap) (locs : List Loc) (cells slots mc ms : Nat) (g : JFrame) (rest : List Value) (Qa : State → Outcome → State → Prop) (XC : String → State → State → Prop) (free : Addr → Prop) : Prop :=
  ∀ T : State, T.heap = H → Stand p l e R s m args below meth c T locs cells slots →
    (∃ (v : Option Value) (st₀ t T' : State) (L : List Loc), st₀.heap = H ∧ Stand p l e R s m args below meth c T' (locs ++ L) (cells + mc) (slots + ms) ∧ (∀ q ∈ L, free q.base) ∧ T'.heap = t.heap ∧ T'.vm = t.vm ∧ Qa st₀ (.returned v) t ∧
      Goes p e below T g T' { g with pc := g.pc + 3, stack := v.toList ++ rest }) ∨
    (∃ (q : Addr) (st₀ t T' : State) (L : List Loc) (E : String) (ce : Cell), st₀.heap = H ∧ Stand p l e R s m args below meth c T' (locs ++ L) (cells + mc) (slots + ms) ∧ (∀ z ∈ L, free z.base) ∧ T'.heap = t.heap ∧ T'.vm = t.vm ∧ XC E st₀ t ∧ t.heap[q]? = some ce ∧ ce.vm = .none ∧ s.vm.findClass E = some ce.cls ∧
      Steps p.tables e below (T.setTop g) ((T'.setTop { g with stack := rest }).pushFrame (.throwing q)))
def vx_X {S : Type} (px : S → Prop) (B : String → S → State → Prop) (A : Nat → Prop) : String → State → State → Prop := fun E st t => ∃ u : S, px u ∧ B E u t ∧ va_F A st t
section Runs
variable {p : Program} {l : Launch} {e : Env} {R : Room} {s : State} {m : MethodId} {args : Array Value} {below : List Frame} {meth : Method} {c : Code} {H : Heap} {locs : List Loc} {cells slots : Nat}
variable {y : MethodName} {bytes cc : ByteArray} {maxL nL mc ms n index : Nat} {ret : Option FieldType} {ws : List Cond} {rm : Room} {Pc : Array Value → State → Prop} {Qc : Array Value → State → Outcome → State → Prop} {XC : String → State → State → Prop} {free : Addr → Prop} {Ts : List Cond} {own C : String} {b : Addr} {As rest : List Value} {g : JFrame}
theorem vx_callBack (cb : CallB R s args own index y bytes maxL ret ws rm mc ms n) (hM : vx_Met l y ws rm Pc Qc XC mc ms free) (hbl : FrameBlind Pc) : vx_Back l R p e below s args y 3 8 (PreOf R mc ms Pc) (PostOf Qc mc ms free) (vx_Post XC mc ms free) := by
  obtain ⟨hrc, hrs, hfr, hlo, hws, hcw, -, hini, -⟩ := cb
  exact vx_back (bytes := bytes) (maxL := maxL) (ret := ret) hM hbl hrc hrs hfr hlo hws hcw (fun a' U hW => word_at hW (Or.inl (by first | rfl | simp [Cond.onTables, Cond.keeps, Cond.steady])) hini)
theorem vx_runV (S : CallFix p m c cc nL s args Ts own) (hM : vx_Met l y ws rm Pc Qc XC mc ms free) (cw : CallW R s args own C index y bytes maxL ret ws rm mc ms n) (hp : PreV s H C b Pc As)
    (hg : g.method = m) (hn : As.length = n) (hsize : g.locals.size = nL) (hstack : g.stack = As.reverse ++ .ref b :: rest) (hW : 2 * g.monitorRoom + (rest.map fun v => v.category).sum ≤ 8) (hdg : decode cc g.pc = .ok (.invokevirtual index, 3)) (hf : cells + mc ≤ R.cells ∧ slots + ms ≤ R.slots) :
    vx_Run p l e R s m args below meth c H locs cells slots mc ms g rest (Qc (Value.ref b :: As).toArray) XC free := by
  have hK : vx_Back l R p e below s args y 3 8 (PreOf R mc ms Pc) (PostOf Qc mc ms free) (vx_Post XC mc ms free) := vx_callBack cw.1 hM hp.1
  obtain ⟨⟨-, -, -, -, -, -, hcode, -, hy, hlen, hl⟩, hin, hse⟩ := cw
  obtain ⟨hx, hb, hml, ho, -⟩ := S
  obtain ⟨-, ⟨cellB, hcB, hoB, hclB⟩, hPc⟩ := hp
  intro T hT X
  rcases vx_callV X hx (C := C) (bytes := bytes) (maxL := maxL) (ret := ret) ho hl hin hse hcode hy hK (by rw [hT]; exact hcB) hoB hclB hg (hsize.trans hml.symm) (argsL := As) (rest := rest) (fun sig h => hn.trans (hlen sig h)) hstack hW (by rw [hb]; exact hdg)
    (fun vm₁ hW₁ => ⟨hf.1, hf.2, hPc (T.setVm vm₁) hT hW₁⟩) with ⟨v, vm₁, ⟨U', l2, c2, s2⟩, hW₁, X', ⟨g', mk, t, L, e1, e2, hq, h1, hL, h2, h3⟩, st⟩ | ⟨q, vm₁, ⟨U', l2, c2, s2⟩, hW₁, X', ⟨g', mk, t, L, E, ce, e1, e2, hq, hce, hcv, hcl, h1, hL, h2, h3⟩, st⟩
  · dsimp only [Pt.U, Pt.locs, Pt.cells, Pt.slots] at X' e1 e2 h1 h2 h3 st
    subst h1; subst h2; subst h3
    exact Or.inl ⟨v, (T.setVm vm₁).calling g' mk (Value.ref b :: As).toArray, t, U', L, hT, X', hL, e1, e2, hq, st⟩
  · dsimp only [Pt.U, Pt.locs, Pt.cells, Pt.slots] at X' e1 e2 h1 h2 h3 st hcl
    subst h1; subst h2; subst h3
    exact Or.inr ⟨q, (T.setVm vm₁).calling g' mk (Value.ref b :: As).toArray, t, U', L, E, ce, hT, X', hL, e1, e2, hq, hce, hcv, vx_cls hW₁ hcl, st⟩
theorem vx_runS (S : CallFix p m c cc nL s args Ts own) (hM : vx_Met l y ws rm Pc Qc XC mc ms free) (cw : CallB R s args own index y bytes maxL ret ws rm mc ms n ∧ (Cond.static y).before args s = true) (hp : PreS s H Pc As)
    (hg : g.method = m) (hn : As.length = n) (hsize : g.locals.size = nL) (hstack : g.stack = As.reverse ++ rest) (hW : 2 * g.monitorRoom + (rest.map fun v => v.category).sum ≤ 8) (hdg : decode cc g.pc = .ok (.invokestatic index, 3)) (hf : cells + mc ≤ R.cells ∧ slots + ms ≤ R.slots) :
    vx_Run p l e R s m args below meth c H locs cells slots mc ms g rest (Qc As.toArray) XC free := by
  have hK : vx_Back l R p e below s args y 3 8 (PreOf R mc ms Pc) (PostOf Qc mc ms free) (vx_Post XC mc ms free) := vx_callBack cw.1 hM hp.1
  obtain ⟨⟨-, -, -, -, -, -, hcode, hini, hy, hlen, hl⟩, hstt⟩ := cw
  obtain ⟨hx, hb, hml, ho, -⟩ := S
  intro T hT X
  rcases vx_callS X hx (bytes := bytes) (maxL := maxL) (ret := ret) ho hl hstt hini hcode hy hK hg (hsize.trans hml.symm) (argsL := As) (rest := rest) (fun sig h => hn.trans (hlen sig h)) hstack hW (by rw [hb]; exact hdg)
    (fun vm₁ hW₁ => ⟨hf.1, hf.2, hp.2 (T.setVm vm₁) hT hW₁⟩) with ⟨v, vm₁, ⟨U', l2, c2, s2⟩, hW₁, X', ⟨g', mk, t, L, e1, e2, hq, h1, hL, h2, h3⟩, st⟩ | ⟨q, vm₁, ⟨U', l2, c2, s2⟩, hW₁, X', ⟨g', mk, t, L, E, ce, e1, e2, hq, hce, hcv, hcl, h1, hL, h2, h3⟩, st⟩
  · dsimp only [Pt.U, Pt.locs, Pt.cells, Pt.slots] at X' e1 e2 h1 h2 h3 st
    subst h1; subst h2; subst h3
    exact Or.inl ⟨v, (T.setVm vm₁).calling g' mk As.toArray, t, U', L, hT, X', hL, e1, e2, hq, st⟩
  · dsimp only [Pt.U, Pt.locs, Pt.cells, Pt.slots] at X' e1 e2 h1 h2 h3 st hcl
    subst h1; subst h2; subst h3
    exact Or.inr ⟨q, (T.setVm vm₁).calling g' mk As.toArray, t, U', L, E, ce, hT, X', hL, e1, e2, hq, hce, hcv, vx_cls hW₁ hcl, st⟩
end Runs
section Rows
variable {p : Program} {l : Launch} {e : Env} {R : Room} {s : State} {m : MethodId} {args : Array Value} {below : List Frame} {meth : Method} {c : Code} {H : Heap} {locs : List Loc} {cells slots : Nat} {Q : State → Prop}
variable {mc ms : Nat} {free : Addr → Prop} {A0 A1 : Nat → Prop} {H0 : Heap} {a : Array Value} {pc : Nat} {ls : Array Slot} {st0 rest : List Value}
theorem vx_keep {st₀ t T' : State} {L : List Loc} (h0 : st₀.heap = H) (e1 : T'.heap = t.heap) (hS : va_S A0 H0 H locs) (hA : ∀ q, q < H.size → A1 q → A0 q) (hf : ∀ q, free q → A0 q) (hL : ∀ q ∈ L, free q.base) (hF : va_F A1 st₀ t) :
    H.size ≤ T'.heap.size ∧ (∀ q : Nat, q < H.size → ¬ A1 q → T'.heap[q]? = H[q]?) ∧ va_S A0 H0 T'.heap (locs ++ L) := by
  obtain ⟨hz, hk⟩ := hF
  rw [h0] at hz hk
  exact ⟨by rw [e1]; exact hz, fun q h1 h2 => by rw [e1]; exact hk q h1 h2,
    ⟨Nat.le_trans hS.1 (by rw [e1]; exact hz), fun q h1 h2 => by rw [e1, hk q (Nat.lt_of_lt_of_le h1 hS.1) (fun z => h2 (hA q (Nat.lt_of_lt_of_le h1 hS.1) z))]; exact hS.2.1 q h1 h2, fun q hq => by
      rcases List.mem_append.mp hq with h | h
      · exact hS.2.2 q h
      · exact hf _ (hL q h)⟩⟩
theorem vx_calli {S SX : Type} {post : Int32 → S → Prop} {px : SX → Prop} {B : S → State → Prop} {BX : String → SX → State → Prop} {AX : Nat → Prop} (hr : vx_Run p l e R s m args below meth c H locs cells slots mc ms (F0 m pc ls st0) rest (va_Qi post B A1 a) (vx_X px BX AX) free) (hS : va_S A0 H0 H locs) (hA : ∀ q, q < H.size → A1 q → A0 q) (hf : ∀ q, free q → A0 q) (hAX : ∀ q, q < H.size → AX q → A0 q)
    (kx : ∀ (E : String) (ce : Cell) (q9 : Addr) (u : SX) (t : State) (H1 : Heap) (locs1 : List Loc), t.heap = H1 → s.vm.Alike t.vm → px u → BX E u t → H.size ≤ H1.size → (∀ q : Nat, q < H.size → ¬ AX q → H1[q]? = H[q]?) → va_S A0 H0 H1 locs1 → H1[q9]? = some ce → ce.vm = .none → s.vm.findClass E = some ce.cls → vx_W p l e R s m args below meth c H1 locs1 (cells + mc) (slots + ms) Q (F0 m pc ls rest) q9)
    (kk : ∀ (r : Int32) (u : S) (t : State) (H1 : Heap) (locs1 : List Loc), t.heap = H1 → s.vm.Alike t.vm → post r u → B u t → H.size ≤ H1.size → (∀ q : Nat, q < H.size → ¬ A1 q → H1[q]? = H[q]?) → va_S A0 H0 H1 locs1 → W p l e R s m args below meth c H1 locs1 (cells + mc) (slots + ms) Q (F0 m (pc + 3) ls (.int r :: rest))) : W p l e R s m args below meth c H locs cells slots Q (F0 m pc ls st0) := by
  intro T hT X
  rcases hr T hT X with ⟨v, st₀, t, T', L, h0, X', hL, e1, e2, ⟨⟨r, u, hv, hp, hb⟩, hF⟩, st⟩ | ⟨q, st₀, t, T', L, E, ce, h0, X', hL, e1, e2, ⟨u, hp, hb, hF⟩, hce, hcv, hcl, st⟩
  · cases hv
    obtain ⟨k1, k2, k3⟩ := vx_keep h0 e1 hS hA hf hL hF
    obtain ⟨t2, a1, b1⟩ := kk r u t T'.heap (locs ++ L) e1.symm (by rw [← e2]; exact X'.warmed.alike) hp hb k1 k2 k3 T' rfl X'
    exact ⟨t2, st t2 a1, b1⟩
  · obtain ⟨k1, k2, k3⟩ := vx_keep h0 e1 hS hAX hf hL hF
    obtain ⟨t2, a1, b1⟩ := kx E ce q u t T'.heap (locs ++ L) e1.symm (by rw [← e2]; exact X'.warmed.alike) hp hb k1 k2 k3 (by rw [e1]; exact hce) hcv hcl T' rfl X'
    exact ⟨t2, st.trans a1, b1⟩
theorem vx_calll {S SX : Type} {post : Int64 → S → Prop} {px : SX → Prop} {B : S → State → Prop} {BX : String → SX → State → Prop} {AX : Nat → Prop} (hr : vx_Run p l e R s m args below meth c H locs cells slots mc ms (F0 m pc ls st0) rest (va_Ql post B A1 a) (vx_X px BX AX) free) (hS : va_S A0 H0 H locs) (hA : ∀ q, q < H.size → A1 q → A0 q) (hf : ∀ q, free q → A0 q) (hAX : ∀ q, q < H.size → AX q → A0 q)
    (kx : ∀ (E : String) (ce : Cell) (q9 : Addr) (u : SX) (t : State) (H1 : Heap) (locs1 : List Loc), t.heap = H1 → s.vm.Alike t.vm → px u → BX E u t → H.size ≤ H1.size → (∀ q : Nat, q < H.size → ¬ AX q → H1[q]? = H[q]?) → va_S A0 H0 H1 locs1 → H1[q9]? = some ce → ce.vm = .none → s.vm.findClass E = some ce.cls → vx_W p l e R s m args below meth c H1 locs1 (cells + mc) (slots + ms) Q (F0 m pc ls rest) q9)
    (kk : ∀ (r : Int64) (u : S) (t : State) (H1 : Heap) (locs1 : List Loc), t.heap = H1 → s.vm.Alike t.vm → post r u → B u t → H.size ≤ H1.size → (∀ q : Nat, q < H.size → ¬ A1 q → H1[q]? = H[q]?) → va_S A0 H0 H1 locs1 → W p l e R s m args below meth c H1 locs1 (cells + mc) (slots + ms) Q (F0 m (pc + 3) ls (.long r :: rest))) : W p l e R s m args below meth c H locs cells slots Q (F0 m pc ls st0) := by
  intro T hT X
  rcases hr T hT X with ⟨v, st₀, t, T', L, h0, X', hL, e1, e2, ⟨⟨r, u, hv, hp, hb⟩, hF⟩, st⟩ | ⟨q, st₀, t, T', L, E, ce, h0, X', hL, e1, e2, ⟨u, hp, hb, hF⟩, hce, hcv, hcl, st⟩
  · cases hv
    obtain ⟨k1, k2, k3⟩ := vx_keep h0 e1 hS hA hf hL hF
    obtain ⟨t2, a1, b1⟩ := kk r u t T'.heap (locs ++ L) e1.symm (by rw [← e2]; exact X'.warmed.alike) hp hb k1 k2 k3 T' rfl X'
    exact ⟨t2, st t2 a1, b1⟩
  · obtain ⟨k1, k2, k3⟩ := vx_keep h0 e1 hS hAX hf hL hF
    obtain ⟨t2, a1, b1⟩ := kx E ce q u t T'.heap (locs ++ L) e1.symm (by rw [← e2]; exact X'.warmed.alike) hp hb k1 k2 k3 (by rw [e1]; exact hce) hcv hcl T' rfl X'
    exact ⟨t2, st.trans a1, b1⟩
theorem vx_callf {S SX : Type} {post : UInt32 → S → Prop} {px : SX → Prop} {B : S → State → Prop} {BX : String → SX → State → Prop} {AX : Nat → Prop} (hr : vx_Run p l e R s m args below meth c H locs cells slots mc ms (F0 m pc ls st0) rest (va_Qf post B A1 a) (vx_X px BX AX) free) (hS : va_S A0 H0 H locs) (hA : ∀ q, q < H.size → A1 q → A0 q) (hf : ∀ q, free q → A0 q) (hAX : ∀ q, q < H.size → AX q → A0 q)
    (kx : ∀ (E : String) (ce : Cell) (q9 : Addr) (u : SX) (t : State) (H1 : Heap) (locs1 : List Loc), t.heap = H1 → s.vm.Alike t.vm → px u → BX E u t → H.size ≤ H1.size → (∀ q : Nat, q < H.size → ¬ AX q → H1[q]? = H[q]?) → va_S A0 H0 H1 locs1 → H1[q9]? = some ce → ce.vm = .none → s.vm.findClass E = some ce.cls → vx_W p l e R s m args below meth c H1 locs1 (cells + mc) (slots + ms) Q (F0 m pc ls rest) q9)
    (kk : ∀ (r : UInt32) (u : S) (t : State) (H1 : Heap) (locs1 : List Loc), t.heap = H1 → s.vm.Alike t.vm → post r u → B u t → H.size ≤ H1.size → (∀ q : Nat, q < H.size → ¬ A1 q → H1[q]? = H[q]?) → va_S A0 H0 H1 locs1 → W p l e R s m args below meth c H1 locs1 (cells + mc) (slots + ms) Q (F0 m (pc + 3) ls (.float r :: rest))) : W p l e R s m args below meth c H locs cells slots Q (F0 m pc ls st0) := by
  intro T hT X
  rcases hr T hT X with ⟨v, st₀, t, T', L, h0, X', hL, e1, e2, ⟨⟨r, u, hv, hp, hb⟩, hF⟩, st⟩ | ⟨q, st₀, t, T', L, E, ce, h0, X', hL, e1, e2, ⟨u, hp, hb, hF⟩, hce, hcv, hcl, st⟩
  · cases hv
    obtain ⟨k1, k2, k3⟩ := vx_keep h0 e1 hS hA hf hL hF
    obtain ⟨t2, a1, b1⟩ := kk r u t T'.heap (locs ++ L) e1.symm (by rw [← e2]; exact X'.warmed.alike) hp hb k1 k2 k3 T' rfl X'
    exact ⟨t2, st t2 a1, b1⟩
  · obtain ⟨k1, k2, k3⟩ := vx_keep h0 e1 hS hAX hf hL hF
    obtain ⟨t2, a1, b1⟩ := kx E ce q u t T'.heap (locs ++ L) e1.symm (by rw [← e2]; exact X'.warmed.alike) hp hb k1 k2 k3 (by rw [e1]; exact hce) hcv hcl T' rfl X'
    exact ⟨t2, st.trans a1, b1⟩
theorem vx_calld {S SX : Type} {post : UInt64 → S → Prop} {px : SX → Prop} {B : S → State → Prop} {BX : String → SX → State → Prop} {AX : Nat → Prop} (hr : vx_Run p l e R s m args below meth c H locs cells slots mc ms (F0 m pc ls st0) rest (va_Qd post B A1 a) (vx_X px BX AX) free) (hS : va_S A0 H0 H locs) (hA : ∀ q, q < H.size → A1 q → A0 q) (hf : ∀ q, free q → A0 q) (hAX : ∀ q, q < H.size → AX q → A0 q)
    (kx : ∀ (E : String) (ce : Cell) (q9 : Addr) (u : SX) (t : State) (H1 : Heap) (locs1 : List Loc), t.heap = H1 → s.vm.Alike t.vm → px u → BX E u t → H.size ≤ H1.size → (∀ q : Nat, q < H.size → ¬ AX q → H1[q]? = H[q]?) → va_S A0 H0 H1 locs1 → H1[q9]? = some ce → ce.vm = .none → s.vm.findClass E = some ce.cls → vx_W p l e R s m args below meth c H1 locs1 (cells + mc) (slots + ms) Q (F0 m pc ls rest) q9)
    (kk : ∀ (r : UInt64) (u : S) (t : State) (H1 : Heap) (locs1 : List Loc), t.heap = H1 → s.vm.Alike t.vm → post r u → B u t → H.size ≤ H1.size → (∀ q : Nat, q < H.size → ¬ A1 q → H1[q]? = H[q]?) → va_S A0 H0 H1 locs1 → W p l e R s m args below meth c H1 locs1 (cells + mc) (slots + ms) Q (F0 m (pc + 3) ls (.double r :: rest))) : W p l e R s m args below meth c H locs cells slots Q (F0 m pc ls st0) := by
  intro T hT X
  rcases hr T hT X with ⟨v, st₀, t, T', L, h0, X', hL, e1, e2, ⟨⟨r, u, hv, hp, hb⟩, hF⟩, st⟩ | ⟨q, st₀, t, T', L, E, ce, h0, X', hL, e1, e2, ⟨u, hp, hb, hF⟩, hce, hcv, hcl, st⟩
  · cases hv
    obtain ⟨k1, k2, k3⟩ := vx_keep h0 e1 hS hA hf hL hF
    obtain ⟨t2, a1, b1⟩ := kk r u t T'.heap (locs ++ L) e1.symm (by rw [← e2]; exact X'.warmed.alike) hp hb k1 k2 k3 T' rfl X'
    exact ⟨t2, st t2 a1, b1⟩
  · obtain ⟨k1, k2, k3⟩ := vx_keep h0 e1 hS hAX hf hL hF
    obtain ⟨t2, a1, b1⟩ := kx E ce q u t T'.heap (locs ++ L) e1.symm (by rw [← e2]; exact X'.warmed.alike) hp hb k1 k2 k3 (by rw [e1]; exact hce) hcv hcl T' rfl X'
    exact ⟨t2, st.trans a1, b1⟩
theorem vx_callv {S SX : Type} {post : S → Prop} {px : SX → Prop} {B : S → State → Prop} {BX : String → SX → State → Prop} {AX : Nat → Prop} (hr : vx_Run p l e R s m args below meth c H locs cells slots mc ms (F0 m pc ls st0) rest (va_Qv post B A1 a) (vx_X px BX AX) free) (hS : va_S A0 H0 H locs) (hA : ∀ q, q < H.size → A1 q → A0 q) (hf : ∀ q, free q → A0 q) (hAX : ∀ q, q < H.size → AX q → A0 q)
    (kx : ∀ (E : String) (ce : Cell) (q9 : Addr) (u : SX) (t : State) (H1 : Heap) (locs1 : List Loc), t.heap = H1 → s.vm.Alike t.vm → px u → BX E u t → H.size ≤ H1.size → (∀ q : Nat, q < H.size → ¬ AX q → H1[q]? = H[q]?) → va_S A0 H0 H1 locs1 → H1[q9]? = some ce → ce.vm = .none → s.vm.findClass E = some ce.cls → vx_W p l e R s m args below meth c H1 locs1 (cells + mc) (slots + ms) Q (F0 m pc ls rest) q9)
    (kk : ∀ (u : S) (t : State) (H1 : Heap) (locs1 : List Loc), t.heap = H1 → s.vm.Alike t.vm → post u → B u t → H.size ≤ H1.size → (∀ q : Nat, q < H.size → ¬ A1 q → H1[q]? = H[q]?) → va_S A0 H0 H1 locs1 → W p l e R s m args below meth c H1 locs1 (cells + mc) (slots + ms) Q (F0 m (pc + 3) ls (rest))) : W p l e R s m args below meth c H locs cells slots Q (F0 m pc ls st0) := by
  intro T hT X
  rcases hr T hT X with ⟨v, st₀, t, T', L, h0, X', hL, e1, e2, ⟨⟨u, hv, hp, hb⟩, hF⟩, st⟩ | ⟨q, st₀, t, T', L, E, ce, h0, X', hL, e1, e2, ⟨u, hp, hb, hF⟩, hce, hcv, hcl, st⟩
  · cases hv
    obtain ⟨k1, k2, k3⟩ := vx_keep h0 e1 hS hA hf hL hF
    obtain ⟨t2, a1, b1⟩ := kk u t T'.heap (locs ++ L) e1.symm (by rw [← e2]; exact X'.warmed.alike) hp hb k1 k2 k3 T' rfl X'
    exact ⟨t2, st t2 a1, b1⟩
  · obtain ⟨k1, k2, k3⟩ := vx_keep h0 e1 hS hAX hf hL hF
    obtain ⟨t2, a1, b1⟩ := kx E ce q u t T'.heap (locs ++ L) e1.symm (by rw [← e2]; exact X'.warmed.alike) hp hb k1 k2 k3 (by rw [e1]; exact hce) hcv hcl T' rfl X'
    exact ⟨t2, st.trans a1, b1⟩
/-- caught by the row x of this method's table; the rows ahead don't take it -/
theorem vx_catch {own name : String} {E : String} {ce : Cell} {q : Addr} (hown : s.vm.findClass own = some m.cls) (pre : List ExceptionTableEntry) (x : ExceptionTableEntry) (suf : List ExceptionTableEntry) (hsplit : c.exceptionTable.toList = pre ++ x :: suf)
    (hpass : ∀ z ∈ pre, covers z pc = false ∨ (z.catchType ≠ 0 ∧ ∃ nm : String, (Cond.classLink own z.catchType nm).before args s = true ∧ va_Nc E nm s)) (hx : covers x pc = true) (h0 : x.catchType ≠ 0)
    (hlink : (Cond.classLink own x.catchType name).before args s = true) (hcast : (Cond.castable E name).before args s = true) (hcell : H[q]? = some ce) (hv : ce.vm = .none) (hcl : s.vm.findClass E = some ce.cls)
    (kk : W p l e R s m args below meth c H locs cells slots Q (F0 m x.handlerPc ls [.ref q])) : vx_W p l e R s m args below meth c H locs cells slots Q (F0 m pc ls rest) q := by
  intro T hT X
  have hpl : e.platform.magicAccessors = ({} : Platform).magicAccessors := by rw [X.admits.platform]
  obtain ⟨c3, c4, hc3, hc4, hasg⟩ := Cond.castable_spec hcast
  cases Option.some.inj (hc3.symm.trans hcl)
  obtain ⟨c5, hc5, hcl5⟩ := Cond.classLink_spec hown hlink e.platform hpl
  cases Option.some.inj (hc4.symm.trans hc5)
  obtain ⟨vm', X', st⟩ := X.thenCaughtThrough q (g := F0 m pc ls rest) rfl (Steps.refl _) (by rw [hT]; exact hcell) (by rw [hv]; rfl) (by obtain ⟨k9, h9, -⟩ := Vm.findClass_spec hcl; exact ⟨k9, h9⟩) pre x suf hsplit
    (fun z hz => by
      rcases hpass z hz with h | ⟨hz0, nm, hl1, hn1⟩
      · exact Or.inl h
      · obtain ⟨c6, hc6, hcl6⟩ := Cond.classLink_spec hown hl1 e.platform hpl
        obtain ⟨a8, b8, h1, h2, h3⟩ := hn1
        cases Option.some.inj (h1.symm.trans hcl)
        cases Option.some.inj (h2.symm.trans hc6)
        exact Or.inr ⟨hz0, _, hcl6, h3⟩) hx (Or.inr ⟨h0, c4, hcl5, hasg⟩)
  obtain ⟨t, a1, b1⟩ := kk (T.setVm vm') hT X'
  exact ⟨t, st.trans a1, b1⟩
end Rows
section Ends
variable {p : Program} {l : Launch} {e : Env} {R : Room} {s : State} {m : MethodId} {args : Array Value} {below : List Frame} {meth : Method} {c : Code} {H : Heap} {locs : List Loc} {cells slots : Nat} {Q : State → Prop}
variable {mc ms : Nat} {free : Addr → Prop} {A0 A1 : Nat → Prop} {H0 : Heap} {a : Array Value} {ls : Array Slot} {st0 rest : List Value}
variable {Qc : Array Value → State → Outcome → State → Prop} {XC : String → State → State → Prop}
/-- what a body that may throw owes at its end -/
def vx_MQ (below : List Frame) (Qc : Array Value → State → Outcome → State → Prop) (XC : String → State → State → Prop) (a : Array Value) (s : State) (mc ms : Nat) (free : Addr → Prop) : State → Prop := fun t =>
  ∃ o, t.status = .running ∧ Ended t below o ∧ vx_Q Qc XC mc ms free a s o t
theorem vx_ret {g : JFrame} {mc ms : Nat} (k : W p l e R s m args below meth c H locs cells slots (MQ below Qc args s mc ms free) g) : W p l e R s m args below meth c H locs cells slots (vx_MQ below Qc XC args s mc ms free) g := by
  intro T hT X
  obtain ⟨t, a1, o, b1, b2, b3, b4⟩ := k T hT X
  exact ⟨t, a1, o, b1, b2, Or.inl ⟨b3, b4⟩⟩
/-- not caught here: it goes on to the caller -/
theorem vx_widen {g : JFrame} {q : Addr} {k n : Nat} (h1 : cells ≤ k) (h2 : slots ≤ n) (kk : vx_W p l e R s m args below meth c H locs k n Q g q) : vx_W p l e R s m args below meth c H locs cells slots Q g q := fun T hT X => kk T hT (stand_widen X h1 h2)
theorem vx_out {pc : Nat} {E : String} {ce : Cell} {q : Addr} {mc ms : Nat} (hout : ∀ x ∈ c.exceptionTable.toList, covers x pc = false) (hlocks : meth.locks = false) (hcell : H[q]? = some ce) (hv : ce.vm = .none) (hcl : s.vm.findClass E = some ce.cls)
    (hx : ∀ t : State, t.heap = H → s.vm.Alike t.vm → XC E s t) (hf : ∀ z ∈ locs, free z.base) (hc : cells ≤ mc) (hs : slots ≤ ms) :
    vx_W p l e R s m args below meth c H locs cells slots (vx_MQ below Qc XC args s mc ms free) (F0 m pc ls rest) q := by
  intro T hT X
  obtain ⟨st1, hrun, hend, hW, hsm⟩ := X.leaveThrown q (g := F0 m pc ls rest) rfl rfl rfl hout hlocks
  have hcell9 : (T.setFrames (.throwing q :: below)).heap[q]? = some ce := by
    show T.heap[q]? = some ce
    rw [hT]; exact hcell
  exact ⟨_, st1, .threw q, hrun, hend, Or.inr ⟨q, rfl, E, ce, locs, hx _ hT hW.alike, hcell9, hv, hcl, hW, hsm.mono hc hs, hf⟩⟩
theorem vx_frame {U : State} {k n : Nat} (h : s.sameButNew ({ U with vm := s.vm } : State) locs k n) : s.heap.size ≤ U.heap.size ∧ ∀ q : Nat, q < s.heap.size → (∀ z ∈ locs, z.base ≠ q) → U.heap[q]? = s.heap[q]? := by
  obtain ⟨-, h2, -, -, -, h6⟩ := h
  refine ⟨h2, fun q hq hz => ?_⟩
  obtain ⟨c9, e1, e2, e3, e4⟩ := h6 q _ (Array.getElem?_eq_getElem hq)
  have hs : c9.slots = (s.heap[q]).slots := Array.ext_getElem? fun i => e4 i fun hm => hz _ hm rfl
  have h9 : c9 = s.heap[q] := by
    rw [hs] at e2
    exact e2
  have e5 : U.heap[q]? = some c9 := e1
  rw [e5, h9, Array.getElem?_eq_getElem hq]
/-- the words of a throw but the four that speak of the heap -/
def vx_no (w : Cond) : Bool := decide (w ≠ .isRef (.static Bundle.tN "UNASSIGNED_STACK" Bundle.steD)) && decide (w ≠ .isRef (.static Bundle.tN "SUPPRESSED_SENTINEL" Bundle.listD)) && decide (w ≠ .laysStatic Bundle.tN "UNASSIGNED_STACK" Bundle.steD) && decide (w ≠ .laysStatic Bundle.tN "SUPPRESSED_SENTINEL" Bundle.listD)
def vx_at0 (own : String) (ic : Nat) (X : String) (names : List String) : List Cond := (Bundle.ownAtoms0 own ic X names).filter vx_no
def vx_atS (own : String) (ic : Nat) (X : String) (names : List String) : List Cond := (Bundle.ownAtoms own ic X names).filter vx_no
/-- a word that the tables alone decide, or a good one -/
def vx_ot (w : Cond) : Bool := w.onTables || goodWord w
theorem vx_ot_at {args a' : Array Value} {s U : State} {w : Cond} (hW : s.WarmedH U.vm) (hvm : s.vm = U.vm) (hg : vx_ot w = true) (h : w.before args s = true) : w.before a' U = true := by
  simp only [vx_ot, Bool.or_eq_true] at hg
  rcases hg with hg | hg
  · exact va_tabs hg hvm h
  · exact word_at hW (good_of_word hg) h
/-- a list's words: the good ones out of the method's own list, the others by premises of their own -/
theorem vx_hat {args : Array Value} {s : State} {L B : List Cond} (h1 : ∀ w ∈ L.filter goodWord, w.before args s = true) (h2 : ∀ w ∈ L.filter (fun w => !goodWord w), w ∈ B) (h3 : ∀ w ∈ B, w.before args s = true) : ∀ w ∈ L, w.before args s = true := by
  intro w hw
  by_cases g : goodWord w = true
  · exact h1 w (List.mem_filter.mpr ⟨hw, g⟩)
  · refine h3 w (h2 w (List.mem_filter.mpr ⟨hw, ?_⟩))
    show (!goodWord w) = true
    cases hgw : goodWord w
    · rfl
    · exact absurd hgw g
theorem vx_c {args : Array Value} {s : State} {w : Cond} {B : List Cond} (h : w.before args s = true) (t : ∀ w ∈ B, w.before args s = true) : ∀ w' ∈ w :: B, w'.before args s = true := fun w' h' => (List.mem_cons.mp h').elim (fun e => by rw [e]; exact h) (t w')
theorem vx_n {args : Array Value} {s : State} : ∀ w ∈ ([] : List Cond), w.before args s = true := fun _ h => nomatch h
theorem vx_own {args : Array Value} {s : State} {L : List Cond} (h1 : ∀ w ∈ L.filter vx_no, w.before args s = true)
    (hU : (Cond.isRef (.static Bundle.tN "UNASSIGNED_STACK" Bundle.steD)).before args s = true) (hN : (Cond.isRef (.static Bundle.tN "SUPPRESSED_SENTINEL" Bundle.listD)).before args s = true)
    (lU : (Cond.laysStatic Bundle.tN "UNASSIGNED_STACK" Bundle.steD).before args s = true) (lN : (Cond.laysStatic Bundle.tN "SUPPRESSED_SENTINEL" Bundle.listD).before args s = true) : ∀ w ∈ L, w.before args s = true := by
  intro w hw
  by_cases e1 : w = .isRef (.static Bundle.tN "UNASSIGNED_STACK" Bundle.steD)
  · rw [e1]; exact hU
  · by_cases e2 : w = .isRef (.static Bundle.tN "SUPPRESSED_SENTINEL" Bundle.listD)
    · rw [e2]; exact hN
    · by_cases e3 : w = .laysStatic Bundle.tN "UNASSIGNED_STACK" Bundle.steD
      · rw [e3]; exact lU
      · by_cases e4 : w = .laysStatic Bundle.tN "SUPPRESSED_SENTINEL" Bundle.listD
        · rw [e4]; exact lN
        · exact h1 w (List.mem_filter.mpr ⟨hw, by unfold vx_no; rw [decide_eq_true e1, decide_eq_true e2, decide_eq_true e3, decide_eq_true e4]; rfl⟩)
/-- where a static field lies, its class's statics cell in H -/
def vx_L (C n d : String) (A : Nat → Prop) (U : State) (H : Heap) : Prop := ∃ (c : ClassId) (k : Class) (i : Nat) (f : Field) (a : Nat) (cell : Cell), U.vm.findClass C = some c ∧ U.fieldFound? C n d = some (c, k, i, f) ∧ f.isStatic = true ∧ k.statics = some a ∧ H[a]? = some cell ∧ cell.vm.isStatics = true ∧ cell.cls = c ∧ f.slot < cell.slots.size ∧ k.staticTypes[f.slot]? = some f.type ∧ ¬ A a
theorem vx_L.moved {C n d : String} {A : Nat → Prop} {u U : State} {H : Heap} (hvm : u.vm.Alike U.vm) (h : vx_L C n d A u H) : vx_L C n d A U H := by
  obtain ⟨c, k, i, f, a, cell, h1, h2, h3, h4, h5, h6, h7, h8, h9, h10⟩ := h
  obtain ⟨k', hi', he⟩ := State.fieldFound?_setVm hvm h2
  exact ⟨c, k', i, f, a, cell, by rw [hvm.findClass]; exact h1, hi', h3, by rw [he]; exact h4, h5, h6, h7, h8, by rw [he]; exact h9, h10⟩
theorem vx_L.kept {C n d : String} {A : Nat → Prop} {U : State} {H H1 : Heap} (h : vx_L C n d A U H) (hq : ∀ a : Nat, a < H.size → ¬ A a → H1[a]? = H[a]?) : vx_L C n d A U H1 := by
  obtain ⟨c, k, i, f, a, cell, h1, h2, h3, h4, h5, h6, h7, h8, h9, h10⟩ := h
  exact ⟨c, k, i, f, a, cell, h1, h2, h3, h4, by rw [hq a (Array.getElem?_eq_some_iff.mp h5).1 h10]; exact h5, h6, h7, h8, h9, h10⟩
theorem vx_L.narrow {C n d : String} {A B : Nat → Prop} {U : State} {H : Heap} (h : vx_L C n d A U H) (hAB : ∀ q, B q → A q) : vx_L C n d B U H := by
  obtain ⟨c, k, i, f, a, cell, h1, h2, h3, h4, h5, h6, h7, h8, h9, h10⟩ := h
  exact ⟨c, k, i, f, a, cell, h1, h2, h3, h4, h5, h6, h7, h8, h9, fun z => h10 (hAB _ z)⟩
theorem vx_L.word {C n d : String} {A : Nat → Prop} {s : State} {args : Array Value} (h : vx_L C n d A s s.heap) : (Cond.laysStatic C n d).before args s = true := by
  obtain ⟨c, k, i, f, a, cell, h1, h2, h3, h4, h5, h6, h7, h8, h9, -⟩ := h
  show (Cond.laysStatic C n d).holds args s none s [] = true
  exact Cond.laysStatic_of h1 h2 h3 h4 h5 h6 h7 h8 h9
/-- .. and what it holds: null or some reference -/
def vx_Zq (C n d : String) (A : Nat → Prop) (U : State) (H : Heap) : Prop := va_Zq C n d A U H ∧ vx_L C n d A U H
theorem vx_Zq.moved {C n d : String} {A : Nat → Prop} {u U : State} {H : Heap} (hvm : u.vm.Alike U.vm) (h : vx_Zq C n d A u H) : vx_Zq C n d A U H := ⟨va_Zq.moved hvm h.1, vx_L.moved hvm h.2⟩
theorem vx_Zq.kept {C n d : String} {A : Nat → Prop} {U : State} {H H1 : Heap} (h : vx_Zq C n d A U H) (hq : ∀ a : Nat, a < H.size → ¬ A a → H1[a]? = H[a]?) : vx_Zq C n d A U H1 := ⟨va_Zq.kept h.1 hq, vx_L.kept h.2 hq⟩
theorem vx_Zq.narrow {C n d : String} {A B : Nat → Prop} {U : State} {H : Heap} (h : vx_Zq C n d A U H) (hAB : ∀ q, B q → A q) : vx_Zq C n d B U H := ⟨va_Zq.narrow h.1 hAB, vx_L.narrow h.2 hAB⟩
theorem vx_Zqof {args : Array Value} {s : State} {C n d : String} {A : Nat → Prop} (hl : (Cond.laysStatic C n d).before args s = true) (hini : (Cond.initialized C).before args s = true) (h : (Cond.isRef (.static C n d)).before args s = true) (hA : ∀ a : Nat, a < s.heap.size → ¬ A a) : vx_Zq C n d A s s.heap := by
  refine ⟨va_Zqof hl hini h hA, ?_⟩
  obtain ⟨c, k, i, f, a, cell, h1, h2, h3, h4, h5, h6, h7, h8, h9⟩ := Cond.laysStatic_spec hl
  exact ⟨c, k, i, f, a, cell, h1, h2, h3, h4, h5, h6, h7, h8, h9, hA a (Array.getElem?_eq_some_iff.mp h5).1⟩
theorem vx_isRef {C n d : String} {v : Value} {A : Nat → Prop} {s : State} {args : Array Value} (h : va_Z C n d v A s s.heap) (hv : v.isRef = true) : (Cond.isRef (.static C n d)).before args s = true := by
  obtain ⟨cf, kf, fi, f, a, cell, h1, h2, h3, h4, h5, h6, h7, -⟩ := h
  have he : (Term.static C n d).eval args s none [] s = some v := by
    simp [Term.eval, State.fieldNamed?, h1, h2, h4, h5, h6, h7]
  simp only [Cond.before, Cond.holds, Cond.value, he]
  cases v <;> simp_all [Value.isRef]
theorem vx_isRefq {C n d : String} {A : Nat → Prop} {s : State} {args : Array Value} (h : va_Zq C n d A s s.heap) : (Cond.isRef (.static C n d)).before args s = true := by
  rcases h with h | ⟨t, h⟩
  · exact vx_isRef h rfl
  · exact vx_isRef h rfl
/-- the same frame, seen from here: as if the method were called anew in this heap -/
theorem vx_rebase {T : State} (X : Stand p l e R s m args below meth c T locs cells slots) {R' : Room} (hf : R'.frames ≤ R.frames) (hl : R'.locals ≤ R.locals) (hc : cells + R'.cells ≤ R.cells) (hs : slots + R'.slots ≤ R.slots) :
    Stand p l e R' ((T.setVm s.vm).setFrames (.invoking m args :: below)) m args below meth c T [] 0 0 := by
  have htop : (T.setVm s.vm).topJava?.isSome := X.here.top
  have hF : ((T.setVm s.vm).setFrames (.invoking m args :: below)).frames = .invoking m args :: below := State.frames_setFrames _ (State.cur_lt_of_top htop)
  obtain ⟨g₀, hg0⟩ := Option.isSome_iff_exists.mp htop
  obtain ⟨r, hr⟩ := State.topJava?_eq_some.mp hg0
  have hl9 : e.platform.stackLimits (T.setVm s.vm).me = e.platform.stackLimits s.me := X.limits
  have hb9 : (T.setVm s.vm).me.stackBytes = s.me.stackBytes := X.bytes
  refine ⟨X.admits, X.cas, X.clock, hF, ?_, X.hears, X.method, X.code, X.here, X.tail, X.warmed, ?_, ?_, ?_⟩
  · have h := X.room
    have hU : ((T.setVm s.vm).setFrames (.invoking m args :: below)).localsInUse = s.localsInUse := by
      rw [State.localsInUse_invoking hF (meth := meth) (c := c) X.method X.code, State.localsInUse_invoking X.frames X.method X.code]
    simp only [State.hasRoom, Bool.and_eq_true, decide_eq_true_eq] at h ⊢
    obtain ⟨⟨⟨⟨h1, h2, h3, h4, h5, h6⟩, h7⟩, h8⟩, h9⟩ := h
    rw [X.frames, List.length_cons] at h2 h3
    have q1 := X.heapSize
    have q2 := X.used
    simp only [hF, hU, List.length_cons, State.stackLimits_setFrames, State.stackBytes_setFrames, hl9, hb9]
    refine ⟨⟨⟨⟨by omega, by omega, by omega, by omega, by omega, h6⟩, ?_⟩, ?_⟩, X.book⟩
    · show T.heap.size + R'.cells ≤ e.platform.maxCells
      omega
    · show T.slotsUsed + R'.slots ≤ e.platform.maxSlots
      omega
  · rw [State.stackLimits_setFrames]; rfl
  · rw [State.stackBytes_setFrames]; rfl
  · refine ⟨?_, Nat.le_refl _, Nat.le_refl _, ?_, ?_, fun a c9 h9 => ⟨c9, h9, rfl, rfl, fun _ _ => rfl⟩⟩
    · obtain ⟨t, ht, -⟩ := State.frames_cons hr
      show T.setVm s.vm = { ((T.setVm s.vm).setFrames (.invoking m args :: below)).setFrames (T.setVm s.vm).frames with heap := T.heap, slotsUsed := T.slotsUsed }
      rw [State.setFrames_setFrames, State.setFrames_self ht]
      rfl
    · show T.slotsUsed = T.slotsUsed + ((T.heap.toList.drop T.heap.size).map (·.slots.size)).sum
      rw [List.drop_eq_nil_of_le (Nat.le_of_eq Array.length_toList)]
      rfl
    · show ((T.heap.toList.drop T.heap.size).map (·.slots.size)).sum ≤ 0
      rw [List.drop_eq_nil_of_le (Nat.le_of_eq Array.length_toList)]
      exact Nat.le_refl _
/-- 'throw new E()': new; dup; invokespecial; athrow -/
theorem vx_throw0 {cc : ByteArray} {pc : Nat} (hexec : p.tables.exec = Jvm.exec) (hb : c.code = cc) (hl : l.stackTraces = false) {own cls : String} {names : List String} {ik ic mc ms : Nat} {A : Nat → Prop}
    (hown : s.vm.findClass own = some m.cls) (hcls : Bundle.fit cls = true) (hnames : ∀ n ∈ names, Bundle.fit n = true)
    (hk : (Cond.classLink own ik cls).before args s = true) (hini : (Cond.initialized cls).before args s = true) (hat : ∀ w ∈ vx_at0 own ic cls names, w.before args s = true)
    (hgood : ∀ w ∈ Cond.classLink own ik cls :: Cond.initialized cls :: vx_at0 own ic cls names, vx_ot w = true)
    (hU : vx_Zq Bundle.tN "UNASSIGNED_STACK" Bundle.steD A s s.heap) (hN : vx_Zq Bundle.tN "SUPPRESSED_SENTINEL" Bundle.listD A s s.heap) (hS : va_S A s.heap H locs) (hsize : ls.size = c.maxLocals)
    (d0 : decode cc pc = .ok (.new ik, 3)) (d3 : decode cc (pc + 3) = .ok (.dup, 1)) (d4 : decode cc (pc + 4) = .ok (.invokespecial ic, 3)) (d7 : decode cc (pc + 7) = .ok (.athrow, 1))
    (hout : ∀ x ∈ c.exceptionTable.toList, covers x (pc + 7) = false)
    (hRframes : names.length + 3 < R.frames) (hRlocals : (rest.map fun v => v.category).sum + (13 * (names.length + 1) + 42) ≤ R.locals) (hRcells : cells + 1 ≤ R.cells) (hRslots : slots + 6 ≤ R.slots) (hlocks : meth.locks = false)
    (hx : ∀ t : State, s.vm.Alike t.vm → H.size ≤ t.heap.size → (∀ q : Nat, q < H.size → t.heap[q]? = H[q]?) → XC cls s t)
    (hf : ∀ z ∈ locs, free z.base) (hc : cells + 1 ≤ mc) (hs : slots + 6 ≤ ms) :
    W p l e R s m args below meth c H locs cells slots (vx_MQ below Qc XC args s mc ms free) (F0 m pc ls rest) := by
  intro T hT X
  have htr : e.platform.stackTraces = false := (show e.platform.stackTraces = l.stackTraces by rw [X.admits.platform]).trans hl
  have Y := vx_rebase X (R' := { frames := R.frames, locals := R.locals, cells := 1, slots := 6 }) (Nat.le_refl _) (Nat.le_refl _) hRcells hRslots
  obtain ⟨s', hA⟩ : ∃ z, z = (T.setVm s.vm).setFrames (.invoking m args :: below) := ⟨_, rfl⟩
  rw [← hA] at Y
  have hvm : s'.vm = s.vm := by rw [hA]; rfl
  have hhp : s'.heap = H := by rw [hA]; exact hT
  have hW0 : s.WarmedH s'.vm := by rw [hvm]; exact State.WarmedH.refl s
  have hat' : ∀ w ∈ vx_at0 own ic cls names, w.before args s' = true := fun w hw => vx_ot_at hW0 hvm.symm (hgood w (List.mem_cons_of_mem _ (List.mem_cons_of_mem _ hw))) (hat w hw)
  have hk' : (Cond.classLink own ik cls).before args s' = true := vx_ot_at hW0 hvm.symm (hgood _ List.mem_cons_self) hk
  have hini' : (Cond.initialized cls).before args s' = true := vx_ot_at hW0 hvm.symm (hgood _ (List.mem_cons_of_mem _ List.mem_cons_self)) hini
  have hU' : vx_Zq Bundle.tN "UNASSIGNED_STACK" Bundle.steD A s' s'.heap := by rw [hhp]; exact vx_Zq.moved hW0.alike (hU.kept hS.2.1)
  have hN' : vx_Zq Bundle.tN "SUPPRESSED_SENTINEL" Bundle.listD A s' s'.heap := by rw [hhp]; exact vx_Zq.moved hW0.alike (hN.kept hS.2.1)
  have h : ∀ w ∈ Bundle.ownAtoms0 own ic cls names, w.before args s' = true := vx_own hat' (vx_isRefq hU'.1) (vx_isRefq hN'.1) hU'.2.word hN'.2.word
  have hown' : s'.vm.findClass own = some m.cls := by rw [hvm]; exact hown
  have hins : (Cond.instantiable cls 6).before args s' = true := h _ (by simp [Bundle.ownAtoms0])
  obtain ⟨vm₁, cX, kX, hfX, hkX, -, -, X₁, st1⟩ := Y.newCold hexec (own := own) (C := cls) (index := ik) (n := 6) hown' hk' hins hini'
    (g := F0 m pc ls rest) rfl (by rw [hb]; exact d0) (Nat.le_refl _) (Nat.le_refl _)
  generalize hT1 : (T.setVm vm₁).pushCell { cls := cX, slots := kX.instanceTypes.map defaultValue, vm := .none } = T1 at X₁ st1
  have hcat : (Value.ref T.heap.size).category = 1 := rfl
  have hcellA : T1.heap[T.heap.size]? = some (freshCell cX kX) := by rw [← hT1]; exact State.heap_pushCell_size _ _
  have d3' : decode c.code (pc + 3) = .ok (.dup, 1) := by rw [hb]; exact d3
  obtain ⟨U, hsteps, hrun, hend, hW, hsame, ce, hce, hO⟩ := X₁.ctorThrow0 hexec htr (own := own) (cls := cls) (names := names) (ic := ic) hown' hcls hnames h (fun x hx => nomatch hx) hfX hkX hcellA (by rw [hhp, hT]; exact Nat.le_refl _)
    (g := { method := m, pc := pc + 4, locals := ls, stack := .ref T.heap.size :: .ref T.heap.size :: rest, locked := none }) rfl hsize rfl rfl (rest := rest) rfl
    (by rw [hb]; exact d4) (by rw [hb]; exact d7) hout hRframes (by simp only [List.map_cons, List.sum_cons, hcat]; omega) hlocks
  obtain ⟨f1, f2⟩ := vx_frame hsame
  rw [hhp] at f1 f2
  have hWs : s.WarmedH U.vm := State.WarmedH.trans hW0 hW
  have hcl : s.vm.findClass cls = some ce.cls := by
    have h9 := hO.cls
    rw [hvm] at h9
    exact h9
  have hall : s.sameButNew ({ U with vm := s.vm } : State) locs mc ms := by
    subst hA
    obtain ⟨e1, e2⟩ := hsame
    rw [State.setFrames_setFrames] at e1
    have h2 : (T.setVm s.vm).sameButNew ({ U with vm := s.vm } : State) [] (0 + 1) (0 + 6) := ⟨e1, e2⟩
    have h3 := X.same.trans h2
    rw [List.append_nil] at h3
    exact h3.mono hc hs
  refine ⟨U, ?_, .threw T.heap.size, hrun, hend, Or.inr ⟨T.heap.size, rfl, cls, ce, locs, hx U hWs.alike f1 (fun q hq => f2 q hq (fun z hz => nomatch hz)), hce, hO.vm, hcl, hWs, hall, hf⟩⟩
  refine st1 _ ?_
  show Steps p.tables e below (T1.setTop { method := m, pc := pc + 3, locals := ls, stack := .ref T.heap.size :: rest, locked := none }) _
  jvm_step X₁.here [X₁.here.top, hexec, d3', Value.category]
  exact hsteps
/-- 'throw new E("text")': new; dup; ldc; invokespecial; athrow -/
theorem vx_throwS {cc : ByteArray} {pc : Nat} (hexec : p.tables.exec = Jvm.exec) (hb : c.code = cc) (hl : l.stackTraces = false) {own cls text : String} {names : List String} {ik is ic mc ms sa : Nat} {A : Nat → Prop}
    (hown : s.vm.findClass own = some m.cls) (hcls : Bundle.fit cls = true) (hnames : ∀ n ∈ names, Bundle.fit n = true)
    (hk : (Cond.classLink own ik cls).before args s = true) (hini : (Cond.initialized cls).before args s = true) (hstr : vk_R own is text sa s) (hat : ∀ w ∈ vx_atS own ic cls names, w.before args s = true)
    (hgood : ∀ w ∈ Cond.classLink own ik cls :: Cond.initialized cls :: vx_atS own ic cls names, vx_ot w = true)
    (hU : vx_Zq Bundle.tN "UNASSIGNED_STACK" Bundle.steD A s s.heap) (hN : vx_Zq Bundle.tN "SUPPRESSED_SENTINEL" Bundle.listD A s s.heap) (hS : va_S A s.heap H locs) (hsize : ls.size = c.maxLocals)
    (d0 : decode cc pc = .ok (.new ik, 3)) (d3 : decode cc (pc + 3) = .ok (.dup, 1)) (d4 : decode cc (pc + 4) = .ok (.ldc is, 2)) (d6 : decode cc (pc + 6) = .ok (.invokespecial ic, 3)) (d9 : decode cc (pc + 9) = .ok (.athrow, 1))
    (hout : ∀ x ∈ c.exceptionTable.toList, covers x (pc + 9) = false)
    (hRframes : names.length + 3 < R.frames) (hRlocals : (rest.map fun v => v.category).sum + (13 * (names.length + 1) + 43) ≤ R.locals) (hRcells : cells + 1 ≤ R.cells) (hRslots : slots + 6 ≤ R.slots) (hlocks : meth.locks = false)
    (hx : ∀ t : State, s.vm.Alike t.vm → H.size ≤ t.heap.size → (∀ q : Nat, q < H.size → t.heap[q]? = H[q]?) → XC cls s t)
    (hf : ∀ z ∈ locs, free z.base) (hc : cells + 1 ≤ mc) (hs : slots + 6 ≤ ms) :
    W p l e R s m args below meth c H locs cells slots (vx_MQ below Qc XC args s mc ms free) (F0 m pc ls rest) := by
  intro T hT X
  have htr : e.platform.stackTraces = false := (show e.platform.stackTraces = l.stackTraces by rw [X.admits.platform]).trans hl
  have Y := vx_rebase X (R' := { frames := R.frames, locals := R.locals, cells := 1, slots := 6 }) (Nat.le_refl _) (Nat.le_refl _) hRcells hRslots
  obtain ⟨s', hA⟩ : ∃ z, z = (T.setVm s.vm).setFrames (.invoking m args :: below) := ⟨_, rfl⟩
  rw [← hA] at Y
  have hvm : s'.vm = s.vm := by rw [hA]; rfl
  have hhp : s'.heap = H := by rw [hA]; exact hT
  have hW0 : s.WarmedH s'.vm := by rw [hvm]; exact State.WarmedH.refl s
  have hat' : ∀ w ∈ vx_atS own ic cls names, w.before args s' = true := fun w hw => vx_ot_at hW0 hvm.symm (hgood w (List.mem_cons_of_mem _ (List.mem_cons_of_mem _ hw))) (hat w hw)
  have hk' : (Cond.classLink own ik cls).before args s' = true := vx_ot_at hW0 hvm.symm (hgood _ List.mem_cons_self) hk
  have hini' : (Cond.initialized cls).before args s' = true := vx_ot_at hW0 hvm.symm (hgood _ (List.mem_cons_of_mem _ List.mem_cons_self)) hini
  have hU' : vx_Zq Bundle.tN "UNASSIGNED_STACK" Bundle.steD A s' s'.heap := by rw [hhp]; exact vx_Zq.moved hW0.alike (hU.kept hS.2.1)
  have hN' : vx_Zq Bundle.tN "SUPPRESSED_SENTINEL" Bundle.listD A s' s'.heap := by rw [hhp]; exact vx_Zq.moved hW0.alike (hN.kept hS.2.1)
  have h : ∀ w ∈ Bundle.ownAtoms own ic cls names, w.before args s' = true := vx_own hat' (vx_isRefq hU'.1) (vx_isRefq hN'.1) hU'.2.word hN'.2.word
  have hown' : s'.vm.findClass own = some m.cls := by rw [hvm]; exact hown
  have hins : (Cond.instantiable cls 6).before args s' = true := h _ (by simp [Bundle.ownAtoms])
  obtain ⟨vm₁, cX, kX, hfX, hkX, -, -, X₁, st1⟩ := Y.newCold hexec (own := own) (C := cls) (index := ik) (n := 6) hown' hk' hins hini'
    (g := F0 m pc ls rest) rfl (by rw [hb]; exact d0) (Nat.le_refl _) (Nat.le_refl _)
  generalize hT1 : (T.setVm vm₁).pushCell { cls := cX, slots := kX.instanceTypes.map defaultValue, vm := .none } = T1 at X₁ st1
  have hcat : (Value.ref T.heap.size).category = 1 := rfl
  have hcellA : T1.heap[T.heap.size]? = some (freshCell cX kX) := by rw [← hT1]; exact State.heap_pushCell_size _ _
  have d3' : decode c.code (pc + 3) = .ok (.dup, 1) := by rw [hb]; exact d3
  have d4' : decode c.code (pc + 4) = .ok (.ldc is, 2) := by rw [hb]; exact d4
  have hstr' : vk_R own is text sa s' := vk_R.warm hW0 hstr
  obtain ⟨U, hsteps, hrun, hend, hW, hsame, ce, hce, hO⟩ := X₁.ctorThrowS hexec htr (own := own) (cls := cls) (names := names) (ic := ic) hown' hcls hnames h (fun x hx => nomatch hx) hfX hkX hcellA (by rw [hhp, hT]; exact Nat.le_refl _) (msg := .ref sa) rfl
    (g := { method := m, pc := pc + 6, locals := ls, stack := .ref sa :: .ref T.heap.size :: .ref T.heap.size :: rest, locked := none }) rfl hsize rfl rfl (rest := rest) rfl
    (by rw [hb]; exact d6) (by rw [hb]; exact d9) hout hRframes (by simp only [List.map_cons, List.sum_cons, hcat]; omega) hlocks
  obtain ⟨f1, f2⟩ := vx_frame hsame
  rw [hhp] at f1 f2
  have hWs : s.WarmedH U.vm := State.WarmedH.trans hW0 hW
  have hcl : s.vm.findClass cls = some ce.cls := by
    have h9 := hO.cls
    rw [hvm] at h9
    exact h9
  have hall : s.sameButNew ({ U with vm := s.vm } : State) locs mc ms := by
    subst hA
    obtain ⟨e1, e2⟩ := hsame
    rw [State.setFrames_setFrames] at e1
    have h2 : (T.setVm s.vm).sameButNew ({ U with vm := s.vm } : State) [] (0 + 1) (0 + 6) := ⟨e1, e2⟩
    have h3 := X.same.trans h2
    rw [List.append_nil] at h3
    exact h3.mono hc hs
  refine ⟨U, ?_, .threw T.heap.size, hrun, hend, Or.inr ⟨T.heap.size, rfl, cls, ce, locs, hx U hWs.alike f1 (fun q hq => f2 q hq (fun z hz => nomatch hz)), hce, hO.vm, hcl, hWs, hall, hf⟩⟩
  refine st1 _ ?_
  show Steps p.tables e below (T1.setTop { method := m, pc := pc + 3, locals := ls, stack := .ref T.heap.size :: rest, locked := none }) _
  jvm_step X₁.here [X₁.here.top, hexec, d3', Value.category]
  exact X₁.ldcString hexec (own := own) (text := text) (index := is) (a := sa) hown' hstr'.1 hstr'.2
    (g := { method := m, pc := pc + 4, locals := ls, stack := .ref T.heap.size :: .ref T.heap.size :: rest, locked := none }) rfl d4' _ hsteps
/-- 'throw new E("text")', the text by a wide index -/
theorem vx_throwSW {cc : ByteArray} {pc : Nat} (hexec : p.tables.exec = Jvm.exec) (hb : c.code = cc) (hl : l.stackTraces = false) {own cls text : String} {names : List String} {ik is ic mc ms sa : Nat} {A : Nat → Prop}
    (hown : s.vm.findClass own = some m.cls) (hcls : Bundle.fit cls = true) (hnames : ∀ n ∈ names, Bundle.fit n = true)
    (hk : (Cond.classLink own ik cls).before args s = true) (hini : (Cond.initialized cls).before args s = true) (hstr : vk_R own is text sa s) (hat : ∀ w ∈ vx_atS own ic cls names, w.before args s = true)
    (hgood : ∀ w ∈ Cond.classLink own ik cls :: Cond.initialized cls :: vx_atS own ic cls names, vx_ot w = true)
    (hU : vx_Zq Bundle.tN "UNASSIGNED_STACK" Bundle.steD A s s.heap) (hN : vx_Zq Bundle.tN "SUPPRESSED_SENTINEL" Bundle.listD A s s.heap) (hS : va_S A s.heap H locs) (hsize : ls.size = c.maxLocals)
    (d0 : decode cc pc = .ok (.new ik, 3)) (d3 : decode cc (pc + 3) = .ok (.dup, 1)) (d4 : decode cc (pc + 4) = .ok (.ldc_w is, 3)) (d7 : decode cc (pc + 7) = .ok (.invokespecial ic, 3)) (d10 : decode cc (pc + 10) = .ok (.athrow, 1))
    (hout : ∀ x ∈ c.exceptionTable.toList, covers x (pc + 10) = false)
    (hRframes : names.length + 3 < R.frames) (hRlocals : (rest.map fun v => v.category).sum + (13 * (names.length + 1) + 43) ≤ R.locals) (hRcells : cells + 1 ≤ R.cells) (hRslots : slots + 6 ≤ R.slots) (hlocks : meth.locks = false)
    (hx : ∀ t : State, s.vm.Alike t.vm → H.size ≤ t.heap.size → (∀ q : Nat, q < H.size → t.heap[q]? = H[q]?) → XC cls s t)
    (hf : ∀ z ∈ locs, free z.base) (hc : cells + 1 ≤ mc) (hs : slots + 6 ≤ ms) :
    W p l e R s m args below meth c H locs cells slots (vx_MQ below Qc XC args s mc ms free) (F0 m pc ls rest) := by
  intro T hT X
  have htr : e.platform.stackTraces = false := (show e.platform.stackTraces = l.stackTraces by rw [X.admits.platform]).trans hl
  have Y := vx_rebase X (R' := { frames := R.frames, locals := R.locals, cells := 1, slots := 6 }) (Nat.le_refl _) (Nat.le_refl _) hRcells hRslots
  obtain ⟨s', hA⟩ : ∃ z, z = (T.setVm s.vm).setFrames (.invoking m args :: below) := ⟨_, rfl⟩
  rw [← hA] at Y
  have hvm : s'.vm = s.vm := by rw [hA]; rfl
  have hhp : s'.heap = H := by rw [hA]; exact hT
  have hW0 : s.WarmedH s'.vm := by rw [hvm]; exact State.WarmedH.refl s
  have hat' : ∀ w ∈ vx_atS own ic cls names, w.before args s' = true := fun w hw => vx_ot_at hW0 hvm.symm (hgood w (List.mem_cons_of_mem _ (List.mem_cons_of_mem _ hw))) (hat w hw)
  have hk' : (Cond.classLink own ik cls).before args s' = true := vx_ot_at hW0 hvm.symm (hgood _ List.mem_cons_self) hk
  have hini' : (Cond.initialized cls).before args s' = true := vx_ot_at hW0 hvm.symm (hgood _ (List.mem_cons_of_mem _ List.mem_cons_self)) hini
  have hU' : vx_Zq Bundle.tN "UNASSIGNED_STACK" Bundle.steD A s' s'.heap := by rw [hhp]; exact vx_Zq.moved hW0.alike (hU.kept hS.2.1)
  have hN' : vx_Zq Bundle.tN "SUPPRESSED_SENTINEL" Bundle.listD A s' s'.heap := by rw [hhp]; exact vx_Zq.moved hW0.alike (hN.kept hS.2.1)
  have h : ∀ w ∈ Bundle.ownAtoms own ic cls names, w.before args s' = true := vx_own hat' (vx_isRefq hU'.1) (vx_isRefq hN'.1) hU'.2.word hN'.2.word
  have hown' : s'.vm.findClass own = some m.cls := by rw [hvm]; exact hown
  have hins : (Cond.instantiable cls 6).before args s' = true := h _ (by simp [Bundle.ownAtoms])
  obtain ⟨vm₁, cX, kX, hfX, hkX, -, -, X₁, st1⟩ := Y.newCold hexec (own := own) (C := cls) (index := ik) (n := 6) hown' hk' hins hini'
    (g := F0 m pc ls rest) rfl (by rw [hb]; exact d0) (Nat.le_refl _) (Nat.le_refl _)
  generalize hT1 : (T.setVm vm₁).pushCell { cls := cX, slots := kX.instanceTypes.map defaultValue, vm := .none } = T1 at X₁ st1
  have hcat : (Value.ref T.heap.size).category = 1 := rfl
  have hcellA : T1.heap[T.heap.size]? = some (freshCell cX kX) := by rw [← hT1]; exact State.heap_pushCell_size _ _
  have d3' : decode c.code (pc + 3) = .ok (.dup, 1) := by rw [hb]; exact d3
  have d4' : decode c.code (pc + 4) = .ok (.ldc_w is, 3) := by rw [hb]; exact d4
  have hstr' : vk_R own is text sa s' := vk_R.warm hW0 hstr
  obtain ⟨U, hsteps, hrun, hend, hW, hsame, ce, hce, hO⟩ := X₁.ctorThrowS hexec htr (own := own) (cls := cls) (names := names) (ic := ic) hown' hcls hnames h (fun x hx => nomatch hx) hfX hkX hcellA (by rw [hhp, hT]; exact Nat.le_refl _) (msg := .ref sa) rfl
    (g := { method := m, pc := pc + 7, locals := ls, stack := .ref sa :: .ref T.heap.size :: .ref T.heap.size :: rest, locked := none }) rfl hsize rfl rfl (rest := rest) rfl
    (by rw [hb]; exact d7) (by rw [hb]; exact d10) hout hRframes (by simp only [List.map_cons, List.sum_cons, hcat]; omega) hlocks
  obtain ⟨f1, f2⟩ := vx_frame hsame
  rw [hhp] at f1 f2
  have hWs : s.WarmedH U.vm := State.WarmedH.trans hW0 hW
  have hcl : s.vm.findClass cls = some ce.cls := by
    have h9 := hO.cls
    rw [hvm] at h9
    exact h9
  have hall : s.sameButNew ({ U with vm := s.vm } : State) locs mc ms := by
    subst hA
    obtain ⟨e1, e2⟩ := hsame
    rw [State.setFrames_setFrames] at e1
    have h2 : (T.setVm s.vm).sameButNew ({ U with vm := s.vm } : State) [] (0 + 1) (0 + 6) := ⟨e1, e2⟩
    have h3 := X.same.trans h2
    rw [List.append_nil] at h3
    exact h3.mono hc hs
  refine ⟨U, ?_, .threw T.heap.size, hrun, hend, Or.inr ⟨T.heap.size, rfl, cls, ce, locs, hx U hWs.alike f1 (fun q hq => f2 q hq (fun z hz => nomatch hz)), hce, hO.vm, hcl, hWs, hall, hf⟩⟩
  refine st1 _ ?_
  show Steps p.tables e below (T1.setTop { method := m, pc := pc + 3, locals := ls, stack := .ref T.heap.size :: rest, locked := none }) _
  jvm_step X₁.here [X₁.here.top, hexec, d3', Value.category]
  exact X₁.ldcStringW hexec (own := own) (text := text) (index := is) (a := sa) hown' hstr'.1 hstr'.2
    (g := { method := m, pc := pc + 4, locals := ls, stack := .ref T.heap.size :: .ref T.heap.size :: rest, locked := none }) rfl d4' _ hsteps
end Ends
section Bodies
variable {l : Launch}
theorem vx_ofW {y : MethodName} {ws ws' : List Cond} {rm : Room} {Pc : Array Value → State → Prop} {Qc : Array Value → State → Outcome → State → Prop} {XC : String → State → State → Prop} {mc ms : Nat} {free : Addr → Prop} {cc : ByteArray} {maxL : Nat} {ret : Option FieldType}
    (hy : plainName y.cls = true) (hw : ws = Cond.code y cc maxL ret :: ws')
    (body : ∀ p e s m args below meth c s₁, BodyLoose p l y (headSpec ws rm) cc maxL ret e s m args below meth c s₁ → c.maxLocals = maxL → (∀ x ∈ c.exceptionTable.toList, False) → Pc args s →
      W p l e (headSpec ws rm).room s m args below meth c s.heap [] 0 0 (vx_MQ below Qc XC args s mc ms free) (entryFrame m args maxL)) : vx_Met l y ws rm Pc Qc XC mc ms free := by
  refine MetFree.of_bodyS (code := cc) (maxLocals := maxL) (ret := ret) hy ?_ ?_
  · intro args s m h hn
    obtain ⟨meth, c, h1, h2, h3, h4, h5, h6, -, -⟩ := Cond.code_spec hn (atoms_spec (ws := ws) h _ (by rw [hw]; exact List.mem_cons_self))
    exact ⟨meth, c, h1, h2, h3, h4, h5, h6⟩
  · intro p e s m args below meth c s₁ B hml hP _
    have hh0 : s₁.heap = s.heap := by rw [B.state]; rfl
    have ht : ∀ x ∈ c.exceptionTable.toList, False := by
      obtain ⟨meth9, c9, h1, h2, -, -, -, -, h7, -⟩ := Cond.code_spec B.named (atoms_spec (ws := ws) B.pre _ (by rw [hw]; exact List.mem_cons_self))
      cases Option.some.inj (h1.symm.trans B.method)
      cases Option.some.inj (h2.symm.trans (Stand.of_body B).code)
      intro x hx
      rw [Array.isEmpty_iff.mp h7] at hx
      cases hx
    obtain ⟨t, a1, o, b1, b2, b3⟩ := body p e s m args below meth c s₁ B hml ht hP s₁ hh0 (Stand.of_body B)
    exact ⟨t, o, a1, b1, b2, b3⟩
/-- the table of a body with handlers -/
theorem vx_table {p : Program} {x y : MethodName} {S : Spec} {cc bytes : ByteArray} {maxL maxL' : Nat} {ret ret' : Option FieldType} {e : Env} {s s₁ : State} {m : MethodId} {args : Array Value} {below : List Frame} {meth : Method} {c : Code} {hh : List (Nat × Nat × Nat × Nat)}
    (B : BodyLoose p l y S cc maxL ret e s m args below meth c s₁) (h : (Cond.codeWith y bytes maxL' ret' hh).before args s = true) : c.exceptionTable.toList = tableOf hh := by
  obtain ⟨m9, meth9, c9, hn9, h1, h2, -, -, h6, -⟩ := Cond.codeWith_spec h
  cases Option.some.inj (hn9.symm.trans B.named)
  cases Option.some.inj (h1.symm.trans B.method)
  cases Option.some.inj (h2.symm.trans (Stand.of_body B).code)
  rw [← h6, table_eq]
end Bodies
end VXA
/-! ===== END ===== -/
/-! ===== BEGIN a static call of a method with an exception table ===== -/
section VXS
variable {p : Program} {l : Launch} {e : Env} {R : Room} {s : State} {m : MethodId} {args : Array Value} {below : List Frame} {meth : Method} {c : Code} {T : State} {H : Heap} {locs : List Loc} {cells slots : Nat}
abbrev vx_CSW (R : Room) (s : State) (args : Array Value) (own : String) (index : Nat) (y : MethodName) (bytes : ByteArray) (maxL : Nat) (ret : Option FieldType) (hh : List (Nat × Nat × Nat × Nat)) (ws : List Cond) (rm : Room) (mc ms n : Nat) : Prop :=
  (rm.cells = mc ∧ rm.slots = ms ∧ rm.frames + 1 ≤ R.frames ∧ 8 + (maxL + 11) + rm.locals ≤ R.locals ∧ (∀ w ∈ ws, ∀ (a' : Array Value) (U : State), s.WarmedH U.vm → w.before a' U = true) ∧ Cond.codeWith y bytes maxL ret hh ∈ ws) ∧
  (Cond.codeWith y bytes maxL ret hh).before args s = true ∧ (Cond.initialized y.cls).before args s = true ∧ (y.cls ≠ "java/lang/invoke/MethodHandle" ∧ y.cls ≠ "java/lang/invoke/VarHandle") ∧
  (∀ sig, parseMethodDescriptor y.desc = some sig → n = sig.parameters.length) ∧ (Cond.methodLink own index y).before args s = true ∧ (Cond.static y).before args s = true
theorem vx_cwSW {own : String} {index maxL mc ms : Nat} {y : MethodName} {bytes : ByteArray} {ret : Option FieldType} {hh : List (Nat × Nat × Nat × Nat)} {Ts ws ws' : List Cond} {rm : Room} (n : Nat) (ht : ∀ w ∈ Ts, w.before args s = true) (hT : GoodIn Ts (va_wsS own index y ws)) (hw : ws = Cond.codeWith y bytes maxL ret hh :: ws') (hrc : rm.cells = mc) (hrs : rm.slots = ms)
    (hd : y.cls ≠ "java/lang/invoke/MethodHandle" ∧ y.cls ≠ "java/lang/invoke/VarHandle" ∧ (parseMethodDescriptor y.desc).map (fun d => d.parameters.length) = some n) (hR : rm.frames + 1 ≤ R.frames ∧ 8 + (maxL + 11) + rm.locals ≤ R.locals) :
    vx_CSW R s args own index y bytes maxL ret hh ws rm mc ms n := by
  have ok : ∀ w ∈ va_wsS own index y ws, w.before args s = true := fun w h => ht w (hT w h).1
  have hG : GoodIn Ts ws := fun w h => hT w (by unfold va_wsS; exact List.mem_append_right _ h)
  have hc : Cond.codeWith y bytes maxL ret hh ∈ ws := by rw [hw]; exact List.mem_cons_self
  refine ⟨⟨hrc, hrs, hR.1, hR.2, pay_in ht hG, hc⟩, ht _ (hG _ hc).1, ok _ (by simp [va_wsS]), ⟨hd.1, hd.2.1⟩, fun sig h => ?_, ok _ (by simp [va_wsS]), ok _ (by simp [va_wsS])⟩
  have h2 := hd.2.2
  rw [h] at h2
  exact (Option.some.inj h2).symm
theorem vx_callSW (X : Stand p l e R s m args below meth c T locs cells slots) (hexec : p.tables.exec = Jvm.exec) {own : String} {index : Nat} {y : MethodName} {bytes : ByteArray} {maxL : Nat} {ret : Option FieldType} {hh : List (Nat × Nat × Nat × Nat)}
    (hown : s.vm.findClass own = some m.cls) (hlink : (Cond.methodLink own index y).before args s = true) (hstat : (Cond.static y).before args s = true) (hinit : (Cond.initialized y.cls).before args s = true)
    (hcode : (Cond.codeWith y bytes maxL ret hh).before args s = true) (hy : y.cls ≠ "java/lang/invoke/MethodHandle" ∧ y.cls ≠ "java/lang/invoke/VarHandle")
    {W9 : Nat} {Pre : Pt → Array Value → Prop} {Post : Pt → Array Value → Option Value → Pt → Prop} (hK : Back l R p e below s args y 3 W9 Pre Post)
    {g : JFrame} (hg : g.method = m) (hsize : g.locals.size = c.maxLocals) {argsL rest : List Value} (hlen : ∀ sig, parseMethodDescriptor y.desc = some sig → argsL.length = sig.parameters.length)
    (hstack : g.stack = argsL.reverse ++ rest) (hW : 2 * g.monitorRoom + (rest.map fun v => v.category).sum ≤ W9) (hdg : decode c.code g.pc = .ok (.invokestatic index, 3))
    (hpre : ∀ vm₁, s.WarmedH vm₁ → Pre ⟨T.setVm vm₁, locs, cells, slots⟩ argsL.toArray) :
    ∃ (v : Option Value) (vm₁ : Vm) (B : Pt), s.WarmedH vm₁ ∧ Stand p l e R s m args below meth c B.U B.locs B.cells B.slots ∧ Post ⟨T.setVm vm₁, locs, cells, slots⟩ argsL.toArray v B ∧
      ∀ target, Steps p.tables e below (B.U.setTop { g with pc := g.pc + 3, stack := v.toList ++ rest }) target → Steps p.tables e below (T.setTop g) target := by
  obtain ⟨mk, methM, cM, hnamed, hmethM, -, -, -, -, -, -, hsigM⟩ := Cond.codeWith_spec hcode
  have hstatic : methM.isStatic = true := Cond.static_spec hnamed hmethM hstat
  obtain ⟨kP, hkP, -⟩ := className_of_methodNamed hnamed
  have hinitP : kP.init = .initialized := Cond.initialized_spec (findClass_of_methodNamed hnamed) hkP hinit
  obtain ⟨vm₁, X₁, hstep₁⟩ := X.invokestatic hexec hown hlink hnamed hmethM hstatic hkP hinitP hy (g := g) hg (argsL := argsL) (rest := rest) (hlen _ hsigM) hstack hdg
  obtain ⟨v, B, X', hpost, hsteps⟩ := hK m meth c ⟨T.setVm vm₁, locs, cells, slots⟩ { g with stack := rest } (.invokestatic index) mk argsL.toArray X₁ hg hsize hdg hW (X₁.named hnamed) (hpre vm₁ X₁.warmed)
  exact ⟨v, vm₁, B, X₁.warmed, X', hpost, fun target h => hstep₁ _ fun acts => by rw [doInvoke_state]; exact hsteps.trans h⟩
theorem vx_runSW {y : MethodName} {bytes cc : ByteArray} {maxL nL mc ms n index : Nat} {ret : Option FieldType} {hh : List (Nat × Nat × Nat × Nat)} {ws : List Cond} {rm : Room} {Pc : Array Value → State → Prop} {Qc : Array Value → State → Outcome → State → Prop} {free : Addr → Prop} {Ts : List Cond} {own : String} {As rest : List Value} {g : JFrame}
    (S : CallFix p m c cc nL s args Ts own) (hM : Met l y ws rm Pc Qc mc ms free) (cw : vx_CSW R s args own index y bytes maxL ret hh ws rm mc ms n) (hp : PreS s H Pc As)
    (hg : g.method = m) (hn : As.length = n) (hsize : g.locals.size = nL) (hstack : g.stack = As.reverse ++ rest) (hW : 2 * g.monitorRoom + (rest.map fun v => v.category).sum ≤ 8) (hdg : decode cc g.pc = .ok (.invokestatic index, 3)) (hf : cells + mc ≤ R.cells ∧ slots + ms ≤ R.slots) :
    va_Run p l e R s m args below meth c H locs cells slots mc ms g rest (Qc As.toArray) (free) := by
  obtain ⟨⟨hrc, hrs, hfr, hlo, hws, hcw⟩, hcode, hini, hy, hlen, hl, hstt⟩ := cw
  have hK : Back l R p e below s args y 3 8 (PreOf R mc ms Pc) (PostOf Qc mc ms free) := va_backW (hh := hh) (bytes := bytes) (maxL := maxL) (ret := ret) hM hp.1 hrc hrs hfr hlo hws hcw (fun a' U hW => word_at hW (Or.inl (by first | rfl | simp [Cond.onTables, Cond.keeps, Cond.steady])) hini)
  obtain ⟨hx, hb, hml, ho, -⟩ := S
  intro T hT X
  obtain ⟨v, vm₁, ⟨U', l2, c2, s2⟩, hW₁, X', ⟨g', mk, t, L, e1, e2, hq, h1, hL, h2, h3⟩, st⟩ := vx_callSW X hx (hh := hh) (bytes := bytes) (maxL := maxL) (ret := ret) ho hl hstt hini hcode hy hK hg (hsize.trans hml.symm) (argsL := As) (rest := rest) (fun sig h => hn.trans (hlen sig h)) hstack hW (by rw [hb]; exact hdg)
    (fun vm₁ hW₁ => ⟨hf.1, hf.2, hp.2 (T.setVm vm₁) hT hW₁⟩)
  dsimp only [Pt.U, Pt.locs, Pt.cells, Pt.slots] at X' e1 e2 h1 h2 h3 st
  subst h1; subst h2; subst h3
  exact ⟨v, (T.setVm vm₁).calling g' mk As.toArray, t, U', L, hT, X', hL, e1, e2, hq, st⟩
/-- not caught here, past rows that name other classes: it goes on to the caller -/
theorem vx_outP {p : Program} {l : Launch} {e : Env} {R : Room} {s : State} {m : MethodId} {args : Array Value} {below : List Frame} {meth : Method} {c : Code} {H : Heap} {locs : List Loc} {cells slots : Nat} {free : Addr → Prop} {ls : Array Slot} {rest : List Value} {Qc : Array Value → State → Outcome → State → Prop} {XC : String → State → State → Prop}
    {pc : Nat} {own E : String} {ce : Cell} {q : Addr} {mc ms : Nat} (hown : s.vm.findClass own = some m.cls) (hlocks : meth.locks = false)
    (hpass : ∀ z ∈ c.exceptionTable.toList, covers z pc = false ∨ (z.catchType ≠ 0 ∧ ∃ nm : String, (Cond.classLink own z.catchType nm).before args s = true ∧ va_Nc E nm s)) (hcell : H[q]? = some ce) (hv : ce.vm = .none) (hcl : s.vm.findClass E = some ce.cls)
    (hx : ∀ t : State, t.heap = H → s.vm.Alike t.vm → XC E s t) (hf : ∀ z ∈ locs, free z.base) (hc : cells ≤ mc) (hs : slots ≤ ms) :
    vx_W p l e R s m args below meth c H locs cells slots (vx_MQ below Qc XC args s mc ms free) (F0 m pc ls rest) q := by
  intro T hT X
  have hpl : e.platform.magicAccessors = ({} : Platform).magicAccessors := by rw [X.admits.platform]
  obtain ⟨vm', hW', X', st⟩ := X.outThrough hlocks q (g := F0 m pc ls rest) rfl rfl rfl (cell := ce) (by rw [hT]; exact hcell) (by rw [hv]; rfl)
    (by obtain ⟨k9, h9, -⟩ := Vm.findClass_spec hcl; exact ⟨k9, h9⟩) (fun z hz => by
      rcases hpass z hz with h | ⟨hz0, nm, hl1, hn1⟩
      · exact Or.inl h
      · obtain ⟨c6, hc6, hcl6⟩ := Cond.classLink_spec hown hl1 e.platform hpl
        obtain ⟨a8, b8, h1, h2, h3⟩ := hn1
        cases Option.some.inj (h1.symm.trans hcl)
        cases Option.some.inj (h2.symm.trans hc6)
        exact Or.inr ⟨hz0, _, hcl6, h3⟩)
  obtain ⟨g₀, hfr⟩ := X'.frames_eq
  have hcell9 : ((T.setVm vm').setFrames (.throwing q :: below)).heap[q]? = some ce := by
    show T.heap[q]? = some ce
    rw [hT]; exact hcell
  have hend : Ended ((T.setVm vm').setFrames (.throwing q :: below)) below (.threw q) := State.frames_setFrames _ (State.cur_lt_of_frames hfr)
  refine ⟨(T.setVm vm').setFrames (.throwing q :: below), ?_, .threw q, X'.here.running, hend, Or.inr ⟨q, rfl, E, ce, locs, hx _ hT (X'.ends _).1.alike, hcell9, hv, hcl, (X'.ends _).1, (X'.ends _).2.mono hc hs, hf⟩⟩
  rw [X.pushThrowing_eq]
  exact st
/-- a thing of a world lies in the heap -/
theorem vx_lt {D : va_G} {cl : List vw_C} {ws : va_W} {H1 : Heap} (h : va_P D cl ws H1) {k : Nat} {q : Nat × va_E} (hk : ws[k]? = some q) : q.1 < H1.size := (h k q hk).lt
end VXS
/-! ===== END ===== -/
/-! ===== BEGIN methods with a table of their own: called by a name, returning or throwing ===== -/
section VXH
/-! vx_backW, vx_callVX, vx_callSX, vx_callVW, vx_runVW, vx_runVX, vx_runSX, vx_ofWH follow the same proofs as their sisters above (Free/Laws.lean, Shelf42/LK1.lean); vx_outP calls Shelf42/NT130.lean (outThrough). -/
section
variable {l : Launch} {R : Room} {p : Program} {e : Env} {below : List Frame} {s : State} {sargs : Array Value} {y : MethodName} {len W9 : Nat}
theorem vx_backW {ws : List Cond} {rm : Room} {Pc : Array Value → State → Prop} {Qc : Array Value → State → Outcome → State → Prop} {XC : String → State → State → Prop} {mc ms : Nat} {free : Addr → Prop} {bytes : ByteArray} {maxL : Nat} {ret : Option FieldType} {hh : List (Nat × Nat × Nat × Nat)}
    (hM : vx_Met l y ws rm Pc Qc XC mc ms free) (hblind : FrameBlind Pc) (hrc : rm.cells = mc) (hrs : rm.slots = ms)
    (hframes : rm.frames + 1 ≤ R.frames) (hlocals : W9 + (maxL + 11) + rm.locals ≤ R.locals)
    (hws : ∀ w ∈ ws, ∀ a' U, s.WarmedH U.vm → w.before a' U = true) (hcode : Cond.codeWith y bytes maxL ret hh ∈ ws) (hinit : ∀ a' U, s.WarmedH U.vm → (Cond.initialized y.cls).before a' U = true) :
    vx_Back l R p e below s sargs y len W9 (PreOf R mc ms Pc) (PostOf Qc mc ms free) (vx_Post XC mc ms free) := by
  intro m meth c A g ig mk a X hg hsize hdg hW hn hp
  have h1 : (headSpec ws rm).pre.before a A.U = true := atoms_intro fun w hw => hws w hw _ _ X.warmed
  have h2 : (Cond.codeWith y bytes maxL ret hh).before a A.U = true := hws _ hcode _ _ X.warmed
  have h3 : (Cond.initialized y.cls).before a A.U = true := hinit _ _ X.warmed
  have h4 : A.cells + (headSpec ws rm).room.cells ≤ R.cells := by rw [show (headSpec ws rm).room.cells = mc from hrc]; exact hp.1
  have h5 : A.slots + (headSpec ws rm).room.slots ≤ R.slots := by rw [show (headSpec ws rm).room.slots = ms from hrs]; exact hp.2.1
  have hPc : Pc a (A.U.calling g mk a) := hblind _ _ _ _ hp.2.2
  obtain ⟨U, Ls, c0, s0⟩ := A
  dsimp only [Pt.U, Pt.locs, Pt.cells, Pt.slots] at h1 h2 h3 h4 h5 X hn hPc ⊢
  obtain ⟨m9, methY, cY, hn9, hmY, hcY, -, hlY, -⟩ := Cond.codeWith_spec h2
  cases Option.some.inj (hn9.symm.trans hn)
  obtain ⟨kY, hkY, -⟩ := className_of_methodNamed hn
  have hinitY : kY.init = .initialized := Cond.initialized_spec (findClass_of_methodNamed hn) hkY h3
  have h : At U g.method c below := by rw [hg]; exact X.here
  have hlocals9 : W9 + (maxL + 11) + (headSpec ws rm).room.locals ≤ R.locals := hlocals
  have happ : (headSpec ws rm).appliesLoose y e.platform (U.calling g mk a) = true :=
    Spec.appliesLoose_calling (g := g) h hdg hn hkY hinitY
      (X.room_calling (g := g) (R' := (headSpec ws rm).room) hsize hmY hcY hframes (by rw [hlY]; omega) h4 h5) h1
  obtain ⟨mid, hmid⟩ := h.above
  have hfr : (U.setTop g).frames = (.java g :: mid) ++ below := by rw [State.frames_setTop' g h.top, hmid]; rfl
  obtain ⟨o, s₂, hsteps, -, hend, hq⟩ := Steps.callFree hM p X.admits X.cas X.clock (acts := []) hfr happ hPc trivial
  have hq' : vx_Q Qc XC mc ms free a (U.calling g mk a) o s₂ := hq
  rw [State.frames_setTop' g h.top] at hend
  obtain ⟨g₀, hg0⟩ := Option.isSome_iff_exists.mp h.top
  obtain ⟨r, hr⟩ := State.topJava?_eq_some.mp hg0
  have hr' : (({ U with heap := s₂.heap, slotsUsed := s₂.slotsUsed } : State).setVm s₂.vm).frames = .java g₀ :: r := hr
  rcases hq' with ⟨hqc, L, hfe, hL⟩ | ⟨q, rfl, E, ce, L, hx, hce, hcv, hcl, hW₂, hsm, hL⟩
  · obtain ⟨⟨v, rfl⟩, hW₂, e2, q2, q3, q4, q5, q6⟩ := id hfe
    have e3 : s₂ = ({ (U.calling g mk a).setFrames s₂.frames with heap := s₂.heap, slotsUsed := s₂.slotsUsed } : State).setVm s₂.vm := by
      have : s₂ = ({ s₂ with vm := (U.calling g mk a).vm } : State).setVm s₂.vm := rfl
      rw [e2] at this
      exact this
    obtain ⟨c₂, i₂, len₂, hc₂, hd₂, hf₂⟩ := hend
    have hW' : U.WarmedH s₂.vm := hW₂
    have hcc : c₂ = c := by
      have h1 : s₂.code? g.method = U.code? g.method := by
        rw [State.code?_eq, State.code?_eq, hW'.alike.method?]
      exact Option.some.inj (hc₂.symm.trans (h1.trans h.code))
    subst hcc
    have hlen : len₂ = len := by rw [hdg] at hd₂; cases hd₂; rfl
    subst hlen
    have hs₂ : s₂ = (({ U with heap := s₂.heap, slotsUsed := s₂.slotsUsed } : State).setVm s₂.vm).setTop { g with pc := g.pc + len₂, stack := v.toList ++ g.stack } := by
      refine e3.trans ?_
      rw [hf₂, State.calling_eq h.top, State.setFrames_setFrames, State.setTop_of_frames _ hr', hr]
      rfl
    have hsame : U.sameButNew ({ U with heap := s₂.heap, slotsUsed := s₂.slotsUsed } : State) L mc ms := by
      refine ⟨?_, q2, q3, q4, q5, q6⟩
      obtain ⟨t, ht, -⟩ := State.frames_cons hr
      show ({ U with heap := s₂.heap, slotsUsed := s₂.slotsUsed } : State) = { U.setFrames U.frames with heap := s₂.heap, slotsUsed := s₂.slotsUsed }
      rw [State.setFrames_self ht]
    subst hg
    refine Or.inl ⟨v, ⟨(({ U with heap := s₂.heap, slotsUsed := s₂.slotsUsed } : State).setVm s₂.vm), Ls ++ L, c0 + mc, s0 + ms⟩,
      ⟨X.admits, X.cas, X.clock, X.frames, X.room, X.hears, X.method, X.code, (X.here.setHeapUsed s₂.heap s₂.slotsUsed).setVm hW'.alike, X.tail, State.WarmedH.trans X.warmed hW', X.limits, X.bytes, X.same.trans (hsame.setVm s.vm)⟩,
      ⟨g, mk, s₂, L, rfl, rfl, hqc, rfl, hL, rfl, rfl⟩, ?_⟩
    show Steps p.tables e below _ ((({ U with heap := s₂.heap, slotsUsed := s₂.slotsUsed } : State).setVm s₂.vm).setTop { g with pc := g.pc + len₂, stack := v.toList ++ g.stack })
    rw [← hs₂]
    exact hsteps
  · obtain ⟨e2, q2, q3, q4, q5, q6⟩ := id hsm
    have e3 : s₂ = ({ (U.calling g mk a).setFrames s₂.frames with heap := s₂.heap, slotsUsed := s₂.slotsUsed } : State).setVm s₂.vm := by
      have : s₂ = ({ s₂ with vm := (U.calling g mk a).vm } : State).setVm s₂.vm := rfl
      rw [e2] at this
      exact this
    have hf₂ : s₂.frames = .throwing q :: .java g :: U.frames.tail := hend
    have hW' : U.WarmedH s₂.vm := hW₂
    have hs₂ : s₂ = ((({ U with heap := s₂.heap, slotsUsed := s₂.slotsUsed } : State).setVm s₂.vm).setTop g).pushFrame (.throwing q) := by
      refine e3.trans ?_
      rw [hf₂, State.calling_eq h.top, State.setFrames_setFrames, State.pushFrame, State.frames_setTop _ hr', State.setTop_of_frames _ hr', State.setFrames_setFrames, hr]
      rfl
    have hsame : U.sameButNew ({ U with heap := s₂.heap, slotsUsed := s₂.slotsUsed } : State) L mc ms := by
      refine ⟨?_, q2, q3, q4, q5, q6⟩
      obtain ⟨t, ht, -⟩ := State.frames_cons hr
      show ({ U with heap := s₂.heap, slotsUsed := s₂.slotsUsed } : State) = { U.setFrames U.frames with heap := s₂.heap, slotsUsed := s₂.slotsUsed }
      rw [State.setFrames_self ht]
    subst hg
    refine Or.inr ⟨q, ⟨(({ U with heap := s₂.heap, slotsUsed := s₂.slotsUsed } : State).setVm s₂.vm), Ls ++ L, c0 + mc, s0 + ms⟩,
      ⟨X.admits, X.cas, X.clock, X.frames, X.room, X.hears, X.method, X.code, (X.here.setHeapUsed s₂.heap s₂.slotsUsed).setVm hW'.alike, X.tail, State.WarmedH.trans X.warmed hW', X.limits, X.bytes, X.same.trans (hsame.setVm s.vm)⟩,
      ⟨g, mk, s₂, L, E, ce, rfl, rfl, hx, hce, hcv, hcl, rfl, hL, rfl, rfl⟩, ?_⟩
    show Steps p.tables e below _ (((({ U with heap := s₂.heap, slotsUsed := s₂.slotsUsed } : State).setVm s₂.vm).setTop g).pushFrame (.throwing q))
    rw [← hs₂]
    exact hsteps
end
variable {p : Program} {l : Launch} {e : Env} {R : Room} {s : State} {m : MethodId} {args : Array Value} {below : List Frame} {meth : Method} {c : Code} {T : State} {H : Heap} {locs : List Loc} {cells slots : Nat}
theorem vx_callVX (X : Stand p l e R s m args below meth c T locs cells slots) (hexec : p.tables.exec = Jvm.exec) {own C : String} {index : Nat} {y : MethodName} {bytes : ByteArray} {maxL : Nat} {ret : Option FieldType} {hh : List (Nat × Nat × Nat × Nat)}
    (hown : s.vm.findClass own = some m.cls) (hlink : (Cond.methodLink own index y).before args s = true) (hinst : (Cond.instanceMethod y).before args s = true) (hsel : (Cond.selects C y y).before args s = true)
    (hcode : (Cond.codeWith y bytes maxL ret hh).before args s = true) (hy : y.cls ≠ "java/lang/invoke/MethodHandle" ∧ y.cls ≠ "java/lang/invoke/VarHandle")
    {W9 : Nat} {Pre : Pt → Array Value → Prop} {Post : Pt → Array Value → Option Value → Pt → Prop} {PostX : Pt → Array Value → Addr → Pt → Prop} (hK : vx_Back l R p e below s args y 3 W9 Pre Post PostX)
    {b : Addr} {cellB : Cell} (hcell : T.heap[b]? = some cellB) (hobj : cellB.vm.isStatics = false) (hcls : s.vm.findClass C = some cellB.cls)
    {g : JFrame} (hg : g.method = m) (hsize : g.locals.size = c.maxLocals) {argsL rest : List Value} (hlen : ∀ sig, parseMethodDescriptor y.desc = some sig → argsL.length = sig.parameters.length)
    (hstack : g.stack = argsL.reverse ++ .ref b :: rest) (hW : 2 * g.monitorRoom + (rest.map fun v => v.category).sum ≤ W9) (hdg : decode c.code g.pc = .ok (.invokevirtual index, 3))
    (hpre : ∀ vm₁, s.WarmedH vm₁ → Pre ⟨T.setVm vm₁, locs, cells, slots⟩ (Value.ref b :: argsL).toArray) :
    (∃ (v : Option Value) (vm₁ : Vm) (B : Pt), s.WarmedH vm₁ ∧ Stand p l e R s m args below meth c B.U B.locs B.cells B.slots ∧ Post ⟨T.setVm vm₁, locs, cells, slots⟩ (Value.ref b :: argsL).toArray v B ∧
      ∀ target, Steps p.tables e below (B.U.setTop { g with pc := g.pc + 3, stack := v.toList ++ rest }) target → Steps p.tables e below (T.setTop g) target) ∨
    (∃ (q : Addr) (vm₁ : Vm) (B : Pt), s.WarmedH vm₁ ∧ Stand p l e R s m args below meth c B.U B.locs B.cells B.slots ∧ PostX ⟨T.setVm vm₁, locs, cells, slots⟩ (Value.ref b :: argsL).toArray q B ∧
      Steps p.tables e below (T.setTop g) ((B.U.setTop { g with stack := rest }).pushFrame (.throwing q))) := by
  obtain ⟨mk, methM, hnamed, hmethM, hstM, habM⟩ := Cond.instanceMethod_spec hinst
  obtain ⟨m8, methM', cM, hn8, hmethM', -, -, -, -, -, -, hsigM⟩ := Cond.codeWith_spec hcode
  cases Option.some.inj (hn8.symm.trans hnamed)
  cases hmethM.symm.trans hmethM'
  obtain ⟨c2, r2, m2, q1, q2, q3, q4, kP, hkP, hkPi⟩ := Cond.selects_spec hsel
  cases hcls.symm.trans q1
  cases (State.methodFound?_of_named hnamed hy).symm.trans q2
  cases hnamed.symm.trans q3
  have hselP : selectMethod e.platform s.vm cellB.cls mk = .method mk := by rw [Launch.admits_selectMethod X.admits]; exact q4
  obtain ⟨vm₁, X₁, hstep₁⟩ := X.invokevirtual hexec hown hlink hnamed hmethM hstM hkP hkPi hy (a := b) (cell := cellB) hcell
    (fun z h => by rw [h] at hobj; cases hobj) hselP hmethM habM hkP hkPi (g := g) hg (argsL := argsL) (rest := rest) (hlen _ hsigM) hstack hdg
  rcases hK m meth c ⟨T.setVm vm₁, locs, cells, slots⟩ { g with stack := rest } (.invokevirtual index) mk (Value.ref b :: argsL).toArray X₁ hg hsize hdg hW (X₁.named hnamed) (hpre vm₁ X₁.warmed) with ⟨v, B, X', hpost, hsteps⟩ | ⟨q, B, X', hpost, hsteps⟩
  · exact Or.inl ⟨v, vm₁, B, X₁.warmed, X', hpost, fun target h => hstep₁ _ fun acts => by rw [doInvoke_state]; exact hsteps.trans h⟩
  · exact Or.inr ⟨q, vm₁, B, X₁.warmed, X', hpost, hstep₁ _ fun acts => by rw [doInvoke_state]; exact hsteps⟩
theorem vx_callSX (X : Stand p l e R s m args below meth c T locs cells slots) (hexec : p.tables.exec = Jvm.exec) {own : String} {index : Nat} {y : MethodName} {bytes : ByteArray} {maxL : Nat} {ret : Option FieldType} {hh : List (Nat × Nat × Nat × Nat)}
    (hown : s.vm.findClass own = some m.cls) (hlink : (Cond.methodLink own index y).before args s = true) (hstat : (Cond.static y).before args s = true) (hinit : (Cond.initialized y.cls).before args s = true)
    (hcode : (Cond.codeWith y bytes maxL ret hh).before args s = true) (hy : y.cls ≠ "java/lang/invoke/MethodHandle" ∧ y.cls ≠ "java/lang/invoke/VarHandle")
    {W9 : Nat} {Pre : Pt → Array Value → Prop} {Post : Pt → Array Value → Option Value → Pt → Prop} {PostX : Pt → Array Value → Addr → Pt → Prop} (hK : vx_Back l R p e below s args y 3 W9 Pre Post PostX)
    {g : JFrame} (hg : g.method = m) (hsize : g.locals.size = c.maxLocals) {argsL rest : List Value} (hlen : ∀ sig, parseMethodDescriptor y.desc = some sig → argsL.length = sig.parameters.length)
    (hstack : g.stack = argsL.reverse ++ rest) (hW : 2 * g.monitorRoom + (rest.map fun v => v.category).sum ≤ W9) (hdg : decode c.code g.pc = .ok (.invokestatic index, 3))
    (hpre : ∀ vm₁, s.WarmedH vm₁ → Pre ⟨T.setVm vm₁, locs, cells, slots⟩ argsL.toArray) :
    (∃ (v : Option Value) (vm₁ : Vm) (B : Pt), s.WarmedH vm₁ ∧ Stand p l e R s m args below meth c B.U B.locs B.cells B.slots ∧ Post ⟨T.setVm vm₁, locs, cells, slots⟩ argsL.toArray v B ∧
      ∀ target, Steps p.tables e below (B.U.setTop { g with pc := g.pc + 3, stack := v.toList ++ rest }) target → Steps p.tables e below (T.setTop g) target) ∨
    (∃ (q : Addr) (vm₁ : Vm) (B : Pt), s.WarmedH vm₁ ∧ Stand p l e R s m args below meth c B.U B.locs B.cells B.slots ∧ PostX ⟨T.setVm vm₁, locs, cells, slots⟩ argsL.toArray q B ∧
      Steps p.tables e below (T.setTop g) ((B.U.setTop { g with stack := rest }).pushFrame (.throwing q))) := by
  obtain ⟨mk, methM, cM, hnamed, hmethM, -, -, -, -, -, -, hsigM⟩ := Cond.codeWith_spec hcode
  have hstatic : methM.isStatic = true := Cond.static_spec hnamed hmethM hstat
  obtain ⟨kP, hkP, -⟩ := className_of_methodNamed hnamed
  have hinitP : kP.init = .initialized := Cond.initialized_spec (findClass_of_methodNamed hnamed) hkP hinit
  obtain ⟨vm₁, X₁, hstep₁⟩ := X.invokestatic hexec hown hlink hnamed hmethM hstatic hkP hinitP hy (g := g) hg (argsL := argsL) (rest := rest) (hlen _ hsigM) hstack hdg
  rcases hK m meth c ⟨T.setVm vm₁, locs, cells, slots⟩ { g with stack := rest } (.invokestatic index) mk argsL.toArray X₁ hg hsize hdg hW (X₁.named hnamed) (hpre vm₁ X₁.warmed) with ⟨v, B, X', hpost, hsteps⟩ | ⟨q, B, X', hpost, hsteps⟩
  · exact Or.inl ⟨v, vm₁, B, X₁.warmed, X', hpost, fun target h => hstep₁ _ fun acts => by rw [doInvoke_state]; exact hsteps.trans h⟩
  · exact Or.inr ⟨q, vm₁, B, X₁.warmed, X', hpost, hstep₁ _ fun acts => by rw [doInvoke_state]; exact hsteps⟩
theorem vx_callVW (X : Stand p l e R s m args below meth c T locs cells slots) (hexec : p.tables.exec = Jvm.exec) {own C : String} {index : Nat} {y : MethodName} {bytes : ByteArray} {maxL : Nat} {ret : Option FieldType} {hh : List (Nat × Nat × Nat × Nat)}
    (hown : s.vm.findClass own = some m.cls) (hlink : (Cond.methodLink own index y).before args s = true) (hinst : (Cond.instanceMethod y).before args s = true) (hsel : (Cond.selects C y y).before args s = true)
    (hcode : (Cond.codeWith y bytes maxL ret hh).before args s = true) (hy : y.cls ≠ "java/lang/invoke/MethodHandle" ∧ y.cls ≠ "java/lang/invoke/VarHandle")
    {W9 : Nat} {Pre : Pt → Array Value → Prop} {Post : Pt → Array Value → Option Value → Pt → Prop} (hK : Back l R p e below s args y 3 W9 Pre Post)
    {b : Addr} {cellB : Cell} (hcell : T.heap[b]? = some cellB) (hobj : cellB.vm.isStatics = false) (hcls : s.vm.findClass C = some cellB.cls)
    {g : JFrame} (hg : g.method = m) (hsize : g.locals.size = c.maxLocals) {argsL rest : List Value} (hlen : ∀ sig, parseMethodDescriptor y.desc = some sig → argsL.length = sig.parameters.length)
    (hstack : g.stack = argsL.reverse ++ .ref b :: rest) (hW : 2 * g.monitorRoom + (rest.map fun v => v.category).sum ≤ W9) (hdg : decode c.code g.pc = .ok (.invokevirtual index, 3))
    (hpre : ∀ vm₁, s.WarmedH vm₁ → Pre ⟨T.setVm vm₁, locs, cells, slots⟩ (Value.ref b :: argsL).toArray) :
    ∃ (v : Option Value) (vm₁ : Vm) (B : Pt), s.WarmedH vm₁ ∧ Stand p l e R s m args below meth c B.U B.locs B.cells B.slots ∧ Post ⟨T.setVm vm₁, locs, cells, slots⟩ (Value.ref b :: argsL).toArray v B ∧
      ∀ target, Steps p.tables e below (B.U.setTop { g with pc := g.pc + 3, stack := v.toList ++ rest }) target → Steps p.tables e below (T.setTop g) target := by
  obtain ⟨mk, methM, hnamed, hmethM, hstM, habM⟩ := Cond.instanceMethod_spec hinst
  obtain ⟨m8, methM', cM, hn8, hmethM', -, -, -, -, -, -, hsigM⟩ := Cond.codeWith_spec hcode
  cases Option.some.inj (hn8.symm.trans hnamed)
  cases hmethM.symm.trans hmethM'
  obtain ⟨c2, r2, m2, q1, q2, q3, q4, kP, hkP, hkPi⟩ := Cond.selects_spec hsel
  cases hcls.symm.trans q1
  cases (State.methodFound?_of_named hnamed hy).symm.trans q2
  cases hnamed.symm.trans q3
  have hselP : selectMethod e.platform s.vm cellB.cls mk = .method mk := by rw [Launch.admits_selectMethod X.admits]; exact q4
  obtain ⟨vm₁, X₁, hstep₁⟩ := X.invokevirtual hexec hown hlink hnamed hmethM hstM hkP hkPi hy (a := b) (cell := cellB) hcell
    (fun z h => by rw [h] at hobj; cases hobj) hselP hmethM habM hkP hkPi (g := g) hg (argsL := argsL) (rest := rest) (hlen _ hsigM) hstack hdg
  obtain ⟨v, B, X', hpost, hsteps⟩ := hK m meth c ⟨T.setVm vm₁, locs, cells, slots⟩ { g with stack := rest } (.invokevirtual index) mk (Value.ref b :: argsL).toArray X₁ hg hsize hdg hW (X₁.named hnamed) (hpre vm₁ X₁.warmed)
  exact ⟨v, vm₁, B, X₁.warmed, X', hpost, fun target h => hstep₁ _ fun acts => by rw [doInvoke_state]; exact hsteps.trans h⟩
abbrev vx_CVW (R : Room) (s : State) (args : Array Value) (own C : String) (index : Nat) (y : MethodName) (bytes : ByteArray) (maxL : Nat) (ret : Option FieldType) (hh : List (Nat × Nat × Nat × Nat)) (ws : List Cond) (rm : Room) (mc ms n : Nat) : Prop :=
  (rm.cells = mc ∧ rm.slots = ms ∧ rm.frames + 1 ≤ R.frames ∧ 8 + (maxL + 11) + rm.locals ≤ R.locals ∧ (∀ w ∈ ws, ∀ (a' : Array Value) (U : State), s.WarmedH U.vm → w.before a' U = true) ∧ Cond.codeWith y bytes maxL ret hh ∈ ws) ∧
  (Cond.codeWith y bytes maxL ret hh).before args s = true ∧ (Cond.initialized y.cls).before args s = true ∧ (y.cls ≠ "java/lang/invoke/MethodHandle" ∧ y.cls ≠ "java/lang/invoke/VarHandle") ∧
  (∀ sig, parseMethodDescriptor y.desc = some sig → n = sig.parameters.length) ∧ (Cond.methodLink own index y).before args s = true ∧ (Cond.instanceMethod y).before args s = true ∧ (Cond.selects C y y).before args s = true
theorem vx_cwVW {own C : String} {index maxL mc ms : Nat} {y : MethodName} {bytes : ByteArray} {ret : Option FieldType} {hh : List (Nat × Nat × Nat × Nat)} {Ts ws ws' : List Cond} {rm : Room} (n : Nat) (ht : ∀ w ∈ Ts, w.before args s = true) (hT : GoodIn Ts (wsV own index C y ws)) (hw : ws = Cond.codeWith y bytes maxL ret hh :: ws') (hrc : rm.cells = mc) (hrs : rm.slots = ms)
    (hd : y.cls = C ∧ y.cls ≠ "java/lang/invoke/MethodHandle" ∧ y.cls ≠ "java/lang/invoke/VarHandle" ∧ (parseMethodDescriptor y.desc).map (fun d => d.parameters.length) = some n) (hR : rm.frames + 1 ≤ R.frames ∧ 8 + (maxL + 11) + rm.locals ≤ R.locals) :
    vx_CVW R s args own C index y bytes maxL ret hh ws rm mc ms n := by
  obtain ⟨hC, hd⟩ := hd
  subst hC
  have ok : ∀ w ∈ wsV own index y.cls y ws, w.before args s = true := fun w h => ht w (hT w h).1
  have hG : GoodIn Ts ws := fun w h => hT w (by unfold wsV; exact List.mem_append_right _ h)
  have hc : Cond.codeWith y bytes maxL ret hh ∈ ws := by rw [hw]; exact List.mem_cons_self
  refine ⟨⟨hrc, hrs, hR.1, hR.2, pay_in ht hG, hc⟩, ht _ (hG _ hc).1, ok _ (by simp [wsV]), ⟨hd.1, hd.2.1⟩, fun sig h => ?_, ok _ (by simp [wsV]), ok _ (by simp [wsV]), ok _ (by simp [wsV])⟩
  have h2 := hd.2.2
  rw [h] at h2
  exact (Option.some.inj h2).symm
theorem vx_runVW {y : MethodName} {bytes cc : ByteArray} {maxL nL mc ms n index : Nat} {ret : Option FieldType} {hh : List (Nat × Nat × Nat × Nat)} {ws : List Cond} {rm : Room} {Pc : Array Value → State → Prop} {Qc : Array Value → State → Outcome → State → Prop} {free : Addr → Prop} {Ts : List Cond} {own C : String} {b : Addr} {As rest : List Value} {g : JFrame}
    (S : CallFix p m c cc nL s args Ts own) (hM : Met l y ws rm Pc Qc mc ms free) (cw : vx_CVW R s args own C index y bytes maxL ret hh ws rm mc ms n) (hp : PreV s H C b Pc As)
    (hg : g.method = m) (hn : As.length = n) (hsize : g.locals.size = nL) (hstack : g.stack = As.reverse ++ .ref b :: rest) (hW : 2 * g.monitorRoom + (rest.map fun v => v.category).sum ≤ 8) (hdg : decode cc g.pc = .ok (.invokevirtual index, 3)) (hf : cells + mc ≤ R.cells ∧ slots + ms ≤ R.slots) :
    va_Run p l e R s m args below meth c H locs cells slots mc ms g rest (Qc (Value.ref b :: As).toArray) free := by
  obtain ⟨⟨hrc, hrs, hfr, hlo, hws, hcw⟩, hcode, hini, hy, hlen, hl, hin, hse⟩ := cw
  have hK : Back l R p e below s args y 3 8 (PreOf R mc ms Pc) (PostOf Qc mc ms free) := va_backW (hh := hh) (bytes := bytes) (maxL := maxL) (ret := ret) hM hp.1 hrc hrs hfr hlo hws hcw (fun a' U hW => word_at hW (Or.inl (by first | rfl | simp [Cond.onTables, Cond.keeps, Cond.steady])) hini)
  obtain ⟨hx, hb, hml, ho, -⟩ := S
  obtain ⟨-, ⟨cellB, hcB, hoB, hclB⟩, hPc⟩ := hp
  intro T hT X
  obtain ⟨v, vm₁, ⟨U', l2, c2, s2⟩, hW₁, X', ⟨g', mk, t, L, e1, e2, hq, h1, hL, h2, h3⟩, st⟩ := vx_callVW X hx (C := C) (hh := hh) (bytes := bytes) (maxL := maxL) (ret := ret) ho hl hin hse hcode hy hK (by rw [hT]; exact hcB) hoB hclB hg (hsize.trans hml.symm) (argsL := As) (rest := rest) (fun sig h => hn.trans (hlen sig h)) hstack hW (by rw [hb]; exact hdg)
    (fun vm₁ hW₁ => ⟨hf.1, hf.2, hPc (T.setVm vm₁) hT hW₁⟩)
  dsimp only [Pt.U, Pt.locs, Pt.cells, Pt.slots] at X' e1 e2 h1 h2 h3 st
  subst h1; subst h2; subst h3
  exact ⟨v, (T.setVm vm₁).calling g' mk (Value.ref b :: As).toArray, t, U', L, hT, X', hL, e1, e2, hq, st⟩
section
variable {y : MethodName} {bytes cc : ByteArray} {maxL nL mc ms n index : Nat} {ret : Option FieldType} {ws : List Cond} {rm : Room} {Pc : Array Value → State → Prop} {Qc : Array Value → State → Outcome → State → Prop} {XC : String → State → State → Prop} {free : Addr → Prop} {Ts : List Cond} {own C : String} {b : Addr} {As rest : List Value} {g : JFrame}
theorem vx_runVX {hh : List (Nat × Nat × Nat × Nat)} (S : CallFix p m c cc nL s args Ts own) (hM : vx_Met l y ws rm Pc Qc XC mc ms free) (cw : vx_CVW R s args own C index y bytes maxL ret hh ws rm mc ms n) (hp : PreV s H C b Pc As)
    (hg : g.method = m) (hn : As.length = n) (hsize : g.locals.size = nL) (hstack : g.stack = As.reverse ++ .ref b :: rest) (hW : 2 * g.monitorRoom + (rest.map fun v => v.category).sum ≤ 8) (hdg : decode cc g.pc = .ok (.invokevirtual index, 3)) (hf : cells + mc ≤ R.cells ∧ slots + ms ≤ R.slots) :
    vx_Run p l e R s m args below meth c H locs cells slots mc ms g rest (Qc (Value.ref b :: As).toArray) XC free := by
  obtain ⟨⟨hrc, hrs, hfr, hlo, hws, hcw⟩, hcode, hini, hy, hlen, hl, hin, hse⟩ := cw
  have hK : vx_Back l R p e below s args y 3 8 (PreOf R mc ms Pc) (PostOf Qc mc ms free) (vx_Post XC mc ms free) := vx_backW (hh := hh) (bytes := bytes) (maxL := maxL) (ret := ret) hM hp.1 hrc hrs hfr hlo hws hcw (fun a' U hW => word_at hW (Or.inl (by first | rfl | simp [Cond.onTables, Cond.keeps, Cond.steady])) hini)
  obtain ⟨hx, hb, hml, ho, -⟩ := S
  obtain ⟨-, ⟨cellB, hcB, hoB, hclB⟩, hPc⟩ := hp
  intro T hT X
  rcases vx_callVX X hx (C := C) (hh := hh) (bytes := bytes) (maxL := maxL) (ret := ret) ho hl hin hse hcode hy hK (by rw [hT]; exact hcB) hoB hclB hg (hsize.trans hml.symm) (argsL := As) (rest := rest) (fun sig h => hn.trans (hlen sig h)) hstack hW (by rw [hb]; exact hdg)
    (fun vm₁ hW₁ => ⟨hf.1, hf.2, hPc (T.setVm vm₁) hT hW₁⟩) with ⟨v, vm₁, ⟨U', l2, c2, s2⟩, hW₁, X', ⟨g', mk, t, L, e1, e2, hq, h1, hL, h2, h3⟩, st⟩ | ⟨q, vm₁, ⟨U', l2, c2, s2⟩, hW₁, X', ⟨g', mk, t, L, E, ce, e1, e2, hq, hce, hcv, hcl, h1, hL, h2, h3⟩, st⟩
  · dsimp only [Pt.U, Pt.locs, Pt.cells, Pt.slots] at X' e1 e2 h1 h2 h3 st
    subst h1; subst h2; subst h3
    exact Or.inl ⟨v, (T.setVm vm₁).calling g' mk (Value.ref b :: As).toArray, t, U', L, hT, X', hL, e1, e2, hq, st⟩
  · dsimp only [Pt.U, Pt.locs, Pt.cells, Pt.slots] at X' e1 e2 h1 h2 h3 st hcl
    subst h1; subst h2; subst h3
    exact Or.inr ⟨q, (T.setVm vm₁).calling g' mk (Value.ref b :: As).toArray, t, U', L, E, ce, hT, X', hL, e1, e2, hq, hce, hcv, vx_cls hW₁ hcl, st⟩
theorem vx_runSX {hh : List (Nat × Nat × Nat × Nat)} (S : CallFix p m c cc nL s args Ts own) (hM : vx_Met l y ws rm Pc Qc XC mc ms free) (cw : vx_CSW R s args own index y bytes maxL ret hh ws rm mc ms n) (hp : PreS s H Pc As)
    (hg : g.method = m) (hn : As.length = n) (hsize : g.locals.size = nL) (hstack : g.stack = As.reverse ++ rest) (hW : 2 * g.monitorRoom + (rest.map fun v => v.category).sum ≤ 8) (hdg : decode cc g.pc = .ok (.invokestatic index, 3)) (hf : cells + mc ≤ R.cells ∧ slots + ms ≤ R.slots) :
    vx_Run p l e R s m args below meth c H locs cells slots mc ms g rest (Qc As.toArray) XC free := by
  obtain ⟨⟨hrc, hrs, hfr, hlo, hws, hcw⟩, hcode, hini, hy, hlen, hl, hstt⟩ := cw
  have hK : vx_Back l R p e below s args y 3 8 (PreOf R mc ms Pc) (PostOf Qc mc ms free) (vx_Post XC mc ms free) := vx_backW (hh := hh) (bytes := bytes) (maxL := maxL) (ret := ret) hM hp.1 hrc hrs hfr hlo hws hcw (fun a' U hW => word_at hW (Or.inl (by first | rfl | simp [Cond.onTables, Cond.keeps, Cond.steady])) hini)
  obtain ⟨hx, hb, hml, ho, -⟩ := S
  intro T hT X
  rcases vx_callSX X hx (hh := hh) (bytes := bytes) (maxL := maxL) (ret := ret) ho hl hstt hini hcode hy hK hg (hsize.trans hml.symm) (argsL := As) (rest := rest) (fun sig h => hn.trans (hlen sig h)) hstack hW (by rw [hb]; exact hdg)
    (fun vm₁ hW₁ => ⟨hf.1, hf.2, hp.2 (T.setVm vm₁) hT hW₁⟩) with ⟨v, vm₁, ⟨U', l2, c2, s2⟩, hW₁, X', ⟨g', mk, t, L, e1, e2, hq, h1, hL, h2, h3⟩, st⟩ | ⟨q, vm₁, ⟨U', l2, c2, s2⟩, hW₁, X', ⟨g', mk, t, L, E, ce, e1, e2, hq, hce, hcv, hcl, h1, hL, h2, h3⟩, st⟩
  · dsimp only [Pt.U, Pt.locs, Pt.cells, Pt.slots] at X' e1 e2 h1 h2 h3 st
    subst h1; subst h2; subst h3
    exact Or.inl ⟨v, (T.setVm vm₁).calling g' mk As.toArray, t, U', L, hT, X', hL, e1, e2, hq, st⟩
  · dsimp only [Pt.U, Pt.locs, Pt.cells, Pt.slots] at X' e1 e2 h1 h2 h3 st hcl
    subst h1; subst h2; subst h3
    exact Or.inr ⟨q, (T.setVm vm₁).calling g' mk As.toArray, t, U', L, E, ce, hT, X', hL, e1, e2, hq, hce, hcv, vx_cls hW₁ hcl, st⟩
end
end VXH
theorem vx_ofWH {l : Launch} {y : MethodName} {ws ws' : List Cond} {rm : Room} {Pc : Array Value → State → Prop} {Qc : Array Value → State → Outcome → State → Prop} {XC : String → State → State → Prop} {mc ms : Nat} {free : Addr → Prop} {cc : ByteArray} {maxL : Nat} {ret : Option FieldType} {hh : List (Nat × Nat × Nat × Nat)}
    (hy : plainName y.cls = true) (hw : ws = Cond.codeWith y cc maxL ret hh :: ws')
    (body : ∀ p e s m args below meth c s₁, BodyLoose p l y (headSpec ws rm) cc maxL ret e s m args below meth c s₁ → c.maxLocals = maxL → Pc args s →
      W p l e (headSpec ws rm).room s m args below meth c s.heap [] 0 0 (vx_MQ below Qc XC args s mc ms free) (entryFrame m args maxL)) : vx_Met l y ws rm Pc Qc XC mc ms free := by
  refine MetFree.of_bodyS (code := cc) (maxLocals := maxL) (ret := ret) hy ?_ ?_
  · intro args s m h hn
    obtain ⟨m9, meth, c, hn9, h1, h2, h3, h4, -, h5, h6, -⟩ := Cond.codeWith_spec (atoms_spec (ws := ws) h _ (by rw [hw]; exact List.mem_cons_self))
    cases hn.symm.trans hn9
    exact ⟨meth, c, h1, h2, h3, h4, h5, h6⟩
  · intro p e s m args below meth c s₁ B hml hP _
    have hh0 : s₁.heap = s.heap := by rw [B.state]; rfl
    obtain ⟨t, a1, o, b1, b2, b3⟩ := body p e s m args below meth c s₁ B hml hP s₁ hh0 (Stand.of_body B)
    exact ⟨t, o, a1, b1, b2, b3⟩
/-! ===== END ===== -/

/-! ===== BEGIN a constructor that throws (launches without stack traces) ===== -/
section VXIA
variable {p : Program} {l : Launch} {e : Env} {R : Room} {s : State} {m : MethodId} {args : Array Value} {below : List Frame} {meth : Method} {c : Code} {T : State} {locs : List Loc} {cells slots : Nat}
theorem vx_callI (X : Stand p l e R s m args below meth c T locs cells slots) (hexec : p.tables.exec = Jvm.exec) {own : String} {index : Nat} {y : MethodName} {bytes : ByteArray} {maxL : Nat}
    (hown : s.vm.findClass own = some m.cls) (hy1 : y.name = "<init>") (hlink : (Cond.methodLink own index y).before args s = true) (hinst : (Cond.instanceMethod y).before args s = true)
    (hcode : (Cond.code y bytes maxL none).before args s = true) (hy : y.cls ≠ "java/lang/invoke/MethodHandle" ∧ y.cls ≠ "java/lang/invoke/VarHandle")
    {W9 : Nat} {Pre : Pt → Array Value → Prop} {Post : Pt → Array Value → Option Value → Pt → Prop} {PostX : Pt → Array Value → Addr → Pt → Prop} (hK : vx_Back l R p e below s args y 3 W9 Pre Post PostX)
    {g : JFrame} (hg : g.method = m) (hsize : g.locals.size = c.maxLocals) {a : Addr} {argsL rest : List Value} (hlen : ∀ sig, parseMethodDescriptor y.desc = some sig → argsL.length = sig.parameters.length)
    (hstack : g.stack = argsL.reverse ++ .ref a :: rest) (hW : 2 * g.monitorRoom + (rest.map fun v => v.category).sum ≤ W9) (hdg : decode c.code g.pc = .ok (.invokespecial index, 3))
    (hpre : ∀ vm₁, s.WarmedH vm₁ → Pre ⟨T.setVm vm₁, locs, cells, slots⟩ (Value.ref a :: argsL).toArray) :
    (∃ (v : Option Value) (vm₁ : Vm) (B : Pt), s.WarmedH vm₁ ∧ Stand p l e R s m args below meth c B.U B.locs B.cells B.slots ∧ Post ⟨T.setVm vm₁, locs, cells, slots⟩ (Value.ref a :: argsL).toArray v B ∧
      ∀ target, Steps p.tables e below (B.U.setTop { g with pc := g.pc + 3, stack := v.toList ++ rest }) target → Steps p.tables e below (T.setTop g) target) ∨
    (∃ (q : Addr) (vm₁ : Vm) (B : Pt), s.WarmedH vm₁ ∧ Stand p l e R s m args below meth c B.U B.locs B.cells B.slots ∧ PostX ⟨T.setVm vm₁, locs, cells, slots⟩ (Value.ref a :: argsL).toArray q B ∧
      Steps p.tables e below (T.setTop g) ((B.U.setTop { g with stack := rest }).pushFrame (.throwing q))) := by
  subst hg
  have hpl : e.platform.magicAccessors = ({} : Platform).magicAccessors := by rw [X.admits.platform]
  obtain ⟨mk, methM, cM, kP, vm₁, hnamed, hmethM, hcodeM, -, hlocalsM, -, hkP, -, hW₁, hstep₁⟩ := Steps.initColdArgs (e := e) X.here hexec X.warmed hpl hown hy1 hy hlink hinst hcode (f := g) rfl hlen hstack hdg
  have X₁ := X.noted hW₁
  rcases hK g.method meth c ⟨T.setVm vm₁, locs, cells, slots⟩ { g with stack := rest } (.invokespecial index) mk (Value.ref a :: argsL).toArray X₁ rfl hsize hdg hW (X₁.named hnamed) (hpre vm₁ X₁.warmed) with ⟨v, B, X', hpost, hsteps⟩ | ⟨q, B, X', hpost, hsteps⟩
  · exact Or.inl ⟨v, vm₁, B, X₁.warmed, X', hpost, fun target h => hstep₁ _ fun acts => by rw [doInvoke_state]; exact hsteps.trans h⟩
  · exact Or.inr ⟨q, vm₁, B, X₁.warmed, X', hpost, hstep₁ _ fun acts => by rw [doInvoke_state]; exact hsteps⟩
end VXIA
section VXIB
variable {p : Program} {l : Launch} {e : Env} {R : Room} {s : State} {m : MethodId} {args : Array Value} {below : List Frame} {meth : Method} {c : Code} {H : Heap} {locs : List Loc} {cells slots : Nat}
variable {y : MethodName} {bytes cc : ByteArray} {maxL nL mc ms n index : Nat} {ret : Option FieldType} {ws : List Cond} {rm : Room} {Pc : Array Value → State → Prop} {Qc : Array Value → State → Outcome → State → Prop} {XC : String → State → State → Prop} {free : Addr → Prop} {Ts : List Cond} {own C : String} {b : Addr} {As rest : List Value} {g : JFrame}
theorem vx_runI (S : CallFix p m c cc nL s args Ts own) (hM : vx_Met l y ws rm Pc Qc XC mc ms free) (cw : CallB R s args own index y bytes maxL none ws rm mc ms n ∧ y.name = "<init>" ∧ (Cond.instanceMethod y).before args s = true) (hp : PreS s H Pc (.ref b :: As))
    (hg : g.method = m) (hn : As.length = n) (hsize : g.locals.size = nL) (hstack : g.stack = As.reverse ++ .ref b :: rest) (hW : 2 * g.monitorRoom + (rest.map fun v => v.category).sum ≤ 8) (hdg : decode cc g.pc = .ok (.invokespecial index, 3)) (hf : cells + mc ≤ R.cells ∧ slots + ms ≤ R.slots) :
    vx_Run p l e R s m args below meth c H locs cells slots mc ms g rest (Qc (Value.ref b :: As).toArray) XC free := by
  have hK : vx_Back l R p e below s args y 3 8 (PreOf R mc ms Pc) (PostOf Qc mc ms free) (vx_Post XC mc ms free) := vx_callBack cw.1 hM hp.1
  obtain ⟨⟨-, -, -, -, -, -, hcode, -, hy, hlen, hl⟩, hy1, hin⟩ := cw
  obtain ⟨hx, hb, hml, ho, -⟩ := S
  have hPc := hp.2
  intro T hT X
  rcases vx_callI X hx (bytes := bytes) (maxL := maxL) ho hy1 hl hin hcode hy hK hg (hsize.trans hml.symm) (a := b) (argsL := As) (rest := rest) (fun sig h => hn.trans (hlen sig h)) hstack hW (by rw [hb]; exact hdg)
    (fun vm₁ hW₁ => ⟨hf.1, hf.2, hPc (T.setVm vm₁) hT hW₁⟩) with ⟨v, vm₁, ⟨U', l2, c2, s2⟩, hW₁, X', ⟨g', mk, t, L, e1, e2, hq, h1, hL, h2, h3⟩, st⟩ | ⟨q, vm₁, ⟨U', l2, c2, s2⟩, hW₁, X', ⟨g', mk, t, L, E, ce, e1, e2, hq, hce, hcv, hcl, h1, hL, h2, h3⟩, st⟩
  · dsimp only [Pt.U, Pt.locs, Pt.cells, Pt.slots] at X' e1 e2 h1 h2 h3 st
    subst h1; subst h2; subst h3
    exact Or.inl ⟨v, (T.setVm vm₁).calling g' mk (Value.ref b :: As).toArray, t, U', L, hT, X', hL, e1, e2, hq, st⟩
  · dsimp only [Pt.U, Pt.locs, Pt.cells, Pt.slots] at X' e1 e2 h1 h2 h3 st hcl
    subst h1; subst h2; subst h3
    exact Or.inr ⟨q, (T.setVm vm₁).calling g' mk (Value.ref b :: As).toArray, t, U', L, E, ce, hT, X', hL, e1, e2, hq, hce, hcv, vx_cls hW₁ hcl, st⟩
end VXIB
/-! ===== END ===== -/
/-! ===== BEGIN a private constructor of a nest mate that throws ===== -/
section VXIC
variable {p : Program} {l : Launch} {e : Env} {R : Room} {s : State} {m : MethodId} {args : Array Value} {below : List Frame} {meth : Method} {c : Code} {T : State} {locs : List Loc} {cells slots : Nat}
theorem vx_callIN (X : Stand p l e R s m args below meth c T locs cells slots) (hexec : p.tables.exec = Jvm.exec) {own : String} {index : Nat} {host : String} {y : MethodName} {bytes : ByteArray} {maxL : Nat}
    (hown : s.vm.findClass own = some m.cls) (hy1 : y.name = "<init>") (hlink : (Cond.methodLinkNest own index y host).before args s = true) (hinst : (Cond.instanceMethod y).before args s = true)
    (hcode : (Cond.code y bytes maxL none).before args s = true) (hy : y.cls ≠ "java/lang/invoke/MethodHandle" ∧ y.cls ≠ "java/lang/invoke/VarHandle")
    {W9 : Nat} {Pre : Pt → Array Value → Prop} {Post : Pt → Array Value → Option Value → Pt → Prop} {PostX : Pt → Array Value → Addr → Pt → Prop} (hK : vx_Back l R p e below s args y 3 W9 Pre Post PostX)
    {g : JFrame} (hg : g.method = m) (hsize : g.locals.size = c.maxLocals) {a : Addr} {argsL rest : List Value} (hlen : ∀ sig, parseMethodDescriptor y.desc = some sig → argsL.length = sig.parameters.length)
    (hstack : g.stack = argsL.reverse ++ .ref a :: rest) (hW : 2 * g.monitorRoom + (rest.map fun v => v.category).sum ≤ W9) (hdg : decode c.code g.pc = .ok (.invokespecial index, 3))
    (hpre : ∀ vm₁, s.WarmedH vm₁ → Pre ⟨T.setVm vm₁, locs, cells, slots⟩ (Value.ref a :: argsL).toArray) :
    (∃ (v : Option Value) (vm₁ : Vm) (B : Pt), s.WarmedH vm₁ ∧ Stand p l e R s m args below meth c B.U B.locs B.cells B.slots ∧ Post ⟨T.setVm vm₁, locs, cells, slots⟩ (Value.ref a :: argsL).toArray v B ∧
      ∀ target, Steps p.tables e below (B.U.setTop { g with pc := g.pc + 3, stack := v.toList ++ rest }) target → Steps p.tables e below (T.setTop g) target) ∨
    (∃ (q : Addr) (vm₁ : Vm) (B : Pt), s.WarmedH vm₁ ∧ Stand p l e R s m args below meth c B.U B.locs B.cells B.slots ∧ PostX ⟨T.setVm vm₁, locs, cells, slots⟩ (Value.ref a :: argsL).toArray q B ∧
      Steps p.tables e below (T.setTop g) ((B.U.setTop { g with stack := rest }).pushFrame (.throwing q))) := by
  subst hg
  have hpl : e.platform.magicAccessors = ({} : Platform).magicAccessors := by rw [X.admits.platform]
  obtain ⟨mk, methM, cM, kP, vm₁, hnamed, hmethM, hcodeM, -, hlocalsM, -, hkP, -, hW₁, hstep₁⟩ := Steps.initColdArgsNest (e := e) X.here hexec X.warmed hpl hown hy1 hy hlink hinst hcode (f := g) rfl hlen hstack hdg
  have X₁ := X.noted hW₁
  rcases hK g.method meth c ⟨T.setVm vm₁, locs, cells, slots⟩ { g with stack := rest } (.invokespecial index) mk (Value.ref a :: argsL).toArray X₁ rfl hsize hdg hW (X₁.named hnamed) (hpre vm₁ X₁.warmed) with ⟨v, B, X', hpost, hsteps⟩ | ⟨q, B, X', hpost, hsteps⟩
  · exact Or.inl ⟨v, vm₁, B, X₁.warmed, X', hpost, fun target h => hstep₁ _ fun acts => by rw [doInvoke_state]; exact hsteps.trans h⟩
  · exact Or.inr ⟨q, vm₁, B, X₁.warmed, X', hpost, hstep₁ _ fun acts => by rw [doInvoke_state]; exact hsteps⟩
end VXIC
section VXID
variable {p : Program} {l : Launch} {e : Env} {R : Room} {s : State} {m : MethodId} {args : Array Value} {below : List Frame} {meth : Method} {c : Code} {H : Heap} {locs : List Loc} {cells slots : Nat}
theorem vx_runIN {y : MethodName} {bytes cc : ByteArray} {maxL nL mc ms n index : Nat} {ws : List Cond} {rm : Room} {Pc : Array Value → State → Prop} {Qc : Array Value → State → Outcome → State → Prop} {XC : String → State → State → Prop} {free : Addr → Prop} {Ts : List Cond} {own host : String} {b : Addr} {As rest : List Value} {g : JFrame}
    (S : CallFix p m c cc nL s args Ts own) (hM : vx_Met l y ws rm Pc Qc XC mc ms free) (cw : va_CN R s args own index y host bytes maxL none ws rm mc ms n ∧ y.name = "<init>" ∧ (Cond.instanceMethod y).before args s = true) (hp : PreS s H Pc (.ref b :: As))
    (hg : g.method = m) (hn : As.length = n) (hsize : g.locals.size = nL) (hstack : g.stack = As.reverse ++ .ref b :: rest) (hW : 2 * g.monitorRoom + (rest.map fun v => v.category).sum ≤ 8) (hdg : decode cc g.pc = .ok (.invokespecial index, 3)) (hf : cells + mc ≤ R.cells ∧ slots + ms ≤ R.slots) :
    vx_Run p l e R s m args below meth c H locs cells slots mc ms g rest (Qc (Value.ref b :: As).toArray) XC free := by
  obtain ⟨⟨⟨hrc, hrs, hfr, hlo, hws, hcw⟩, hcode, hini, hy, hlen, hl⟩, hx1, hx2⟩ := cw
  have hK : vx_Back l R p e below s args y 3 8 (PreOf R mc ms Pc) (PostOf Qc mc ms free) (vx_Post XC mc ms free) := vx_back (bytes := bytes) (maxL := maxL) (ret := none) hM hp.1 hrc hrs hfr hlo hws hcw (fun a' U hW => word_at hW (Or.inl (by first | rfl | simp [Cond.onTables, Cond.keeps, Cond.steady])) hini)
  obtain ⟨hx, hb, hml, ho, -⟩ := S
  have hPc := hp.2
  intro T hT X
  rcases vx_callIN X hx (bytes := bytes) (maxL := maxL) ho hx1 hl hx2 hcode hy hK hg (hsize.trans hml.symm) (a := b) (argsL := As) (rest := rest) (fun sig h => hn.trans (hlen sig h)) hstack hW (by rw [hb]; exact hdg)
    (fun vm₁ hW₁ => ⟨hf.1, hf.2, hPc (T.setVm vm₁) hT hW₁⟩) with ⟨v, vm₁, ⟨U', l2, c2, s2⟩, hW₁, X', ⟨g', mk, t, L, e1, e2, hq, h1, hL, h2, h3⟩, st⟩ | ⟨q, vm₁, ⟨U', l2, c2, s2⟩, hW₁, X', ⟨g', mk, t, L, E, ce, e1, e2, hq, hce, hcv, hcl, h1, hL, h2, h3⟩, st⟩
  · dsimp only [Pt.U, Pt.locs, Pt.cells, Pt.slots] at X' e1 e2 h1 h2 h3 st
    subst h1; subst h2; subst h3
    exact Or.inl ⟨v, (T.setVm vm₁).calling g' mk (Value.ref b :: As).toArray, t, U', L, hT, X', hL, e1, e2, hq, st⟩
  · dsimp only [Pt.U, Pt.locs, Pt.cells, Pt.slots] at X' e1 e2 h1 h2 h3 st hcl
    subst h1; subst h2; subst h3
    exact Or.inr ⟨q, (T.setVm vm₁).calling g' mk (Value.ref b :: As).toArray, t, U', L, E, ce, hT, X', hL, e1, e2, hq, hce, hcv, vx_cls hW₁ hcl, st⟩
end VXID
/-! ===== END ===== -/
/-! ===== BEGIN a private method of a nest mate that may throw (follows va_callVN, va_callSN, va_runVN, va_runSN) ===== -/
section
variable {p : Program} {l : Launch} {e : Env} {R : Room} {s : State} {m : MethodId} {args : Array Value} {below : List Frame} {meth : Method} {c : Code} {H : Heap} {locs : List Loc} {cells slots : Nat}
variable {T : State}
theorem vx_callVN (X : Stand p l e R s m args below meth c T locs cells slots) (hexec : p.tables.exec = Jvm.exec) {own C : String} {index : Nat} {host : String} {y : MethodName} {bytes : ByteArray} {maxL : Nat} {ret : Option FieldType}
    (hown : s.vm.findClass own = some m.cls) (hlink : (Cond.methodLinkNest own index y host).before args s = true) (hinst : (Cond.instanceMethod y).before args s = true) (hsel : (Cond.selects C y y).before args s = true)
    (hcode : (Cond.code y bytes maxL ret).before args s = true) (hy : y.cls ≠ "java/lang/invoke/MethodHandle" ∧ y.cls ≠ "java/lang/invoke/VarHandle")
    {W : Nat} {Pre : Pt → Array Value → Prop} {Post : Pt → Array Value → Option Value → Pt → Prop} {PostX : Pt → Array Value → Addr → Pt → Prop} (hK : vx_Back l R p e below s args y 3 W Pre Post PostX)
    {b : Addr} {cellB : Cell} (hcell : T.heap[b]? = some cellB) (hobj : cellB.vm.isStatics = false) (hcls : s.vm.findClass C = some cellB.cls)
    {g : JFrame} (hg : g.method = m) (hsize : g.locals.size = c.maxLocals) {argsL rest : List Value} (hlen : ∀ sig, parseMethodDescriptor y.desc = some sig → argsL.length = sig.parameters.length)
    (hstack : g.stack = argsL.reverse ++ .ref b :: rest) (hW : 2 * g.monitorRoom + (rest.map fun v => v.category).sum ≤ W) (hdg : decode c.code g.pc = .ok (.invokevirtual index, 3))
    (hpre : ∀ vm₁, s.WarmedH vm₁ → Pre ⟨T.setVm vm₁, locs, cells, slots⟩ (Value.ref b :: argsL).toArray) :
    (∃ (v : Option Value) (vm₁ : Vm) (B : Pt), s.WarmedH vm₁ ∧ Stand p l e R s m args below meth c B.U B.locs B.cells B.slots ∧ Post ⟨T.setVm vm₁, locs, cells, slots⟩ (Value.ref b :: argsL).toArray v B ∧
      ∀ target, Steps p.tables e below (B.U.setTop { g with pc := g.pc + 3, stack := v.toList ++ rest }) target → Steps p.tables e below (T.setTop g) target) ∨
    (∃ (q : Addr) (vm₁ : Vm) (B : Pt), s.WarmedH vm₁ ∧ Stand p l e R s m args below meth c B.U B.locs B.cells B.slots ∧ PostX ⟨T.setVm vm₁, locs, cells, slots⟩ (Value.ref b :: argsL).toArray q B ∧
      Steps p.tables e below (T.setTop g) ((B.U.setTop { g with stack := rest }).pushFrame (.throwing q))) := by
  obtain ⟨mk, methM, hnamed, hmethM, hstM, habM⟩ := Cond.instanceMethod_spec hinst
  obtain ⟨methM', cM, hmethM', -, -, -, -, -, -, hsigM⟩ := Cond.code_spec hnamed hcode
  cases hmethM.symm.trans hmethM'
  obtain ⟨c2, r2, m2, q1, q2, q3, q4, kP, hkP, hkPi⟩ := Cond.selects_spec hsel
  cases hcls.symm.trans q1
  cases (State.methodFound?_of_named hnamed hy).symm.trans q2
  cases hnamed.symm.trans q3
  have hselP : selectMethod e.platform s.vm cellB.cls mk = .method mk := by rw [Launch.admits_selectMethod X.admits]; exact q4
  obtain ⟨vm₁, X₁, hstep₁⟩ := X.invokevirtualNest hexec hown hlink hnamed hmethM hstM hkP hkPi hy (a := b) (cell := cellB) hcell
    (fun z h => by rw [h] at hobj; cases hobj) hselP hmethM habM hkP hkPi (g := g) hg (argsL := argsL) (rest := rest) (hlen _ hsigM) hstack hdg
  rcases hK m meth c ⟨T.setVm vm₁, locs, cells, slots⟩ { g with stack := rest } (.invokevirtual index) mk (Value.ref b :: argsL).toArray X₁ hg hsize hdg hW (X₁.named hnamed) (hpre vm₁ X₁.warmed) with ⟨v, B, X', hpost, hsteps⟩ | ⟨q, B, X', hpost, hsteps⟩
  · exact Or.inl ⟨v, vm₁, B, X₁.warmed, X', hpost, fun target h => hstep₁ _ fun acts => by rw [doInvoke_state]; exact hsteps.trans h⟩
  · exact Or.inr ⟨q, vm₁, B, X₁.warmed, X', hpost, hstep₁ _ fun acts => by rw [doInvoke_state]; exact hsteps⟩
theorem vx_callSN (X : Stand p l e R s m args below meth c T locs cells slots) (hexec : p.tables.exec = Jvm.exec) {own : String} {index : Nat} {host : String} {y : MethodName} {bytes : ByteArray} {maxL : Nat} {ret : Option FieldType}
    (hown : s.vm.findClass own = some m.cls) (hlink : (Cond.methodLinkNest own index y host).before args s = true) (hstat : (Cond.static y).before args s = true) (hinit : (Cond.initialized y.cls).before args s = true)
    (hcode : (Cond.code y bytes maxL ret).before args s = true) (hy : y.cls ≠ "java/lang/invoke/MethodHandle" ∧ y.cls ≠ "java/lang/invoke/VarHandle")
    {W : Nat} {Pre : Pt → Array Value → Prop} {Post : Pt → Array Value → Option Value → Pt → Prop} {PostX : Pt → Array Value → Addr → Pt → Prop} (hK : vx_Back l R p e below s args y 3 W Pre Post PostX)
    {g : JFrame} (hg : g.method = m) (hsize : g.locals.size = c.maxLocals) {argsL rest : List Value} (hlen : ∀ sig, parseMethodDescriptor y.desc = some sig → argsL.length = sig.parameters.length)
    (hstack : g.stack = argsL.reverse ++ rest) (hW : 2 * g.monitorRoom + (rest.map fun v => v.category).sum ≤ W) (hdg : decode c.code g.pc = .ok (.invokestatic index, 3))
    (hpre : ∀ vm₁, s.WarmedH vm₁ → Pre ⟨T.setVm vm₁, locs, cells, slots⟩ argsL.toArray) :
    (∃ (v : Option Value) (vm₁ : Vm) (B : Pt), s.WarmedH vm₁ ∧ Stand p l e R s m args below meth c B.U B.locs B.cells B.slots ∧ Post ⟨T.setVm vm₁, locs, cells, slots⟩ argsL.toArray v B ∧
      ∀ target, Steps p.tables e below (B.U.setTop { g with pc := g.pc + 3, stack := v.toList ++ rest }) target → Steps p.tables e below (T.setTop g) target) ∨
    (∃ (q : Addr) (vm₁ : Vm) (B : Pt), s.WarmedH vm₁ ∧ Stand p l e R s m args below meth c B.U B.locs B.cells B.slots ∧ PostX ⟨T.setVm vm₁, locs, cells, slots⟩ argsL.toArray q B ∧
      Steps p.tables e below (T.setTop g) ((B.U.setTop { g with stack := rest }).pushFrame (.throwing q))) := by
  obtain ⟨mk, hnamed⟩ := Cond.code_named hcode
  obtain ⟨methM, cM, hmethM, -, -, -, -, -, -, hsigM⟩ := Cond.code_spec hnamed hcode
  have hstatic : methM.isStatic = true := Cond.static_spec hnamed hmethM hstat
  obtain ⟨kP, hkP, -⟩ := className_of_methodNamed hnamed
  have hinitP : kP.init = .initialized := Cond.initialized_spec (findClass_of_methodNamed hnamed) hkP hinit
  obtain ⟨vm₁, X₁, hstep₁⟩ := X.invokestaticNest hexec hown hlink hnamed hmethM hstatic hkP hinitP hy (g := g) hg (argsL := argsL) (rest := rest) (hlen _ hsigM) hstack hdg
  rcases hK m meth c ⟨T.setVm vm₁, locs, cells, slots⟩ { g with stack := rest } (.invokestatic index) mk argsL.toArray X₁ hg hsize hdg hW (X₁.named hnamed) (hpre vm₁ X₁.warmed) with ⟨v, B, X', hpost, hsteps⟩ | ⟨q, B, X', hpost, hsteps⟩
  · exact Or.inl ⟨v, vm₁, B, X₁.warmed, X', hpost, fun target h => hstep₁ _ fun acts => by rw [doInvoke_state]; exact hsteps.trans h⟩
  · exact Or.inr ⟨q, vm₁, B, X₁.warmed, X', hpost, hstep₁ _ fun acts => by rw [doInvoke_state]; exact hsteps⟩
theorem vx_runVN {y : MethodName} {bytes cc : ByteArray} {maxL nL mc ms n index : Nat} {ret : Option FieldType} {ws : List Cond} {rm : Room} {Pc : Array Value → State → Prop} {Qc : Array Value → State → Outcome → State → Prop} {XC : String → State → State → Prop} {free : Addr → Prop} {Ts : List Cond} {own C host : String} {b : Addr} {As rest : List Value} {g : JFrame}
    (S : CallFix p m c cc nL s args Ts own) (hM : vx_Met l y ws rm Pc Qc XC mc ms free) (cw : va_CN R s args own index y host bytes maxL ret ws rm mc ms n ∧ (Cond.instanceMethod y).before args s = true ∧ (Cond.selects C y y).before args s = true) (hp : PreV s H C b Pc As)
    (hg : g.method = m) (hn : As.length = n) (hsize : g.locals.size = nL) (hstack : g.stack = As.reverse ++ .ref b :: rest) (hW : 2 * g.monitorRoom + (rest.map fun v => v.category).sum ≤ 8) (hdg : decode cc g.pc = .ok (.invokevirtual index, 3)) (hf : cells + mc ≤ R.cells ∧ slots + ms ≤ R.slots) :
    vx_Run p l e R s m args below meth c H locs cells slots mc ms g rest (Qc (Value.ref b :: As).toArray) XC free := by
  obtain ⟨⟨⟨hrc, hrs, hfr, hlo, hws, hcw⟩, hcode, hini, hy, hlen, hl⟩, hx1, hx2⟩ := cw
  have hK : vx_Back l R p e below s args y 3 8 (PreOf R mc ms Pc) (PostOf Qc mc ms free) (vx_Post XC mc ms free) := vx_back (bytes := bytes) (maxL := maxL) (ret := ret) hM hp.1 hrc hrs hfr hlo hws hcw (fun a' U hW => word_at hW (Or.inl (by first | rfl | simp [Cond.onTables, Cond.keeps, Cond.steady])) hini)
  obtain ⟨hx, hb, hml, ho, -⟩ := S
  obtain ⟨-, ⟨cellB, hcB, hoB, hclB⟩, hPc⟩ := hp
  intro T hT X
  rcases vx_callVN X hx (C := C) (bytes := bytes) (maxL := maxL) (ret := ret) ho hl hx1 hx2 hcode hy hK (by rw [hT]; exact hcB) hoB hclB hg (hsize.trans hml.symm) (argsL := As) (rest := rest) (fun sig h => hn.trans (hlen sig h)) hstack hW (by rw [hb]; exact hdg)
    (fun vm₁ hW₁ => ⟨hf.1, hf.2, hPc (T.setVm vm₁) hT hW₁⟩) with ⟨v, vm₁, ⟨U', l2, c2, s2⟩, hW₁, X', ⟨g', mk, t, L, e1, e2, hq, h1, hL, h2, h3⟩, st⟩ | ⟨q, vm₁, ⟨U', l2, c2, s2⟩, hW₁, X', ⟨g', mk, t, L, E, ce, e1, e2, hq, hce, hcv, hcl, h1, hL, h2, h3⟩, st⟩
  · dsimp only [Pt.U, Pt.locs, Pt.cells, Pt.slots] at X' e1 e2 h1 h2 h3 st
    subst h1; subst h2; subst h3
    exact Or.inl ⟨v, (T.setVm vm₁).calling g' mk (Value.ref b :: As).toArray, t, U', L, hT, X', hL, e1, e2, hq, st⟩
  · dsimp only [Pt.U, Pt.locs, Pt.cells, Pt.slots] at X' e1 e2 h1 h2 h3 st hcl
    subst h1; subst h2; subst h3
    exact Or.inr ⟨q, (T.setVm vm₁).calling g' mk (Value.ref b :: As).toArray, t, U', L, E, ce, hT, X', hL, e1, e2, hq, hce, hcv, vx_cls hW₁ hcl, st⟩
theorem vx_runSN {y : MethodName} {bytes cc : ByteArray} {maxL nL mc ms n index : Nat} {ret : Option FieldType} {ws : List Cond} {rm : Room} {Pc : Array Value → State → Prop} {Qc : Array Value → State → Outcome → State → Prop} {XC : String → State → State → Prop} {free : Addr → Prop} {Ts : List Cond} {own host : String} {As rest : List Value} {g : JFrame}
    (S : CallFix p m c cc nL s args Ts own) (hM : vx_Met l y ws rm Pc Qc XC mc ms free) (cw : va_CN R s args own index y host bytes maxL ret ws rm mc ms n ∧ (Cond.static y).before args s = true ∧ True) (hp : PreS s H Pc As)
    (hg : g.method = m) (hn : As.length = n) (hsize : g.locals.size = nL) (hstack : g.stack = As.reverse ++ rest) (hW : 2 * g.monitorRoom + (rest.map fun v => v.category).sum ≤ 8) (hdg : decode cc g.pc = .ok (.invokestatic index, 3)) (hf : cells + mc ≤ R.cells ∧ slots + ms ≤ R.slots) :
    vx_Run p l e R s m args below meth c H locs cells slots mc ms g rest (Qc As.toArray) XC free := by
  obtain ⟨⟨⟨hrc, hrs, hfr, hlo, hws, hcw⟩, hcode, hini, hy, hlen, hl⟩, hx1, hx2⟩ := cw
  have hK : vx_Back l R p e below s args y 3 8 (PreOf R mc ms Pc) (PostOf Qc mc ms free) (vx_Post XC mc ms free) := vx_back (bytes := bytes) (maxL := maxL) (ret := ret) hM hp.1 hrc hrs hfr hlo hws hcw (fun a' U hW => word_at hW (Or.inl (by first | rfl | simp [Cond.onTables, Cond.keeps, Cond.steady])) hini)
  obtain ⟨hx, hb, hml, ho, -⟩ := S
  have hPc := hp.2
  intro T hT X
  rcases vx_callSN X hx (bytes := bytes) (maxL := maxL) (ret := ret) ho hl hx1 hini hcode hy hK hg (hsize.trans hml.symm) (argsL := As) (rest := rest) (fun sig h => hn.trans (hlen sig h)) hstack hW (by rw [hb]; exact hdg)
    (fun vm₁ hW₁ => ⟨hf.1, hf.2, hPc (T.setVm vm₁) hT hW₁⟩) with ⟨v, vm₁, ⟨U', l2, c2, s2⟩, hW₁, X', ⟨g', mk, t, L, e1, e2, hq, h1, hL, h2, h3⟩, st⟩ | ⟨q, vm₁, ⟨U', l2, c2, s2⟩, hW₁, X', ⟨g', mk, t, L, E, ce, e1, e2, hq, hce, hcv, hcl, h1, hL, h2, h3⟩, st⟩
  · dsimp only [Pt.U, Pt.locs, Pt.cells, Pt.slots] at X' e1 e2 h1 h2 h3 st
    subst h1; subst h2; subst h3
    exact Or.inl ⟨v, (T.setVm vm₁).calling g' mk As.toArray, t, U', L, hT, X', hL, e1, e2, hq, st⟩
  · dsimp only [Pt.U, Pt.locs, Pt.cells, Pt.slots] at X' e1 e2 h1 h2 h3 st hcl
    subst h1; subst h2; subst h3
    exact Or.inr ⟨q, (T.setVm vm₁).calling g' mk As.toArray, t, U', L, E, ce, hT, X', hL, e1, e2, hq, hce, hcv, vx_cls hW₁ hcl, st⟩
end
/-! ===== END ===== -/
end
section
def RX0 : String := "CrossdockSorter$Belt"
def TX0 : u_T := fun k => match k with
  | 0 => ("CrossdockSorter$Belt", "parcelsOn", "[I", true)
  | 1 => ("CrossdockSorter$Belt", "roundsOn", "[I", true)
  | 2 => ("CrossdockSorter$Belt", "trays", "I", false)
  | _ => ("CrossdockSorter$Belt", "origin", "I", false)
def tyX0 : Nat → FieldType := fun k => match k with
  | 0 => .array .int
  | 1 => .array .int
  | 2 => .int
  | _ => .int
abbrev wsX00 : List Cond := u_ws RX0 TX0 4
theorem nmX0 : ∀ a, a < 4 → ∀ b, b < 4 → a ≠ b → (TX0 a).2.1 ≠ (TX0 b).2.1 := by decide +kernel
theorem tyX0_ok : ∀ k, k < 4 → parseFieldDescriptor (TX0 k).2.2.1 = some (tyX0 k) := by decide +kernel
abbrev cX0_init : ByteArray := prog_2_method_1_code
def yX0_init : MethodName := ⟨RX0, "<init>", "()V"⟩
abbrev cX0_makeEmpty : ByteArray := prog_2_method_2_code
def yX0_makeEmpty : MethodName := ⟨RX0, "makeEmpty", "(I)V"⟩
abbrev cX0_copyFrom : ByteArray := prog_2_method_3_code
def yX0_copyFrom : MethodName := ⟨RX0, "copyFrom", "(LCrossdockSorter$Belt;)V"⟩
abbrev cX0_has : ByteArray := prog_2_method_4_code
def yX0_has : MethodName := ⟨RX0, "has", "(I)Z"⟩
abbrev cX0_slotOf : ByteArray := prog_2_method_5_code
def yX0_slotOf : MethodName := ⟨RX0, "slotOf", "(I)I"⟩
abbrev cX0_move : ByteArray := prog_2_method_6_code
def yX0_move : MethodName := ⟨RX0, "move", "()V"⟩
abbrev cX0_parcelAt : ByteArray := prog_2_method_7_code
def yX0_parcelAt : MethodName := ⟨RX0, "parcelAt", "(I)I"⟩
abbrev cX0_roundsAt : ByteArray := prog_2_method_8_code
def yX0_roundsAt : MethodName := ⟨RX0, "roundsAt", "(I)I"⟩
abbrev cX0_positionWith : ByteArray := prog_2_method_9_code
def yX0_positionWith : MethodName := ⟨RX0, "positionWith", "(I)I"⟩
abbrev cX0_put : ByteArray := prog_2_method_10_code
def yX0_put : MethodName := ⟨RX0, "put", "(II)V"⟩
abbrev cX0_takeFrom : ByteArray := prog_2_method_11_code
def yX0_takeFrom : MethodName := ⟨RX0, "takeFrom", "(I)V"⟩
def RX1 : String := "CrossdockSorter$Chute"
def TX1 : u_T := fun k => match k with
  | 0 => ("CrossdockSorter$Chute", "position", "I", true)
  | 1 => ("CrossdockSorter$Chute", "content", "LCrossdockSorter$Row;", true)
  | 2 => ("CrossdockSorter$Chute", "capacity", "I", false)
  | 3 => ("CrossdockSorter$Chute", "jammed", "Z", false)
  | 4 => ("CrossdockSorter$Chute", "firstSum", "I", false)
  | _ => ("CrossdockSorter$Chute", "secondSum", "I", false)
def tyX1 : Nat → FieldType := fun k => match k with
  | 0 => .int
  | 1 => .object "CrossdockSorter$Row"
  | 2 => .int
  | 3 => .boolean
  | 4 => .int
  | _ => .int
abbrev wsX10 : List Cond := u_ws RX1 TX1 6
theorem nmX1 : ∀ a, a < 6 → ∀ b, b < 6 → a ≠ b → (TX1 a).2.1 ≠ (TX1 b).2.1 := by decide +kernel
theorem tyX1_ok : ∀ k, k < 6 → parseFieldDescriptor (TX1 k).2.2.1 = some (tyX1 k) := by decide +kernel
abbrev cX1_init : ByteArray := prog_3_method_1_code
def yX1_init : MethodName := ⟨RX1, "<init>", "(II)V"⟩
abbrev cX1_drop : ByteArray := prog_3_method_2_code
def yX1_drop : MethodName := ⟨RX1, "drop", "(I)V"⟩
abbrev cX1_clear : ByteArray := prog_3_method_3_code
def yX1_clear : MethodName := ⟨RX1, "clear", "()V"⟩
abbrev cX1_keptSeal : ByteArray := prog_3_method_4_code
def yX1_keptSeal : MethodName := ⟨RX1, "keptSeal", "()I"⟩
abbrev cX1_sealOfContent : ByteArray := prog_3_method_5_code
def yX1_sealOfContent : MethodName := ⟨RX1, "sealOfContent", "()I"⟩
def RX2 : String := "CrossdockSorter$Fleet"
def TX2 : u_T := fun k => match k with
  | 0 => ("CrossdockSorter$Fleet", "content", "LCrossdockSorter$Row;", true)
  | 1 => ("CrossdockSorter$Fleet", "starts", "[I", true)
  | _ => ("CrossdockSorter$Fleet", "count", "I", false)
def tyX2 : Nat → FieldType := fun k => match k with
  | 0 => .object "CrossdockSorter$Row"
  | 1 => .array .int
  | _ => .int
abbrev wsX20 : List Cond := u_ws RX2 TX2 3
theorem nmX2 : ∀ a, a < 3 → ∀ b, b < 3 → a ≠ b → (TX2 a).2.1 ≠ (TX2 b).2.1 := by decide +kernel
theorem tyX2_ok : ∀ k, k < 3 → parseFieldDescriptor (TX2 k).2.2.1 = some (tyX2 k) := by decide +kernel
abbrev cX2_init : ByteArray := prog_4_method_1_code
def yX2_init : MethodName := ⟨RX2, "<init>", "()V"⟩
abbrev cX2_has : ByteArray := prog_4_method_2_code
def yX2_has : MethodName := ⟨RX2, "has", "(I)Z"⟩
abbrev cX2_take : ByteArray := prog_4_method_3_code
def yX2_take : MethodName := ⟨RX2, "take", "(LCrossdockSorter$Row;)I"⟩
abbrev cX2_startOf : ByteArray := prog_4_method_4_code
def yX2_startOf : MethodName := ⟨RX2, "startOf", "(I)I"⟩
abbrev cX2_sizeOf : ByteArray := prog_4_method_5_code
def yX2_sizeOf : MethodName := ⟨RX2, "sizeOf", "(I)I"⟩
abbrev cX2_parcelAt : ByteArray := prog_4_method_6_code
def yX2_parcelAt : MethodName := ⟨RX2, "parcelAt", "(II)I"⟩
abbrev cX2_sealOf : ByteArray := prog_4_method_7_code
def yX2_sealOf : MethodName := ⟨RX2, "sealOf", "(I)I"⟩
def RX3 : String := "CrossdockSorter$Forecast"
def TX3 : u_T := fun k => match k with
  | 0 => ("CrossdockSorter$Forecast", "stations", "LCrossdockSorter$Stations;", true)
  | 1 => ("CrossdockSorter$Forecast", "parcels", "LCrossdockSorter$Parcels;", true)
  | 2 => ("CrossdockSorter$Forecast", "belt", "LCrossdockSorter$Belt;", true)
  | 3 => ("CrossdockSorter$Forecast", "copy", "LCrossdockSorter$Belt;", true)
  | 4 => ("CrossdockSorter$Forecast", "positions", "[I", true)
  | 5 => ("CrossdockSorter$Forecast", "parcelsOn", "[I", true)
  | 6 => ("CrossdockSorter$Forecast", "roundsOn", "[I", true)
  | 7 => ("CrossdockSorter$Forecast", "inChutes", "[I", true)
  | _ => ("CrossdockSorter$Forecast", "firstOfQueue", "I", false)
def tyX3 : Nat → FieldType := fun k => match k with
  | 0 => .object "CrossdockSorter$Stations"
  | 1 => .object "CrossdockSorter$Parcels"
  | 2 => .object "CrossdockSorter$Belt"
  | 3 => .object "CrossdockSorter$Belt"
  | 4 => .array .int
  | 5 => .array .int
  | 6 => .array .int
  | 7 => .array .int
  | _ => .int
abbrev wsX30 : List Cond := u_ws RX3 TX3 9
theorem nmX3 : ∀ a, a < 9 → ∀ b, b < 9 → a ≠ b → (TX3 a).2.1 ≠ (TX3 b).2.1 := by decide +kernel
theorem tyX3_ok : ∀ k, k < 9 → parseFieldDescriptor (TX3 k).2.2.1 = some (tyX3 k) := by decide +kernel
abbrev cX3_init : ByteArray := prog_5_method_1_code
def yX3_init : MethodName := ⟨RX3, "<init>", "(LCrossdockSorter$Stations;LCrossdockSorter$Parcels;LCrossdockSorter$Belt;)V"⟩
abbrev cX3_byOrigin : ByteArray := prog_5_method_2_code
def yX3_byOrigin : MethodName := ⟨RX3, "byOrigin", "(I)I"⟩
abbrev cX3_byTrays : ByteArray := prog_5_method_3_code
def yX3_byTrays : MethodName := ⟨RX3, "byTrays", "(I)I"⟩
abbrev cX3_begin : ByteArray := prog_5_method_4_code
def yX3_begin : MethodName := ⟨RX3, "begin", "()V"⟩
abbrev cX3_moveOrigin : ByteArray := prog_5_method_5_code
def yX3_moveOrigin : MethodName := ⟨RX3, "moveOrigin", "()I"⟩
abbrev cX3_moveTray : ByteArray := prog_5_method_6_code
def yX3_moveTray : MethodName := ⟨RX3, "moveTray", "(I)I"⟩
abbrev cX3_loadTray : ByteArray := prog_5_method_7_code
def yX3_loadTray : MethodName := ⟨RX3, "loadTray", "(I)V"⟩
abbrev cX3_chuteGets : ByteArray := prog_5_method_8_code
def yX3_chuteGets : MethodName := ⟨RX3, "chuteGets", "(II)Z"⟩
def RX4 : String := "CrossdockSorter$Parcels"
def TX4 : u_T := fun k => match k with
  | 0 => ("CrossdockSorter$Parcels", "routes", "[I", true)
  | 1 => ("CrossdockSorter$Parcels", "weights", "[I", true)
  | 2 => ("CrossdockSorter$Parcels", "states", "[C", true)
  | 3 => ("CrossdockSorter$Parcels", "lastRounds", "[I", true)
  | 4 => ("CrossdockSorter$Parcels", "trucksTaken", "[I", true)
  | 5 => ("CrossdockSorter$Parcels", "arrived", "I", false)
  | 6 => ("CrossdockSorter$Parcels", "loaded", "I", false)
  | 7 => ("CrossdockSorter$Parcels", "left", "I", false)
  | 8 => ("CrossdockSorter$Parcels", "roundsOfLeft", "J", false)
  | _ => ("CrossdockSorter$Parcels", "weightShipped", "J", false)
def tyX4 : Nat → FieldType := fun k => match k with
  | 0 => .array .int
  | 1 => .array .int
  | 2 => .array .char
  | 3 => .array .int
  | 4 => .array .int
  | 5 => .int
  | 6 => .int
  | 7 => .int
  | 8 => .long
  | _ => .long
abbrev wsX40 : List Cond := u_ws RX4 TX4 10
theorem nmX4 : ∀ a, a < 10 → ∀ b, b < 10 → a ≠ b → (TX4 a).2.1 ≠ (TX4 b).2.1 := by decide +kernel
theorem tyX4_ok : ∀ k, k < 10 → parseFieldDescriptor (TX4 k).2.2.1 = some (tyX4 k) := by decide +kernel
abbrev cX4_init : ByteArray := prog_6_method_1_code
def yX4_init : MethodName := ⟨RX4, "<init>", "()V"⟩
abbrev cX4_has : ByteArray := prog_6_method_2_code
def yX4_has : MethodName := ⟨RX4, "has", "(I)Z"⟩
abbrev cX4_add : ByteArray := prog_6_method_3_code
def yX4_add : MethodName := ⟨RX4, "add", "(II)I"⟩
abbrev cX4_loadFirst : ByteArray := prog_6_method_4_code
def yX4_loadFirst : MethodName := ⟨RX4, "loadFirst", "()I"⟩
abbrev cX4_leave : ByteArray := prog_6_method_5_code
def yX4_leave : MethodName := ⟨RX4, "leave", "(ICI)V"⟩
abbrev cX4_enterTruck : ByteArray := prog_6_method_6_code
def yX4_enterTruck : MethodName := ⟨RX4, "enterTruck", "(II)V"⟩
abbrev cX4_routeAt : ByteArray := prog_6_method_7_code
def yX4_routeAt : MethodName := ⟨RX4, "routeAt", "(I)I"⟩
abbrev cX4_stateAt : ByteArray := prog_6_method_8_code
def yX4_stateAt : MethodName := ⟨RX4, "stateAt", "(I)C"⟩
abbrev cX4_lastRoundsAt : ByteArray := prog_6_method_9_code
def yX4_lastRoundsAt : MethodName := ⟨RX4, "lastRoundsAt", "(I)I"⟩
abbrev cX4_truckAt : ByteArray := prog_6_method_10_code
def yX4_truckAt : MethodName := ⟨RX4, "truckAt", "(I)I"⟩
abbrev cX4_loadOf : ByteArray := prog_6_method_11_code
def yX4_loadOf : MethodName := ⟨RX4, "loadOf", "(I)I"⟩
def RX5 : String := "CrossdockSorter$Row"
def TX5 : u_T := fun k => match k with
  | 0 => ("CrossdockSorter$Row", "numbers", "[I", true)
  | _ => ("CrossdockSorter$Row", "count", "I", false)
def tyX5 : Nat → FieldType := fun k => match k with
  | 0 => .array .int
  | _ => .int
abbrev wsX50 : List Cond := u_ws RX5 TX5 2
theorem nmX5 : ∀ a, a < 2 → ∀ b, b < 2 → a ≠ b → (TX5 a).2.1 ≠ (TX5 b).2.1 := by decide +kernel
theorem tyX5_ok : ∀ k, k < 2 → parseFieldDescriptor (TX5 k).2.2.1 = some (tyX5 k) := by decide +kernel
abbrev cX5_init : ByteArray := prog_7_method_1_code
def yX5_init : MethodName := ⟨RX5, "<init>", "(I)V"⟩
abbrev cX5_at : ByteArray := prog_7_method_2_code
def yX5_at : MethodName := ⟨RX5, "at", "(I)I"⟩
abbrev cX5_add : ByteArray := prog_7_method_3_code
def yX5_add : MethodName := ⟨RX5, "add", "(I)V"⟩
abbrev cX5_sealOf : ByteArray := prog_7_method_4_code
def yX5_sealOf : MethodName := ⟨RX5, "sealOf", "(II)I"⟩
def RX6 : String := "CrossdockSorter$Stations"
def TX6 : u_T := fun k => match k with
  | 0 => ("CrossdockSorter$Stations", "built", "[LCrossdockSorter$Chute;", true)
  | 1 => ("CrossdockSorter$Stations", "chutesOfRoutes", "[I", true)
  | 2 => ("CrossdockSorter$Stations", "chutes", "I", false)
  | 3 => ("CrossdockSorter$Stations", "last", "I", false)
  | 4 => ("CrossdockSorter$Stations", "limit", "I", false)
  | 5 => ("CrossdockSorter$Stations", "loaderJammed", "Z", false)
  | _ => ("CrossdockSorter$Stations", "overflowJammed", "Z", false)
def tyX6 : Nat → FieldType := fun k => match k with
  | 0 => .array (.object "CrossdockSorter$Chute")
  | 1 => .array .int
  | 2 => .int
  | 3 => .int
  | 4 => .int
  | 5 => .boolean
  | _ => .boolean
abbrev wsX60 : List Cond := u_ws RX6 TX6 7
theorem nmX6 : ∀ a, a < 7 → ∀ b, b < 7 → a ≠ b → (TX6 a).2.1 ≠ (TX6 b).2.1 := by decide +kernel
theorem tyX6_ok : ∀ k, k < 7 → parseFieldDescriptor (TX6 k).2.2.1 = some (tyX6 k) := by decide +kernel
abbrev cX6_init : ByteArray := prog_8_method_1_code
def yX6_init : MethodName := ⟨RX6, "<init>", "()V"⟩
abbrev cX6_build : ByteArray := prog_8_method_2_code
def yX6_build : MethodName := ⟨RX6, "build", "(II)I"⟩
abbrev cX6_chute : ByteArray := prog_8_method_3_code
def yX6_chute : MethodName := ⟨RX6, "chute", "(I)LCrossdockSorter$Chute;"⟩
abbrev cX6_numberAt : ByteArray := prog_8_method_4_code
def yX6_numberAt : MethodName := ⟨RX6, "numberAt", "(I)I"⟩
abbrev cX6_chuteAt : ByteArray := prog_8_method_5_code
def yX6_chuteAt : MethodName := ⟨RX6, "chuteAt", "(I)LCrossdockSorter$Chute;"⟩
abbrev cX6_kindAt : ByteArray := prog_8_method_6_code
def yX6_kindAt : MethodName := ⟨RX6, "kindAt", "(I)C"⟩
abbrev cX6_isJammed : ByteArray := prog_8_method_7_code
def yX6_isJammed : MethodName := ⟨RX6, "isJammed", "(I)Z"⟩
abbrev cX6_setJammed : ByteArray := prog_8_method_8_code
def yX6_setJammed : MethodName := ⟨RX6, "setJammed", "(IZ)V"⟩
abbrev cX6_jams : ByteArray := prog_8_method_9_code
def yX6_jams : MethodName := ⟨RX6, "jams", "()I"⟩
abbrev cX6_hasChuteNotJammed : ByteArray := prog_8_method_10_code
def yX6_hasChuteNotJammed : MethodName := ⟨RX6, "hasChuteNotJammed", "()Z"⟩
abbrev cX6_chuteOfRoute : ByteArray := prog_8_method_11_code
def yX6_chuteOfRoute : MethodName := ⟨RX6, "chuteOfRoute", "(I)I"⟩
abbrev cX6_send : ByteArray := prog_8_method_12_code
def yX6_send : MethodName := ⟨RX6, "send", "(II)V"⟩
abbrev cX6_loaderPuts : ByteArray := prog_8_method_13_code
def yX6_loaderPuts : MethodName := ⟨RX6, "loaderPuts", "(III)Z"⟩
abbrev cX6_chuteTakes : ByteArray := prog_8_method_14_code
def yX6_chuteTakes : MethodName := ⟨RX6, "chuteTakes", "(III)Z"⟩
abbrev cX6_overflowTakes : ByteArray := prog_8_method_15_code
def yX6_overflowTakes : MethodName := ⟨RX6, "overflowTakes", "(II)Z"⟩
abbrev cX6_sealsAgree : ByteArray := prog_8_method_16_code
def yX6_sealsAgree : MethodName := ⟨RX6, "sealsAgree", "()Z"⟩
def RX7 : String := "CrossdockSorter$Wave"
def TX7 : u_T := fun k => match k with
  | 0 => ("CrossdockSorter$Wave", "stations", "LCrossdockSorter$Stations;", true)
  | 1 => ("CrossdockSorter$Wave", "parcels", "LCrossdockSorter$Parcels;", true)
  | 2 => ("CrossdockSorter$Wave", "loadsLeft", "[I", true)
  | _ => ("CrossdockSorter$Wave", "sums", "[I", true)
def tyX7 : Nat → FieldType := fun k => match k with
  | 0 => .object "CrossdockSorter$Stations"
  | 1 => .object "CrossdockSorter$Parcels"
  | 2 => .array .int
  | _ => .array .int
abbrev wsX70 : List Cond := u_ws RX7 TX7 4
theorem nmX7 : ∀ a, a < 4 → ∀ b, b < 4 → a ≠ b → (TX7 a).2.1 ≠ (TX7 b).2.1 := by decide +kernel
theorem tyX7_ok : ∀ k, k < 4 → parseFieldDescriptor (TX7 k).2.2.1 = some (tyX7 k) := by decide +kernel
abbrev cX7_init : ByteArray := prog_9_method_1_code
def yX7_init : MethodName := ⟨RX7, "<init>", "(LCrossdockSorter$Stations;LCrossdockSorter$Parcels;)V"⟩
abbrev cX7_assignAnew : ByteArray := prog_9_method_2_code
def yX7_assignAnew : MethodName := ⟨RX7, "assignAnew", "()I"⟩
abbrev cX7_assignOne : ByteArray := prog_9_method_3_code
def yX7_assignOne : MethodName := ⟨RX7, "assignOne", "(II)I"⟩
abbrev cX7_heaviestRoute : ByteArray := prog_9_method_4_code
def yX7_heaviestRoute : MethodName := ⟨RX7, "heaviestRoute", "()I"⟩
abbrev cX7_lightestChute : ByteArray := prog_9_method_5_code
def yX7_lightestChute : MethodName := ⟨RX7, "lightestChute", "()I"⟩
def RX8 : String := "CrossdockSorter"
def TX8 : u_T := fun k => match k with
  | 0 => ("CrossdockSorter", "parcels", "LCrossdockSorter$Parcels;", true)
  | 1 => ("CrossdockSorter", "belt", "LCrossdockSorter$Belt;", true)
  | 2 => ("CrossdockSorter", "stations", "LCrossdockSorter$Stations;", true)
  | 3 => ("CrossdockSorter", "wave", "LCrossdockSorter$Wave;", true)
  | 4 => ("CrossdockSorter", "forecast", "LCrossdockSorter$Forecast;", true)
  | 5 => ("CrossdockSorter", "overflow", "LCrossdockSorter$Row;", true)
  | 6 => ("CrossdockSorter", "fleet", "LCrossdockSorter$Fleet;", true)
  | 7 => ("CrossdockSorter", "timesSeen", "[I", true)
  | _ => ("CrossdockSorter", "ticksPassed", "J", false)
def tyX8 : Nat → FieldType := fun k => match k with
  | 0 => .object "CrossdockSorter$Parcels"
  | 1 => .object "CrossdockSorter$Belt"
  | 2 => .object "CrossdockSorter$Stations"
  | 3 => .object "CrossdockSorter$Wave"
  | 4 => .object "CrossdockSorter$Forecast"
  | 5 => .object "CrossdockSorter$Row"
  | 6 => .object "CrossdockSorter$Fleet"
  | 7 => .array .int
  | _ => .long
abbrev wsX80 : List Cond := u_ws RX8 TX8 9
theorem nmX8 : ∀ a, a < 9 → ∀ b, b < 9 → a ≠ b → (TX8 a).2.1 ≠ (TX8 b).2.1 := by decide +kernel
theorem tyX8_ok : ∀ k, k < 9 → parseFieldDescriptor (TX8 k).2.2.1 = some (tyX8 k) := by decide +kernel
abbrev cX8_init : ByteArray := prog_1_method_1_code
def yX8_init : MethodName := ⟨RX8, "<init>", "()V"⟩
abbrev cX8_setLoop : ByteArray := prog_1_method_2_code
def yX8_setLoop : MethodName := ⟨RX8, "setLoop", "(I)I"⟩
abbrev cX8_addChute : ByteArray := prog_1_method_3_code
def yX8_addChute : MethodName := ⟨RX8, "addChute", "(II)I"⟩
abbrev cX8_setCapacity : ByteArray := prog_1_method_4_code
def yX8_setCapacity : MethodName := ⟨RX8, "setCapacity", "(II)I"⟩
abbrev cX8_setLimit : ByteArray := prog_1_method_5_code
def yX8_setLimit : MethodName := ⟨RX8, "setLimit", "(I)I"⟩
abbrev cX8_jam : ByteArray := prog_1_method_6_code
def yX8_jam : MethodName := ⟨RX8, "jam", "(I)I"⟩
abbrev cX8_free : ByteArray := prog_1_method_7_code
def yX8_free : MethodName := ⟨RX8, "free", "(I)I"⟩
abbrev cX8_stationAt : ByteArray := prog_1_method_8_code
def yX8_stationAt : MethodName := ⟨RX8, "stationAt", "(I)C"⟩
abbrev cX8_arrive : ByteArray := prog_1_method_9_code
def yX8_arrive : MethodName := ⟨RX8, "arrive", "(II)I"⟩
abbrev cX8_pass : ByteArray := prog_1_method_10_code
def yX8_pass : MethodName := ⟨RX8, "pass", "(I)I"⟩
abbrev cX8_tick : ByteArray := prog_1_method_11_code
def yX8_tick : MethodName := ⟨RX8, "tick", "()J"⟩
abbrev cX8_stateOf : ByteArray := prog_1_method_12_code
def yX8_stateOf : MethodName := ⟨RX8, "stateOf", "(I)C"⟩
abbrev cX8_positionOf : ByteArray := prog_1_method_13_code
def yX8_positionOf : MethodName := ⟨RX8, "positionOf", "(I)I"⟩
abbrev cX8_roundsOf : ByteArray := prog_1_method_14_code
def yX8_roundsOf : MethodName := ⟨RX8, "roundsOf", "(I)I"⟩
abbrev cX8_trayAt : ByteArray := prog_1_method_15_code
def yX8_trayAt : MethodName := ⟨RX8, "trayAt", "(I)I"⟩
abbrev cX8_waiting : ByteArray := prog_1_method_16_code
def yX8_waiting : MethodName := ⟨RX8, "waiting", "()I"⟩
abbrev cX8_onLoop : ByteArray := prog_1_method_17_code
def yX8_onLoop : MethodName := ⟨RX8, "onLoop", "()I"⟩
abbrev cX8_overflowed : ByteArray := prog_1_method_18_code
def yX8_overflowed : MethodName := ⟨RX8, "overflowed", "()I"⟩
abbrev cX8_leavingAhead : ByteArray := prog_1_method_19_code
def yX8_leavingAhead : MethodName := ⟨RX8, "leavingAhead", "(I)I"⟩
abbrev cX8_leavingByTrays : ByteArray := prog_1_method_20_code
def yX8_leavingByTrays : MethodName := ⟨RX8, "leavingByTrays", "(I)I"⟩
abbrev cX8_startWave : ByteArray := prog_1_method_21_code
def yX8_startWave : MethodName := ⟨RX8, "startWave", "()I"⟩
abbrev cX8_assign : ByteArray := prog_1_method_22_code
def yX8_assign : MethodName := ⟨RX8, "assign", "(II)I"⟩
abbrev cX8_unassign : ByteArray := prog_1_method_23_code
def yX8_unassign : MethodName := ⟨RX8, "unassign", "(I)I"⟩
abbrev cX8_chuteFor : ByteArray := prog_1_method_24_code
def yX8_chuteFor : MethodName := ⟨RX8, "chuteFor", "(I)I"⟩
abbrev cX8_load : ByteArray := prog_1_method_25_code
def yX8_load : MethodName := ⟨RX8, "load", "(I)I"⟩
abbrev cX8_inChute : ByteArray := prog_1_method_26_code
def yX8_inChute : MethodName := ⟨RX8, "inChute", "(I)I"⟩
abbrev cX8_seal : ByteArray := prog_1_method_27_code
def yX8_seal : MethodName := ⟨RX8, "seal", "(I)I"⟩
abbrev cX8_sealByParcels : ByteArray := prog_1_method_28_code
def yX8_sealByParcels : MethodName := ⟨RX8, "sealByParcels", "(I)I"⟩
abbrev cX8_dispatch : ByteArray := prog_1_method_29_code
def yX8_dispatch : MethodName := ⟨RX8, "dispatch", "(I)I"⟩
abbrev cX8_trucks : ByteArray := prog_1_method_30_code
def yX8_trucks : MethodName := ⟨RX8, "trucks", "()I"⟩
abbrev cX8_sealOfTruck : ByteArray := prog_1_method_31_code
def yX8_sealOfTruck : MethodName := ⟨RX8, "sealOfTruck", "(I)I"⟩
abbrev cX8_parcelIn : ByteArray := prog_1_method_32_code
def yX8_parcelIn : MethodName := ⟨RX8, "parcelIn", "(II)I"⟩
abbrev cX8_truckOf : ByteArray := prog_1_method_33_code
def yX8_truckOf : MethodName := ⟨RX8, "truckOf", "(I)I"⟩
abbrev cX8_shipped : ByteArray := prog_1_method_34_code
def yX8_shipped : MethodName := ⟨RX8, "shipped", "()J"⟩
abbrev cX8_meanRounds : ByteArray := prog_1_method_35_code
def yX8_meanRounds : MethodName := ⟨RX8, "meanRounds", "()D"⟩
abbrev cX8_overflowShare : ByteArray := prog_1_method_36_code
def yX8_overflowShare : MethodName := ⟨RX8, "overflowShare", "()F"⟩
abbrev cX8_isOnce : ByteArray := prog_1_method_37_code
def yX8_isOnce : MethodName := ⟨RX8, "isOnce", "()Z"⟩
abbrev cX8_isCapacity : ByteArray := prog_1_method_38_code
def yX8_isCapacity : MethodName := ⟨RX8, "isCapacity", "(I)Z"⟩
abbrev cX8_isRoute : ByteArray := prog_1_method_39_code
def yX8_isRoute : MethodName := ⟨RX8, "isRoute", "(I)Z"⟩
abbrev cX8_requireRoute : ByteArray := prog_1_method_40_code
def yX8_requireRoute : MethodName := ⟨RX8, "requireRoute", "(I)V"⟩
abbrev cX8_requireTicks : ByteArray := prog_1_method_41_code
def yX8_requireTicks : MethodName := ⟨RX8, "requireTicks", "(I)V"⟩
abbrev cX8_requirePosition : ByteArray := prog_1_method_42_code
def yX8_requirePosition : MethodName := ⟨RX8, "requirePosition", "(I)V"⟩
abbrev cX8_requireStation : ByteArray := prog_1_method_43_code
def yX8_requireStation : MethodName := ⟨RX8, "requireStation", "(I)V"⟩
abbrev cX8_requireParcel : ByteArray := prog_1_method_44_code
def yX8_requireParcel : MethodName := ⟨RX8, "requireParcel", "(I)V"⟩
abbrev cX8_requireChute : ByteArray := prog_1_method_45_code
def yX8_requireChute : MethodName := ⟨RX8, "requireChute", "(I)LCrossdockSorter$Chute;"⟩
abbrev cX8_requireTruck : ByteArray := prog_1_method_46_code
def yX8_requireTruck : MethodName := ⟨RX8, "requireTruck", "(I)V"⟩
abbrev cX8_requireSomeLeft : ByteArray := prog_1_method_47_code
def yX8_requireSomeLeft : MethodName := ⟨RX8, "requireSomeLeft", "()V"⟩
abbrev cX8_passOneTick : ByteArray := prog_1_method_48_code
def yX8_passOneTick : MethodName := ⟨RX8, "passOneTick", "()I"⟩
abbrev cX8_dropInto : ByteArray := prog_1_method_49_code
def yX8_dropInto : MethodName := ⟨RX8, "dropInto", "(I)I"⟩
abbrev cX8_dropIntoOverflow : ByteArray := prog_1_method_50_code
def yX8_dropIntoOverflow : MethodName := ⟨RX8, "dropIntoOverflow", "()I"⟩
abbrev cX8_eachParcelIsOnce : ByteArray := prog_1_method_51_code
def yX8_eachParcelIsOnce : MethodName := ⟨RX8, "eachParcelIsOnce", "()Z"⟩
abbrev cX8_seeAll : ByteArray := prog_1_method_52_code
def yX8_seeAll : MethodName := ⟨RX8, "seeAll", "(LCrossdockSorter$Row;)V"⟩
abbrev cX8_see : ByteArray := prog_1_method_53_code
def yX8_see : MethodName := ⟨RX8, "see", "(I)V"⟩
def RX9 : String := "CrossdockSorterModel"
def TX9 : u_T := fun k => match k with
  | 0 => ("CrossdockSorterModel", "thrown", "I", false)
  | 1 => ("CrossdockSorterModel", "trays", "I", false)
  | 2 => ("CrossdockSorterModel", "tray", "[I", true)
  | 3 => ("CrossdockSorterModel", "chutes", "I", false)
  | 4 => ("CrossdockSorterModel", "position", "[I", true)
  | 5 => ("CrossdockSorterModel", "capacity", "[I", true)
  | 6 => ("CrossdockSorterModel", "isJammed", "[Z", true)
  | 7 => ("CrossdockSorterModel", "isLoaderJammed", "Z", false)
  | 8 => ("CrossdockSorterModel", "isOverflowJammed", "Z", false)
  | 9 => ("CrossdockSorterModel", "limit", "I", false)
  | 10 => ("CrossdockSorterModel", "parcels", "I", false)
  | 11 => ("CrossdockSorterModel", "route", "[I", true)
  | 12 => ("CrossdockSorterModel", "weight", "[I", true)
  | 13 => ("CrossdockSorterModel", "state", "[I", true)
  | 14 => ("CrossdockSorterModel", "rounds", "[I", true)
  | 15 => ("CrossdockSorterModel", "first", "I", false)
  | 16 => ("CrossdockSorterModel", "ticks", "J", false)
  | 17 => ("CrossdockSorterModel", "left", "I", false)
  | 18 => ("CrossdockSorterModel", "leftRounds", "I", false)
  | 19 => ("CrossdockSorterModel", "over", "I", false)
  | 20 => ("CrossdockSorterModel", "chuteOf", "[I", true)
  | 21 => ("CrossdockSorterModel", "many", "[I", true)
  | 22 => ("CrossdockSorterModel", "in", "[I", true)
  | 23 => ("CrossdockSorterModel", "one", "[I", true)
  | 24 => ("CrossdockSorterModel", "two", "[I", true)
  | 25 => ("CrossdockSorterModel", "trucks", "I", false)
  | 26 => ("CrossdockSorterModel", "truckSize", "[I", true)
  | 27 => ("CrossdockSorterModel", "truckOf", "[I", true)
  | 28 => ("CrossdockSorterModel", "place", "[I", true)
  | 29 => ("CrossdockSorterModel", "shipped", "J", false)
  | 30 => ("CrossdockSorterModel", "trayBefore", "[I", true)
  | 31 => ("CrossdockSorterModel", "roundsBefore", "[I", true)
  | 32 => ("CrossdockSorterModel", "manyBefore", "[I", true)
  | 33 => ("CrossdockSorterModel", "sum", "[I", true)
  | _ => ("CrossdockSorterModel", "loads", "[I", true)
def tyX9 : Nat → FieldType := fun k => match k with
  | 0 => .int
  | 1 => .int
  | 2 => .array .int
  | 3 => .int
  | 4 => .array .int
  | 5 => .array .int
  | 6 => .array .boolean
  | 7 => .boolean
  | 8 => .boolean
  | 9 => .int
  | 10 => .int
  | 11 => .array .int
  | 12 => .array .int
  | 13 => .array .int
  | 14 => .array .int
  | 15 => .int
  | 16 => .long
  | 17 => .int
  | 18 => .int
  | 19 => .int
  | 20 => .array .int
  | 21 => .array .int
  | 22 => .array .int
  | 23 => .array .int
  | 24 => .array .int
  | 25 => .int
  | 26 => .array .int
  | 27 => .array .int
  | 28 => .array .int
  | 29 => .long
  | 30 => .array .int
  | 31 => .array .int
  | 32 => .array .int
  | 33 => .array .int
  | _ => .array .int
abbrev wsX90 : List Cond := u_ws RX9 TX9 35
theorem nmX9 : ∀ a, a < 35 → ∀ b, b < 35 → a ≠ b → (TX9 a).2.1 ≠ (TX9 b).2.1 := by decide +kernel
theorem tyX9_ok : ∀ k, k < 35 → parseFieldDescriptor (TX9 k).2.2.1 = some (tyX9 k) := by decide +kernel
abbrev cX9_init : ByteArray := prog_11_method_1_code
def yX9_init : MethodName := ⟨RX9, "<init>", "()V"⟩
abbrev cX9_thrown : ByteArray := prog_11_method_2_code
def yX9_thrown : MethodName := ⟨RX9, "thrown", "()I"⟩
abbrev cX9_isIn : ByteArray := prog_11_method_3_code
def yX9_isIn : MethodName := ⟨RX9, "isIn", "(III)Z"⟩
abbrev cX9_goesOn : ByteArray := prog_11_method_4_code
def yX9_goesOn : MethodName := ⟨RX9, "goesOn", "(I)Z"⟩
abbrev cX9_isChute : ByteArray := prog_11_method_5_code
def yX9_isChute : MethodName := ⟨RX9, "isChute", "(I)Z"⟩
abbrev cX9_isParcel : ByteArray := prog_11_method_6_code
def yX9_isParcel : MethodName := ⟨RX9, "isParcel", "(I)Z"⟩
abbrev cX9_isPosition : ByteArray := prog_11_method_7_code
def yX9_isPosition : MethodName := ⟨RX9, "isPosition", "(I)Z"⟩
abbrev cX9_chuteAt : ByteArray := prog_11_method_8_code
def yX9_chuteAt : MethodName := ⟨RX9, "chuteAt", "(I)I"⟩
abbrev cX9_setLoop : ByteArray := prog_11_method_9_code
def yX9_setLoop : MethodName := ⟨RX9, "setLoop", "(I)I"⟩
abbrev cX9_addChute : ByteArray := prog_11_method_10_code
def yX9_addChute : MethodName := ⟨RX9, "addChute", "(II)I"⟩
abbrev cX9_setCapacity : ByteArray := prog_11_method_11_code
def yX9_setCapacity : MethodName := ⟨RX9, "setCapacity", "(II)I"⟩
abbrev cX9_setLimit : ByteArray := prog_11_method_12_code
def yX9_setLimit : MethodName := ⟨RX9, "setLimit", "(I)I"⟩
abbrev cX9_isStation : ByteArray := prog_11_method_13_code
def yX9_isStation : MethodName := ⟨RX9, "isStation", "(I)Z"⟩
abbrev cX9_isJammedAt : ByteArray := prog_11_method_14_code
def yX9_isJammedAt : MethodName := ⟨RX9, "isJammedAt", "(I)Z"⟩
abbrev cX9_sets : ByteArray := prog_11_method_15_code
def yX9_sets : MethodName := ⟨RX9, "sets", "(IZ)V"⟩
abbrev cX9_jams : ByteArray := prog_11_method_16_code
def yX9_jams : MethodName := ⟨RX9, "jams", "()I"⟩
abbrev cX9_jam : ByteArray := prog_11_method_17_code
def yX9_jam : MethodName := ⟨RX9, "jam", "(I)I"⟩
abbrev cX9_free : ByteArray := prog_11_method_18_code
def yX9_free : MethodName := ⟨RX9, "free", "(I)I"⟩
abbrev cX9_stationAt : ByteArray := prog_11_method_19_code
def yX9_stationAt : MethodName := ⟨RX9, "stationAt", "(I)C"⟩
abbrev cX9_moves : ByteArray := prog_11_method_20_code
def yX9_moves : MethodName := ⟨RX9, "moves", "()V"⟩
abbrev cX9_drops : ByteArray := prog_11_method_21_code
def yX9_drops : MethodName := ⟨RX9, "drops", "(I)Z"⟩
abbrev cX9_overflows : ByteArray := prog_11_method_22_code
def yX9_overflows : MethodName := ⟨RX9, "overflows", "()Z"⟩
abbrev cX9_leaves : ByteArray := prog_11_method_23_code
def yX9_leaves : MethodName := ⟨RX9, "leaves", "(II)V"⟩
abbrev cX9_passesOne : ByteArray := prog_11_method_24_code
def yX9_passesOne : MethodName := ⟨RX9, "passesOne", "()I"⟩
abbrev cX9_pass : ByteArray := prog_11_method_25_code
def yX9_pass : MethodName := ⟨RX9, "pass", "(I)I"⟩
abbrev cX9_looksOne : ByteArray := prog_11_method_26_code
def yX9_looksOne : MethodName := ⟨RX9, "looksOne", "()I"⟩
abbrev cX9_leavingAhead : ByteArray := prog_11_method_27_code
def yX9_leavingAhead : MethodName := ⟨RX9, "leavingAhead", "(I)I"⟩
abbrev cX9_leavingByTrays : ByteArray := prog_11_method_28_code
def yX9_leavingByTrays : MethodName := ⟨RX9, "leavingByTrays", "(I)I"⟩
abbrev cX9_arrive : ByteArray := prog_11_method_29_code
def yX9_arrive : MethodName := ⟨RX9, "arrive", "(II)I"⟩
abbrev cX9_tick : ByteArray := prog_11_method_30_code
def yX9_tick : MethodName := ⟨RX9, "tick", "()J"⟩
abbrev cX9_stateOf : ByteArray := prog_11_method_31_code
def yX9_stateOf : MethodName := ⟨RX9, "stateOf", "(I)C"⟩
abbrev cX9_positionIn : ByteArray := prog_11_method_32_code
def yX9_positionIn : MethodName := ⟨RX9, "positionIn", "(I)I"⟩
abbrev cX9_positionOf : ByteArray := prog_11_method_33_code
def yX9_positionOf : MethodName := ⟨RX9, "positionOf", "(I)I"⟩
abbrev cX9_roundsOf : ByteArray := prog_11_method_34_code
def yX9_roundsOf : MethodName := ⟨RX9, "roundsOf", "(I)I"⟩
abbrev cX9_trayAt : ByteArray := prog_11_method_35_code
def yX9_trayAt : MethodName := ⟨RX9, "trayAt", "(I)I"⟩
abbrev cX9_waiting : ByteArray := prog_11_method_36_code
def yX9_waiting : MethodName := ⟨RX9, "waiting", "()I"⟩
abbrev cX9_onLoop : ByteArray := prog_11_method_37_code
def yX9_onLoop : MethodName := ⟨RX9, "onLoop", "()I"⟩
abbrev cX9_overflowed : ByteArray := prog_11_method_38_code
def yX9_overflowed : MethodName := ⟨RX9, "overflowed", "()I"⟩
abbrev cX9_loadOf : ByteArray := prog_11_method_39_code
def yX9_loadOf : MethodName := ⟨RX9, "loadOf", "(I)I"⟩
abbrev cX9_isSomeFree : ByteArray := prog_11_method_40_code
def yX9_isSomeFree : MethodName := ⟨RX9, "isSomeFree", "()Z"⟩
abbrev cX9_leastChute : ByteArray := prog_11_method_41_code
def yX9_leastChute : MethodName := ⟨RX9, "leastChute", "()I"⟩
abbrev cX9_greatestRoute : ByteArray := prog_11_method_42_code
def yX9_greatestRoute : MethodName := ⟨RX9, "greatestRoute", "()I"⟩
abbrev cX9_startWave : ByteArray := prog_11_method_43_code
def yX9_startWave : MethodName := ⟨RX9, "startWave", "()I"⟩
abbrev cX9_isRoute : ByteArray := prog_11_method_44_code
def yX9_isRoute : MethodName := ⟨RX9, "isRoute", "(I)Z"⟩
abbrev cX9_assign : ByteArray := prog_11_method_45_code
def yX9_assign : MethodName := ⟨RX9, "assign", "(II)I"⟩
abbrev cX9_unassign : ByteArray := prog_11_method_46_code
def yX9_unassign : MethodName := ⟨RX9, "unassign", "(I)I"⟩
abbrev cX9_chuteFor : ByteArray := prog_11_method_47_code
def yX9_chuteFor : MethodName := ⟨RX9, "chuteFor", "(I)I"⟩
abbrev cX9_load : ByteArray := prog_11_method_48_code
def yX9_load : MethodName := ⟨RX9, "load", "(I)I"⟩
abbrev cX9_inChute : ByteArray := prog_11_method_49_code
def yX9_inChute : MethodName := ⟨RX9, "inChute", "(I)I"⟩
abbrev cX9_sealOf : ByteArray := prog_11_method_50_code
def yX9_sealOf : MethodName := ⟨RX9, "sealOf", "(I)I"⟩
abbrev cX9_seal : ByteArray := prog_11_method_51_code
def yX9_seal : MethodName := ⟨RX9, "seal", "(I)I"⟩
abbrev cX9_sealByParcels : ByteArray := prog_11_method_52_code
def yX9_sealByParcels : MethodName := ⟨RX9, "sealByParcels", "(I)I"⟩
abbrev cX9_dispatch : ByteArray := prog_11_method_53_code
def yX9_dispatch : MethodName := ⟨RX9, "dispatch", "(I)I"⟩
abbrev cX9_trucks : ByteArray := prog_11_method_54_code
def yX9_trucks : MethodName := ⟨RX9, "trucks", "()I"⟩
abbrev cX9_parcelAt : ByteArray := prog_11_method_55_code
def yX9_parcelAt : MethodName := ⟨RX9, "parcelAt", "(II)I"⟩
abbrev cX9_sealOfTruck : ByteArray := prog_11_method_56_code
def yX9_sealOfTruck : MethodName := ⟨RX9, "sealOfTruck", "(I)I"⟩
abbrev cX9_parcelIn : ByteArray := prog_11_method_57_code
def yX9_parcelIn : MethodName := ⟨RX9, "parcelIn", "(II)I"⟩
abbrev cX9_truckOf : ByteArray := prog_11_method_58_code
def yX9_truckOf : MethodName := ⟨RX9, "truckOf", "(I)I"⟩
abbrev cX9_shipped : ByteArray := prog_11_method_59_code
def yX9_shipped : MethodName := ⟨RX9, "shipped", "()J"⟩
abbrev cX9_meanRounds : ByteArray := prog_11_method_60_code
def yX9_meanRounds : MethodName := ⟨RX9, "meanRounds", "()D"⟩
abbrev cX9_overflowShare : ByteArray := prog_11_method_61_code
def yX9_overflowShare : MethodName := ⟨RX9, "overflowShare", "()F"⟩
abbrev cX9_isOnce : ByteArray := prog_11_method_62_code
def yX9_isOnce : MethodName := ⟨RX9, "isOnce", "()Z"⟩
def RJx145de : String := "java/io/Serializable"
def TJx145de : u_T := fun k => match k with
  | _ => ("", "", "", false)
def tyJx145de : Nat → FieldType := fun k => match k with
  | _ => .int
abbrev wsJx145de0 : List Cond := u_ws RJx145de TJx145de 0
theorem nmJx145de : ∀ a, a < 0 → ∀ b, b < 0 → a ≠ b → (TJx145de a).2.1 ≠ (TJx145de b).2.1 := by decide +kernel
theorem tyJx145de_ok : ∀ k, k < 0 → parseFieldDescriptor (TJx145de k).2.2.1 = some (tyJx145de k) := by decide +kernel
def RJx00060 : String := "java/lang/ArrayIndexOutOfBoundsException"
def TJx00060 : u_T := fun k => match k with
  | 0 => ("java/lang/Throwable", "backtrace", "Ljava/lang/Object;", false)
  | 1 => ("java/lang/Throwable", "detailMessage", "Ljava/lang/String;", false)
  | 2 => ("java/lang/Throwable", "cause", "Ljava/lang/Throwable;", false)
  | 3 => ("java/lang/Throwable", "stackTrace", "[Ljava/lang/StackTraceElement;", false)
  | 4 => ("java/lang/Throwable", "depth", "I", false)
  | _ => ("java/lang/Throwable", "suppressedExceptions", "Ljava/util/List;", false)
def tyJx00060 : Nat → FieldType := fun k => match k with
  | 0 => .object "java/lang/Object"
  | 1 => .object "java/lang/String"
  | 2 => .object "java/lang/Throwable"
  | 3 => .array (.object "java/lang/StackTraceElement")
  | 4 => .int
  | _ => .object "java/util/List"
abbrev wsJx000600 : List Cond := u_ws RJx00060 TJx00060 6
theorem nmJx00060 : ∀ a, a < 6 → ∀ b, b < 6 → a ≠ b → (TJx00060 a).2.1 ≠ (TJx00060 b).2.1 := by decide +kernel
theorem tyJx00060_ok : ∀ k, k < 6 → parseFieldDescriptor (TJx00060 k).2.2.1 = some (tyJx00060 k) := by decide +kernel
abbrev cJx00060_init_a7421 : ByteArray := prog_14_method_2_code
def yJx00060_init_a7421 : MethodName := ⟨RJx00060, "<init>", "(Ljava/lang/String;)V"⟩
def RJ9 : String := "java/lang/Math"
def TJ9 : u_T := fun k => match k with
  | _ => ("", "", "", false)
def tyJ9 : Nat → FieldType := fun k => match k with
  | _ => .int
abbrev wsJ90 : List Cond := u_ws RJ9 TJ9 0
theorem nmJ9 : ∀ a, a < 0 → ∀ b, b < 0 → a ≠ b → (TJ9 a).2.1 ≠ (TJ9 b).2.1 := by decide +kernel
theorem tyJ9_ok : ∀ k, k < 0 → parseFieldDescriptor (TJ9 k).2.2.1 = some (tyJ9 k) := by decide +kernel
abbrev cJ9_max_7cf53 : ByteArray := prog_19_method_65_code
def yJ9_max_7cf53 : MethodName := ⟨RJ9, "max", "(II)I"⟩
abbrev cJ9_min_7cf53 : ByteArray := prog_19_method_69_code
def yJ9_min_7cf53 : MethodName := ⟨RJ9, "min", "(II)I"⟩
def RJ0 : String := "java/lang/String"
def TJ0 : u_T := fun k => match k with
  | 0 => ("java/lang/String", "value", "[B", true)
  | _ => ("java/lang/String", "coder", "B", true)
def tyJ0 : Nat → FieldType := fun k => match k with
  | 0 => .array .byte
  | _ => .byte
abbrev wsJ00 : List Cond := u_ws RJ0 TJ0 2
theorem nmJ0 : ∀ a, a < 2 → ∀ b, b < 2 → a ≠ b → (TJ0 a).2.1 ≠ (TJ0 b).2.1 := by decide +kernel
theorem tyJ0_ok : ∀ k, k < 2 → parseFieldDescriptor (TJ0 k).2.2.1 = some (tyJ0 k) := by decide +kernel
def RL : String := "CrossdockSorterLaw"
abbrev cL_setLoop : ByteArray := method_3_code
def yL_setLoop : MethodName := ⟨RL, "setLoop", "(LCrossdockSorter;I[J)I"⟩
abbrev cL_addChute : ByteArray := method_4_code
def yL_addChute : MethodName := ⟨RL, "addChute", "(LCrossdockSorter;II[J)I"⟩
abbrev cL_setCapacity : ByteArray := method_5_code
def yL_setCapacity : MethodName := ⟨RL, "setCapacity", "(LCrossdockSorter;II[J)I"⟩
abbrev cL_setLimit : ByteArray := method_6_code
def yL_setLimit : MethodName := ⟨RL, "setLimit", "(LCrossdockSorter;I[J)I"⟩
abbrev cL_jam : ByteArray := method_7_code
def yL_jam : MethodName := ⟨RL, "jam", "(LCrossdockSorter;I[J)I"⟩
abbrev cL_free : ByteArray := method_8_code
def yL_free : MethodName := ⟨RL, "free", "(LCrossdockSorter;I[J)I"⟩
abbrev cL_stationAt : ByteArray := method_9_code
def yL_stationAt : MethodName := ⟨RL, "stationAt", "(LCrossdockSorter;I[J)I"⟩
abbrev cL_arrive : ByteArray := method_10_code
def yL_arrive : MethodName := ⟨RL, "arrive", "(LCrossdockSorter;II[J)I"⟩
abbrev cL_pass : ByteArray := method_11_code
def yL_pass : MethodName := ⟨RL, "pass", "(LCrossdockSorter;I[J)I"⟩
abbrev cL_stateOf : ByteArray := method_12_code
def yL_stateOf : MethodName := ⟨RL, "stateOf", "(LCrossdockSorter;I[J)I"⟩
abbrev cL_positionOf : ByteArray := method_13_code
def yL_positionOf : MethodName := ⟨RL, "positionOf", "(LCrossdockSorter;I[J)I"⟩
abbrev cL_roundsOf : ByteArray := method_14_code
def yL_roundsOf : MethodName := ⟨RL, "roundsOf", "(LCrossdockSorter;I[J)I"⟩
abbrev cL_trayAt : ByteArray := method_15_code
def yL_trayAt : MethodName := ⟨RL, "trayAt", "(LCrossdockSorter;I[J)I"⟩
abbrev cL_leavingAhead : ByteArray := method_16_code
def yL_leavingAhead : MethodName := ⟨RL, "leavingAhead", "(LCrossdockSorter;I[J)I"⟩
abbrev cL_leavingByTrays : ByteArray := method_17_code
def yL_leavingByTrays : MethodName := ⟨RL, "leavingByTrays", "(LCrossdockSorter;I[J)I"⟩
abbrev cL_startWave : ByteArray := method_18_code
def yL_startWave : MethodName := ⟨RL, "startWave", "(LCrossdockSorter;[J)I"⟩
abbrev cL_assign : ByteArray := method_19_code
def yL_assign : MethodName := ⟨RL, "assign", "(LCrossdockSorter;II[J)I"⟩
abbrev cL_unassign : ByteArray := method_20_code
def yL_unassign : MethodName := ⟨RL, "unassign", "(LCrossdockSorter;I[J)I"⟩
abbrev cL_chuteFor : ByteArray := method_21_code
def yL_chuteFor : MethodName := ⟨RL, "chuteFor", "(LCrossdockSorter;I[J)I"⟩
abbrev cL_load : ByteArray := method_22_code
def yL_load : MethodName := ⟨RL, "load", "(LCrossdockSorter;I[J)I"⟩
abbrev cL_inChute : ByteArray := method_23_code
def yL_inChute : MethodName := ⟨RL, "inChute", "(LCrossdockSorter;I[J)I"⟩
abbrev cL_seal : ByteArray := method_24_code
def yL_seal : MethodName := ⟨RL, "seal", "(LCrossdockSorter;I[J)I"⟩
abbrev cL_sealByParcels : ByteArray := method_25_code
def yL_sealByParcels : MethodName := ⟨RL, "sealByParcels", "(LCrossdockSorter;I[J)I"⟩
abbrev cL_dispatch : ByteArray := method_26_code
def yL_dispatch : MethodName := ⟨RL, "dispatch", "(LCrossdockSorter;I[J)I"⟩
abbrev cL_sealOfTruck : ByteArray := method_27_code
def yL_sealOfTruck : MethodName := ⟨RL, "sealOfTruck", "(LCrossdockSorter;I[J)I"⟩
abbrev cL_parcelIn : ByteArray := method_28_code
def yL_parcelIn : MethodName := ⟨RL, "parcelIn", "(LCrossdockSorter;II[J)I"⟩
abbrev cL_truckOf : ByteArray := method_29_code
def yL_truckOf : MethodName := ⟨RL, "truckOf", "(LCrossdockSorter;I[J)I"⟩
abbrev cL_meanRounds : ByteArray := method_30_code
def yL_meanRounds : MethodName := ⟨RL, "meanRounds", "(LCrossdockSorter;[D)I"⟩
abbrev cL_overflowShare : ByteArray := method_31_code
def yL_overflowShare : MethodName := ⟨RL, "overflowShare", "(LCrossdockSorter;[D)I"⟩
abbrev cL_law : ByteArray := code
def yL_law : MethodName := ⟨RL, "law", "([I)Z"⟩
def wsJx00060_init_a7421 : List Cond := .code yJx00060_init_a7421 cJx00060_init_a7421 2 none :: ([])
def wsJ9_max_7cf53 : List Cond := .code yJ9_max_7cf53 cJ9_max_7cf53 2 (some .int) :: ([])
def wsJ9_min_7cf53 : List Cond := .code yJ9_min_7cf53 cJ9_min_7cf53 2 (some .int) :: ([])
abbrev vwCl : List vw_C := [(RJ0, TJ0, 2), (RJx00060, TJx00060, 6), (RX0, TX0, 4), (RX1, TX1, 6), (RX2, TX2, 3), (RX3, TX3, 9), (RX4, TX4, 10), (RX5, TX5, 2), (RX6, TX6, 7), (RX7, TX7, 4), (RX8, TX8, 9), (RX9, TX9, 35)]
end
section
theorem dX0_init_0 : decode cX0_init 0 = .ok (.aload_n 0, 1) := by decide +kernel
theorem dX0_init_1 : decode cX0_init 1 = .ok (.invokespecial 3, 3) := by decide +kernel
theorem dX0_init_4 : decode cX0_init 4 = .ok (.aload_n 0, 1) := by decide +kernel
theorem dX0_init_5 : decode cX0_init 5 = .ok (.bipush 20, 2) := by decide +kernel
theorem dX0_init_7 : decode cX0_init 7 = .ok (.newarray .int, 2) := by decide +kernel
theorem dX0_init_9 : decode cX0_init 9 = .ok (.putfield 9, 3) := by decide +kernel
theorem dX0_init_12 : decode cX0_init 12 = .ok (.aload_n 0, 1) := by decide +kernel
theorem dX0_init_13 : decode cX0_init 13 = .ok (.bipush 20, 2) := by decide +kernel
theorem dX0_init_15 : decode cX0_init 15 = .ok (.newarray .int, 2) := by decide +kernel
theorem dX0_init_17 : decode cX0_init 17 = .ok (.putfield 15, 3) := by decide +kernel
theorem dX0_init_20 : decode cX0_init 20 = .ok (.aload_n 0, 1) := by decide +kernel
theorem dX0_init_21 : decode cX0_init 21 = .ok (.bipush 12, 2) := by decide +kernel
theorem dX0_init_23 : decode cX0_init 23 = .ok (.invokevirtual 18, 3) := by decide +kernel
theorem dX0_init_26 : decode cX0_init 26 = .ok (.return_, 1) := by decide +kernel
theorem dX0_makeEmpty_0 : decode cX0_makeEmpty 0 = .ok (.aload_n 0, 1) := by decide +kernel
theorem dX0_makeEmpty_1 : decode cX0_makeEmpty 1 = .ok (.iconst 1, 1) := by decide +kernel
theorem dX0_makeEmpty_2 : decode cX0_makeEmpty 2 = .ok (.iload_n 1, 1) := by decide +kernel
theorem dX0_makeEmpty_3 : decode cX0_makeEmpty 3 = .ok (.bipush 20, 2) := by decide +kernel
theorem dX0_makeEmpty_5 : decode cX0_makeEmpty 5 = .ok (.invokestatic 22, 3) := by decide +kernel
theorem dX0_makeEmpty_8 : decode cX0_makeEmpty 8 = .ok (.invokestatic 28, 3) := by decide +kernel
theorem dX0_makeEmpty_11 : decode cX0_makeEmpty 11 = .ok (.putfield 31, 3) := by decide +kernel
theorem dX0_makeEmpty_14 : decode cX0_makeEmpty 14 = .ok (.aload_n 0, 1) := by decide +kernel
theorem dX0_makeEmpty_15 : decode cX0_makeEmpty 15 = .ok (.iconst 0, 1) := by decide +kernel
theorem dX0_makeEmpty_16 : decode cX0_makeEmpty 16 = .ok (.putfield 35, 3) := by decide +kernel
theorem dX0_makeEmpty_19 : decode cX0_makeEmpty 19 = .ok (.iconst 0, 1) := by decide +kernel
theorem dX0_makeEmpty_20 : decode cX0_makeEmpty 20 = .ok (.istore_n 2, 1) := by decide +kernel
theorem dX0_makeEmpty_21 : decode cX0_makeEmpty 21 = .ok (.iload_n 2, 1) := by decide +kernel
theorem dX0_makeEmpty_22 : decode cX0_makeEmpty 22 = .ok (.bipush 20, 2) := by decide +kernel
theorem dX0_makeEmpty_24 : decode cX0_makeEmpty 24 = .ok (.if_icmp .ge 23, 3) := by decide +kernel
theorem dX0_makeEmpty_27 : decode cX0_makeEmpty 27 = .ok (.aload_n 0, 1) := by decide +kernel
theorem dX0_makeEmpty_28 : decode cX0_makeEmpty 28 = .ok (.getfield 9, 3) := by decide +kernel
theorem dX0_makeEmpty_31 : decode cX0_makeEmpty 31 = .ok (.iload_n 2, 1) := by decide +kernel
theorem dX0_makeEmpty_32 : decode cX0_makeEmpty 32 = .ok (.iconst (-1), 1) := by decide +kernel
theorem dX0_makeEmpty_33 : decode cX0_makeEmpty 33 = .ok (.iastore, 1) := by decide +kernel
theorem dX0_makeEmpty_34 : decode cX0_makeEmpty 34 = .ok (.aload_n 0, 1) := by decide +kernel
theorem dX0_makeEmpty_35 : decode cX0_makeEmpty 35 = .ok (.getfield 15, 3) := by decide +kernel
theorem dX0_makeEmpty_38 : decode cX0_makeEmpty 38 = .ok (.iload_n 2, 1) := by decide +kernel
theorem dX0_makeEmpty_39 : decode cX0_makeEmpty 39 = .ok (.iconst 0, 1) := by decide +kernel
theorem dX0_makeEmpty_40 : decode cX0_makeEmpty 40 = .ok (.iastore, 1) := by decide +kernel
theorem dX0_makeEmpty_41 : decode cX0_makeEmpty 41 = .ok (.iinc 2 1, 3) := by decide +kernel
theorem dX0_makeEmpty_44 : decode cX0_makeEmpty 44 = .ok (.goto (-23), 3) := by decide +kernel
theorem dX0_makeEmpty_47 : decode cX0_makeEmpty 47 = .ok (.return_, 1) := by decide +kernel
theorem dX0_copyFrom_0 : decode cX0_copyFrom 0 = .ok (.aload_n 0, 1) := by decide +kernel
theorem dX0_copyFrom_1 : decode cX0_copyFrom 1 = .ok (.aload_n 1, 1) := by decide +kernel
theorem dX0_copyFrom_2 : decode cX0_copyFrom 2 = .ok (.getfield 31, 3) := by decide +kernel
theorem dX0_copyFrom_5 : decode cX0_copyFrom 5 = .ok (.putfield 31, 3) := by decide +kernel
theorem dX0_copyFrom_8 : decode cX0_copyFrom 8 = .ok (.aload_n 0, 1) := by decide +kernel
theorem dX0_copyFrom_9 : decode cX0_copyFrom 9 = .ok (.aload_n 1, 1) := by decide +kernel
theorem dX0_copyFrom_10 : decode cX0_copyFrom 10 = .ok (.getfield 35, 3) := by decide +kernel
theorem dX0_copyFrom_13 : decode cX0_copyFrom 13 = .ok (.putfield 35, 3) := by decide +kernel
theorem dX0_copyFrom_16 : decode cX0_copyFrom 16 = .ok (.iconst 0, 1) := by decide +kernel
theorem dX0_copyFrom_17 : decode cX0_copyFrom 17 = .ok (.istore_n 2, 1) := by decide +kernel
theorem dX0_copyFrom_18 : decode cX0_copyFrom 18 = .ok (.iload_n 2, 1) := by decide +kernel
theorem dX0_copyFrom_19 : decode cX0_copyFrom 19 = .ok (.bipush 20, 2) := by decide +kernel
theorem dX0_copyFrom_21 : decode cX0_copyFrom 21 = .ok (.if_icmp .ge 33, 3) := by decide +kernel
theorem dX0_copyFrom_24 : decode cX0_copyFrom 24 = .ok (.aload_n 0, 1) := by decide +kernel
theorem dX0_copyFrom_25 : decode cX0_copyFrom 25 = .ok (.getfield 9, 3) := by decide +kernel
theorem dX0_copyFrom_28 : decode cX0_copyFrom 28 = .ok (.iload_n 2, 1) := by decide +kernel
theorem dX0_copyFrom_29 : decode cX0_copyFrom 29 = .ok (.aload_n 1, 1) := by decide +kernel
theorem dX0_copyFrom_30 : decode cX0_copyFrom 30 = .ok (.getfield 9, 3) := by decide +kernel
theorem dX0_copyFrom_33 : decode cX0_copyFrom 33 = .ok (.iload_n 2, 1) := by decide +kernel
theorem dX0_copyFrom_34 : decode cX0_copyFrom 34 = .ok (.iaload, 1) := by decide +kernel
theorem dX0_copyFrom_35 : decode cX0_copyFrom 35 = .ok (.iastore, 1) := by decide +kernel
theorem dX0_copyFrom_36 : decode cX0_copyFrom 36 = .ok (.aload_n 0, 1) := by decide +kernel
theorem dX0_copyFrom_37 : decode cX0_copyFrom 37 = .ok (.getfield 15, 3) := by decide +kernel
theorem dX0_copyFrom_40 : decode cX0_copyFrom 40 = .ok (.iload_n 2, 1) := by decide +kernel
theorem dX0_copyFrom_41 : decode cX0_copyFrom 41 = .ok (.aload_n 1, 1) := by decide +kernel
theorem dX0_copyFrom_42 : decode cX0_copyFrom 42 = .ok (.getfield 15, 3) := by decide +kernel
theorem dX0_copyFrom_45 : decode cX0_copyFrom 45 = .ok (.iload_n 2, 1) := by decide +kernel
theorem dX0_copyFrom_46 : decode cX0_copyFrom 46 = .ok (.iaload, 1) := by decide +kernel
theorem dX0_copyFrom_47 : decode cX0_copyFrom 47 = .ok (.iastore, 1) := by decide +kernel
theorem dX0_copyFrom_48 : decode cX0_copyFrom 48 = .ok (.iinc 2 1, 3) := by decide +kernel
theorem dX0_copyFrom_51 : decode cX0_copyFrom 51 = .ok (.goto (-33), 3) := by decide +kernel
theorem dX0_copyFrom_54 : decode cX0_copyFrom 54 = .ok (.return_, 1) := by decide +kernel
theorem dX0_has_0 : decode cX0_has 0 = .ok (.iload_n 1, 1) := by decide +kernel
theorem dX0_has_1 : decode cX0_has 1 = .ok (.ifCond .lt 15, 3) := by decide +kernel
theorem dX0_has_4 : decode cX0_has 4 = .ok (.iload_n 1, 1) := by decide +kernel
theorem dX0_has_5 : decode cX0_has 5 = .ok (.aload_n 0, 1) := by decide +kernel
theorem dX0_has_6 : decode cX0_has 6 = .ok (.getfield 31, 3) := by decide +kernel
theorem dX0_has_9 : decode cX0_has 9 = .ok (.if_icmp .ge 7, 3) := by decide +kernel
theorem dX0_has_12 : decode cX0_has 12 = .ok (.iconst 1, 1) := by decide +kernel
theorem dX0_has_13 : decode cX0_has 13 = .ok (.goto 4, 3) := by decide +kernel
theorem dX0_has_16 : decode cX0_has 16 = .ok (.iconst 0, 1) := by decide +kernel
theorem dX0_has_17 : decode cX0_has 17 = .ok (.ireturn, 1) := by decide +kernel
theorem dX0_slotOf_0 : decode cX0_slotOf 0 = .ok (.aload_n 0, 1) := by decide +kernel
theorem dX0_slotOf_1 : decode cX0_slotOf 1 = .ok (.iload_n 1, 1) := by decide +kernel
theorem dX0_slotOf_2 : decode cX0_slotOf 2 = .ok (.invokevirtual 38, 3) := by decide +kernel
theorem dX0_slotOf_5 : decode cX0_slotOf 5 = .ok (.ifCond .ne 5, 3) := by decide +kernel
theorem dX0_slotOf_8 : decode cX0_slotOf 8 = .ok (.iconst (-1), 1) := by decide +kernel
theorem dX0_slotOf_9 : decode cX0_slotOf 9 = .ok (.ireturn, 1) := by decide +kernel
theorem dX0_slotOf_10 : decode cX0_slotOf 10 = .ok (.aload_n 0, 1) := by decide +kernel
theorem dX0_slotOf_11 : decode cX0_slotOf 11 = .ok (.getfield 35, 3) := by decide +kernel
theorem dX0_slotOf_14 : decode cX0_slotOf 14 = .ok (.iload_n 1, 1) := by decide +kernel
theorem dX0_slotOf_15 : decode cX0_slotOf 15 = .ok (.iadd, 1) := by decide +kernel
theorem dX0_slotOf_16 : decode cX0_slotOf 16 = .ok (.istore_n 2, 1) := by decide +kernel
theorem dX0_slotOf_17 : decode cX0_slotOf 17 = .ok (.iload_n 2, 1) := by decide +kernel
theorem dX0_slotOf_18 : decode cX0_slotOf 18 = .ok (.aload_n 0, 1) := by decide +kernel
theorem dX0_slotOf_19 : decode cX0_slotOf 19 = .ok (.getfield 31, 3) := by decide +kernel
theorem dX0_slotOf_22 : decode cX0_slotOf 22 = .ok (.if_icmp .lt 10, 3) := by decide +kernel
theorem dX0_slotOf_25 : decode cX0_slotOf 25 = .ok (.iload_n 2, 1) := by decide +kernel
theorem dX0_slotOf_26 : decode cX0_slotOf 26 = .ok (.aload_n 0, 1) := by decide +kernel
theorem dX0_slotOf_27 : decode cX0_slotOf 27 = .ok (.getfield 31, 3) := by decide +kernel
theorem dX0_slotOf_30 : decode cX0_slotOf 30 = .ok (.isub, 1) := by decide +kernel
theorem dX0_slotOf_31 : decode cX0_slotOf 31 = .ok (.istore_n 2, 1) := by decide +kernel
theorem dX0_slotOf_32 : decode cX0_slotOf 32 = .ok (.iload_n 2, 1) := by decide +kernel
theorem dX0_slotOf_33 : decode cX0_slotOf 33 = .ok (.bipush 20, 2) := by decide +kernel
theorem dX0_slotOf_35 : decode cX0_slotOf 35 = .ok (.if_icmp .ge 7, 3) := by decide +kernel
theorem dX0_slotOf_38 : decode cX0_slotOf 38 = .ok (.iload_n 2, 1) := by decide +kernel
theorem dX0_slotOf_39 : decode cX0_slotOf 39 = .ok (.goto 4, 3) := by decide +kernel
theorem dX0_slotOf_42 : decode cX0_slotOf 42 = .ok (.iconst (-1), 1) := by decide +kernel
theorem dX0_slotOf_43 : decode cX0_slotOf 43 = .ok (.ireturn, 1) := by decide +kernel
theorem dX0_move_0 : decode cX0_move 0 = .ok (.aload_n 0, 1) := by decide +kernel
theorem dX0_move_1 : decode cX0_move 1 = .ok (.aload_n 0, 1) := by decide +kernel
theorem dX0_move_2 : decode cX0_move 2 = .ok (.getfield 35, 3) := by decide +kernel
theorem dX0_move_5 : decode cX0_move 5 = .ok (.ifCond .le 12, 3) := by decide +kernel
theorem dX0_move_8 : decode cX0_move 8 = .ok (.aload_n 0, 1) := by decide +kernel
theorem dX0_move_9 : decode cX0_move 9 = .ok (.getfield 35, 3) := by decide +kernel
theorem dX0_move_12 : decode cX0_move 12 = .ok (.iconst 1, 1) := by decide +kernel
theorem dX0_move_13 : decode cX0_move 13 = .ok (.isub, 1) := by decide +kernel
theorem dX0_move_14 : decode cX0_move 14 = .ok (.goto 9, 3) := by decide +kernel
theorem dX0_move_17 : decode cX0_move 17 = .ok (.aload_n 0, 1) := by decide +kernel
theorem dX0_move_18 : decode cX0_move 18 = .ok (.getfield 31, 3) := by decide +kernel
theorem dX0_move_21 : decode cX0_move 21 = .ok (.iconst 1, 1) := by decide +kernel
theorem dX0_move_22 : decode cX0_move 22 = .ok (.isub, 1) := by decide +kernel
theorem dX0_move_23 : decode cX0_move 23 = .ok (.putfield 35, 3) := by decide +kernel
theorem dX0_move_26 : decode cX0_move 26 = .ok (.aload_n 0, 1) := by decide +kernel
theorem dX0_move_27 : decode cX0_move 27 = .ok (.iconst 0, 1) := by decide +kernel
theorem dX0_move_28 : decode cX0_move 28 = .ok (.invokevirtual 42, 3) := by decide +kernel
theorem dX0_move_31 : decode cX0_move 31 = .ok (.istore_n 1, 1) := by decide +kernel
theorem dX0_move_32 : decode cX0_move 32 = .ok (.iload_n 1, 1) := by decide +kernel
theorem dX0_move_33 : decode cX0_move 33 = .ok (.ifCond .lt 23, 3) := by decide +kernel
theorem dX0_move_36 : decode cX0_move 36 = .ok (.aload_n 0, 1) := by decide +kernel
theorem dX0_move_37 : decode cX0_move 37 = .ok (.getfield 9, 3) := by decide +kernel
theorem dX0_move_40 : decode cX0_move 40 = .ok (.iload_n 1, 1) := by decide +kernel
theorem dX0_move_41 : decode cX0_move 41 = .ok (.iaload, 1) := by decide +kernel
theorem dX0_move_42 : decode cX0_move 42 = .ok (.iconst (-1), 1) := by decide +kernel
theorem dX0_move_43 : decode cX0_move 43 = .ok (.if_icmp .eq 13, 3) := by decide +kernel
theorem dX0_move_46 : decode cX0_move 46 = .ok (.aload_n 0, 1) := by decide +kernel
theorem dX0_move_47 : decode cX0_move 47 = .ok (.getfield 15, 3) := by decide +kernel
theorem dX0_move_50 : decode cX0_move 50 = .ok (.iload_n 1, 1) := by decide +kernel
theorem dX0_move_51 : decode cX0_move 51 = .ok (.dup2, 1) := by decide +kernel
theorem dX0_move_52 : decode cX0_move 52 = .ok (.iaload, 1) := by decide +kernel
theorem dX0_move_53 : decode cX0_move 53 = .ok (.iconst 1, 1) := by decide +kernel
theorem dX0_move_54 : decode cX0_move 54 = .ok (.iadd, 1) := by decide +kernel
theorem dX0_move_55 : decode cX0_move 55 = .ok (.iastore, 1) := by decide +kernel
theorem dX0_move_56 : decode cX0_move 56 = .ok (.return_, 1) := by decide +kernel
theorem dX0_parcelAt_0 : decode cX0_parcelAt 0 = .ok (.aload_n 0, 1) := by decide +kernel
theorem dX0_parcelAt_1 : decode cX0_parcelAt 1 = .ok (.iload_n 1, 1) := by decide +kernel
theorem dX0_parcelAt_2 : decode cX0_parcelAt 2 = .ok (.invokevirtual 42, 3) := by decide +kernel
theorem dX0_parcelAt_5 : decode cX0_parcelAt 5 = .ok (.istore_n 2, 1) := by decide +kernel
theorem dX0_parcelAt_6 : decode cX0_parcelAt 6 = .ok (.iload_n 2, 1) := by decide +kernel
theorem dX0_parcelAt_7 : decode cX0_parcelAt 7 = .ok (.ifCond .lt 12, 3) := by decide +kernel
theorem dX0_parcelAt_10 : decode cX0_parcelAt 10 = .ok (.aload_n 0, 1) := by decide +kernel
theorem dX0_parcelAt_11 : decode cX0_parcelAt 11 = .ok (.getfield 9, 3) := by decide +kernel
theorem dX0_parcelAt_14 : decode cX0_parcelAt 14 = .ok (.iload_n 2, 1) := by decide +kernel
theorem dX0_parcelAt_15 : decode cX0_parcelAt 15 = .ok (.iaload, 1) := by decide +kernel
theorem dX0_parcelAt_16 : decode cX0_parcelAt 16 = .ok (.goto 4, 3) := by decide +kernel
theorem dX0_parcelAt_19 : decode cX0_parcelAt 19 = .ok (.iconst (-1), 1) := by decide +kernel
theorem dX0_parcelAt_20 : decode cX0_parcelAt 20 = .ok (.ireturn, 1) := by decide +kernel
theorem dX0_roundsAt_0 : decode cX0_roundsAt 0 = .ok (.aload_n 0, 1) := by decide +kernel
theorem dX0_roundsAt_1 : decode cX0_roundsAt 1 = .ok (.iload_n 1, 1) := by decide +kernel
theorem dX0_roundsAt_2 : decode cX0_roundsAt 2 = .ok (.invokevirtual 42, 3) := by decide +kernel
theorem dX0_roundsAt_5 : decode cX0_roundsAt 5 = .ok (.istore_n 2, 1) := by decide +kernel
theorem dX0_roundsAt_6 : decode cX0_roundsAt 6 = .ok (.iload_n 2, 1) := by decide +kernel
theorem dX0_roundsAt_7 : decode cX0_roundsAt 7 = .ok (.ifCond .lt 12, 3) := by decide +kernel
theorem dX0_roundsAt_10 : decode cX0_roundsAt 10 = .ok (.aload_n 0, 1) := by decide +kernel
theorem dX0_roundsAt_11 : decode cX0_roundsAt 11 = .ok (.getfield 15, 3) := by decide +kernel
theorem dX0_roundsAt_14 : decode cX0_roundsAt 14 = .ok (.iload_n 2, 1) := by decide +kernel
theorem dX0_roundsAt_15 : decode cX0_roundsAt 15 = .ok (.iaload, 1) := by decide +kernel
theorem dX0_roundsAt_16 : decode cX0_roundsAt 16 = .ok (.goto 4, 3) := by decide +kernel
theorem dX0_roundsAt_19 : decode cX0_roundsAt 19 = .ok (.iconst 0, 1) := by decide +kernel
theorem dX0_roundsAt_20 : decode cX0_roundsAt 20 = .ok (.ireturn, 1) := by decide +kernel
theorem dX0_positionWith_0 : decode cX0_positionWith 0 = .ok (.iconst 0, 1) := by decide +kernel
theorem dX0_positionWith_1 : decode cX0_positionWith 1 = .ok (.istore_n 2, 1) := by decide +kernel
theorem dX0_positionWith_2 : decode cX0_positionWith 2 = .ok (.iload_n 2, 1) := by decide +kernel
theorem dX0_positionWith_3 : decode cX0_positionWith 3 = .ok (.aload_n 0, 1) := by decide +kernel
theorem dX0_positionWith_4 : decode cX0_positionWith 4 = .ok (.getfield 31, 3) := by decide +kernel
theorem dX0_positionWith_7 : decode cX0_positionWith 7 = .ok (.if_icmp .ge 20, 3) := by decide +kernel
theorem dX0_positionWith_10 : decode cX0_positionWith 10 = .ok (.aload_n 0, 1) := by decide +kernel
theorem dX0_positionWith_11 : decode cX0_positionWith 11 = .ok (.iload_n 2, 1) := by decide +kernel
theorem dX0_positionWith_12 : decode cX0_positionWith 12 = .ok (.invokevirtual 46, 3) := by decide +kernel
theorem dX0_positionWith_15 : decode cX0_positionWith 15 = .ok (.iload_n 1, 1) := by decide +kernel
theorem dX0_positionWith_16 : decode cX0_positionWith 16 = .ok (.if_icmp .ne 5, 3) := by decide +kernel
theorem dX0_positionWith_19 : decode cX0_positionWith 19 = .ok (.iload_n 2, 1) := by decide +kernel
theorem dX0_positionWith_20 : decode cX0_positionWith 20 = .ok (.ireturn, 1) := by decide +kernel
theorem dX0_positionWith_21 : decode cX0_positionWith 21 = .ok (.iinc 2 1, 3) := by decide +kernel
theorem dX0_positionWith_24 : decode cX0_positionWith 24 = .ok (.goto (-22), 3) := by decide +kernel
theorem dX0_positionWith_27 : decode cX0_positionWith 27 = .ok (.iconst (-1), 1) := by decide +kernel
theorem dX0_positionWith_28 : decode cX0_positionWith 28 = .ok (.ireturn, 1) := by decide +kernel
theorem dX0_put_0 : decode cX0_put 0 = .ok (.aload_n 0, 1) := by decide +kernel
theorem dX0_put_1 : decode cX0_put 1 = .ok (.iload_n 1, 1) := by decide +kernel
theorem dX0_put_2 : decode cX0_put 2 = .ok (.invokevirtual 42, 3) := by decide +kernel
theorem dX0_put_5 : decode cX0_put 5 = .ok (.istore_n 3, 1) := by decide +kernel
theorem dX0_put_6 : decode cX0_put 6 = .ok (.iload_n 3, 1) := by decide +kernel
theorem dX0_put_7 : decode cX0_put 7 = .ok (.ifCond .lt 17, 3) := by decide +kernel
theorem dX0_put_10 : decode cX0_put 10 = .ok (.aload_n 0, 1) := by decide +kernel
theorem dX0_put_11 : decode cX0_put 11 = .ok (.getfield 9, 3) := by decide +kernel
theorem dX0_put_14 : decode cX0_put 14 = .ok (.iload_n 3, 1) := by decide +kernel
theorem dX0_put_15 : decode cX0_put 15 = .ok (.iload_n 2, 1) := by decide +kernel
theorem dX0_put_16 : decode cX0_put 16 = .ok (.iastore, 1) := by decide +kernel
theorem dX0_put_17 : decode cX0_put 17 = .ok (.aload_n 0, 1) := by decide +kernel
theorem dX0_put_18 : decode cX0_put 18 = .ok (.getfield 15, 3) := by decide +kernel
theorem dX0_put_21 : decode cX0_put 21 = .ok (.iload_n 3, 1) := by decide +kernel
theorem dX0_put_22 : decode cX0_put 22 = .ok (.iconst 0, 1) := by decide +kernel
theorem dX0_put_23 : decode cX0_put 23 = .ok (.iastore, 1) := by decide +kernel
theorem dX0_put_24 : decode cX0_put 24 = .ok (.return_, 1) := by decide +kernel
theorem dX0_takeFrom_0 : decode cX0_takeFrom 0 = .ok (.aload_n 0, 1) := by decide +kernel
theorem dX0_takeFrom_1 : decode cX0_takeFrom 1 = .ok (.iload_n 1, 1) := by decide +kernel
theorem dX0_takeFrom_2 : decode cX0_takeFrom 2 = .ok (.iconst (-1), 1) := by decide +kernel
theorem dX0_takeFrom_3 : decode cX0_takeFrom 3 = .ok (.invokevirtual 49, 3) := by decide +kernel
theorem dX0_takeFrom_6 : decode cX0_takeFrom 6 = .ok (.return_, 1) := by decide +kernel
theorem dX1_init_0 : decode cX1_init 0 = .ok (.aload_n 0, 1) := by decide +kernel
theorem dX1_init_1 : decode cX1_init 1 = .ok (.invokespecial 3, 3) := by decide +kernel
theorem dX1_init_4 : decode cX1_init 4 = .ok (.aload_n 0, 1) := by decide +kernel
theorem dX1_init_5 : decode cX1_init 5 = .ok (.iload_n 1, 1) := by decide +kernel
theorem dX1_init_6 : decode cX1_init 6 = .ok (.putfield 9, 3) := by decide +kernel
theorem dX1_init_9 : decode cX1_init 9 = .ok (.aload_n 0, 1) := by decide +kernel
theorem dX1_init_10 : decode cX1_init 10 = .ok (.iload_n 2, 1) := by decide +kernel
theorem dX1_init_11 : decode cX1_init 11 = .ok (.putfield 15, 3) := by decide +kernel
theorem dX1_init_14 : decode cX1_init 14 = .ok (.aload_n 0, 1) := by decide +kernel
theorem dX1_init_15 : decode cX1_init 15 = .ok (.new 18, 3) := by decide +kernel
theorem dX1_init_18 : decode cX1_init 18 = .ok (.dup, 1) := by decide +kernel
theorem dX1_init_19 : decode cX1_init 19 = .ok (.bipush 30, 2) := by decide +kernel
theorem dX1_init_21 : decode cX1_init 21 = .ok (.invokespecial 20, 3) := by decide +kernel
theorem dX1_init_24 : decode cX1_init 24 = .ok (.putfield 23, 3) := by decide +kernel
theorem dX1_init_27 : decode cX1_init 27 = .ok (.return_, 1) := by decide +kernel
theorem dX1_drop_0 : decode cX1_drop 0 = .ok (.aload_n 0, 1) := by decide +kernel
theorem dX1_drop_1 : decode cX1_drop 1 = .ok (.getfield 23, 3) := by decide +kernel
theorem dX1_drop_4 : decode cX1_drop 4 = .ok (.iload_n 1, 1) := by decide +kernel
theorem dX1_drop_5 : decode cX1_drop 5 = .ok (.invokevirtual 27, 3) := by decide +kernel
theorem dX1_drop_8 : decode cX1_drop 8 = .ok (.aload_n 0, 1) := by decide +kernel
theorem dX1_drop_9 : decode cX1_drop 9 = .ok (.aload_n 0, 1) := by decide +kernel
theorem dX1_drop_10 : decode cX1_drop 10 = .ok (.getfield 30, 3) := by decide +kernel
theorem dX1_drop_13 : decode cX1_drop 13 = .ok (.iload_n 1, 1) := by decide +kernel
theorem dX1_drop_14 : decode cX1_drop 14 = .ok (.iadd, 1) := by decide +kernel
theorem dX1_drop_15 : decode cX1_drop 15 = .ok (.iconst 1, 1) := by decide +kernel
theorem dX1_drop_16 : decode cX1_drop 16 = .ok (.iadd, 1) := by decide +kernel
theorem dX1_drop_17 : decode cX1_drop 17 = .ok (.sipush 9973, 3) := by decide +kernel
theorem dX1_drop_20 : decode cX1_drop 20 = .ok (.irem, 1) := by decide +kernel
theorem dX1_drop_21 : decode cX1_drop 21 = .ok (.putfield 30, 3) := by decide +kernel
theorem dX1_drop_24 : decode cX1_drop 24 = .ok (.aload_n 0, 1) := by decide +kernel
theorem dX1_drop_25 : decode cX1_drop 25 = .ok (.aload_n 0, 1) := by decide +kernel
theorem dX1_drop_26 : decode cX1_drop 26 = .ok (.getfield 33, 3) := by decide +kernel
theorem dX1_drop_29 : decode cX1_drop 29 = .ok (.aload_n 0, 1) := by decide +kernel
theorem dX1_drop_30 : decode cX1_drop 30 = .ok (.getfield 30, 3) := by decide +kernel
theorem dX1_drop_33 : decode cX1_drop 33 = .ok (.iadd, 1) := by decide +kernel
theorem dX1_drop_34 : decode cX1_drop 34 = .ok (.sipush 9973, 3) := by decide +kernel
theorem dX1_drop_37 : decode cX1_drop 37 = .ok (.irem, 1) := by decide +kernel
theorem dX1_drop_38 : decode cX1_drop 38 = .ok (.putfield 33, 3) := by decide +kernel
theorem dX1_drop_41 : decode cX1_drop 41 = .ok (.return_, 1) := by decide +kernel
theorem dX1_clear_0 : decode cX1_clear 0 = .ok (.aload_n 0, 1) := by decide +kernel
theorem dX1_clear_1 : decode cX1_clear 1 = .ok (.getfield 23, 3) := by decide +kernel
theorem dX1_clear_4 : decode cX1_clear 4 = .ok (.iconst 0, 1) := by decide +kernel
theorem dX1_clear_5 : decode cX1_clear 5 = .ok (.putfield 36, 3) := by decide +kernel
theorem dX1_clear_8 : decode cX1_clear 8 = .ok (.aload_n 0, 1) := by decide +kernel
theorem dX1_clear_9 : decode cX1_clear 9 = .ok (.iconst 0, 1) := by decide +kernel
theorem dX1_clear_10 : decode cX1_clear 10 = .ok (.putfield 30, 3) := by decide +kernel
theorem dX1_clear_13 : decode cX1_clear 13 = .ok (.aload_n 0, 1) := by decide +kernel
theorem dX1_clear_14 : decode cX1_clear 14 = .ok (.iconst 0, 1) := by decide +kernel
theorem dX1_clear_15 : decode cX1_clear 15 = .ok (.putfield 33, 3) := by decide +kernel
theorem dX1_clear_18 : decode cX1_clear 18 = .ok (.return_, 1) := by decide +kernel
theorem dX1_keptSeal_0 : decode cX1_keptSeal 0 = .ok (.sipush 10000, 3) := by decide +kernel
theorem dX1_keptSeal_3 : decode cX1_keptSeal 3 = .ok (.aload_n 0, 1) := by decide +kernel
theorem dX1_keptSeal_4 : decode cX1_keptSeal 4 = .ok (.getfield 33, 3) := by decide +kernel
theorem dX1_keptSeal_7 : decode cX1_keptSeal 7 = .ok (.imul, 1) := by decide +kernel
theorem dX1_keptSeal_8 : decode cX1_keptSeal 8 = .ok (.aload_n 0, 1) := by decide +kernel
theorem dX1_keptSeal_9 : decode cX1_keptSeal 9 = .ok (.getfield 30, 3) := by decide +kernel
theorem dX1_keptSeal_12 : decode cX1_keptSeal 12 = .ok (.iadd, 1) := by decide +kernel
theorem dX1_keptSeal_13 : decode cX1_keptSeal 13 = .ok (.ireturn, 1) := by decide +kernel
theorem dX1_sealOfContent_0 : decode cX1_sealOfContent 0 = .ok (.aload_n 0, 1) := by decide +kernel
theorem dX1_sealOfContent_1 : decode cX1_sealOfContent 1 = .ok (.getfield 23, 3) := by decide +kernel
theorem dX1_sealOfContent_4 : decode cX1_sealOfContent 4 = .ok (.iconst 0, 1) := by decide +kernel
theorem dX1_sealOfContent_5 : decode cX1_sealOfContent 5 = .ok (.aload_n 0, 1) := by decide +kernel
theorem dX1_sealOfContent_6 : decode cX1_sealOfContent 6 = .ok (.getfield 23, 3) := by decide +kernel
theorem dX1_sealOfContent_9 : decode cX1_sealOfContent 9 = .ok (.getfield 36, 3) := by decide +kernel
theorem dX1_sealOfContent_12 : decode cX1_sealOfContent 12 = .ok (.invokevirtual 39, 3) := by decide +kernel
theorem dX1_sealOfContent_15 : decode cX1_sealOfContent 15 = .ok (.ireturn, 1) := by decide +kernel
theorem dX2_init_0 : decode cX2_init 0 = .ok (.aload_n 0, 1) := by decide +kernel
theorem dX2_init_1 : decode cX2_init 1 = .ok (.invokespecial 3, 3) := by decide +kernel
theorem dX2_init_4 : decode cX2_init 4 = .ok (.aload_n 0, 1) := by decide +kernel
theorem dX2_init_5 : decode cX2_init 5 = .ok (.new 9, 3) := by decide +kernel
theorem dX2_init_8 : decode cX2_init 8 = .ok (.dup, 1) := by decide +kernel
theorem dX2_init_9 : decode cX2_init 9 = .ok (.sipush 300, 3) := by decide +kernel
theorem dX2_init_12 : decode cX2_init 12 = .ok (.invokespecial 11, 3) := by decide +kernel
theorem dX2_init_15 : decode cX2_init 15 = .ok (.putfield 14, 3) := by decide +kernel
theorem dX2_init_18 : decode cX2_init 18 = .ok (.aload_n 0, 1) := by decide +kernel
theorem dX2_init_19 : decode cX2_init 19 = .ok (.sipush 300, 3) := by decide +kernel
theorem dX2_init_22 : decode cX2_init 22 = .ok (.newarray .int, 2) := by decide +kernel
theorem dX2_init_24 : decode cX2_init 24 = .ok (.putfield 20, 3) := by decide +kernel
theorem dX2_init_27 : decode cX2_init 27 = .ok (.return_, 1) := by decide +kernel
theorem dX2_has_0 : decode cX2_has 0 = .ok (.iload_n 1, 1) := by decide +kernel
theorem dX2_has_1 : decode cX2_has 1 = .ok (.ifCond .lt 22, 3) := by decide +kernel
theorem dX2_has_4 : decode cX2_has 4 = .ok (.iload_n 1, 1) := by decide +kernel
theorem dX2_has_5 : decode cX2_has 5 = .ok (.aload_n 0, 1) := by decide +kernel
theorem dX2_has_6 : decode cX2_has 6 = .ok (.getfield 24, 3) := by decide +kernel
theorem dX2_has_9 : decode cX2_has 9 = .ok (.if_icmp .ge 14, 3) := by decide +kernel
theorem dX2_has_12 : decode cX2_has 12 = .ok (.iload_n 1, 1) := by decide +kernel
theorem dX2_has_13 : decode cX2_has 13 = .ok (.sipush 300, 3) := by decide +kernel
theorem dX2_has_16 : decode cX2_has 16 = .ok (.if_icmp .ge 7, 3) := by decide +kernel
theorem dX2_has_19 : decode cX2_has 19 = .ok (.iconst 1, 1) := by decide +kernel
theorem dX2_has_20 : decode cX2_has 20 = .ok (.goto 4, 3) := by decide +kernel
theorem dX2_has_23 : decode cX2_has 23 = .ok (.iconst 0, 1) := by decide +kernel
theorem dX2_has_24 : decode cX2_has 24 = .ok (.ireturn, 1) := by decide +kernel
theorem dX2_take_0 : decode cX2_take 0 = .ok (.aload_n 0, 1) := by decide +kernel
theorem dX2_take_1 : decode cX2_take 1 = .ok (.getfield 24, 3) := by decide +kernel
theorem dX2_take_4 : decode cX2_take 4 = .ok (.istore_n 2, 1) := by decide +kernel
theorem dX2_take_5 : decode cX2_take 5 = .ok (.iload_n 2, 1) := by decide +kernel
theorem dX2_take_6 : decode cX2_take 6 = .ok (.ifCond .lt 10, 3) := by decide +kernel
theorem dX2_take_9 : decode cX2_take 9 = .ok (.iload_n 2, 1) := by decide +kernel
theorem dX2_take_10 : decode cX2_take 10 = .ok (.sipush 300, 3) := by decide +kernel
theorem dX2_take_13 : decode cX2_take 13 = .ok (.if_icmp .lt 5, 3) := by decide +kernel
theorem dX2_take_16 : decode cX2_take 16 = .ok (.iconst (-1), 1) := by decide +kernel
theorem dX2_take_17 : decode cX2_take 17 = .ok (.ireturn, 1) := by decide +kernel
theorem dX2_take_18 : decode cX2_take 18 = .ok (.aload_n 0, 1) := by decide +kernel
theorem dX2_take_19 : decode cX2_take 19 = .ok (.getfield 20, 3) := by decide +kernel
theorem dX2_take_22 : decode cX2_take 22 = .ok (.iload_n 2, 1) := by decide +kernel
theorem dX2_take_23 : decode cX2_take 23 = .ok (.aload_n 0, 1) := by decide +kernel
theorem dX2_take_24 : decode cX2_take 24 = .ok (.getfield 14, 3) := by decide +kernel
theorem dX2_take_27 : decode cX2_take 27 = .ok (.getfield 28, 3) := by decide +kernel
theorem dX2_take_30 : decode cX2_take 30 = .ok (.iastore, 1) := by decide +kernel
theorem dX2_take_31 : decode cX2_take 31 = .ok (.iconst 0, 1) := by decide +kernel
theorem dX2_take_32 : decode cX2_take 32 = .ok (.istore_n 3, 1) := by decide +kernel
theorem dX2_take_33 : decode cX2_take 33 = .ok (.iload_n 3, 1) := by decide +kernel
theorem dX2_take_34 : decode cX2_take 34 = .ok (.aload_n 1, 1) := by decide +kernel
theorem dX2_take_35 : decode cX2_take 35 = .ok (.getfield 28, 3) := by decide +kernel
theorem dX2_take_38 : decode cX2_take 38 = .ok (.if_icmp .ge 21, 3) := by decide +kernel
theorem dX2_take_41 : decode cX2_take 41 = .ok (.aload_n 0, 1) := by decide +kernel
theorem dX2_take_42 : decode cX2_take 42 = .ok (.getfield 14, 3) := by decide +kernel
theorem dX2_take_45 : decode cX2_take 45 = .ok (.aload_n 1, 1) := by decide +kernel
theorem dX2_take_46 : decode cX2_take 46 = .ok (.iload_n 3, 1) := by decide +kernel
theorem dX2_take_47 : decode cX2_take 47 = .ok (.invokevirtual 29, 3) := by decide +kernel
theorem dX2_take_50 : decode cX2_take 50 = .ok (.invokevirtual 33, 3) := by decide +kernel
theorem dX2_take_53 : decode cX2_take 53 = .ok (.iinc 3 1, 3) := by decide +kernel
theorem dX2_take_56 : decode cX2_take 56 = .ok (.goto (-23), 3) := by decide +kernel
theorem dX2_take_59 : decode cX2_take 59 = .ok (.aload_n 0, 1) := by decide +kernel
theorem dX2_take_60 : decode cX2_take 60 = .ok (.dup, 1) := by decide +kernel
theorem dX2_take_61 : decode cX2_take 61 = .ok (.getfield 24, 3) := by decide +kernel
theorem dX2_take_64 : decode cX2_take 64 = .ok (.iconst 1, 1) := by decide +kernel
theorem dX2_take_65 : decode cX2_take 65 = .ok (.iadd, 1) := by decide +kernel
theorem dX2_take_66 : decode cX2_take 66 = .ok (.putfield 24, 3) := by decide +kernel
theorem dX2_take_69 : decode cX2_take 69 = .ok (.iload_n 2, 1) := by decide +kernel
theorem dX2_take_70 : decode cX2_take 70 = .ok (.ireturn, 1) := by decide +kernel
theorem dX2_startOf_0 : decode cX2_startOf 0 = .ok (.aload_n 0, 1) := by decide +kernel
theorem dX2_startOf_1 : decode cX2_startOf 1 = .ok (.iload_n 1, 1) := by decide +kernel
theorem dX2_startOf_2 : decode cX2_startOf 2 = .ok (.invokevirtual 36, 3) := by decide +kernel
theorem dX2_startOf_5 : decode cX2_startOf 5 = .ok (.ifCond .eq 12, 3) := by decide +kernel
theorem dX2_startOf_8 : decode cX2_startOf 8 = .ok (.aload_n 0, 1) := by decide +kernel
theorem dX2_startOf_9 : decode cX2_startOf 9 = .ok (.getfield 20, 3) := by decide +kernel
theorem dX2_startOf_12 : decode cX2_startOf 12 = .ok (.iload_n 1, 1) := by decide +kernel
theorem dX2_startOf_13 : decode cX2_startOf 13 = .ok (.iaload, 1) := by decide +kernel
theorem dX2_startOf_14 : decode cX2_startOf 14 = .ok (.goto 10, 3) := by decide +kernel
theorem dX2_startOf_17 : decode cX2_startOf 17 = .ok (.aload_n 0, 1) := by decide +kernel
theorem dX2_startOf_18 : decode cX2_startOf 18 = .ok (.getfield 14, 3) := by decide +kernel
theorem dX2_startOf_21 : decode cX2_startOf 21 = .ok (.getfield 28, 3) := by decide +kernel
theorem dX2_startOf_24 : decode cX2_startOf 24 = .ok (.ireturn, 1) := by decide +kernel
theorem dX2_sizeOf_0 : decode cX2_sizeOf 0 = .ok (.aload_n 0, 1) := by decide +kernel
theorem dX2_sizeOf_1 : decode cX2_sizeOf 1 = .ok (.iload_n 1, 1) := by decide +kernel
theorem dX2_sizeOf_2 : decode cX2_sizeOf 2 = .ok (.invokevirtual 36, 3) := by decide +kernel
theorem dX2_sizeOf_5 : decode cX2_sizeOf 5 = .ok (.ifCond .eq 19, 3) := by decide +kernel
theorem dX2_sizeOf_8 : decode cX2_sizeOf 8 = .ok (.aload_n 0, 1) := by decide +kernel
theorem dX2_sizeOf_9 : decode cX2_sizeOf 9 = .ok (.iload_n 1, 1) := by decide +kernel
theorem dX2_sizeOf_10 : decode cX2_sizeOf 10 = .ok (.iconst 1, 1) := by decide +kernel
theorem dX2_sizeOf_11 : decode cX2_sizeOf 11 = .ok (.iadd, 1) := by decide +kernel
theorem dX2_sizeOf_12 : decode cX2_sizeOf 12 = .ok (.invokevirtual 40, 3) := by decide +kernel
theorem dX2_sizeOf_15 : decode cX2_sizeOf 15 = .ok (.aload_n 0, 1) := by decide +kernel
theorem dX2_sizeOf_16 : decode cX2_sizeOf 16 = .ok (.iload_n 1, 1) := by decide +kernel
theorem dX2_sizeOf_17 : decode cX2_sizeOf 17 = .ok (.invokevirtual 40, 3) := by decide +kernel
theorem dX2_sizeOf_20 : decode cX2_sizeOf 20 = .ok (.isub, 1) := by decide +kernel
theorem dX2_sizeOf_21 : decode cX2_sizeOf 21 = .ok (.goto 4, 3) := by decide +kernel
theorem dX2_sizeOf_24 : decode cX2_sizeOf 24 = .ok (.iconst 0, 1) := by decide +kernel
theorem dX2_sizeOf_25 : decode cX2_sizeOf 25 = .ok (.ireturn, 1) := by decide +kernel
theorem dX2_parcelAt_0 : decode cX2_parcelAt 0 = .ok (.aload_n 0, 1) := by decide +kernel
theorem dX2_parcelAt_1 : decode cX2_parcelAt 1 = .ok (.getfield 14, 3) := by decide +kernel
theorem dX2_parcelAt_4 : decode cX2_parcelAt 4 = .ok (.aload_n 0, 1) := by decide +kernel
theorem dX2_parcelAt_5 : decode cX2_parcelAt 5 = .ok (.iload_n 1, 1) := by decide +kernel
theorem dX2_parcelAt_6 : decode cX2_parcelAt 6 = .ok (.invokevirtual 40, 3) := by decide +kernel
theorem dX2_parcelAt_9 : decode cX2_parcelAt 9 = .ok (.iload_n 2, 1) := by decide +kernel
theorem dX2_parcelAt_10 : decode cX2_parcelAt 10 = .ok (.iadd, 1) := by decide +kernel
theorem dX2_parcelAt_11 : decode cX2_parcelAt 11 = .ok (.invokevirtual 29, 3) := by decide +kernel
theorem dX2_parcelAt_14 : decode cX2_parcelAt 14 = .ok (.ireturn, 1) := by decide +kernel
theorem dX2_sealOf_0 : decode cX2_sealOf 0 = .ok (.aload_n 0, 1) := by decide +kernel
theorem dX2_sealOf_1 : decode cX2_sealOf 1 = .ok (.getfield 14, 3) := by decide +kernel
theorem dX2_sealOf_4 : decode cX2_sealOf 4 = .ok (.aload_n 0, 1) := by decide +kernel
theorem dX2_sealOf_5 : decode cX2_sealOf 5 = .ok (.iload_n 1, 1) := by decide +kernel
theorem dX2_sealOf_6 : decode cX2_sealOf 6 = .ok (.invokevirtual 40, 3) := by decide +kernel
theorem dX2_sealOf_9 : decode cX2_sealOf 9 = .ok (.aload_n 0, 1) := by decide +kernel
theorem dX2_sealOf_10 : decode cX2_sealOf 10 = .ok (.iload_n 1, 1) := by decide +kernel
theorem dX2_sealOf_11 : decode cX2_sealOf 11 = .ok (.invokevirtual 40, 3) := by decide +kernel
theorem dX2_sealOf_14 : decode cX2_sealOf 14 = .ok (.aload_n 0, 1) := by decide +kernel
theorem dX2_sealOf_15 : decode cX2_sealOf 15 = .ok (.iload_n 1, 1) := by decide +kernel
theorem dX2_sealOf_16 : decode cX2_sealOf 16 = .ok (.invokevirtual 43, 3) := by decide +kernel
theorem dX2_sealOf_19 : decode cX2_sealOf 19 = .ok (.iadd, 1) := by decide +kernel
theorem dX2_sealOf_20 : decode cX2_sealOf 20 = .ok (.invokevirtual 46, 3) := by decide +kernel
theorem dX2_sealOf_23 : decode cX2_sealOf 23 = .ok (.ireturn, 1) := by decide +kernel
theorem dX3_init_0 : decode cX3_init 0 = .ok (.aload_n 0, 1) := by decide +kernel
theorem dX3_init_1 : decode cX3_init 1 = .ok (.invokespecial 3, 3) := by decide +kernel
theorem dX3_init_4 : decode cX3_init 4 = .ok (.aload_n 0, 1) := by decide +kernel
theorem dX3_init_5 : decode cX3_init 5 = .ok (.new 9, 3) := by decide +kernel
theorem dX3_init_8 : decode cX3_init 8 = .ok (.dup, 1) := by decide +kernel
theorem dX3_init_9 : decode cX3_init 9 = .ok (.invokespecial 11, 3) := by decide +kernel
theorem dX3_init_12 : decode cX3_init 12 = .ok (.putfield 12, 3) := by decide +kernel
theorem dX3_init_15 : decode cX3_init 15 = .ok (.aload_n 0, 1) := by decide +kernel
theorem dX3_init_16 : decode cX3_init 16 = .ok (.bipush 20, 2) := by decide +kernel
theorem dX3_init_18 : decode cX3_init 18 = .ok (.newarray .int, 2) := by decide +kernel
theorem dX3_init_20 : decode cX3_init 20 = .ok (.putfield 18, 3) := by decide +kernel
theorem dX3_init_23 : decode cX3_init 23 = .ok (.aload_n 0, 1) := by decide +kernel
theorem dX3_init_24 : decode cX3_init 24 = .ok (.bipush 20, 2) := by decide +kernel
theorem dX3_init_26 : decode cX3_init 26 = .ok (.newarray .int, 2) := by decide +kernel
theorem dX3_init_28 : decode cX3_init 28 = .ok (.putfield 22, 3) := by decide +kernel
theorem dX3_init_31 : decode cX3_init 31 = .ok (.aload_n 0, 1) := by decide +kernel
theorem dX3_init_32 : decode cX3_init 32 = .ok (.bipush 20, 2) := by decide +kernel
theorem dX3_init_34 : decode cX3_init 34 = .ok (.newarray .int, 2) := by decide +kernel
theorem dX3_init_36 : decode cX3_init 36 = .ok (.putfield 25, 3) := by decide +kernel
theorem dX3_init_39 : decode cX3_init 39 = .ok (.aload_n 0, 1) := by decide +kernel
theorem dX3_init_40 : decode cX3_init 40 = .ok (.bipush 6, 2) := by decide +kernel
theorem dX3_init_42 : decode cX3_init 42 = .ok (.newarray .int, 2) := by decide +kernel
theorem dX3_init_44 : decode cX3_init 44 = .ok (.putfield 28, 3) := by decide +kernel
theorem dX3_init_47 : decode cX3_init 47 = .ok (.aload_n 0, 1) := by decide +kernel
theorem dX3_init_48 : decode cX3_init 48 = .ok (.aload_n 1, 1) := by decide +kernel
theorem dX3_init_49 : decode cX3_init 49 = .ok (.putfield 31, 3) := by decide +kernel
theorem dX3_init_52 : decode cX3_init 52 = .ok (.aload_n 0, 1) := by decide +kernel
theorem dX3_init_53 : decode cX3_init 53 = .ok (.aload_n 2, 1) := by decide +kernel
theorem dX3_init_54 : decode cX3_init 54 = .ok (.putfield 35, 3) := by decide +kernel
theorem dX3_init_57 : decode cX3_init 57 = .ok (.aload_n 0, 1) := by decide +kernel
theorem dX3_init_58 : decode cX3_init 58 = .ok (.aload_n 3, 1) := by decide +kernel
theorem dX3_init_59 : decode cX3_init 59 = .ok (.putfield 39, 3) := by decide +kernel
theorem dX3_init_62 : decode cX3_init 62 = .ok (.return_, 1) := by decide +kernel
theorem dX3_byOrigin_0 : decode cX3_byOrigin 0 = .ok (.aload_n 0, 1) := by decide +kernel
theorem dX3_byOrigin_1 : decode cX3_byOrigin 1 = .ok (.invokevirtual 42, 3) := by decide +kernel
theorem dX3_byOrigin_4 : decode cX3_byOrigin 4 = .ok (.aload_n 0, 1) := by decide +kernel
theorem dX3_byOrigin_5 : decode cX3_byOrigin 5 = .ok (.getfield 12, 3) := by decide +kernel
theorem dX3_byOrigin_8 : decode cX3_byOrigin 8 = .ok (.aload_n 0, 1) := by decide +kernel
theorem dX3_byOrigin_9 : decode cX3_byOrigin 9 = .ok (.getfield 39, 3) := by decide +kernel
theorem dX3_byOrigin_12 : decode cX3_byOrigin 12 = .ok (.invokevirtual 45, 3) := by decide +kernel
theorem dX3_byOrigin_15 : decode cX3_byOrigin 15 = .ok (.iconst 0, 1) := by decide +kernel
theorem dX3_byOrigin_16 : decode cX3_byOrigin 16 = .ok (.istore_n 2, 1) := by decide +kernel
theorem dX3_byOrigin_17 : decode cX3_byOrigin 17 = .ok (.iconst 0, 1) := by decide +kernel
theorem dX3_byOrigin_18 : decode cX3_byOrigin 18 = .ok (.istore_n 3, 1) := by decide +kernel
theorem dX3_byOrigin_19 : decode cX3_byOrigin 19 = .ok (.iload_n 3, 1) := by decide +kernel
theorem dX3_byOrigin_20 : decode cX3_byOrigin 20 = .ok (.iload_n 1, 1) := by decide +kernel
theorem dX3_byOrigin_21 : decode cX3_byOrigin 21 = .ok (.if_icmp .ge 16, 3) := by decide +kernel
theorem dX3_byOrigin_24 : decode cX3_byOrigin 24 = .ok (.iload_n 2, 1) := by decide +kernel
theorem dX3_byOrigin_25 : decode cX3_byOrigin 25 = .ok (.aload_n 0, 1) := by decide +kernel
theorem dX3_byOrigin_26 : decode cX3_byOrigin 26 = .ok (.invokevirtual 49, 3) := by decide +kernel
theorem dX3_byOrigin_29 : decode cX3_byOrigin 29 = .ok (.iadd, 1) := by decide +kernel
theorem dX3_byOrigin_30 : decode cX3_byOrigin 30 = .ok (.istore_n 2, 1) := by decide +kernel
theorem dX3_byOrigin_31 : decode cX3_byOrigin 31 = .ok (.iinc 3 1, 3) := by decide +kernel
theorem dX3_byOrigin_34 : decode cX3_byOrigin 34 = .ok (.goto (-15), 3) := by decide +kernel
theorem dX3_byOrigin_37 : decode cX3_byOrigin 37 = .ok (.iload_n 2, 1) := by decide +kernel
theorem dX3_byOrigin_38 : decode cX3_byOrigin 38 = .ok (.ireturn, 1) := by decide +kernel
theorem dX3_byTrays_0 : decode cX3_byTrays 0 = .ok (.aload_n 0, 1) := by decide +kernel
theorem dX3_byTrays_1 : decode cX3_byTrays 1 = .ok (.invokevirtual 42, 3) := by decide +kernel
theorem dX3_byTrays_4 : decode cX3_byTrays 4 = .ok (.iconst 0, 1) := by decide +kernel
theorem dX3_byTrays_5 : decode cX3_byTrays 5 = .ok (.istore_n 2, 1) := by decide +kernel
theorem dX3_byTrays_6 : decode cX3_byTrays 6 = .ok (.iload_n 2, 1) := by decide +kernel
theorem dX3_byTrays_7 : decode cX3_byTrays 7 = .ok (.bipush 20, 2) := by decide +kernel
theorem dX3_byTrays_9 : decode cX3_byTrays 9 = .ok (.if_icmp .ge 44, 3) := by decide +kernel
theorem dX3_byTrays_12 : decode cX3_byTrays 12 = .ok (.aload_n 0, 1) := by decide +kernel
theorem dX3_byTrays_13 : decode cX3_byTrays 13 = .ok (.getfield 18, 3) := by decide +kernel
theorem dX3_byTrays_16 : decode cX3_byTrays 16 = .ok (.iload_n 2, 1) := by decide +kernel
theorem dX3_byTrays_17 : decode cX3_byTrays 17 = .ok (.iload_n 2, 1) := by decide +kernel
theorem dX3_byTrays_18 : decode cX3_byTrays 18 = .ok (.iastore, 1) := by decide +kernel
theorem dX3_byTrays_19 : decode cX3_byTrays 19 = .ok (.aload_n 0, 1) := by decide +kernel
theorem dX3_byTrays_20 : decode cX3_byTrays 20 = .ok (.getfield 22, 3) := by decide +kernel
theorem dX3_byTrays_23 : decode cX3_byTrays 23 = .ok (.iload_n 2, 1) := by decide +kernel
theorem dX3_byTrays_24 : decode cX3_byTrays 24 = .ok (.aload_n 0, 1) := by decide +kernel
theorem dX3_byTrays_25 : decode cX3_byTrays 25 = .ok (.getfield 39, 3) := by decide +kernel
theorem dX3_byTrays_28 : decode cX3_byTrays 28 = .ok (.iload_n 2, 1) := by decide +kernel
theorem dX3_byTrays_29 : decode cX3_byTrays 29 = .ok (.invokevirtual 53, 3) := by decide +kernel
theorem dX3_byTrays_32 : decode cX3_byTrays 32 = .ok (.iastore, 1) := by decide +kernel
theorem dX3_byTrays_33 : decode cX3_byTrays 33 = .ok (.aload_n 0, 1) := by decide +kernel
theorem dX3_byTrays_34 : decode cX3_byTrays 34 = .ok (.getfield 25, 3) := by decide +kernel
theorem dX3_byTrays_37 : decode cX3_byTrays 37 = .ok (.iload_n 2, 1) := by decide +kernel
theorem dX3_byTrays_38 : decode cX3_byTrays 38 = .ok (.aload_n 0, 1) := by decide +kernel
theorem dX3_byTrays_39 : decode cX3_byTrays 39 = .ok (.getfield 39, 3) := by decide +kernel
theorem dX3_byTrays_42 : decode cX3_byTrays 42 = .ok (.iload_n 2, 1) := by decide +kernel
theorem dX3_byTrays_43 : decode cX3_byTrays 43 = .ok (.invokevirtual 57, 3) := by decide +kernel
theorem dX3_byTrays_46 : decode cX3_byTrays 46 = .ok (.iastore, 1) := by decide +kernel
theorem dX3_byTrays_47 : decode cX3_byTrays 47 = .ok (.iinc 2 1, 3) := by decide +kernel
theorem dX3_byTrays_50 : decode cX3_byTrays 50 = .ok (.goto (-44), 3) := by decide +kernel
theorem dX3_byTrays_53 : decode cX3_byTrays 53 = .ok (.iconst 0, 1) := by decide +kernel
theorem dX3_byTrays_54 : decode cX3_byTrays 54 = .ok (.istore_n 2, 1) := by decide +kernel
theorem dX3_byTrays_55 : decode cX3_byTrays 55 = .ok (.iconst 0, 1) := by decide +kernel
theorem dX3_byTrays_56 : decode cX3_byTrays 56 = .ok (.istore_n 3, 1) := by decide +kernel
theorem dX3_byTrays_57 : decode cX3_byTrays 57 = .ok (.iload_n 3, 1) := by decide +kernel
theorem dX3_byTrays_58 : decode cX3_byTrays 58 = .ok (.iload_n 1, 1) := by decide +kernel
theorem dX3_byTrays_59 : decode cX3_byTrays 59 = .ok (.if_icmp .ge 46, 3) := by decide +kernel
theorem dX3_byTrays_62 : decode cX3_byTrays 62 = .ok (.iconst 0, 1) := by decide +kernel
theorem dX3_byTrays_63 : decode cX3_byTrays 63 = .ok (.istore 4, 2) := by decide +kernel
theorem dX3_byTrays_65 : decode cX3_byTrays 65 = .ok (.iload 4, 2) := by decide +kernel
theorem dX3_byTrays_67 : decode cX3_byTrays 67 = .ok (.aload_n 0, 1) := by decide +kernel
theorem dX3_byTrays_68 : decode cX3_byTrays 68 = .ok (.getfield 31, 3) := by decide +kernel
theorem dX3_byTrays_71 : decode cX3_byTrays 71 = .ok (.getfield 60, 3) := by decide +kernel
theorem dX3_byTrays_74 : decode cX3_byTrays 74 = .ok (.if_icmp .gt 25, 3) := by decide +kernel
theorem dX3_byTrays_77 : decode cX3_byTrays 77 = .ok (.iload 4, 2) := by decide +kernel
theorem dX3_byTrays_79 : decode cX3_byTrays 79 = .ok (.bipush 20, 2) := by decide +kernel
theorem dX3_byTrays_81 : decode cX3_byTrays 81 = .ok (.if_icmp .ge 18, 3) := by decide +kernel
theorem dX3_byTrays_84 : decode cX3_byTrays 84 = .ok (.iload_n 2, 1) := by decide +kernel
theorem dX3_byTrays_85 : decode cX3_byTrays 85 = .ok (.aload_n 0, 1) := by decide +kernel
theorem dX3_byTrays_86 : decode cX3_byTrays 86 = .ok (.iload 4, 2) := by decide +kernel
theorem dX3_byTrays_88 : decode cX3_byTrays 88 = .ok (.invokevirtual 66, 3) := by decide +kernel
theorem dX3_byTrays_91 : decode cX3_byTrays 91 = .ok (.iadd, 1) := by decide +kernel
theorem dX3_byTrays_92 : decode cX3_byTrays 92 = .ok (.istore_n 2, 1) := by decide +kernel
theorem dX3_byTrays_93 : decode cX3_byTrays 93 = .ok (.iinc 4 1, 3) := by decide +kernel
theorem dX3_byTrays_96 : decode cX3_byTrays 96 = .ok (.goto (-31), 3) := by decide +kernel
theorem dX3_byTrays_99 : decode cX3_byTrays 99 = .ok (.iinc 3 1, 3) := by decide +kernel
theorem dX3_byTrays_102 : decode cX3_byTrays 102 = .ok (.goto (-45), 3) := by decide +kernel
theorem dX3_byTrays_105 : decode cX3_byTrays 105 = .ok (.iload_n 2, 1) := by decide +kernel
theorem dX3_byTrays_106 : decode cX3_byTrays 106 = .ok (.ireturn, 1) := by decide +kernel
theorem dX3_begin_0 : decode cX3_begin 0 = .ok (.aload_n 0, 1) := by decide +kernel
theorem dX3_begin_1 : decode cX3_begin 1 = .ok (.aload_n 0, 1) := by decide +kernel
theorem dX3_begin_2 : decode cX3_begin 2 = .ok (.getfield 35, 3) := by decide +kernel
theorem dX3_begin_5 : decode cX3_begin 5 = .ok (.getfield 69, 3) := by decide +kernel
theorem dX3_begin_8 : decode cX3_begin 8 = .ok (.putfield 74, 3) := by decide +kernel
theorem dX3_begin_11 : decode cX3_begin 11 = .ok (.iconst 0, 1) := by decide +kernel
theorem dX3_begin_12 : decode cX3_begin 12 = .ok (.istore_n 1, 1) := by decide +kernel
theorem dX3_begin_13 : decode cX3_begin 13 = .ok (.iload_n 1, 1) := by decide +kernel
theorem dX3_begin_14 : decode cX3_begin 14 = .ok (.bipush 6, 2) := by decide +kernel
theorem dX3_begin_16 : decode cX3_begin 16 = .ok (.if_icmp .ge 39, 3) := by decide +kernel
theorem dX3_begin_19 : decode cX3_begin 19 = .ok (.aload_n 0, 1) := by decide +kernel
theorem dX3_begin_20 : decode cX3_begin 20 = .ok (.getfield 31, 3) := by decide +kernel
theorem dX3_begin_23 : decode cX3_begin 23 = .ok (.iload_n 1, 1) := by decide +kernel
theorem dX3_begin_24 : decode cX3_begin 24 = .ok (.invokevirtual 77, 3) := by decide +kernel
theorem dX3_begin_27 : decode cX3_begin 27 = .ok (.astore_n 2, 1) := by decide +kernel
theorem dX3_begin_28 : decode cX3_begin 28 = .ok (.aload_n 0, 1) := by decide +kernel
theorem dX3_begin_29 : decode cX3_begin 29 = .ok (.getfield 28, 3) := by decide +kernel
theorem dX3_begin_32 : decode cX3_begin 32 = .ok (.iload_n 1, 1) := by decide +kernel
theorem dX3_begin_33 : decode cX3_begin 33 = .ok (.aload_n 2, 1) := by decide +kernel
theorem dX3_begin_34 : decode cX3_begin 34 = .ok (.ifnull 13, 3) := by decide +kernel
theorem dX3_begin_37 : decode cX3_begin 37 = .ok (.aload_n 2, 1) := by decide +kernel
theorem dX3_begin_38 : decode cX3_begin 38 = .ok (.getfield 81, 3) := by decide +kernel
theorem dX3_begin_41 : decode cX3_begin 41 = .ok (.getfield 87, 3) := by decide +kernel
theorem dX3_begin_44 : decode cX3_begin 44 = .ok (.goto 4, 3) := by decide +kernel
theorem dX3_begin_47 : decode cX3_begin 47 = .ok (.iconst 0, 1) := by decide +kernel
theorem dX3_begin_48 : decode cX3_begin 48 = .ok (.iastore, 1) := by decide +kernel
theorem dX3_begin_49 : decode cX3_begin 49 = .ok (.iinc 1 1, 3) := by decide +kernel
theorem dX3_begin_52 : decode cX3_begin 52 = .ok (.goto (-39), 3) := by decide +kernel
theorem dX3_begin_55 : decode cX3_begin 55 = .ok (.return_, 1) := by decide +kernel
theorem dX3_moveOrigin_0 : decode cX3_moveOrigin 0 = .ok (.aload_n 0, 1) := by decide +kernel
theorem dX3_moveOrigin_1 : decode cX3_moveOrigin 1 = .ok (.getfield 12, 3) := by decide +kernel
theorem dX3_moveOrigin_4 : decode cX3_moveOrigin 4 = .ok (.invokevirtual 92, 3) := by decide +kernel
theorem dX3_moveOrigin_7 : decode cX3_moveOrigin 7 = .ok (.aload_n 0, 1) := by decide +kernel
theorem dX3_moveOrigin_8 : decode cX3_moveOrigin 8 = .ok (.getfield 31, 3) := by decide +kernel
theorem dX3_moveOrigin_11 : decode cX3_moveOrigin 11 = .ok (.aload_n 0, 1) := by decide +kernel
theorem dX3_moveOrigin_12 : decode cX3_moveOrigin 12 = .ok (.getfield 12, 3) := by decide +kernel
theorem dX3_moveOrigin_15 : decode cX3_moveOrigin 15 = .ok (.iconst 0, 1) := by decide +kernel
theorem dX3_moveOrigin_16 : decode cX3_moveOrigin 16 = .ok (.invokevirtual 53, 3) := by decide +kernel
theorem dX3_moveOrigin_19 : decode cX3_moveOrigin 19 = .ok (.aload_n 0, 1) := by decide +kernel
theorem dX3_moveOrigin_20 : decode cX3_moveOrigin 20 = .ok (.getfield 74, 3) := by decide +kernel
theorem dX3_moveOrigin_23 : decode cX3_moveOrigin 23 = .ok (.aload_n 0, 1) := by decide +kernel
theorem dX3_moveOrigin_24 : decode cX3_moveOrigin 24 = .ok (.getfield 35, 3) := by decide +kernel
theorem dX3_moveOrigin_27 : decode cX3_moveOrigin 27 = .ok (.getfield 95, 3) := by decide +kernel
theorem dX3_moveOrigin_30 : decode cX3_moveOrigin 30 = .ok (.invokevirtual 98, 3) := by decide +kernel
theorem dX3_moveOrigin_33 : decode cX3_moveOrigin 33 = .ok (.ifCond .eq 25, 3) := by decide +kernel
theorem dX3_moveOrigin_36 : decode cX3_moveOrigin 36 = .ok (.aload_n 0, 1) := by decide +kernel
theorem dX3_moveOrigin_37 : decode cX3_moveOrigin 37 = .ok (.getfield 12, 3) := by decide +kernel
theorem dX3_moveOrigin_40 : decode cX3_moveOrigin 40 = .ok (.iconst 0, 1) := by decide +kernel
theorem dX3_moveOrigin_41 : decode cX3_moveOrigin 41 = .ok (.aload_n 0, 1) := by decide +kernel
theorem dX3_moveOrigin_42 : decode cX3_moveOrigin 42 = .ok (.getfield 74, 3) := by decide +kernel
theorem dX3_moveOrigin_45 : decode cX3_moveOrigin 45 = .ok (.invokevirtual 102, 3) := by decide +kernel
theorem dX3_moveOrigin_48 : decode cX3_moveOrigin 48 = .ok (.aload_n 0, 1) := by decide +kernel
theorem dX3_moveOrigin_49 : decode cX3_moveOrigin 49 = .ok (.dup, 1) := by decide +kernel
theorem dX3_moveOrigin_50 : decode cX3_moveOrigin 50 = .ok (.getfield 74, 3) := by decide +kernel
theorem dX3_moveOrigin_53 : decode cX3_moveOrigin 53 = .ok (.iconst 1, 1) := by decide +kernel
theorem dX3_moveOrigin_54 : decode cX3_moveOrigin 54 = .ok (.iadd, 1) := by decide +kernel
theorem dX3_moveOrigin_55 : decode cX3_moveOrigin 55 = .ok (.putfield 74, 3) := by decide +kernel
theorem dX3_moveOrigin_58 : decode cX3_moveOrigin 58 = .ok (.iconst 0, 1) := by decide +kernel
theorem dX3_moveOrigin_59 : decode cX3_moveOrigin 59 = .ok (.istore_n 1, 1) := by decide +kernel
theorem dX3_moveOrigin_60 : decode cX3_moveOrigin 60 = .ok (.iconst 0, 1) := by decide +kernel
theorem dX3_moveOrigin_61 : decode cX3_moveOrigin 61 = .ok (.istore_n 2, 1) := by decide +kernel
theorem dX3_moveOrigin_62 : decode cX3_moveOrigin 62 = .ok (.iload_n 2, 1) := by decide +kernel
theorem dX3_moveOrigin_63 : decode cX3_moveOrigin 63 = .ok (.bipush 6, 2) := by decide +kernel
theorem dX3_moveOrigin_65 : decode cX3_moveOrigin 65 = .ok (.if_icmp .ge 55, 3) := by decide +kernel
theorem dX3_moveOrigin_68 : decode cX3_moveOrigin 68 = .ok (.aload_n 0, 1) := by decide +kernel
theorem dX3_moveOrigin_69 : decode cX3_moveOrigin 69 = .ok (.getfield 31, 3) := by decide +kernel
theorem dX3_moveOrigin_72 : decode cX3_moveOrigin 72 = .ok (.iload_n 2, 1) := by decide +kernel
theorem dX3_moveOrigin_73 : decode cX3_moveOrigin 73 = .ok (.invokevirtual 77, 3) := by decide +kernel
theorem dX3_moveOrigin_76 : decode cX3_moveOrigin 76 = .ok (.astore_n 3, 1) := by decide +kernel
theorem dX3_moveOrigin_77 : decode cX3_moveOrigin 77 = .ok (.aload_n 3, 1) := by decide +kernel
theorem dX3_moveOrigin_78 : decode cX3_moveOrigin 78 = .ok (.ifnull 36, 3) := by decide +kernel
theorem dX3_moveOrigin_81 : decode cX3_moveOrigin 81 = .ok (.aload_n 0, 1) := by decide +kernel
theorem dX3_moveOrigin_82 : decode cX3_moveOrigin 82 = .ok (.iload_n 2, 1) := by decide +kernel
theorem dX3_moveOrigin_83 : decode cX3_moveOrigin 83 = .ok (.aload_n 0, 1) := by decide +kernel
theorem dX3_moveOrigin_84 : decode cX3_moveOrigin 84 = .ok (.getfield 12, 3) := by decide +kernel
theorem dX3_moveOrigin_87 : decode cX3_moveOrigin 87 = .ok (.aload_n 3, 1) := by decide +kernel
theorem dX3_moveOrigin_88 : decode cX3_moveOrigin 88 = .ok (.getfield 106, 3) := by decide +kernel
theorem dX3_moveOrigin_91 : decode cX3_moveOrigin 91 = .ok (.invokevirtual 53, 3) := by decide +kernel
theorem dX3_moveOrigin_94 : decode cX3_moveOrigin 94 = .ok (.invokevirtual 109, 3) := by decide +kernel
theorem dX3_moveOrigin_97 : decode cX3_moveOrigin 97 = .ok (.ifCond .eq 17, 3) := by decide +kernel
theorem dX3_moveOrigin_100 : decode cX3_moveOrigin 100 = .ok (.aload_n 0, 1) := by decide +kernel
theorem dX3_moveOrigin_101 : decode cX3_moveOrigin 101 = .ok (.getfield 12, 3) := by decide +kernel
theorem dX3_moveOrigin_104 : decode cX3_moveOrigin 104 = .ok (.aload_n 3, 1) := by decide +kernel
theorem dX3_moveOrigin_105 : decode cX3_moveOrigin 105 = .ok (.getfield 106, 3) := by decide +kernel
theorem dX3_moveOrigin_108 : decode cX3_moveOrigin 108 = .ok (.invokevirtual 113, 3) := by decide +kernel
theorem dX3_moveOrigin_111 : decode cX3_moveOrigin 111 = .ok (.iinc 1 1, 3) := by decide +kernel
theorem dX3_moveOrigin_114 : decode cX3_moveOrigin 114 = .ok (.iinc 2 1, 3) := by decide +kernel
theorem dX3_moveOrigin_117 : decode cX3_moveOrigin 117 = .ok (.goto (-55), 3) := by decide +kernel
theorem dX3_moveOrigin_120 : decode cX3_moveOrigin 120 = .ok (.aload_n 0, 1) := by decide +kernel
theorem dX3_moveOrigin_121 : decode cX3_moveOrigin 121 = .ok (.getfield 31, 3) := by decide +kernel
theorem dX3_moveOrigin_124 : decode cX3_moveOrigin 124 = .ok (.aload_n 0, 1) := by decide +kernel
theorem dX3_moveOrigin_125 : decode cX3_moveOrigin 125 = .ok (.getfield 12, 3) := by decide +kernel
theorem dX3_moveOrigin_128 : decode cX3_moveOrigin 128 = .ok (.aload_n 0, 1) := by decide +kernel
theorem dX3_moveOrigin_129 : decode cX3_moveOrigin 129 = .ok (.getfield 31, 3) := by decide +kernel
theorem dX3_moveOrigin_132 : decode cX3_moveOrigin 132 = .ok (.getfield 60, 3) := by decide +kernel
theorem dX3_moveOrigin_135 : decode cX3_moveOrigin 135 = .ok (.invokevirtual 53, 3) := by decide +kernel
theorem dX3_moveOrigin_138 : decode cX3_moveOrigin 138 = .ok (.aload_n 0, 1) := by decide +kernel
theorem dX3_moveOrigin_139 : decode cX3_moveOrigin 139 = .ok (.getfield 12, 3) := by decide +kernel
theorem dX3_moveOrigin_142 : decode cX3_moveOrigin 142 = .ok (.aload_n 0, 1) := by decide +kernel
theorem dX3_moveOrigin_143 : decode cX3_moveOrigin 143 = .ok (.getfield 31, 3) := by decide +kernel
theorem dX3_moveOrigin_146 : decode cX3_moveOrigin 146 = .ok (.getfield 60, 3) := by decide +kernel
theorem dX3_moveOrigin_149 : decode cX3_moveOrigin 149 = .ok (.invokevirtual 57, 3) := by decide +kernel
theorem dX3_moveOrigin_152 : decode cX3_moveOrigin 152 = .ok (.invokevirtual 117, 3) := by decide +kernel
theorem dX3_moveOrigin_155 : decode cX3_moveOrigin 155 = .ok (.ifCond .eq 20, 3) := by decide +kernel
theorem dX3_moveOrigin_158 : decode cX3_moveOrigin 158 = .ok (.aload_n 0, 1) := by decide +kernel
theorem dX3_moveOrigin_159 : decode cX3_moveOrigin 159 = .ok (.getfield 12, 3) := by decide +kernel
theorem dX3_moveOrigin_162 : decode cX3_moveOrigin 162 = .ok (.aload_n 0, 1) := by decide +kernel
theorem dX3_moveOrigin_163 : decode cX3_moveOrigin 163 = .ok (.getfield 31, 3) := by decide +kernel
theorem dX3_moveOrigin_166 : decode cX3_moveOrigin 166 = .ok (.getfield 60, 3) := by decide +kernel
theorem dX3_moveOrigin_169 : decode cX3_moveOrigin 169 = .ok (.invokevirtual 113, 3) := by decide +kernel
theorem dX3_moveOrigin_172 : decode cX3_moveOrigin 172 = .ok (.iinc 1 1, 3) := by decide +kernel
theorem dX3_moveOrigin_175 : decode cX3_moveOrigin 175 = .ok (.iload_n 1, 1) := by decide +kernel
theorem dX3_moveOrigin_176 : decode cX3_moveOrigin 176 = .ok (.ireturn, 1) := by decide +kernel
theorem dX3_moveTray_0 : decode cX3_moveTray 0 = .ok (.iload_n 1, 1) := by decide +kernel
theorem dX3_moveTray_1 : decode cX3_moveTray 1 = .ok (.ifCond .lt 9, 3) := by decide +kernel
theorem dX3_moveTray_4 : decode cX3_moveTray 4 = .ok (.iload_n 1, 1) := by decide +kernel
theorem dX3_moveTray_5 : decode cX3_moveTray 5 = .ok (.bipush 20, 2) := by decide +kernel
theorem dX3_moveTray_7 : decode cX3_moveTray 7 = .ok (.if_icmp .lt 5, 3) := by decide +kernel
theorem dX3_moveTray_10 : decode cX3_moveTray 10 = .ok (.iconst 0, 1) := by decide +kernel
theorem dX3_moveTray_11 : decode cX3_moveTray 11 = .ok (.ireturn, 1) := by decide +kernel
theorem dX3_moveTray_12 : decode cX3_moveTray 12 = .ok (.aload_n 0, 1) := by decide +kernel
theorem dX3_moveTray_13 : decode cX3_moveTray 13 = .ok (.getfield 18, 3) := by decide +kernel
theorem dX3_moveTray_16 : decode cX3_moveTray 16 = .ok (.iload_n 1, 1) := by decide +kernel
theorem dX3_moveTray_17 : decode cX3_moveTray 17 = .ok (.iaload, 1) := by decide +kernel
theorem dX3_moveTray_18 : decode cX3_moveTray 18 = .ok (.aload_n 0, 1) := by decide +kernel
theorem dX3_moveTray_19 : decode cX3_moveTray 19 = .ok (.getfield 31, 3) := by decide +kernel
theorem dX3_moveTray_22 : decode cX3_moveTray 22 = .ok (.getfield 60, 3) := by decide +kernel
theorem dX3_moveTray_25 : decode cX3_moveTray 25 = .ok (.if_icmp .ge 14, 3) := by decide +kernel
theorem dX3_moveTray_28 : decode cX3_moveTray 28 = .ok (.aload_n 0, 1) := by decide +kernel
theorem dX3_moveTray_29 : decode cX3_moveTray 29 = .ok (.getfield 18, 3) := by decide +kernel
theorem dX3_moveTray_32 : decode cX3_moveTray 32 = .ok (.iload_n 1, 1) := by decide +kernel
theorem dX3_moveTray_33 : decode cX3_moveTray 33 = .ok (.iaload, 1) := by decide +kernel
theorem dX3_moveTray_34 : decode cX3_moveTray 34 = .ok (.iconst 1, 1) := by decide +kernel
theorem dX3_moveTray_35 : decode cX3_moveTray 35 = .ok (.iadd, 1) := by decide +kernel
theorem dX3_moveTray_36 : decode cX3_moveTray 36 = .ok (.goto 4, 3) := by decide +kernel
theorem dX3_moveTray_39 : decode cX3_moveTray 39 = .ok (.iconst 0, 1) := by decide +kernel
theorem dX3_moveTray_40 : decode cX3_moveTray 40 = .ok (.istore_n 2, 1) := by decide +kernel
theorem dX3_moveTray_41 : decode cX3_moveTray 41 = .ok (.aload_n 0, 1) := by decide +kernel
theorem dX3_moveTray_42 : decode cX3_moveTray 42 = .ok (.getfield 18, 3) := by decide +kernel
theorem dX3_moveTray_45 : decode cX3_moveTray 45 = .ok (.iload_n 1, 1) := by decide +kernel
theorem dX3_moveTray_46 : decode cX3_moveTray 46 = .ok (.iload_n 2, 1) := by decide +kernel
theorem dX3_moveTray_47 : decode cX3_moveTray 47 = .ok (.iastore, 1) := by decide +kernel
theorem dX3_moveTray_48 : decode cX3_moveTray 48 = .ok (.iload_n 2, 1) := by decide +kernel
theorem dX3_moveTray_49 : decode cX3_moveTray 49 = .ok (.ifCond .ne 20, 3) := by decide +kernel
theorem dX3_moveTray_52 : decode cX3_moveTray 52 = .ok (.aload_n 0, 1) := by decide +kernel
theorem dX3_moveTray_53 : decode cX3_moveTray 53 = .ok (.getfield 25, 3) := by decide +kernel
theorem dX3_moveTray_56 : decode cX3_moveTray 56 = .ok (.iload_n 1, 1) := by decide +kernel
theorem dX3_moveTray_57 : decode cX3_moveTray 57 = .ok (.dup2, 1) := by decide +kernel
theorem dX3_moveTray_58 : decode cX3_moveTray 58 = .ok (.iaload, 1) := by decide +kernel
theorem dX3_moveTray_59 : decode cX3_moveTray 59 = .ok (.iconst 1, 1) := by decide +kernel
theorem dX3_moveTray_60 : decode cX3_moveTray 60 = .ok (.iadd, 1) := by decide +kernel
theorem dX3_moveTray_61 : decode cX3_moveTray 61 = .ok (.iastore, 1) := by decide +kernel
theorem dX3_moveTray_62 : decode cX3_moveTray 62 = .ok (.aload_n 0, 1) := by decide +kernel
theorem dX3_moveTray_63 : decode cX3_moveTray 63 = .ok (.iload_n 1, 1) := by decide +kernel
theorem dX3_moveTray_64 : decode cX3_moveTray 64 = .ok (.invokevirtual 120, 3) := by decide +kernel
theorem dX3_moveTray_67 : decode cX3_moveTray 67 = .ok (.iconst 0, 1) := by decide +kernel
theorem dX3_moveTray_68 : decode cX3_moveTray 68 = .ok (.ireturn, 1) := by decide +kernel
theorem dX3_moveTray_69 : decode cX3_moveTray 69 = .ok (.iload_n 2, 1) := by decide +kernel
theorem dX3_moveTray_70 : decode cX3_moveTray 70 = .ok (.aload_n 0, 1) := by decide +kernel
theorem dX3_moveTray_71 : decode cX3_moveTray 71 = .ok (.getfield 31, 3) := by decide +kernel
theorem dX3_moveTray_74 : decode cX3_moveTray 74 = .ok (.getfield 60, 3) := by decide +kernel
theorem dX3_moveTray_77 : decode cX3_moveTray 77 = .ok (.if_icmp .ne 25, 3) := by decide +kernel
theorem dX3_moveTray_80 : decode cX3_moveTray 80 = .ok (.aload_n 0, 1) := by decide +kernel
theorem dX3_moveTray_81 : decode cX3_moveTray 81 = .ok (.getfield 31, 3) := by decide +kernel
theorem dX3_moveTray_84 : decode cX3_moveTray 84 = .ok (.aload_n 0, 1) := by decide +kernel
theorem dX3_moveTray_85 : decode cX3_moveTray 85 = .ok (.getfield 22, 3) := by decide +kernel
theorem dX3_moveTray_88 : decode cX3_moveTray 88 = .ok (.iload_n 1, 1) := by decide +kernel
theorem dX3_moveTray_89 : decode cX3_moveTray 89 = .ok (.iaload, 1) := by decide +kernel
theorem dX3_moveTray_90 : decode cX3_moveTray 90 = .ok (.aload_n 0, 1) := by decide +kernel
theorem dX3_moveTray_91 : decode cX3_moveTray 91 = .ok (.getfield 25, 3) := by decide +kernel
theorem dX3_moveTray_94 : decode cX3_moveTray 94 = .ok (.iload_n 1, 1) := by decide +kernel
theorem dX3_moveTray_95 : decode cX3_moveTray 95 = .ok (.iaload, 1) := by decide +kernel
theorem dX3_moveTray_96 : decode cX3_moveTray 96 = .ok (.invokevirtual 117, 3) := by decide +kernel
theorem dX3_moveTray_99 : decode cX3_moveTray 99 = .ok (.goto 21, 3) := by decide +kernel
theorem dX3_moveTray_102 : decode cX3_moveTray 102 = .ok (.aload_n 0, 1) := by decide +kernel
theorem dX3_moveTray_103 : decode cX3_moveTray 103 = .ok (.aload_n 0, 1) := by decide +kernel
theorem dX3_moveTray_104 : decode cX3_moveTray 104 = .ok (.getfield 31, 3) := by decide +kernel
theorem dX3_moveTray_107 : decode cX3_moveTray 107 = .ok (.iload_n 2, 1) := by decide +kernel
theorem dX3_moveTray_108 : decode cX3_moveTray 108 = .ok (.invokevirtual 123, 3) := by decide +kernel
theorem dX3_moveTray_111 : decode cX3_moveTray 111 = .ok (.aload_n 0, 1) := by decide +kernel
theorem dX3_moveTray_112 : decode cX3_moveTray 112 = .ok (.getfield 22, 3) := by decide +kernel
theorem dX3_moveTray_115 : decode cX3_moveTray 115 = .ok (.iload_n 1, 1) := by decide +kernel
theorem dX3_moveTray_116 : decode cX3_moveTray 116 = .ok (.iaload, 1) := by decide +kernel
theorem dX3_moveTray_117 : decode cX3_moveTray 117 = .ok (.invokevirtual 109, 3) := by decide +kernel
theorem dX3_moveTray_120 : decode cX3_moveTray 120 = .ok (.istore_n 3, 1) := by decide +kernel
theorem dX3_moveTray_121 : decode cX3_moveTray 121 = .ok (.iload_n 3, 1) := by decide +kernel
theorem dX3_moveTray_122 : decode cX3_moveTray 122 = .ok (.ifCond .ne 5, 3) := by decide +kernel
theorem dX3_moveTray_125 : decode cX3_moveTray 125 = .ok (.iconst 0, 1) := by decide +kernel
theorem dX3_moveTray_126 : decode cX3_moveTray 126 = .ok (.ireturn, 1) := by decide +kernel
theorem dX3_moveTray_127 : decode cX3_moveTray 127 = .ok (.aload_n 0, 1) := by decide +kernel
theorem dX3_moveTray_128 : decode cX3_moveTray 128 = .ok (.getfield 22, 3) := by decide +kernel
theorem dX3_moveTray_131 : decode cX3_moveTray 131 = .ok (.iload_n 1, 1) := by decide +kernel
theorem dX3_moveTray_132 : decode cX3_moveTray 132 = .ok (.iconst (-1), 1) := by decide +kernel
theorem dX3_moveTray_133 : decode cX3_moveTray 133 = .ok (.iastore, 1) := by decide +kernel
theorem dX3_moveTray_134 : decode cX3_moveTray 134 = .ok (.iconst 1, 1) := by decide +kernel
theorem dX3_moveTray_135 : decode cX3_moveTray 135 = .ok (.ireturn, 1) := by decide +kernel
theorem dX3_loadTray_0 : decode cX3_loadTray 0 = .ok (.iload_n 1, 1) := by decide +kernel
theorem dX3_loadTray_1 : decode cX3_loadTray 1 = .ok (.ifCond .lt 9, 3) := by decide +kernel
theorem dX3_loadTray_4 : decode cX3_loadTray 4 = .ok (.iload_n 1, 1) := by decide +kernel
theorem dX3_loadTray_5 : decode cX3_loadTray 5 = .ok (.bipush 20, 2) := by decide +kernel
theorem dX3_loadTray_7 : decode cX3_loadTray 7 = .ok (.if_icmp .lt 4, 3) := by decide +kernel
theorem dX3_loadTray_10 : decode cX3_loadTray 10 = .ok (.return_, 1) := by decide +kernel
theorem dX3_loadTray_11 : decode cX3_loadTray 11 = .ok (.aload_n 0, 1) := by decide +kernel
theorem dX3_loadTray_12 : decode cX3_loadTray 12 = .ok (.getfield 31, 3) := by decide +kernel
theorem dX3_loadTray_15 : decode cX3_loadTray 15 = .ok (.aload_n 0, 1) := by decide +kernel
theorem dX3_loadTray_16 : decode cX3_loadTray 16 = .ok (.getfield 22, 3) := by decide +kernel
theorem dX3_loadTray_19 : decode cX3_loadTray 19 = .ok (.iload_n 1, 1) := by decide +kernel
theorem dX3_loadTray_20 : decode cX3_loadTray 20 = .ok (.iaload, 1) := by decide +kernel
theorem dX3_loadTray_21 : decode cX3_loadTray 21 = .ok (.aload_n 0, 1) := by decide +kernel
theorem dX3_loadTray_22 : decode cX3_loadTray 22 = .ok (.getfield 74, 3) := by decide +kernel
theorem dX3_loadTray_25 : decode cX3_loadTray 25 = .ok (.aload_n 0, 1) := by decide +kernel
theorem dX3_loadTray_26 : decode cX3_loadTray 26 = .ok (.getfield 35, 3) := by decide +kernel
theorem dX3_loadTray_29 : decode cX3_loadTray 29 = .ok (.getfield 95, 3) := by decide +kernel
theorem dX3_loadTray_32 : decode cX3_loadTray 32 = .ok (.invokevirtual 98, 3) := by decide +kernel
theorem dX3_loadTray_35 : decode cX3_loadTray 35 = .ok (.ifCond .eq 30, 3) := by decide +kernel
theorem dX3_loadTray_38 : decode cX3_loadTray 38 = .ok (.aload_n 0, 1) := by decide +kernel
theorem dX3_loadTray_39 : decode cX3_loadTray 39 = .ok (.getfield 22, 3) := by decide +kernel
theorem dX3_loadTray_42 : decode cX3_loadTray 42 = .ok (.iload_n 1, 1) := by decide +kernel
theorem dX3_loadTray_43 : decode cX3_loadTray 43 = .ok (.aload_n 0, 1) := by decide +kernel
theorem dX3_loadTray_44 : decode cX3_loadTray 44 = .ok (.getfield 74, 3) := by decide +kernel
theorem dX3_loadTray_47 : decode cX3_loadTray 47 = .ok (.iastore, 1) := by decide +kernel
theorem dX3_loadTray_48 : decode cX3_loadTray 48 = .ok (.aload_n 0, 1) := by decide +kernel
theorem dX3_loadTray_49 : decode cX3_loadTray 49 = .ok (.getfield 25, 3) := by decide +kernel
theorem dX3_loadTray_52 : decode cX3_loadTray 52 = .ok (.iload_n 1, 1) := by decide +kernel
theorem dX3_loadTray_53 : decode cX3_loadTray 53 = .ok (.iconst 0, 1) := by decide +kernel
theorem dX3_loadTray_54 : decode cX3_loadTray 54 = .ok (.iastore, 1) := by decide +kernel
theorem dX3_loadTray_55 : decode cX3_loadTray 55 = .ok (.aload_n 0, 1) := by decide +kernel
theorem dX3_loadTray_56 : decode cX3_loadTray 56 = .ok (.dup, 1) := by decide +kernel
theorem dX3_loadTray_57 : decode cX3_loadTray 57 = .ok (.getfield 74, 3) := by decide +kernel
theorem dX3_loadTray_60 : decode cX3_loadTray 60 = .ok (.iconst 1, 1) := by decide +kernel
theorem dX3_loadTray_61 : decode cX3_loadTray 61 = .ok (.iadd, 1) := by decide +kernel
theorem dX3_loadTray_62 : decode cX3_loadTray 62 = .ok (.putfield 74, 3) := by decide +kernel
theorem dX3_loadTray_65 : decode cX3_loadTray 65 = .ok (.return_, 1) := by decide +kernel
theorem dX3_chuteGets_0 : decode cX3_chuteGets 0 = .ok (.iload_n 1, 1) := by decide +kernel
theorem dX3_chuteGets_1 : decode cX3_chuteGets 1 = .ok (.ifCond .lt 9, 3) := by decide +kernel
theorem dX3_chuteGets_4 : decode cX3_chuteGets 4 = .ok (.iload_n 1, 1) := by decide +kernel
theorem dX3_chuteGets_5 : decode cX3_chuteGets 5 = .ok (.bipush 6, 2) := by decide +kernel
theorem dX3_chuteGets_7 : decode cX3_chuteGets 7 = .ok (.if_icmp .lt 5, 3) := by decide +kernel
theorem dX3_chuteGets_10 : decode cX3_chuteGets 10 = .ok (.iconst 0, 1) := by decide +kernel
theorem dX3_chuteGets_11 : decode cX3_chuteGets 11 = .ok (.ireturn, 1) := by decide +kernel
theorem dX3_chuteGets_12 : decode cX3_chuteGets 12 = .ok (.aload_n 0, 1) := by decide +kernel
theorem dX3_chuteGets_13 : decode cX3_chuteGets 13 = .ok (.getfield 31, 3) := by decide +kernel
theorem dX3_chuteGets_16 : decode cX3_chuteGets 16 = .ok (.iload_n 1, 1) := by decide +kernel
theorem dX3_chuteGets_17 : decode cX3_chuteGets 17 = .ok (.aload_n 0, 1) := by decide +kernel
theorem dX3_chuteGets_18 : decode cX3_chuteGets 18 = .ok (.getfield 35, 3) := by decide +kernel
theorem dX3_chuteGets_21 : decode cX3_chuteGets 21 = .ok (.iload_n 2, 1) := by decide +kernel
theorem dX3_chuteGets_22 : decode cX3_chuteGets 22 = .ok (.invokevirtual 126, 3) := by decide +kernel
theorem dX3_chuteGets_25 : decode cX3_chuteGets 25 = .ok (.aload_n 0, 1) := by decide +kernel
theorem dX3_chuteGets_26 : decode cX3_chuteGets 26 = .ok (.getfield 28, 3) := by decide +kernel
theorem dX3_chuteGets_29 : decode cX3_chuteGets 29 = .ok (.iload_n 1, 1) := by decide +kernel
theorem dX3_chuteGets_30 : decode cX3_chuteGets 30 = .ok (.iaload, 1) := by decide +kernel
theorem dX3_chuteGets_31 : decode cX3_chuteGets 31 = .ok (.invokevirtual 129, 3) := by decide +kernel
theorem dX3_chuteGets_34 : decode cX3_chuteGets 34 = .ok (.ifCond .ne 5, 3) := by decide +kernel
theorem dX3_chuteGets_37 : decode cX3_chuteGets 37 = .ok (.iconst 0, 1) := by decide +kernel
theorem dX3_chuteGets_38 : decode cX3_chuteGets 38 = .ok (.ireturn, 1) := by decide +kernel
theorem dX3_chuteGets_39 : decode cX3_chuteGets 39 = .ok (.aload_n 0, 1) := by decide +kernel
theorem dX3_chuteGets_40 : decode cX3_chuteGets 40 = .ok (.getfield 28, 3) := by decide +kernel
theorem dX3_chuteGets_43 : decode cX3_chuteGets 43 = .ok (.iload_n 1, 1) := by decide +kernel
theorem dX3_chuteGets_44 : decode cX3_chuteGets 44 = .ok (.dup2, 1) := by decide +kernel
theorem dX3_chuteGets_45 : decode cX3_chuteGets 45 = .ok (.iaload, 1) := by decide +kernel
theorem dX3_chuteGets_46 : decode cX3_chuteGets 46 = .ok (.iconst 1, 1) := by decide +kernel
theorem dX3_chuteGets_47 : decode cX3_chuteGets 47 = .ok (.iadd, 1) := by decide +kernel
theorem dX3_chuteGets_48 : decode cX3_chuteGets 48 = .ok (.iastore, 1) := by decide +kernel
theorem dX3_chuteGets_49 : decode cX3_chuteGets 49 = .ok (.iconst 1, 1) := by decide +kernel
theorem dX3_chuteGets_50 : decode cX3_chuteGets 50 = .ok (.ireturn, 1) := by decide +kernel
theorem dX4_init_0 : decode cX4_init 0 = .ok (.aload_n 0, 1) := by decide +kernel
theorem dX4_init_1 : decode cX4_init 1 = .ok (.invokespecial 3, 3) := by decide +kernel
theorem dX4_init_4 : decode cX4_init 4 = .ok (.aload_n 0, 1) := by decide +kernel
theorem dX4_init_5 : decode cX4_init 5 = .ok (.sipush 300, 3) := by decide +kernel
theorem dX4_init_8 : decode cX4_init 8 = .ok (.newarray .int, 2) := by decide +kernel
theorem dX4_init_10 : decode cX4_init 10 = .ok (.putfield 9, 3) := by decide +kernel
theorem dX4_init_13 : decode cX4_init 13 = .ok (.aload_n 0, 1) := by decide +kernel
theorem dX4_init_14 : decode cX4_init 14 = .ok (.sipush 300, 3) := by decide +kernel
theorem dX4_init_17 : decode cX4_init 17 = .ok (.newarray .int, 2) := by decide +kernel
theorem dX4_init_19 : decode cX4_init 19 = .ok (.putfield 15, 3) := by decide +kernel
theorem dX4_init_22 : decode cX4_init 22 = .ok (.aload_n 0, 1) := by decide +kernel
theorem dX4_init_23 : decode cX4_init 23 = .ok (.sipush 300, 3) := by decide +kernel
theorem dX4_init_26 : decode cX4_init 26 = .ok (.newarray .char, 2) := by decide +kernel
theorem dX4_init_28 : decode cX4_init 28 = .ok (.putfield 18, 3) := by decide +kernel
theorem dX4_init_31 : decode cX4_init 31 = .ok (.aload_n 0, 1) := by decide +kernel
theorem dX4_init_32 : decode cX4_init 32 = .ok (.sipush 300, 3) := by decide +kernel
theorem dX4_init_35 : decode cX4_init 35 = .ok (.newarray .int, 2) := by decide +kernel
theorem dX4_init_37 : decode cX4_init 37 = .ok (.putfield 22, 3) := by decide +kernel
theorem dX4_init_40 : decode cX4_init 40 = .ok (.aload_n 0, 1) := by decide +kernel
theorem dX4_init_41 : decode cX4_init 41 = .ok (.sipush 300, 3) := by decide +kernel
theorem dX4_init_44 : decode cX4_init 44 = .ok (.newarray .int, 2) := by decide +kernel
theorem dX4_init_46 : decode cX4_init 46 = .ok (.putfield 25, 3) := by decide +kernel
theorem dX4_init_49 : decode cX4_init 49 = .ok (.return_, 1) := by decide +kernel
theorem dX4_has_0 : decode cX4_has 0 = .ok (.iload_n 1, 1) := by decide +kernel
theorem dX4_has_1 : decode cX4_has 1 = .ok (.ifCond .lt 22, 3) := by decide +kernel
theorem dX4_has_4 : decode cX4_has 4 = .ok (.iload_n 1, 1) := by decide +kernel
theorem dX4_has_5 : decode cX4_has 5 = .ok (.aload_n 0, 1) := by decide +kernel
theorem dX4_has_6 : decode cX4_has 6 = .ok (.getfield 28, 3) := by decide +kernel
theorem dX4_has_9 : decode cX4_has 9 = .ok (.if_icmp .ge 14, 3) := by decide +kernel
theorem dX4_has_12 : decode cX4_has 12 = .ok (.iload_n 1, 1) := by decide +kernel
theorem dX4_has_13 : decode cX4_has 13 = .ok (.sipush 300, 3) := by decide +kernel
theorem dX4_has_16 : decode cX4_has 16 = .ok (.if_icmp .ge 7, 3) := by decide +kernel
theorem dX4_has_19 : decode cX4_has 19 = .ok (.iconst 1, 1) := by decide +kernel
theorem dX4_has_20 : decode cX4_has 20 = .ok (.goto 4, 3) := by decide +kernel
theorem dX4_has_23 : decode cX4_has 23 = .ok (.iconst 0, 1) := by decide +kernel
theorem dX4_has_24 : decode cX4_has 24 = .ok (.ireturn, 1) := by decide +kernel
theorem dX4_add_0 : decode cX4_add 0 = .ok (.aload_n 0, 1) := by decide +kernel
theorem dX4_add_1 : decode cX4_add 1 = .ok (.getfield 28, 3) := by decide +kernel
theorem dX4_add_4 : decode cX4_add 4 = .ok (.istore_n 3, 1) := by decide +kernel
theorem dX4_add_5 : decode cX4_add 5 = .ok (.iload_n 3, 1) := by decide +kernel
theorem dX4_add_6 : decode cX4_add 6 = .ok (.ifCond .lt 10, 3) := by decide +kernel
theorem dX4_add_9 : decode cX4_add 9 = .ok (.iload_n 3, 1) := by decide +kernel
theorem dX4_add_10 : decode cX4_add 10 = .ok (.sipush 300, 3) := by decide +kernel
theorem dX4_add_13 : decode cX4_add 13 = .ok (.if_icmp .lt 5, 3) := by decide +kernel
theorem dX4_add_16 : decode cX4_add 16 = .ok (.iconst (-1), 1) := by decide +kernel
theorem dX4_add_17 : decode cX4_add 17 = .ok (.ireturn, 1) := by decide +kernel
theorem dX4_add_18 : decode cX4_add 18 = .ok (.aload_n 0, 1) := by decide +kernel
theorem dX4_add_19 : decode cX4_add 19 = .ok (.getfield 9, 3) := by decide +kernel
theorem dX4_add_22 : decode cX4_add 22 = .ok (.iload_n 3, 1) := by decide +kernel
theorem dX4_add_23 : decode cX4_add 23 = .ok (.iload_n 1, 1) := by decide +kernel
theorem dX4_add_24 : decode cX4_add 24 = .ok (.iastore, 1) := by decide +kernel
theorem dX4_add_25 : decode cX4_add 25 = .ok (.aload_n 0, 1) := by decide +kernel
theorem dX4_add_26 : decode cX4_add 26 = .ok (.getfield 15, 3) := by decide +kernel
theorem dX4_add_29 : decode cX4_add 29 = .ok (.iload_n 3, 1) := by decide +kernel
theorem dX4_add_30 : decode cX4_add 30 = .ok (.iload_n 2, 1) := by decide +kernel
theorem dX4_add_31 : decode cX4_add 31 = .ok (.iastore, 1) := by decide +kernel
theorem dX4_add_32 : decode cX4_add 32 = .ok (.aload_n 0, 1) := by decide +kernel
theorem dX4_add_33 : decode cX4_add 33 = .ok (.getfield 18, 3) := by decide +kernel
theorem dX4_add_36 : decode cX4_add 36 = .ok (.iload_n 3, 1) := by decide +kernel
theorem dX4_add_37 : decode cX4_add 37 = .ok (.bipush 119, 2) := by decide +kernel
theorem dX4_add_39 : decode cX4_add 39 = .ok (.castore, 1) := by decide +kernel
theorem dX4_add_40 : decode cX4_add 40 = .ok (.aload_n 0, 1) := by decide +kernel
theorem dX4_add_41 : decode cX4_add 41 = .ok (.dup, 1) := by decide +kernel
theorem dX4_add_42 : decode cX4_add 42 = .ok (.getfield 28, 3) := by decide +kernel
theorem dX4_add_45 : decode cX4_add 45 = .ok (.iconst 1, 1) := by decide +kernel
theorem dX4_add_46 : decode cX4_add 46 = .ok (.iadd, 1) := by decide +kernel
theorem dX4_add_47 : decode cX4_add 47 = .ok (.putfield 28, 3) := by decide +kernel
theorem dX4_add_50 : decode cX4_add 50 = .ok (.iload_n 3, 1) := by decide +kernel
theorem dX4_add_51 : decode cX4_add 51 = .ok (.ireturn, 1) := by decide +kernel
theorem dX4_loadFirst_0 : decode cX4_loadFirst 0 = .ok (.aload_n 0, 1) := by decide +kernel
theorem dX4_loadFirst_1 : decode cX4_loadFirst 1 = .ok (.getfield 32, 3) := by decide +kernel
theorem dX4_loadFirst_4 : decode cX4_loadFirst 4 = .ok (.istore_n 1, 1) := by decide +kernel
theorem dX4_loadFirst_5 : decode cX4_loadFirst 5 = .ok (.aload_n 0, 1) := by decide +kernel
theorem dX4_loadFirst_6 : decode cX4_loadFirst 6 = .ok (.iload_n 1, 1) := by decide +kernel
theorem dX4_loadFirst_7 : decode cX4_loadFirst 7 = .ok (.invokevirtual 35, 3) := by decide +kernel
theorem dX4_loadFirst_10 : decode cX4_loadFirst 10 = .ok (.ifCond .ne 5, 3) := by decide +kernel
theorem dX4_loadFirst_13 : decode cX4_loadFirst 13 = .ok (.iconst (-1), 1) := by decide +kernel
theorem dX4_loadFirst_14 : decode cX4_loadFirst 14 = .ok (.ireturn, 1) := by decide +kernel
theorem dX4_loadFirst_15 : decode cX4_loadFirst 15 = .ok (.aload_n 0, 1) := by decide +kernel
theorem dX4_loadFirst_16 : decode cX4_loadFirst 16 = .ok (.getfield 18, 3) := by decide +kernel
theorem dX4_loadFirst_19 : decode cX4_loadFirst 19 = .ok (.iload_n 1, 1) := by decide +kernel
theorem dX4_loadFirst_20 : decode cX4_loadFirst 20 = .ok (.bipush 108, 2) := by decide +kernel
theorem dX4_loadFirst_22 : decode cX4_loadFirst 22 = .ok (.castore, 1) := by decide +kernel
theorem dX4_loadFirst_23 : decode cX4_loadFirst 23 = .ok (.aload_n 0, 1) := by decide +kernel
theorem dX4_loadFirst_24 : decode cX4_loadFirst 24 = .ok (.dup, 1) := by decide +kernel
theorem dX4_loadFirst_25 : decode cX4_loadFirst 25 = .ok (.getfield 32, 3) := by decide +kernel
theorem dX4_loadFirst_28 : decode cX4_loadFirst 28 = .ok (.iconst 1, 1) := by decide +kernel
theorem dX4_loadFirst_29 : decode cX4_loadFirst 29 = .ok (.iadd, 1) := by decide +kernel
theorem dX4_loadFirst_30 : decode cX4_loadFirst 30 = .ok (.putfield 32, 3) := by decide +kernel
theorem dX4_loadFirst_33 : decode cX4_loadFirst 33 = .ok (.iload_n 1, 1) := by decide +kernel
theorem dX4_loadFirst_34 : decode cX4_loadFirst 34 = .ok (.ireturn, 1) := by decide +kernel
theorem dX4_leave_0 : decode cX4_leave 0 = .ok (.aload_n 0, 1) := by decide +kernel
theorem dX4_leave_1 : decode cX4_leave 1 = .ok (.iload_n 1, 1) := by decide +kernel
theorem dX4_leave_2 : decode cX4_leave 2 = .ok (.invokevirtual 35, 3) := by decide +kernel
theorem dX4_leave_5 : decode cX4_leave 5 = .ok (.ifCond .eq 38, 3) := by decide +kernel
theorem dX4_leave_8 : decode cX4_leave 8 = .ok (.aload_n 0, 1) := by decide +kernel
theorem dX4_leave_9 : decode cX4_leave 9 = .ok (.getfield 18, 3) := by decide +kernel
theorem dX4_leave_12 : decode cX4_leave 12 = .ok (.iload_n 1, 1) := by decide +kernel
theorem dX4_leave_13 : decode cX4_leave 13 = .ok (.iload_n 2, 1) := by decide +kernel
theorem dX4_leave_14 : decode cX4_leave 14 = .ok (.castore, 1) := by decide +kernel
theorem dX4_leave_15 : decode cX4_leave 15 = .ok (.aload_n 0, 1) := by decide +kernel
theorem dX4_leave_16 : decode cX4_leave 16 = .ok (.getfield 22, 3) := by decide +kernel
theorem dX4_leave_19 : decode cX4_leave 19 = .ok (.iload_n 1, 1) := by decide +kernel
theorem dX4_leave_20 : decode cX4_leave 20 = .ok (.iload_n 3, 1) := by decide +kernel
theorem dX4_leave_21 : decode cX4_leave 21 = .ok (.iastore, 1) := by decide +kernel
theorem dX4_leave_22 : decode cX4_leave 22 = .ok (.aload_n 0, 1) := by decide +kernel
theorem dX4_leave_23 : decode cX4_leave 23 = .ok (.dup, 1) := by decide +kernel
theorem dX4_leave_24 : decode cX4_leave 24 = .ok (.getfield 39, 3) := by decide +kernel
theorem dX4_leave_27 : decode cX4_leave 27 = .ok (.iconst 1, 1) := by decide +kernel
theorem dX4_leave_28 : decode cX4_leave 28 = .ok (.iadd, 1) := by decide +kernel
theorem dX4_leave_29 : decode cX4_leave 29 = .ok (.putfield 39, 3) := by decide +kernel
theorem dX4_leave_32 : decode cX4_leave 32 = .ok (.aload_n 0, 1) := by decide +kernel
theorem dX4_leave_33 : decode cX4_leave 33 = .ok (.dup, 1) := by decide +kernel
theorem dX4_leave_34 : decode cX4_leave 34 = .ok (.getfield 42, 3) := by decide +kernel
theorem dX4_leave_37 : decode cX4_leave 37 = .ok (.iload_n 3, 1) := by decide +kernel
theorem dX4_leave_38 : decode cX4_leave 38 = .ok (.i2l, 1) := by decide +kernel
theorem dX4_leave_39 : decode cX4_leave 39 = .ok (.ladd, 1) := by decide +kernel
theorem dX4_leave_40 : decode cX4_leave 40 = .ok (.putfield 42, 3) := by decide +kernel
theorem dX4_leave_43 : decode cX4_leave 43 = .ok (.return_, 1) := by decide +kernel
theorem dX4_enterTruck_0 : decode cX4_enterTruck 0 = .ok (.aload_n 0, 1) := by decide +kernel
theorem dX4_enterTruck_1 : decode cX4_enterTruck 1 = .ok (.iload_n 1, 1) := by decide +kernel
theorem dX4_enterTruck_2 : decode cX4_enterTruck 2 = .ok (.invokevirtual 35, 3) := by decide +kernel
theorem dX4_enterTruck_5 : decode cX4_enterTruck 5 = .ok (.ifCond .eq 34, 3) := by decide +kernel
theorem dX4_enterTruck_8 : decode cX4_enterTruck 8 = .ok (.aload_n 0, 1) := by decide +kernel
theorem dX4_enterTruck_9 : decode cX4_enterTruck 9 = .ok (.getfield 18, 3) := by decide +kernel
theorem dX4_enterTruck_12 : decode cX4_enterTruck 12 = .ok (.iload_n 1, 1) := by decide +kernel
theorem dX4_enterTruck_13 : decode cX4_enterTruck 13 = .ok (.bipush 116, 2) := by decide +kernel
theorem dX4_enterTruck_15 : decode cX4_enterTruck 15 = .ok (.castore, 1) := by decide +kernel
theorem dX4_enterTruck_16 : decode cX4_enterTruck 16 = .ok (.aload_n 0, 1) := by decide +kernel
theorem dX4_enterTruck_17 : decode cX4_enterTruck 17 = .ok (.getfield 25, 3) := by decide +kernel
theorem dX4_enterTruck_20 : decode cX4_enterTruck 20 = .ok (.iload_n 1, 1) := by decide +kernel
theorem dX4_enterTruck_21 : decode cX4_enterTruck 21 = .ok (.iload_n 2, 1) := by decide +kernel
theorem dX4_enterTruck_22 : decode cX4_enterTruck 22 = .ok (.iastore, 1) := by decide +kernel
theorem dX4_enterTruck_23 : decode cX4_enterTruck 23 = .ok (.aload_n 0, 1) := by decide +kernel
theorem dX4_enterTruck_24 : decode cX4_enterTruck 24 = .ok (.dup, 1) := by decide +kernel
theorem dX4_enterTruck_25 : decode cX4_enterTruck 25 = .ok (.getfield 46, 3) := by decide +kernel
theorem dX4_enterTruck_28 : decode cX4_enterTruck 28 = .ok (.aload_n 0, 1) := by decide +kernel
theorem dX4_enterTruck_29 : decode cX4_enterTruck 29 = .ok (.getfield 15, 3) := by decide +kernel
theorem dX4_enterTruck_32 : decode cX4_enterTruck 32 = .ok (.iload_n 1, 1) := by decide +kernel
theorem dX4_enterTruck_33 : decode cX4_enterTruck 33 = .ok (.iaload, 1) := by decide +kernel
theorem dX4_enterTruck_34 : decode cX4_enterTruck 34 = .ok (.i2l, 1) := by decide +kernel
theorem dX4_enterTruck_35 : decode cX4_enterTruck 35 = .ok (.ladd, 1) := by decide +kernel
theorem dX4_enterTruck_36 : decode cX4_enterTruck 36 = .ok (.putfield 46, 3) := by decide +kernel
theorem dX4_enterTruck_39 : decode cX4_enterTruck 39 = .ok (.return_, 1) := by decide +kernel
theorem dX4_routeAt_0 : decode cX4_routeAt 0 = .ok (.aload_n 0, 1) := by decide +kernel
theorem dX4_routeAt_1 : decode cX4_routeAt 1 = .ok (.iload_n 1, 1) := by decide +kernel
theorem dX4_routeAt_2 : decode cX4_routeAt 2 = .ok (.invokevirtual 35, 3) := by decide +kernel
theorem dX4_routeAt_5 : decode cX4_routeAt 5 = .ok (.ifCond .eq 12, 3) := by decide +kernel
theorem dX4_routeAt_8 : decode cX4_routeAt 8 = .ok (.aload_n 0, 1) := by decide +kernel
theorem dX4_routeAt_9 : decode cX4_routeAt 9 = .ok (.getfield 9, 3) := by decide +kernel
theorem dX4_routeAt_12 : decode cX4_routeAt 12 = .ok (.iload_n 1, 1) := by decide +kernel
theorem dX4_routeAt_13 : decode cX4_routeAt 13 = .ok (.iaload, 1) := by decide +kernel
theorem dX4_routeAt_14 : decode cX4_routeAt 14 = .ok (.goto 4, 3) := by decide +kernel
theorem dX4_routeAt_17 : decode cX4_routeAt 17 = .ok (.iconst (-1), 1) := by decide +kernel
theorem dX4_routeAt_18 : decode cX4_routeAt 18 = .ok (.ireturn, 1) := by decide +kernel
theorem dX4_stateAt_0 : decode cX4_stateAt 0 = .ok (.aload_n 0, 1) := by decide +kernel
theorem dX4_stateAt_1 : decode cX4_stateAt 1 = .ok (.iload_n 1, 1) := by decide +kernel
theorem dX4_stateAt_2 : decode cX4_stateAt 2 = .ok (.invokevirtual 35, 3) := by decide +kernel
theorem dX4_stateAt_5 : decode cX4_stateAt 5 = .ok (.ifCond .eq 12, 3) := by decide +kernel
theorem dX4_stateAt_8 : decode cX4_stateAt 8 = .ok (.aload_n 0, 1) := by decide +kernel
theorem dX4_stateAt_9 : decode cX4_stateAt 9 = .ok (.getfield 18, 3) := by decide +kernel
theorem dX4_stateAt_12 : decode cX4_stateAt 12 = .ok (.iload_n 1, 1) := by decide +kernel
theorem dX4_stateAt_13 : decode cX4_stateAt 13 = .ok (.caload, 1) := by decide +kernel
theorem dX4_stateAt_14 : decode cX4_stateAt 14 = .ok (.goto 5, 3) := by decide +kernel
theorem dX4_stateAt_17 : decode cX4_stateAt 17 = .ok (.bipush 45, 2) := by decide +kernel
theorem dX4_stateAt_19 : decode cX4_stateAt 19 = .ok (.ireturn, 1) := by decide +kernel
theorem dX4_lastRoundsAt_0 : decode cX4_lastRoundsAt 0 = .ok (.aload_n 0, 1) := by decide +kernel
theorem dX4_lastRoundsAt_1 : decode cX4_lastRoundsAt 1 = .ok (.iload_n 1, 1) := by decide +kernel
theorem dX4_lastRoundsAt_2 : decode cX4_lastRoundsAt 2 = .ok (.invokevirtual 35, 3) := by decide +kernel
theorem dX4_lastRoundsAt_5 : decode cX4_lastRoundsAt 5 = .ok (.ifCond .eq 12, 3) := by decide +kernel
theorem dX4_lastRoundsAt_8 : decode cX4_lastRoundsAt 8 = .ok (.aload_n 0, 1) := by decide +kernel
theorem dX4_lastRoundsAt_9 : decode cX4_lastRoundsAt 9 = .ok (.getfield 22, 3) := by decide +kernel
theorem dX4_lastRoundsAt_12 : decode cX4_lastRoundsAt 12 = .ok (.iload_n 1, 1) := by decide +kernel
theorem dX4_lastRoundsAt_13 : decode cX4_lastRoundsAt 13 = .ok (.iaload, 1) := by decide +kernel
theorem dX4_lastRoundsAt_14 : decode cX4_lastRoundsAt 14 = .ok (.goto 4, 3) := by decide +kernel
theorem dX4_lastRoundsAt_17 : decode cX4_lastRoundsAt 17 = .ok (.iconst 0, 1) := by decide +kernel
theorem dX4_lastRoundsAt_18 : decode cX4_lastRoundsAt 18 = .ok (.ireturn, 1) := by decide +kernel
theorem dX4_truckAt_0 : decode cX4_truckAt 0 = .ok (.aload_n 0, 1) := by decide +kernel
theorem dX4_truckAt_1 : decode cX4_truckAt 1 = .ok (.iload_n 1, 1) := by decide +kernel
theorem dX4_truckAt_2 : decode cX4_truckAt 2 = .ok (.invokevirtual 35, 3) := by decide +kernel
theorem dX4_truckAt_5 : decode cX4_truckAt 5 = .ok (.ifCond .eq 12, 3) := by decide +kernel
theorem dX4_truckAt_8 : decode cX4_truckAt 8 = .ok (.aload_n 0, 1) := by decide +kernel
theorem dX4_truckAt_9 : decode cX4_truckAt 9 = .ok (.getfield 25, 3) := by decide +kernel
theorem dX4_truckAt_12 : decode cX4_truckAt 12 = .ok (.iload_n 1, 1) := by decide +kernel
theorem dX4_truckAt_13 : decode cX4_truckAt 13 = .ok (.iaload, 1) := by decide +kernel
theorem dX4_truckAt_14 : decode cX4_truckAt 14 = .ok (.goto 4, 3) := by decide +kernel
theorem dX4_truckAt_17 : decode cX4_truckAt 17 = .ok (.iconst (-1), 1) := by decide +kernel
theorem dX4_truckAt_18 : decode cX4_truckAt 18 = .ok (.ireturn, 1) := by decide +kernel
theorem dX4_loadOf_0 : decode cX4_loadOf 0 = .ok (.iconst 0, 1) := by decide +kernel
theorem dX4_loadOf_1 : decode cX4_loadOf 1 = .ok (.istore_n 2, 1) := by decide +kernel
theorem dX4_loadOf_2 : decode cX4_loadOf 2 = .ok (.iconst 0, 1) := by decide +kernel
theorem dX4_loadOf_3 : decode cX4_loadOf 3 = .ok (.istore_n 3, 1) := by decide +kernel
theorem dX4_loadOf_4 : decode cX4_loadOf 4 = .ok (.iload_n 3, 1) := by decide +kernel
theorem dX4_loadOf_5 : decode cX4_loadOf 5 = .ok (.aload_n 0, 1) := by decide +kernel
theorem dX4_loadOf_6 : decode cX4_loadOf 6 = .ok (.getfield 28, 3) := by decide +kernel
theorem dX4_loadOf_9 : decode cX4_loadOf 9 = .ok (.if_icmp .ge 69, 3) := by decide +kernel
theorem dX4_loadOf_12 : decode cX4_loadOf 12 = .ok (.iload_n 3, 1) := by decide +kernel
theorem dX4_loadOf_13 : decode cX4_loadOf 13 = .ok (.sipush 300, 3) := by decide +kernel
theorem dX4_loadOf_16 : decode cX4_loadOf 16 = .ok (.if_icmp .ge 62, 3) := by decide +kernel
theorem dX4_loadOf_19 : decode cX4_loadOf 19 = .ok (.aload_n 0, 1) := by decide +kernel
theorem dX4_loadOf_20 : decode cX4_loadOf 20 = .ok (.getfield 18, 3) := by decide +kernel
theorem dX4_loadOf_23 : decode cX4_loadOf 23 = .ok (.iload_n 3, 1) := by decide +kernel
theorem dX4_loadOf_24 : decode cX4_loadOf 24 = .ok (.caload, 1) := by decide +kernel
theorem dX4_loadOf_25 : decode cX4_loadOf 25 = .ok (.bipush 119, 2) := by decide +kernel
theorem dX4_loadOf_27 : decode cX4_loadOf 27 = .ok (.if_icmp .eq 14, 3) := by decide +kernel
theorem dX4_loadOf_30 : decode cX4_loadOf 30 = .ok (.aload_n 0, 1) := by decide +kernel
theorem dX4_loadOf_31 : decode cX4_loadOf 31 = .ok (.getfield 18, 3) := by decide +kernel
theorem dX4_loadOf_34 : decode cX4_loadOf 34 = .ok (.iload_n 3, 1) := by decide +kernel
theorem dX4_loadOf_35 : decode cX4_loadOf 35 = .ok (.caload, 1) := by decide +kernel
theorem dX4_loadOf_36 : decode cX4_loadOf 36 = .ok (.bipush 108, 2) := by decide +kernel
theorem dX4_loadOf_38 : decode cX4_loadOf 38 = .ok (.if_icmp .ne 7, 3) := by decide +kernel
theorem dX4_loadOf_41 : decode cX4_loadOf 41 = .ok (.iconst 1, 1) := by decide +kernel
theorem dX4_loadOf_42 : decode cX4_loadOf 42 = .ok (.goto 4, 3) := by decide +kernel
theorem dX4_loadOf_45 : decode cX4_loadOf 45 = .ok (.iconst 0, 1) := by decide +kernel
theorem dX4_loadOf_46 : decode cX4_loadOf 46 = .ok (.istore 4, 2) := by decide +kernel
theorem dX4_loadOf_48 : decode cX4_loadOf 48 = .ok (.iload 4, 2) := by decide +kernel
theorem dX4_loadOf_50 : decode cX4_loadOf 50 = .ok (.ifCond .eq 22, 3) := by decide +kernel
theorem dX4_loadOf_53 : decode cX4_loadOf 53 = .ok (.aload_n 0, 1) := by decide +kernel
theorem dX4_loadOf_54 : decode cX4_loadOf 54 = .ok (.getfield 9, 3) := by decide +kernel
theorem dX4_loadOf_57 : decode cX4_loadOf 57 = .ok (.iload_n 3, 1) := by decide +kernel
theorem dX4_loadOf_58 : decode cX4_loadOf 58 = .ok (.iaload, 1) := by decide +kernel
theorem dX4_loadOf_59 : decode cX4_loadOf 59 = .ok (.iload_n 1, 1) := by decide +kernel
theorem dX4_loadOf_60 : decode cX4_loadOf 60 = .ok (.if_icmp .ne 12, 3) := by decide +kernel
theorem dX4_loadOf_63 : decode cX4_loadOf 63 = .ok (.iload_n 2, 1) := by decide +kernel
theorem dX4_loadOf_64 : decode cX4_loadOf 64 = .ok (.aload_n 0, 1) := by decide +kernel
theorem dX4_loadOf_65 : decode cX4_loadOf 65 = .ok (.getfield 15, 3) := by decide +kernel
theorem dX4_loadOf_68 : decode cX4_loadOf 68 = .ok (.iload_n 3, 1) := by decide +kernel
theorem dX4_loadOf_69 : decode cX4_loadOf 69 = .ok (.iaload, 1) := by decide +kernel
theorem dX4_loadOf_70 : decode cX4_loadOf 70 = .ok (.iadd, 1) := by decide +kernel
theorem dX4_loadOf_71 : decode cX4_loadOf 71 = .ok (.istore_n 2, 1) := by decide +kernel
theorem dX4_loadOf_72 : decode cX4_loadOf 72 = .ok (.iinc 3 1, 3) := by decide +kernel
theorem dX4_loadOf_75 : decode cX4_loadOf 75 = .ok (.goto (-71), 3) := by decide +kernel
theorem dX4_loadOf_78 : decode cX4_loadOf 78 = .ok (.iload_n 2, 1) := by decide +kernel
theorem dX4_loadOf_79 : decode cX4_loadOf 79 = .ok (.ireturn, 1) := by decide +kernel
theorem dX5_init_0 : decode cX5_init 0 = .ok (.aload_n 0, 1) := by decide +kernel
theorem dX5_init_1 : decode cX5_init 1 = .ok (.invokespecial 3, 3) := by decide +kernel
theorem dX5_init_4 : decode cX5_init 4 = .ok (.aload_n 0, 1) := by decide +kernel
theorem dX5_init_5 : decode cX5_init 5 = .ok (.iload_n 1, 1) := by decide +kernel
theorem dX5_init_6 : decode cX5_init 6 = .ok (.iconst 0, 1) := by decide +kernel
theorem dX5_init_7 : decode cX5_init 7 = .ok (.invokestatic 9, 3) := by decide +kernel
theorem dX5_init_10 : decode cX5_init 10 = .ok (.newarray .int, 2) := by decide +kernel
theorem dX5_init_12 : decode cX5_init 12 = .ok (.putfield 15, 3) := by decide +kernel
theorem dX5_init_15 : decode cX5_init 15 = .ok (.return_, 1) := by decide +kernel
theorem dX5_at_0 : decode cX5_at 0 = .ok (.iload_n 1, 1) := by decide +kernel
theorem dX5_at_1 : decode cX5_at 1 = .ok (.ifCond .lt 29, 3) := by decide +kernel
theorem dX5_at_4 : decode cX5_at 4 = .ok (.iload_n 1, 1) := by decide +kernel
theorem dX5_at_5 : decode cX5_at 5 = .ok (.aload_n 0, 1) := by decide +kernel
theorem dX5_at_6 : decode cX5_at 6 = .ok (.getfield 21, 3) := by decide +kernel
theorem dX5_at_9 : decode cX5_at 9 = .ok (.if_icmp .ge 21, 3) := by decide +kernel
theorem dX5_at_12 : decode cX5_at 12 = .ok (.iload_n 1, 1) := by decide +kernel
theorem dX5_at_13 : decode cX5_at 13 = .ok (.aload_n 0, 1) := by decide +kernel
theorem dX5_at_14 : decode cX5_at 14 = .ok (.getfield 15, 3) := by decide +kernel
theorem dX5_at_17 : decode cX5_at 17 = .ok (.arraylength, 1) := by decide +kernel
theorem dX5_at_18 : decode cX5_at 18 = .ok (.if_icmp .ge 12, 3) := by decide +kernel
theorem dX5_at_21 : decode cX5_at 21 = .ok (.aload_n 0, 1) := by decide +kernel
theorem dX5_at_22 : decode cX5_at 22 = .ok (.getfield 15, 3) := by decide +kernel
theorem dX5_at_25 : decode cX5_at 25 = .ok (.iload_n 1, 1) := by decide +kernel
theorem dX5_at_26 : decode cX5_at 26 = .ok (.iaload, 1) := by decide +kernel
theorem dX5_at_27 : decode cX5_at 27 = .ok (.goto 4, 3) := by decide +kernel
theorem dX5_at_30 : decode cX5_at 30 = .ok (.iconst (-1), 1) := by decide +kernel
theorem dX5_at_31 : decode cX5_at 31 = .ok (.ireturn, 1) := by decide +kernel
theorem dX5_add_0 : decode cX5_add 0 = .ok (.aload_n 0, 1) := by decide +kernel
theorem dX5_add_1 : decode cX5_add 1 = .ok (.getfield 21, 3) := by decide +kernel
theorem dX5_add_4 : decode cX5_add 4 = .ok (.ifCond .lt 35, 3) := by decide +kernel
theorem dX5_add_7 : decode cX5_add 7 = .ok (.aload_n 0, 1) := by decide +kernel
theorem dX5_add_8 : decode cX5_add 8 = .ok (.getfield 21, 3) := by decide +kernel
theorem dX5_add_11 : decode cX5_add 11 = .ok (.aload_n 0, 1) := by decide +kernel
theorem dX5_add_12 : decode cX5_add 12 = .ok (.getfield 15, 3) := by decide +kernel
theorem dX5_add_15 : decode cX5_add 15 = .ok (.arraylength, 1) := by decide +kernel
theorem dX5_add_16 : decode cX5_add 16 = .ok (.if_icmp .ge 23, 3) := by decide +kernel
theorem dX5_add_19 : decode cX5_add 19 = .ok (.aload_n 0, 1) := by decide +kernel
theorem dX5_add_20 : decode cX5_add 20 = .ok (.getfield 15, 3) := by decide +kernel
theorem dX5_add_23 : decode cX5_add 23 = .ok (.aload_n 0, 1) := by decide +kernel
theorem dX5_add_24 : decode cX5_add 24 = .ok (.getfield 21, 3) := by decide +kernel
theorem dX5_add_27 : decode cX5_add 27 = .ok (.iload_n 1, 1) := by decide +kernel
theorem dX5_add_28 : decode cX5_add 28 = .ok (.iastore, 1) := by decide +kernel
theorem dX5_add_29 : decode cX5_add 29 = .ok (.aload_n 0, 1) := by decide +kernel
theorem dX5_add_30 : decode cX5_add 30 = .ok (.dup, 1) := by decide +kernel
theorem dX5_add_31 : decode cX5_add 31 = .ok (.getfield 21, 3) := by decide +kernel
theorem dX5_add_34 : decode cX5_add 34 = .ok (.iconst 1, 1) := by decide +kernel
theorem dX5_add_35 : decode cX5_add 35 = .ok (.iadd, 1) := by decide +kernel
theorem dX5_add_36 : decode cX5_add 36 = .ok (.putfield 21, 3) := by decide +kernel
theorem dX5_add_39 : decode cX5_add 39 = .ok (.return_, 1) := by decide +kernel
theorem dX5_sealOf_0 : decode cX5_sealOf 0 = .ok (.iconst 0, 1) := by decide +kernel
theorem dX5_sealOf_1 : decode cX5_sealOf 1 = .ok (.istore_n 3, 1) := by decide +kernel
theorem dX5_sealOf_2 : decode cX5_sealOf 2 = .ok (.iconst 0, 1) := by decide +kernel
theorem dX5_sealOf_3 : decode cX5_sealOf 3 = .ok (.istore 4, 2) := by decide +kernel
theorem dX5_sealOf_5 : decode cX5_sealOf 5 = .ok (.iload_n 1, 1) := by decide +kernel
theorem dX5_sealOf_6 : decode cX5_sealOf 6 = .ok (.istore 5, 2) := by decide +kernel
theorem dX5_sealOf_8 : decode cX5_sealOf 8 = .ok (.iload 5, 2) := by decide +kernel
theorem dX5_sealOf_10 : decode cX5_sealOf 10 = .ok (.iload_n 2, 1) := by decide +kernel
theorem dX5_sealOf_11 : decode cX5_sealOf 11 = .ok (.if_icmp .ge 34, 3) := by decide +kernel
theorem dX5_sealOf_14 : decode cX5_sealOf 14 = .ok (.iload_n 3, 1) := by decide +kernel
theorem dX5_sealOf_15 : decode cX5_sealOf 15 = .ok (.aload_n 0, 1) := by decide +kernel
theorem dX5_sealOf_16 : decode cX5_sealOf 16 = .ok (.iload 5, 2) := by decide +kernel
theorem dX5_sealOf_18 : decode cX5_sealOf 18 = .ok (.invokevirtual 25, 3) := by decide +kernel
theorem dX5_sealOf_21 : decode cX5_sealOf 21 = .ok (.iadd, 1) := by decide +kernel
theorem dX5_sealOf_22 : decode cX5_sealOf 22 = .ok (.iconst 1, 1) := by decide +kernel
theorem dX5_sealOf_23 : decode cX5_sealOf 23 = .ok (.iadd, 1) := by decide +kernel
theorem dX5_sealOf_24 : decode cX5_sealOf 24 = .ok (.sipush 9973, 3) := by decide +kernel
theorem dX5_sealOf_27 : decode cX5_sealOf 27 = .ok (.irem, 1) := by decide +kernel
theorem dX5_sealOf_28 : decode cX5_sealOf 28 = .ok (.istore_n 3, 1) := by decide +kernel
theorem dX5_sealOf_29 : decode cX5_sealOf 29 = .ok (.iload 4, 2) := by decide +kernel
theorem dX5_sealOf_31 : decode cX5_sealOf 31 = .ok (.iload_n 3, 1) := by decide +kernel
theorem dX5_sealOf_32 : decode cX5_sealOf 32 = .ok (.iadd, 1) := by decide +kernel
theorem dX5_sealOf_33 : decode cX5_sealOf 33 = .ok (.sipush 9973, 3) := by decide +kernel
theorem dX5_sealOf_36 : decode cX5_sealOf 36 = .ok (.irem, 1) := by decide +kernel
theorem dX5_sealOf_37 : decode cX5_sealOf 37 = .ok (.istore 4, 2) := by decide +kernel
theorem dX5_sealOf_39 : decode cX5_sealOf 39 = .ok (.iinc 5 1, 3) := by decide +kernel
theorem dX5_sealOf_42 : decode cX5_sealOf 42 = .ok (.goto (-34), 3) := by decide +kernel
theorem dX5_sealOf_45 : decode cX5_sealOf 45 = .ok (.sipush 10000, 3) := by decide +kernel
theorem dX5_sealOf_48 : decode cX5_sealOf 48 = .ok (.iload 4, 2) := by decide +kernel
theorem dX5_sealOf_50 : decode cX5_sealOf 50 = .ok (.imul, 1) := by decide +kernel
theorem dX5_sealOf_51 : decode cX5_sealOf 51 = .ok (.iload_n 3, 1) := by decide +kernel
theorem dX5_sealOf_52 : decode cX5_sealOf 52 = .ok (.iadd, 1) := by decide +kernel
theorem dX5_sealOf_53 : decode cX5_sealOf 53 = .ok (.ireturn, 1) := by decide +kernel
theorem dX6_init_0 : decode cX6_init 0 = .ok (.aload_n 0, 1) := by decide +kernel
theorem dX6_init_1 : decode cX6_init 1 = .ok (.invokespecial 3, 3) := by decide +kernel
theorem dX6_init_4 : decode cX6_init 4 = .ok (.aload_n 0, 1) := by decide +kernel
theorem dX6_init_5 : decode cX6_init 5 = .ok (.bipush 6, 2) := by decide +kernel
theorem dX6_init_7 : decode cX6_init 7 = .ok (.anewarray 9, 3) := by decide +kernel
theorem dX6_init_10 : decode cX6_init 10 = .ok (.putfield 11, 3) := by decide +kernel
theorem dX6_init_13 : decode cX6_init 13 = .ok (.aload_n 0, 1) := by decide +kernel
theorem dX6_init_14 : decode cX6_init 14 = .ok (.bipush 8, 2) := by decide +kernel
theorem dX6_init_16 : decode cX6_init 16 = .ok (.newarray .int, 2) := by decide +kernel
theorem dX6_init_18 : decode cX6_init 18 = .ok (.putfield 17, 3) := by decide +kernel
theorem dX6_init_21 : decode cX6_init 21 = .ok (.aload_n 0, 1) := by decide +kernel
theorem dX6_init_22 : decode cX6_init 22 = .ok (.bipush 11, 2) := by decide +kernel
theorem dX6_init_24 : decode cX6_init 24 = .ok (.putfield 21, 3) := by decide +kernel
theorem dX6_init_27 : decode cX6_init 27 = .ok (.aload_n 0, 1) := by decide +kernel
theorem dX6_init_28 : decode cX6_init 28 = .ok (.iconst 2, 1) := by decide +kernel
theorem dX6_init_29 : decode cX6_init 29 = .ok (.putfield 25, 3) := by decide +kernel
theorem dX6_init_32 : decode cX6_init 32 = .ok (.iconst 0, 1) := by decide +kernel
theorem dX6_init_33 : decode cX6_init 33 = .ok (.istore_n 1, 1) := by decide +kernel
theorem dX6_init_34 : decode cX6_init 34 = .ok (.iload_n 1, 1) := by decide +kernel
theorem dX6_init_35 : decode cX6_init 35 = .ok (.bipush 8, 2) := by decide +kernel
theorem dX6_init_37 : decode cX6_init 37 = .ok (.if_icmp .ge 16, 3) := by decide +kernel
theorem dX6_init_40 : decode cX6_init 40 = .ok (.aload_n 0, 1) := by decide +kernel
theorem dX6_init_41 : decode cX6_init 41 = .ok (.getfield 17, 3) := by decide +kernel
theorem dX6_init_44 : decode cX6_init 44 = .ok (.iload_n 1, 1) := by decide +kernel
theorem dX6_init_45 : decode cX6_init 45 = .ok (.iconst (-1), 1) := by decide +kernel
theorem dX6_init_46 : decode cX6_init 46 = .ok (.iastore, 1) := by decide +kernel
theorem dX6_init_47 : decode cX6_init 47 = .ok (.iinc 1 1, 3) := by decide +kernel
theorem dX6_init_50 : decode cX6_init 50 = .ok (.goto (-16), 3) := by decide +kernel
theorem dX6_init_53 : decode cX6_init 53 = .ok (.return_, 1) := by decide +kernel
theorem dX6_build_0 : decode cX6_build 0 = .ok (.aload_n 0, 1) := by decide +kernel
theorem dX6_build_1 : decode cX6_build 1 = .ok (.getfield 28, 3) := by decide +kernel
theorem dX6_build_4 : decode cX6_build 4 = .ok (.istore_n 3, 1) := by decide +kernel
theorem dX6_build_5 : decode cX6_build 5 = .ok (.iload_n 3, 1) := by decide +kernel
theorem dX6_build_6 : decode cX6_build 6 = .ok (.ifCond .lt 9, 3) := by decide +kernel
theorem dX6_build_9 : decode cX6_build 9 = .ok (.iload_n 3, 1) := by decide +kernel
theorem dX6_build_10 : decode cX6_build 10 = .ok (.bipush 6, 2) := by decide +kernel
theorem dX6_build_12 : decode cX6_build 12 = .ok (.if_icmp .lt 5, 3) := by decide +kernel
theorem dX6_build_15 : decode cX6_build 15 = .ok (.iconst (-1), 1) := by decide +kernel
theorem dX6_build_16 : decode cX6_build 16 = .ok (.ireturn, 1) := by decide +kernel
theorem dX6_build_17 : decode cX6_build 17 = .ok (.aload_n 0, 1) := by decide +kernel
theorem dX6_build_18 : decode cX6_build 18 = .ok (.getfield 11, 3) := by decide +kernel
theorem dX6_build_21 : decode cX6_build 21 = .ok (.iload_n 3, 1) := by decide +kernel
theorem dX6_build_22 : decode cX6_build 22 = .ok (.new 9, 3) := by decide +kernel
theorem dX6_build_25 : decode cX6_build 25 = .ok (.dup, 1) := by decide +kernel
theorem dX6_build_26 : decode cX6_build 26 = .ok (.iload_n 1, 1) := by decide +kernel
theorem dX6_build_27 : decode cX6_build 27 = .ok (.iload_n 2, 1) := by decide +kernel
theorem dX6_build_28 : decode cX6_build 28 = .ok (.invokespecial 31, 3) := by decide +kernel
theorem dX6_build_31 : decode cX6_build 31 = .ok (.aastore, 1) := by decide +kernel
theorem dX6_build_32 : decode cX6_build 32 = .ok (.aload_n 0, 1) := by decide +kernel
theorem dX6_build_33 : decode cX6_build 33 = .ok (.dup, 1) := by decide +kernel
theorem dX6_build_34 : decode cX6_build 34 = .ok (.getfield 28, 3) := by decide +kernel
theorem dX6_build_37 : decode cX6_build 37 = .ok (.iconst 1, 1) := by decide +kernel
theorem dX6_build_38 : decode cX6_build 38 = .ok (.iadd, 1) := by decide +kernel
theorem dX6_build_39 : decode cX6_build 39 = .ok (.putfield 28, 3) := by decide +kernel
theorem dX6_build_42 : decode cX6_build 42 = .ok (.iload_n 3, 1) := by decide +kernel
theorem dX6_build_43 : decode cX6_build 43 = .ok (.ireturn, 1) := by decide +kernel
theorem dX6_chute_0 : decode cX6_chute 0 = .ok (.iload_n 1, 1) := by decide +kernel
theorem dX6_chute_1 : decode cX6_chute 1 = .ok (.ifCond .lt 26, 3) := by decide +kernel
theorem dX6_chute_4 : decode cX6_chute 4 = .ok (.iload_n 1, 1) := by decide +kernel
theorem dX6_chute_5 : decode cX6_chute 5 = .ok (.aload_n 0, 1) := by decide +kernel
theorem dX6_chute_6 : decode cX6_chute 6 = .ok (.getfield 28, 3) := by decide +kernel
theorem dX6_chute_9 : decode cX6_chute 9 = .ok (.if_icmp .ge 18, 3) := by decide +kernel
theorem dX6_chute_12 : decode cX6_chute 12 = .ok (.iload_n 1, 1) := by decide +kernel
theorem dX6_chute_13 : decode cX6_chute 13 = .ok (.bipush 6, 2) := by decide +kernel
theorem dX6_chute_15 : decode cX6_chute 15 = .ok (.if_icmp .ge 12, 3) := by decide +kernel
theorem dX6_chute_18 : decode cX6_chute 18 = .ok (.aload_n 0, 1) := by decide +kernel
theorem dX6_chute_19 : decode cX6_chute 19 = .ok (.getfield 11, 3) := by decide +kernel
theorem dX6_chute_22 : decode cX6_chute 22 = .ok (.iload_n 1, 1) := by decide +kernel
theorem dX6_chute_23 : decode cX6_chute 23 = .ok (.aaload, 1) := by decide +kernel
theorem dX6_chute_24 : decode cX6_chute 24 = .ok (.goto 4, 3) := by decide +kernel
theorem dX6_chute_27 : decode cX6_chute 27 = .ok (.aconst_null, 1) := by decide +kernel
theorem dX6_chute_28 : decode cX6_chute 28 = .ok (.areturn, 1) := by decide +kernel
theorem dX6_numberAt_0 : decode cX6_numberAt 0 = .ok (.iconst 0, 1) := by decide +kernel
theorem dX6_numberAt_1 : decode cX6_numberAt 1 = .ok (.istore_n 2, 1) := by decide +kernel
theorem dX6_numberAt_2 : decode cX6_numberAt 2 = .ok (.iload_n 2, 1) := by decide +kernel
theorem dX6_numberAt_3 : decode cX6_numberAt 3 = .ok (.aload_n 0, 1) := by decide +kernel
theorem dX6_numberAt_4 : decode cX6_numberAt 4 = .ok (.getfield 28, 3) := by decide +kernel
theorem dX6_numberAt_7 : decode cX6_numberAt 7 = .ok (.if_icmp .ge 29, 3) := by decide +kernel
theorem dX6_numberAt_10 : decode cX6_numberAt 10 = .ok (.aload_n 0, 1) := by decide +kernel
theorem dX6_numberAt_11 : decode cX6_numberAt 11 = .ok (.iload_n 2, 1) := by decide +kernel
theorem dX6_numberAt_12 : decode cX6_numberAt 12 = .ok (.invokevirtual 34, 3) := by decide +kernel
theorem dX6_numberAt_15 : decode cX6_numberAt 15 = .ok (.astore_n 3, 1) := by decide +kernel
theorem dX6_numberAt_16 : decode cX6_numberAt 16 = .ok (.aload_n 3, 1) := by decide +kernel
theorem dX6_numberAt_17 : decode cX6_numberAt 17 = .ok (.ifnull 13, 3) := by decide +kernel
theorem dX6_numberAt_20 : decode cX6_numberAt 20 = .ok (.aload_n 3, 1) := by decide +kernel
theorem dX6_numberAt_21 : decode cX6_numberAt 21 = .ok (.getfield 38, 3) := by decide +kernel
theorem dX6_numberAt_24 : decode cX6_numberAt 24 = .ok (.iload_n 1, 1) := by decide +kernel
theorem dX6_numberAt_25 : decode cX6_numberAt 25 = .ok (.if_icmp .ne 5, 3) := by decide +kernel
theorem dX6_numberAt_28 : decode cX6_numberAt 28 = .ok (.iload_n 2, 1) := by decide +kernel
theorem dX6_numberAt_29 : decode cX6_numberAt 29 = .ok (.ireturn, 1) := by decide +kernel
theorem dX6_numberAt_30 : decode cX6_numberAt 30 = .ok (.iinc 2 1, 3) := by decide +kernel
theorem dX6_numberAt_33 : decode cX6_numberAt 33 = .ok (.goto (-31), 3) := by decide +kernel
theorem dX6_numberAt_36 : decode cX6_numberAt 36 = .ok (.iconst (-1), 1) := by decide +kernel
theorem dX6_numberAt_37 : decode cX6_numberAt 37 = .ok (.ireturn, 1) := by decide +kernel
theorem dX6_chuteAt_0 : decode cX6_chuteAt 0 = .ok (.aload_n 0, 1) := by decide +kernel
theorem dX6_chuteAt_1 : decode cX6_chuteAt 1 = .ok (.aload_n 0, 1) := by decide +kernel
theorem dX6_chuteAt_2 : decode cX6_chuteAt 2 = .ok (.iload_n 1, 1) := by decide +kernel
theorem dX6_chuteAt_3 : decode cX6_chuteAt 3 = .ok (.invokevirtual 41, 3) := by decide +kernel
theorem dX6_chuteAt_6 : decode cX6_chuteAt 6 = .ok (.invokevirtual 34, 3) := by decide +kernel
theorem dX6_chuteAt_9 : decode cX6_chuteAt 9 = .ok (.areturn, 1) := by decide +kernel
theorem dX6_kindAt_0 : decode cX6_kindAt 0 = .ok (.iload_n 1, 1) := by decide +kernel
theorem dX6_kindAt_1 : decode cX6_kindAt 1 = .ok (.ifCond .ne 6, 3) := by decide +kernel
theorem dX6_kindAt_4 : decode cX6_kindAt 4 = .ok (.bipush 105, 2) := by decide +kernel
theorem dX6_kindAt_6 : decode cX6_kindAt 6 = .ok (.ireturn, 1) := by decide +kernel
theorem dX6_kindAt_7 : decode cX6_kindAt 7 = .ok (.iload_n 1, 1) := by decide +kernel
theorem dX6_kindAt_8 : decode cX6_kindAt 8 = .ok (.aload_n 0, 1) := by decide +kernel
theorem dX6_kindAt_9 : decode cX6_kindAt 9 = .ok (.getfield 21, 3) := by decide +kernel
theorem dX6_kindAt_12 : decode cX6_kindAt 12 = .ok (.if_icmp .ne 6, 3) := by decide +kernel
theorem dX6_kindAt_15 : decode cX6_kindAt 15 = .ok (.bipush 111, 2) := by decide +kernel
theorem dX6_kindAt_17 : decode cX6_kindAt 17 = .ok (.ireturn, 1) := by decide +kernel
theorem dX6_kindAt_18 : decode cX6_kindAt 18 = .ok (.aload_n 0, 1) := by decide +kernel
theorem dX6_kindAt_19 : decode cX6_kindAt 19 = .ok (.iload_n 1, 1) := by decide +kernel
theorem dX6_kindAt_20 : decode cX6_kindAt 20 = .ok (.invokevirtual 45, 3) := by decide +kernel
theorem dX6_kindAt_23 : decode cX6_kindAt 23 = .ok (.ifnull 8, 3) := by decide +kernel
theorem dX6_kindAt_26 : decode cX6_kindAt 26 = .ok (.bipush 99, 2) := by decide +kernel
theorem dX6_kindAt_28 : decode cX6_kindAt 28 = .ok (.goto 5, 3) := by decide +kernel
theorem dX6_kindAt_31 : decode cX6_kindAt 31 = .ok (.bipush 45, 2) := by decide +kernel
theorem dX6_kindAt_33 : decode cX6_kindAt 33 = .ok (.ireturn, 1) := by decide +kernel
theorem dX6_isJammed_0 : decode cX6_isJammed 0 = .ok (.iload_n 1, 1) := by decide +kernel
theorem dX6_isJammed_1 : decode cX6_isJammed 1 = .ok (.ifCond .ne 8, 3) := by decide +kernel
theorem dX6_isJammed_4 : decode cX6_isJammed 4 = .ok (.aload_n 0, 1) := by decide +kernel
theorem dX6_isJammed_5 : decode cX6_isJammed 5 = .ok (.getfield 48, 3) := by decide +kernel
theorem dX6_isJammed_8 : decode cX6_isJammed 8 = .ok (.ireturn, 1) := by decide +kernel
theorem dX6_isJammed_9 : decode cX6_isJammed 9 = .ok (.iload_n 1, 1) := by decide +kernel
theorem dX6_isJammed_10 : decode cX6_isJammed 10 = .ok (.aload_n 0, 1) := by decide +kernel
theorem dX6_isJammed_11 : decode cX6_isJammed 11 = .ok (.getfield 21, 3) := by decide +kernel
theorem dX6_isJammed_14 : decode cX6_isJammed 14 = .ok (.if_icmp .ne 8, 3) := by decide +kernel
theorem dX6_isJammed_17 : decode cX6_isJammed 17 = .ok (.aload_n 0, 1) := by decide +kernel
theorem dX6_isJammed_18 : decode cX6_isJammed 18 = .ok (.getfield 52, 3) := by decide +kernel
theorem dX6_isJammed_21 : decode cX6_isJammed 21 = .ok (.ireturn, 1) := by decide +kernel
theorem dX6_isJammed_22 : decode cX6_isJammed 22 = .ok (.aload_n 0, 1) := by decide +kernel
theorem dX6_isJammed_23 : decode cX6_isJammed 23 = .ok (.iload_n 1, 1) := by decide +kernel
theorem dX6_isJammed_24 : decode cX6_isJammed 24 = .ok (.invokevirtual 45, 3) := by decide +kernel
theorem dX6_isJammed_27 : decode cX6_isJammed 27 = .ok (.astore_n 2, 1) := by decide +kernel
theorem dX6_isJammed_28 : decode cX6_isJammed 28 = .ok (.aload_n 2, 1) := by decide +kernel
theorem dX6_isJammed_29 : decode cX6_isJammed 29 = .ok (.ifnull 14, 3) := by decide +kernel
theorem dX6_isJammed_32 : decode cX6_isJammed 32 = .ok (.aload_n 2, 1) := by decide +kernel
theorem dX6_isJammed_33 : decode cX6_isJammed 33 = .ok (.getfield 55, 3) := by decide +kernel
theorem dX6_isJammed_36 : decode cX6_isJammed 36 = .ok (.ifCond .eq 7, 3) := by decide +kernel
theorem dX6_isJammed_39 : decode cX6_isJammed 39 = .ok (.iconst 1, 1) := by decide +kernel
theorem dX6_isJammed_40 : decode cX6_isJammed 40 = .ok (.goto 4, 3) := by decide +kernel
theorem dX6_isJammed_43 : decode cX6_isJammed 43 = .ok (.iconst 0, 1) := by decide +kernel
theorem dX6_isJammed_44 : decode cX6_isJammed 44 = .ok (.ireturn, 1) := by decide +kernel
theorem dX6_setJammed_0 : decode cX6_setJammed 0 = .ok (.aload_n 0, 1) := by decide +kernel
theorem dX6_setJammed_1 : decode cX6_setJammed 1 = .ok (.iload_n 1, 1) := by decide +kernel
theorem dX6_setJammed_2 : decode cX6_setJammed 2 = .ok (.invokevirtual 45, 3) := by decide +kernel
theorem dX6_setJammed_5 : decode cX6_setJammed 5 = .ok (.astore_n 3, 1) := by decide +kernel
theorem dX6_setJammed_6 : decode cX6_setJammed 6 = .ok (.iload_n 1, 1) := by decide +kernel
theorem dX6_setJammed_7 : decode cX6_setJammed 7 = .ok (.ifCond .ne 11, 3) := by decide +kernel
theorem dX6_setJammed_10 : decode cX6_setJammed 10 = .ok (.aload_n 0, 1) := by decide +kernel
theorem dX6_setJammed_11 : decode cX6_setJammed 11 = .ok (.iload_n 2, 1) := by decide +kernel
theorem dX6_setJammed_12 : decode cX6_setJammed 12 = .ok (.putfield 48, 3) := by decide +kernel
theorem dX6_setJammed_15 : decode cX6_setJammed 15 = .ok (.goto 28, 3) := by decide +kernel
theorem dX6_setJammed_18 : decode cX6_setJammed 18 = .ok (.iload_n 1, 1) := by decide +kernel
theorem dX6_setJammed_19 : decode cX6_setJammed 19 = .ok (.aload_n 0, 1) := by decide +kernel
theorem dX6_setJammed_20 : decode cX6_setJammed 20 = .ok (.getfield 21, 3) := by decide +kernel
theorem dX6_setJammed_23 : decode cX6_setJammed 23 = .ok (.if_icmp .ne 11, 3) := by decide +kernel
theorem dX6_setJammed_26 : decode cX6_setJammed 26 = .ok (.aload_n 0, 1) := by decide +kernel
theorem dX6_setJammed_27 : decode cX6_setJammed 27 = .ok (.iload_n 2, 1) := by decide +kernel
theorem dX6_setJammed_28 : decode cX6_setJammed 28 = .ok (.putfield 52, 3) := by decide +kernel
end
section
theorem dX6_setJammed_31 : decode cX6_setJammed 31 = .ok (.goto 12, 3) := by decide +kernel
theorem dX6_setJammed_34 : decode cX6_setJammed 34 = .ok (.aload_n 3, 1) := by decide +kernel
theorem dX6_setJammed_35 : decode cX6_setJammed 35 = .ok (.ifnull 8, 3) := by decide +kernel
theorem dX6_setJammed_38 : decode cX6_setJammed 38 = .ok (.aload_n 3, 1) := by decide +kernel
theorem dX6_setJammed_39 : decode cX6_setJammed 39 = .ok (.iload_n 2, 1) := by decide +kernel
theorem dX6_setJammed_40 : decode cX6_setJammed 40 = .ok (.putfield 55, 3) := by decide +kernel
theorem dX6_setJammed_43 : decode cX6_setJammed 43 = .ok (.return_, 1) := by decide +kernel
theorem dX6_jams_0 : decode cX6_jams 0 = .ok (.aload_n 0, 1) := by decide +kernel
theorem dX6_jams_1 : decode cX6_jams 1 = .ok (.getfield 48, 3) := by decide +kernel
theorem dX6_jams_4 : decode cX6_jams 4 = .ok (.ifCond .eq 7, 3) := by decide +kernel
theorem dX6_jams_7 : decode cX6_jams 7 = .ok (.iconst 1, 1) := by decide +kernel
theorem dX6_jams_8 : decode cX6_jams 8 = .ok (.goto 4, 3) := by decide +kernel
theorem dX6_jams_11 : decode cX6_jams 11 = .ok (.iconst 0, 1) := by decide +kernel
theorem dX6_jams_12 : decode cX6_jams 12 = .ok (.aload_n 0, 1) := by decide +kernel
theorem dX6_jams_13 : decode cX6_jams 13 = .ok (.getfield 52, 3) := by decide +kernel
theorem dX6_jams_16 : decode cX6_jams 16 = .ok (.ifCond .eq 7, 3) := by decide +kernel
theorem dX6_jams_19 : decode cX6_jams 19 = .ok (.iconst 1, 1) := by decide +kernel
theorem dX6_jams_20 : decode cX6_jams 20 = .ok (.goto 4, 3) := by decide +kernel
theorem dX6_jams_23 : decode cX6_jams 23 = .ok (.iconst 0, 1) := by decide +kernel
theorem dX6_jams_24 : decode cX6_jams 24 = .ok (.iadd, 1) := by decide +kernel
theorem dX6_jams_25 : decode cX6_jams 25 = .ok (.istore_n 1, 1) := by decide +kernel
theorem dX6_jams_26 : decode cX6_jams 26 = .ok (.iconst 0, 1) := by decide +kernel
theorem dX6_jams_27 : decode cX6_jams 27 = .ok (.istore_n 2, 1) := by decide +kernel
theorem dX6_jams_28 : decode cX6_jams 28 = .ok (.iload_n 2, 1) := by decide +kernel
theorem dX6_jams_29 : decode cX6_jams 29 = .ok (.aload_n 0, 1) := by decide +kernel
theorem dX6_jams_30 : decode cX6_jams 30 = .ok (.getfield 28, 3) := by decide +kernel
theorem dX6_jams_33 : decode cX6_jams 33 = .ok (.if_icmp .ge 29, 3) := by decide +kernel
theorem dX6_jams_36 : decode cX6_jams 36 = .ok (.aload_n 0, 1) := by decide +kernel
theorem dX6_jams_37 : decode cX6_jams 37 = .ok (.iload_n 2, 1) := by decide +kernel
theorem dX6_jams_38 : decode cX6_jams 38 = .ok (.invokevirtual 34, 3) := by decide +kernel
theorem dX6_jams_41 : decode cX6_jams 41 = .ok (.astore_n 3, 1) := by decide +kernel
theorem dX6_jams_42 : decode cX6_jams 42 = .ok (.aload_n 3, 1) := by decide +kernel
theorem dX6_jams_43 : decode cX6_jams 43 = .ok (.ifnull 13, 3) := by decide +kernel
theorem dX6_jams_46 : decode cX6_jams 46 = .ok (.aload_n 3, 1) := by decide +kernel
theorem dX6_jams_47 : decode cX6_jams 47 = .ok (.getfield 55, 3) := by decide +kernel
theorem dX6_jams_50 : decode cX6_jams 50 = .ok (.ifCond .eq 6, 3) := by decide +kernel
theorem dX6_jams_53 : decode cX6_jams 53 = .ok (.iinc 1 1, 3) := by decide +kernel
theorem dX6_jams_56 : decode cX6_jams 56 = .ok (.iinc 2 1, 3) := by decide +kernel
theorem dX6_jams_59 : decode cX6_jams 59 = .ok (.goto (-31), 3) := by decide +kernel
theorem dX6_jams_62 : decode cX6_jams 62 = .ok (.iload_n 1, 1) := by decide +kernel
theorem dX6_jams_63 : decode cX6_jams 63 = .ok (.ireturn, 1) := by decide +kernel
theorem dX6_hasChuteNotJammed_0 : decode cX6_hasChuteNotJammed 0 = .ok (.iconst 0, 1) := by decide +kernel
theorem dX6_hasChuteNotJammed_1 : decode cX6_hasChuteNotJammed 1 = .ok (.istore_n 1, 1) := by decide +kernel
theorem dX6_hasChuteNotJammed_2 : decode cX6_hasChuteNotJammed 2 = .ok (.iload_n 1, 1) := by decide +kernel
theorem dX6_hasChuteNotJammed_3 : decode cX6_hasChuteNotJammed 3 = .ok (.aload_n 0, 1) := by decide +kernel
theorem dX6_hasChuteNotJammed_4 : decode cX6_hasChuteNotJammed 4 = .ok (.getfield 28, 3) := by decide +kernel
theorem dX6_hasChuteNotJammed_7 : decode cX6_hasChuteNotJammed 7 = .ok (.if_icmp .ge 28, 3) := by decide +kernel
theorem dX6_hasChuteNotJammed_10 : decode cX6_hasChuteNotJammed 10 = .ok (.aload_n 0, 1) := by decide +kernel
theorem dX6_hasChuteNotJammed_11 : decode cX6_hasChuteNotJammed 11 = .ok (.iload_n 1, 1) := by decide +kernel
theorem dX6_hasChuteNotJammed_12 : decode cX6_hasChuteNotJammed 12 = .ok (.invokevirtual 34, 3) := by decide +kernel
theorem dX6_hasChuteNotJammed_15 : decode cX6_hasChuteNotJammed 15 = .ok (.astore_n 2, 1) := by decide +kernel
theorem dX6_hasChuteNotJammed_16 : decode cX6_hasChuteNotJammed 16 = .ok (.aload_n 2, 1) := by decide +kernel
theorem dX6_hasChuteNotJammed_17 : decode cX6_hasChuteNotJammed 17 = .ok (.ifnull 12, 3) := by decide +kernel
theorem dX6_hasChuteNotJammed_20 : decode cX6_hasChuteNotJammed 20 = .ok (.aload_n 2, 1) := by decide +kernel
theorem dX6_hasChuteNotJammed_21 : decode cX6_hasChuteNotJammed 21 = .ok (.getfield 55, 3) := by decide +kernel
theorem dX6_hasChuteNotJammed_24 : decode cX6_hasChuteNotJammed 24 = .ok (.ifCond .ne 5, 3) := by decide +kernel
theorem dX6_hasChuteNotJammed_27 : decode cX6_hasChuteNotJammed 27 = .ok (.iconst 1, 1) := by decide +kernel
theorem dX6_hasChuteNotJammed_28 : decode cX6_hasChuteNotJammed 28 = .ok (.ireturn, 1) := by decide +kernel
theorem dX6_hasChuteNotJammed_29 : decode cX6_hasChuteNotJammed 29 = .ok (.iinc 1 1, 3) := by decide +kernel
theorem dX6_hasChuteNotJammed_32 : decode cX6_hasChuteNotJammed 32 = .ok (.goto (-30), 3) := by decide +kernel
theorem dX6_hasChuteNotJammed_35 : decode cX6_hasChuteNotJammed 35 = .ok (.iconst 0, 1) := by decide +kernel
theorem dX6_hasChuteNotJammed_36 : decode cX6_hasChuteNotJammed 36 = .ok (.ireturn, 1) := by decide +kernel
theorem dX6_chuteOfRoute_0 : decode cX6_chuteOfRoute 0 = .ok (.iload_n 1, 1) := by decide +kernel
theorem dX6_chuteOfRoute_1 : decode cX6_chuteOfRoute 1 = .ok (.invokestatic 58, 3) := by decide +kernel
theorem dX6_chuteOfRoute_4 : decode cX6_chuteOfRoute 4 = .ok (.ifCond .eq 12, 3) := by decide +kernel
theorem dX6_chuteOfRoute_7 : decode cX6_chuteOfRoute 7 = .ok (.aload_n 0, 1) := by decide +kernel
theorem dX6_chuteOfRoute_8 : decode cX6_chuteOfRoute 8 = .ok (.getfield 17, 3) := by decide +kernel
theorem dX6_chuteOfRoute_11 : decode cX6_chuteOfRoute 11 = .ok (.iload_n 1, 1) := by decide +kernel
theorem dX6_chuteOfRoute_12 : decode cX6_chuteOfRoute 12 = .ok (.iaload, 1) := by decide +kernel
theorem dX6_chuteOfRoute_13 : decode cX6_chuteOfRoute 13 = .ok (.goto 4, 3) := by decide +kernel
theorem dX6_chuteOfRoute_16 : decode cX6_chuteOfRoute 16 = .ok (.iconst (-1), 1) := by decide +kernel
theorem dX6_chuteOfRoute_17 : decode cX6_chuteOfRoute 17 = .ok (.ireturn, 1) := by decide +kernel
theorem dX6_send_0 : decode cX6_send 0 = .ok (.iload_n 1, 1) := by decide +kernel
theorem dX6_send_1 : decode cX6_send 1 = .ok (.invokestatic 58, 3) := by decide +kernel
theorem dX6_send_4 : decode cX6_send 4 = .ok (.ifCond .eq 10, 3) := by decide +kernel
theorem dX6_send_7 : decode cX6_send 7 = .ok (.aload_n 0, 1) := by decide +kernel
theorem dX6_send_8 : decode cX6_send 8 = .ok (.getfield 17, 3) := by decide +kernel
theorem dX6_send_11 : decode cX6_send 11 = .ok (.iload_n 1, 1) := by decide +kernel
theorem dX6_send_12 : decode cX6_send 12 = .ok (.iload_n 2, 1) := by decide +kernel
theorem dX6_send_13 : decode cX6_send 13 = .ok (.iastore, 1) := by decide +kernel
theorem dX6_send_14 : decode cX6_send 14 = .ok (.return_, 1) := by decide +kernel
theorem dX6_loaderPuts_0 : decode cX6_loaderPuts 0 = .ok (.aload_n 0, 1) := by decide +kernel
theorem dX6_loaderPuts_1 : decode cX6_loaderPuts 1 = .ok (.getfield 48, 3) := by decide +kernel
theorem dX6_loaderPuts_4 : decode cX6_loaderPuts 4 = .ok (.ifCond .ne 17, 3) := by decide +kernel
theorem dX6_loaderPuts_7 : decode cX6_loaderPuts 7 = .ok (.iload_n 1, 1) := by decide +kernel
theorem dX6_loaderPuts_8 : decode cX6_loaderPuts 8 = .ok (.iconst (-1), 1) := by decide +kernel
theorem dX6_loaderPuts_9 : decode cX6_loaderPuts 9 = .ok (.if_icmp .ne 12, 3) := by decide +kernel
theorem dX6_loaderPuts_12 : decode cX6_loaderPuts 12 = .ok (.iload_n 2, 1) := by decide +kernel
theorem dX6_loaderPuts_13 : decode cX6_loaderPuts 13 = .ok (.iload_n 3, 1) := by decide +kernel
theorem dX6_loaderPuts_14 : decode cX6_loaderPuts 14 = .ok (.if_icmp .ge 7, 3) := by decide +kernel
theorem dX6_loaderPuts_17 : decode cX6_loaderPuts 17 = .ok (.iconst 1, 1) := by decide +kernel
theorem dX6_loaderPuts_18 : decode cX6_loaderPuts 18 = .ok (.goto 4, 3) := by decide +kernel
theorem dX6_loaderPuts_21 : decode cX6_loaderPuts 21 = .ok (.iconst 0, 1) := by decide +kernel
theorem dX6_loaderPuts_22 : decode cX6_loaderPuts 22 = .ok (.ireturn, 1) := by decide +kernel
theorem dX6_chuteTakes_0 : decode cX6_chuteTakes 0 = .ok (.aload_n 0, 1) := by decide +kernel
theorem dX6_chuteTakes_1 : decode cX6_chuteTakes 1 = .ok (.iload_n 1, 1) := by decide +kernel
theorem dX6_chuteTakes_2 : decode cX6_chuteTakes 2 = .ok (.invokevirtual 34, 3) := by decide +kernel
theorem dX6_chuteTakes_5 : decode cX6_chuteTakes 5 = .ok (.astore 4, 2) := by decide +kernel
theorem dX6_chuteTakes_7 : decode cX6_chuteTakes 7 = .ok (.aload 4, 2) := by decide +kernel
theorem dX6_chuteTakes_9 : decode cX6_chuteTakes 9 = .ok (.ifnull 33, 3) := by decide +kernel
theorem dX6_chuteTakes_12 : decode cX6_chuteTakes 12 = .ok (.aload 4, 2) := by decide +kernel
theorem dX6_chuteTakes_14 : decode cX6_chuteTakes 14 = .ok (.getfield 55, 3) := by decide +kernel
theorem dX6_chuteTakes_17 : decode cX6_chuteTakes 17 = .ok (.ifCond .ne 25, 3) := by decide +kernel
theorem dX6_chuteTakes_20 : decode cX6_chuteTakes 20 = .ok (.iload_n 3, 1) := by decide +kernel
theorem dX6_chuteTakes_21 : decode cX6_chuteTakes 21 = .ok (.aload 4, 2) := by decide +kernel
theorem dX6_chuteTakes_23 : decode cX6_chuteTakes 23 = .ok (.getfield 62, 3) := by decide +kernel
theorem dX6_chuteTakes_26 : decode cX6_chuteTakes 26 = .ok (.if_icmp .ge 16, 3) := by decide +kernel
theorem dX6_chuteTakes_29 : decode cX6_chuteTakes 29 = .ok (.aload_n 0, 1) := by decide +kernel
theorem dX6_chuteTakes_30 : decode cX6_chuteTakes 30 = .ok (.iload_n 2, 1) := by decide +kernel
theorem dX6_chuteTakes_31 : decode cX6_chuteTakes 31 = .ok (.invokevirtual 65, 3) := by decide +kernel
theorem dX6_chuteTakes_34 : decode cX6_chuteTakes 34 = .ok (.iload_n 1, 1) := by decide +kernel
theorem dX6_chuteTakes_35 : decode cX6_chuteTakes 35 = .ok (.if_icmp .ne 7, 3) := by decide +kernel
theorem dX6_chuteTakes_38 : decode cX6_chuteTakes 38 = .ok (.iconst 1, 1) := by decide +kernel
theorem dX6_chuteTakes_39 : decode cX6_chuteTakes 39 = .ok (.goto 4, 3) := by decide +kernel
theorem dX6_chuteTakes_42 : decode cX6_chuteTakes 42 = .ok (.iconst 0, 1) := by decide +kernel
theorem dX6_chuteTakes_43 : decode cX6_chuteTakes 43 = .ok (.ireturn, 1) := by decide +kernel
theorem dX6_overflowTakes_0 : decode cX6_overflowTakes 0 = .ok (.aload_n 0, 1) := by decide +kernel
theorem dX6_overflowTakes_1 : decode cX6_overflowTakes 1 = .ok (.getfield 52, 3) := by decide +kernel
theorem dX6_overflowTakes_4 : decode cX6_overflowTakes 4 = .ok (.ifCond .ne 20, 3) := by decide +kernel
theorem dX6_overflowTakes_7 : decode cX6_overflowTakes 7 = .ok (.iload_n 1, 1) := by decide +kernel
theorem dX6_overflowTakes_8 : decode cX6_overflowTakes 8 = .ok (.iconst (-1), 1) := by decide +kernel
theorem dX6_overflowTakes_9 : decode cX6_overflowTakes 9 = .ok (.if_icmp .eq 15, 3) := by decide +kernel
theorem dX6_overflowTakes_12 : decode cX6_overflowTakes 12 = .ok (.iload_n 2, 1) := by decide +kernel
theorem dX6_overflowTakes_13 : decode cX6_overflowTakes 13 = .ok (.aload_n 0, 1) := by decide +kernel
theorem dX6_overflowTakes_14 : decode cX6_overflowTakes 14 = .ok (.getfield 25, 3) := by decide +kernel
theorem dX6_overflowTakes_17 : decode cX6_overflowTakes 17 = .ok (.if_icmp .lt 7, 3) := by decide +kernel
theorem dX6_overflowTakes_20 : decode cX6_overflowTakes 20 = .ok (.iconst 1, 1) := by decide +kernel
theorem dX6_overflowTakes_21 : decode cX6_overflowTakes 21 = .ok (.goto 4, 3) := by decide +kernel
theorem dX6_overflowTakes_24 : decode cX6_overflowTakes 24 = .ok (.iconst 0, 1) := by decide +kernel
theorem dX6_overflowTakes_25 : decode cX6_overflowTakes 25 = .ok (.ireturn, 1) := by decide +kernel
theorem dX6_sealsAgree_0 : decode cX6_sealsAgree 0 = .ok (.iconst 0, 1) := by decide +kernel
theorem dX6_sealsAgree_1 : decode cX6_sealsAgree 1 = .ok (.istore_n 1, 1) := by decide +kernel
theorem dX6_sealsAgree_2 : decode cX6_sealsAgree 2 = .ok (.iload_n 1, 1) := by decide +kernel
theorem dX6_sealsAgree_3 : decode cX6_sealsAgree 3 = .ok (.aload_n 0, 1) := by decide +kernel
theorem dX6_sealsAgree_4 : decode cX6_sealsAgree 4 = .ok (.getfield 28, 3) := by decide +kernel
theorem dX6_sealsAgree_7 : decode cX6_sealsAgree 7 = .ok (.if_icmp .ge 32, 3) := by decide +kernel
theorem dX6_sealsAgree_10 : decode cX6_sealsAgree 10 = .ok (.aload_n 0, 1) := by decide +kernel
theorem dX6_sealsAgree_11 : decode cX6_sealsAgree 11 = .ok (.iload_n 1, 1) := by decide +kernel
theorem dX6_sealsAgree_12 : decode cX6_sealsAgree 12 = .ok (.invokevirtual 34, 3) := by decide +kernel
theorem dX6_sealsAgree_15 : decode cX6_sealsAgree 15 = .ok (.astore_n 2, 1) := by decide +kernel
theorem dX6_sealsAgree_16 : decode cX6_sealsAgree 16 = .ok (.aload_n 2, 1) := by decide +kernel
theorem dX6_sealsAgree_17 : decode cX6_sealsAgree 17 = .ok (.ifnull 16, 3) := by decide +kernel
theorem dX6_sealsAgree_20 : decode cX6_sealsAgree 20 = .ok (.aload_n 2, 1) := by decide +kernel
theorem dX6_sealsAgree_21 : decode cX6_sealsAgree 21 = .ok (.invokevirtual 68, 3) := by decide +kernel
theorem dX6_sealsAgree_24 : decode cX6_sealsAgree 24 = .ok (.aload_n 2, 1) := by decide +kernel
theorem dX6_sealsAgree_25 : decode cX6_sealsAgree 25 = .ok (.invokevirtual 72, 3) := by decide +kernel
theorem dX6_sealsAgree_28 : decode cX6_sealsAgree 28 = .ok (.if_icmp .eq 5, 3) := by decide +kernel
theorem dX6_sealsAgree_31 : decode cX6_sealsAgree 31 = .ok (.iconst 0, 1) := by decide +kernel
theorem dX6_sealsAgree_32 : decode cX6_sealsAgree 32 = .ok (.ireturn, 1) := by decide +kernel
theorem dX6_sealsAgree_33 : decode cX6_sealsAgree 33 = .ok (.iinc 1 1, 3) := by decide +kernel
theorem dX6_sealsAgree_36 : decode cX6_sealsAgree 36 = .ok (.goto (-34), 3) := by decide +kernel
theorem dX6_sealsAgree_39 : decode cX6_sealsAgree 39 = .ok (.iconst 1, 1) := by decide +kernel
theorem dX6_sealsAgree_40 : decode cX6_sealsAgree 40 = .ok (.ireturn, 1) := by decide +kernel
theorem dX7_init_0 : decode cX7_init 0 = .ok (.aload_n 0, 1) := by decide +kernel
theorem dX7_init_1 : decode cX7_init 1 = .ok (.invokespecial 3, 3) := by decide +kernel
theorem dX7_init_4 : decode cX7_init 4 = .ok (.aload_n 0, 1) := by decide +kernel
theorem dX7_init_5 : decode cX7_init 5 = .ok (.bipush 8, 2) := by decide +kernel
theorem dX7_init_7 : decode cX7_init 7 = .ok (.newarray .int, 2) := by decide +kernel
theorem dX7_init_9 : decode cX7_init 9 = .ok (.putfield 9, 3) := by decide +kernel
theorem dX7_init_12 : decode cX7_init 12 = .ok (.aload_n 0, 1) := by decide +kernel
theorem dX7_init_13 : decode cX7_init 13 = .ok (.bipush 6, 2) := by decide +kernel
theorem dX7_init_15 : decode cX7_init 15 = .ok (.newarray .int, 2) := by decide +kernel
theorem dX7_init_17 : decode cX7_init 17 = .ok (.putfield 15, 3) := by decide +kernel
theorem dX7_init_20 : decode cX7_init 20 = .ok (.aload_n 0, 1) := by decide +kernel
theorem dX7_init_21 : decode cX7_init 21 = .ok (.aload_n 1, 1) := by decide +kernel
theorem dX7_init_22 : decode cX7_init 22 = .ok (.putfield 18, 3) := by decide +kernel
theorem dX7_init_25 : decode cX7_init 25 = .ok (.aload_n 0, 1) := by decide +kernel
theorem dX7_init_26 : decode cX7_init 26 = .ok (.aload_n 2, 1) := by decide +kernel
theorem dX7_init_27 : decode cX7_init 27 = .ok (.putfield 22, 3) := by decide +kernel
theorem dX7_init_30 : decode cX7_init 30 = .ok (.return_, 1) := by decide +kernel
theorem dX7_assignAnew_0 : decode cX7_assignAnew 0 = .ok (.iconst 0, 1) := by decide +kernel
theorem dX7_assignAnew_1 : decode cX7_assignAnew 1 = .ok (.istore_n 1, 1) := by decide +kernel
theorem dX7_assignAnew_2 : decode cX7_assignAnew 2 = .ok (.iload_n 1, 1) := by decide +kernel
theorem dX7_assignAnew_3 : decode cX7_assignAnew 3 = .ok (.bipush 6, 2) := by decide +kernel
theorem dX7_assignAnew_5 : decode cX7_assignAnew 5 = .ok (.if_icmp .ge 16, 3) := by decide +kernel
theorem dX7_assignAnew_8 : decode cX7_assignAnew 8 = .ok (.aload_n 0, 1) := by decide +kernel
theorem dX7_assignAnew_9 : decode cX7_assignAnew 9 = .ok (.getfield 15, 3) := by decide +kernel
theorem dX7_assignAnew_12 : decode cX7_assignAnew 12 = .ok (.iload_n 1, 1) := by decide +kernel
theorem dX7_assignAnew_13 : decode cX7_assignAnew 13 = .ok (.iconst 0, 1) := by decide +kernel
theorem dX7_assignAnew_14 : decode cX7_assignAnew 14 = .ok (.iastore, 1) := by decide +kernel
theorem dX7_assignAnew_15 : decode cX7_assignAnew 15 = .ok (.iinc 1 1, 3) := by decide +kernel
theorem dX7_assignAnew_18 : decode cX7_assignAnew 18 = .ok (.goto (-16), 3) := by decide +kernel
theorem dX7_assignAnew_21 : decode cX7_assignAnew 21 = .ok (.iconst 0, 1) := by decide +kernel
theorem dX7_assignAnew_22 : decode cX7_assignAnew 22 = .ok (.istore_n 1, 1) := by decide +kernel
theorem dX7_assignAnew_23 : decode cX7_assignAnew 23 = .ok (.iload_n 1, 1) := by decide +kernel
theorem dX7_assignAnew_24 : decode cX7_assignAnew 24 = .ok (.bipush 8, 2) := by decide +kernel
theorem dX7_assignAnew_26 : decode cX7_assignAnew 26 = .ok (.if_icmp .ge 32, 3) := by decide +kernel
theorem dX7_assignAnew_29 : decode cX7_assignAnew 29 = .ok (.aload_n 0, 1) := by decide +kernel
theorem dX7_assignAnew_30 : decode cX7_assignAnew 30 = .ok (.getfield 9, 3) := by decide +kernel
theorem dX7_assignAnew_33 : decode cX7_assignAnew 33 = .ok (.iload_n 1, 1) := by decide +kernel
theorem dX7_assignAnew_34 : decode cX7_assignAnew 34 = .ok (.aload_n 0, 1) := by decide +kernel
theorem dX7_assignAnew_35 : decode cX7_assignAnew 35 = .ok (.getfield 22, 3) := by decide +kernel
theorem dX7_assignAnew_38 : decode cX7_assignAnew 38 = .ok (.iload_n 1, 1) := by decide +kernel
theorem dX7_assignAnew_39 : decode cX7_assignAnew 39 = .ok (.invokevirtual 26, 3) := by decide +kernel
theorem dX7_assignAnew_42 : decode cX7_assignAnew 42 = .ok (.iastore, 1) := by decide +kernel
theorem dX7_assignAnew_43 : decode cX7_assignAnew 43 = .ok (.aload_n 0, 1) := by decide +kernel
theorem dX7_assignAnew_44 : decode cX7_assignAnew 44 = .ok (.getfield 18, 3) := by decide +kernel
theorem dX7_assignAnew_47 : decode cX7_assignAnew 47 = .ok (.iload_n 1, 1) := by decide +kernel
theorem dX7_assignAnew_48 : decode cX7_assignAnew 48 = .ok (.iconst (-1), 1) := by decide +kernel
theorem dX7_assignAnew_49 : decode cX7_assignAnew 49 = .ok (.invokevirtual 32, 3) := by decide +kernel
theorem dX7_assignAnew_52 : decode cX7_assignAnew 52 = .ok (.iinc 1 1, 3) := by decide +kernel
theorem dX7_assignAnew_55 : decode cX7_assignAnew 55 = .ok (.goto (-32), 3) := by decide +kernel
theorem dX7_assignAnew_58 : decode cX7_assignAnew 58 = .ok (.iconst 0, 1) := by decide +kernel
theorem dX7_assignAnew_59 : decode cX7_assignAnew 59 = .ok (.istore_n 1, 1) := by decide +kernel
theorem dX7_assignAnew_60 : decode cX7_assignAnew 60 = .ok (.iconst 0, 1) := by decide +kernel
theorem dX7_assignAnew_61 : decode cX7_assignAnew 61 = .ok (.istore_n 2, 1) := by decide +kernel
theorem dX7_assignAnew_62 : decode cX7_assignAnew 62 = .ok (.iload_n 2, 1) := by decide +kernel
theorem dX7_assignAnew_63 : decode cX7_assignAnew 63 = .ok (.bipush 8, 2) := by decide +kernel
theorem dX7_assignAnew_65 : decode cX7_assignAnew 65 = .ok (.if_icmp .ge 24, 3) := by decide +kernel
theorem dX7_assignAnew_68 : decode cX7_assignAnew 68 = .ok (.iload_n 1, 1) := by decide +kernel
theorem dX7_assignAnew_69 : decode cX7_assignAnew 69 = .ok (.aload_n 0, 1) := by decide +kernel
theorem dX7_assignAnew_70 : decode cX7_assignAnew 70 = .ok (.aload_n 0, 1) := by decide +kernel
theorem dX7_assignAnew_71 : decode cX7_assignAnew 71 = .ok (.invokevirtual 38, 3) := by decide +kernel
theorem dX7_assignAnew_74 : decode cX7_assignAnew 74 = .ok (.aload_n 0, 1) := by decide +kernel
theorem dX7_assignAnew_75 : decode cX7_assignAnew 75 = .ok (.invokevirtual 42, 3) := by decide +kernel
theorem dX7_assignAnew_78 : decode cX7_assignAnew 78 = .ok (.invokevirtual 45, 3) := by decide +kernel
theorem dX7_assignAnew_81 : decode cX7_assignAnew 81 = .ok (.iadd, 1) := by decide +kernel
theorem dX7_assignAnew_82 : decode cX7_assignAnew 82 = .ok (.istore_n 1, 1) := by decide +kernel
theorem dX7_assignAnew_83 : decode cX7_assignAnew 83 = .ok (.iinc 2 1, 3) := by decide +kernel
theorem dX7_assignAnew_86 : decode cX7_assignAnew 86 = .ok (.goto (-24), 3) := by decide +kernel
theorem dX7_assignAnew_89 : decode cX7_assignAnew 89 = .ok (.iload_n 1, 1) := by decide +kernel
theorem dX7_assignAnew_90 : decode cX7_assignAnew 90 = .ok (.ireturn, 1) := by decide +kernel
theorem dX7_assignOne_0 : decode cX7_assignOne 0 = .ok (.iload_n 1, 1) := by decide +kernel
theorem dX7_assignOne_1 : decode cX7_assignOne 1 = .ok (.invokestatic 49, 3) := by decide +kernel
theorem dX7_assignOne_4 : decode cX7_assignOne 4 = .ok (.ifCond .eq 13, 3) := by decide +kernel
theorem dX7_assignOne_7 : decode cX7_assignOne 7 = .ok (.iload_n 2, 1) := by decide +kernel
theorem dX7_assignOne_8 : decode cX7_assignOne 8 = .ok (.ifCond .lt 9, 3) := by decide +kernel
theorem dX7_assignOne_11 : decode cX7_assignOne 11 = .ok (.iload_n 2, 1) := by decide +kernel
theorem dX7_assignOne_12 : decode cX7_assignOne 12 = .ok (.bipush 6, 2) := by decide +kernel
theorem dX7_assignOne_14 : decode cX7_assignOne 14 = .ok (.if_icmp .lt 5, 3) := by decide +kernel
theorem dX7_assignOne_17 : decode cX7_assignOne 17 = .ok (.iconst 0, 1) := by decide +kernel
theorem dX7_assignOne_18 : decode cX7_assignOne 18 = .ok (.ireturn, 1) := by decide +kernel
theorem dX7_assignOne_19 : decode cX7_assignOne 19 = .ok (.aload_n 0, 1) := by decide +kernel
theorem dX7_assignOne_20 : decode cX7_assignOne 20 = .ok (.getfield 18, 3) := by decide +kernel
theorem dX7_assignOne_23 : decode cX7_assignOne 23 = .ok (.iload_n 1, 1) := by decide +kernel
theorem dX7_assignOne_24 : decode cX7_assignOne 24 = .ok (.iload_n 2, 1) := by decide +kernel
theorem dX7_assignOne_25 : decode cX7_assignOne 25 = .ok (.invokevirtual 32, 3) := by decide +kernel
theorem dX7_assignOne_28 : decode cX7_assignOne 28 = .ok (.aload_n 0, 1) := by decide +kernel
theorem dX7_assignOne_29 : decode cX7_assignOne 29 = .ok (.getfield 15, 3) := by decide +kernel
theorem dX7_assignOne_32 : decode cX7_assignOne 32 = .ok (.iload_n 2, 1) := by decide +kernel
theorem dX7_assignOne_33 : decode cX7_assignOne 33 = .ok (.dup2, 1) := by decide +kernel
theorem dX7_assignOne_34 : decode cX7_assignOne 34 = .ok (.iaload, 1) := by decide +kernel
theorem dX7_assignOne_35 : decode cX7_assignOne 35 = .ok (.aload_n 0, 1) := by decide +kernel
theorem dX7_assignOne_36 : decode cX7_assignOne 36 = .ok (.getfield 9, 3) := by decide +kernel
theorem dX7_assignOne_39 : decode cX7_assignOne 39 = .ok (.iload_n 1, 1) := by decide +kernel
theorem dX7_assignOne_40 : decode cX7_assignOne 40 = .ok (.iaload, 1) := by decide +kernel
theorem dX7_assignOne_41 : decode cX7_assignOne 41 = .ok (.iadd, 1) := by decide +kernel
theorem dX7_assignOne_42 : decode cX7_assignOne 42 = .ok (.iastore, 1) := by decide +kernel
theorem dX7_assignOne_43 : decode cX7_assignOne 43 = .ok (.aload_n 0, 1) := by decide +kernel
theorem dX7_assignOne_44 : decode cX7_assignOne 44 = .ok (.getfield 9, 3) := by decide +kernel
theorem dX7_assignOne_47 : decode cX7_assignOne 47 = .ok (.iload_n 1, 1) := by decide +kernel
theorem dX7_assignOne_48 : decode cX7_assignOne 48 = .ok (.iconst 0, 1) := by decide +kernel
theorem dX7_assignOne_49 : decode cX7_assignOne 49 = .ok (.iastore, 1) := by decide +kernel
theorem dX7_assignOne_50 : decode cX7_assignOne 50 = .ok (.iconst 1, 1) := by decide +kernel
theorem dX7_assignOne_51 : decode cX7_assignOne 51 = .ok (.ireturn, 1) := by decide +kernel
theorem dX7_heaviestRoute_0 : decode cX7_heaviestRoute 0 = .ok (.iconst (-1), 1) := by decide +kernel
theorem dX7_heaviestRoute_1 : decode cX7_heaviestRoute 1 = .ok (.istore_n 1, 1) := by decide +kernel
theorem dX7_heaviestRoute_2 : decode cX7_heaviestRoute 2 = .ok (.iconst 0, 1) := by decide +kernel
theorem dX7_heaviestRoute_3 : decode cX7_heaviestRoute 3 = .ok (.istore_n 2, 1) := by decide +kernel
theorem dX7_heaviestRoute_4 : decode cX7_heaviestRoute 4 = .ok (.iconst 0, 1) := by decide +kernel
theorem dX7_heaviestRoute_5 : decode cX7_heaviestRoute 5 = .ok (.istore_n 3, 1) := by decide +kernel
theorem dX7_heaviestRoute_6 : decode cX7_heaviestRoute 6 = .ok (.iload_n 3, 1) := by decide +kernel
theorem dX7_heaviestRoute_7 : decode cX7_heaviestRoute 7 = .ok (.bipush 8, 2) := by decide +kernel
theorem dX7_heaviestRoute_9 : decode cX7_heaviestRoute 9 = .ok (.if_icmp .ge 28, 3) := by decide +kernel
theorem dX7_heaviestRoute_12 : decode cX7_heaviestRoute 12 = .ok (.aload_n 0, 1) := by decide +kernel
theorem dX7_heaviestRoute_13 : decode cX7_heaviestRoute 13 = .ok (.getfield 9, 3) := by decide +kernel
theorem dX7_heaviestRoute_16 : decode cX7_heaviestRoute 16 = .ok (.iload_n 3, 1) := by decide +kernel
theorem dX7_heaviestRoute_17 : decode cX7_heaviestRoute 17 = .ok (.iaload, 1) := by decide +kernel
theorem dX7_heaviestRoute_18 : decode cX7_heaviestRoute 18 = .ok (.iload_n 2, 1) := by decide +kernel
theorem dX7_heaviestRoute_19 : decode cX7_heaviestRoute 19 = .ok (.if_icmp .le 12, 3) := by decide +kernel
theorem dX7_heaviestRoute_22 : decode cX7_heaviestRoute 22 = .ok (.aload_n 0, 1) := by decide +kernel
theorem dX7_heaviestRoute_23 : decode cX7_heaviestRoute 23 = .ok (.getfield 9, 3) := by decide +kernel
theorem dX7_heaviestRoute_26 : decode cX7_heaviestRoute 26 = .ok (.iload_n 3, 1) := by decide +kernel
theorem dX7_heaviestRoute_27 : decode cX7_heaviestRoute 27 = .ok (.iaload, 1) := by decide +kernel
theorem dX7_heaviestRoute_28 : decode cX7_heaviestRoute 28 = .ok (.istore_n 2, 1) := by decide +kernel
theorem dX7_heaviestRoute_29 : decode cX7_heaviestRoute 29 = .ok (.iload_n 3, 1) := by decide +kernel
theorem dX7_heaviestRoute_30 : decode cX7_heaviestRoute 30 = .ok (.istore_n 1, 1) := by decide +kernel
theorem dX7_heaviestRoute_31 : decode cX7_heaviestRoute 31 = .ok (.iinc 3 1, 3) := by decide +kernel
theorem dX7_heaviestRoute_34 : decode cX7_heaviestRoute 34 = .ok (.goto (-28), 3) := by decide +kernel
theorem dX7_heaviestRoute_37 : decode cX7_heaviestRoute 37 = .ok (.iload_n 1, 1) := by decide +kernel
theorem dX7_heaviestRoute_38 : decode cX7_heaviestRoute 38 = .ok (.ireturn, 1) := by decide +kernel
theorem dX7_lightestChute_0 : decode cX7_lightestChute 0 = .ok (.iconst (-1), 1) := by decide +kernel
theorem dX7_lightestChute_1 : decode cX7_lightestChute 1 = .ok (.istore_n 1, 1) := by decide +kernel
theorem dX7_lightestChute_2 : decode cX7_lightestChute 2 = .ok (.ldc 55, 2) := by decide +kernel
theorem dX7_lightestChute_4 : decode cX7_lightestChute 4 = .ok (.istore_n 2, 1) := by decide +kernel
theorem dX7_lightestChute_5 : decode cX7_lightestChute 5 = .ok (.iconst 0, 1) := by decide +kernel
theorem dX7_lightestChute_6 : decode cX7_lightestChute 6 = .ok (.istore_n 3, 1) := by decide +kernel
theorem dX7_lightestChute_7 : decode cX7_lightestChute 7 = .ok (.iload_n 3, 1) := by decide +kernel
theorem dX7_lightestChute_8 : decode cX7_lightestChute 8 = .ok (.bipush 6, 2) := by decide +kernel
theorem dX7_lightestChute_10 : decode cX7_lightestChute 10 = .ok (.if_icmp .ge 51, 3) := by decide +kernel
theorem dX7_lightestChute_13 : decode cX7_lightestChute 13 = .ok (.aload_n 0, 1) := by decide +kernel
theorem dX7_lightestChute_14 : decode cX7_lightestChute 14 = .ok (.getfield 18, 3) := by decide +kernel
theorem dX7_lightestChute_17 : decode cX7_lightestChute 17 = .ok (.iload_n 3, 1) := by decide +kernel
theorem dX7_lightestChute_18 : decode cX7_lightestChute 18 = .ok (.invokevirtual 56, 3) := by decide +kernel
theorem dX7_lightestChute_21 : decode cX7_lightestChute 21 = .ok (.astore 4, 2) := by decide +kernel
theorem dX7_lightestChute_23 : decode cX7_lightestChute 23 = .ok (.aload 4, 2) := by decide +kernel
theorem dX7_lightestChute_25 : decode cX7_lightestChute 25 = .ok (.ifnull 30, 3) := by decide +kernel
theorem dX7_lightestChute_28 : decode cX7_lightestChute 28 = .ok (.aload 4, 2) := by decide +kernel
theorem dX7_lightestChute_30 : decode cX7_lightestChute 30 = .ok (.getfield 60, 3) := by decide +kernel
theorem dX7_lightestChute_33 : decode cX7_lightestChute 33 = .ok (.ifCond .ne 22, 3) := by decide +kernel
theorem dX7_lightestChute_36 : decode cX7_lightestChute 36 = .ok (.aload_n 0, 1) := by decide +kernel
theorem dX7_lightestChute_37 : decode cX7_lightestChute 37 = .ok (.getfield 15, 3) := by decide +kernel
theorem dX7_lightestChute_40 : decode cX7_lightestChute 40 = .ok (.iload_n 3, 1) := by decide +kernel
theorem dX7_lightestChute_41 : decode cX7_lightestChute 41 = .ok (.iaload, 1) := by decide +kernel
theorem dX7_lightestChute_42 : decode cX7_lightestChute 42 = .ok (.iload_n 2, 1) := by decide +kernel
theorem dX7_lightestChute_43 : decode cX7_lightestChute 43 = .ok (.if_icmp .ge 12, 3) := by decide +kernel
theorem dX7_lightestChute_46 : decode cX7_lightestChute 46 = .ok (.aload_n 0, 1) := by decide +kernel
theorem dX7_lightestChute_47 : decode cX7_lightestChute 47 = .ok (.getfield 15, 3) := by decide +kernel
theorem dX7_lightestChute_50 : decode cX7_lightestChute 50 = .ok (.iload_n 3, 1) := by decide +kernel
theorem dX7_lightestChute_51 : decode cX7_lightestChute 51 = .ok (.iaload, 1) := by decide +kernel
theorem dX7_lightestChute_52 : decode cX7_lightestChute 52 = .ok (.istore_n 2, 1) := by decide +kernel
theorem dX7_lightestChute_53 : decode cX7_lightestChute 53 = .ok (.iload_n 3, 1) := by decide +kernel
theorem dX7_lightestChute_54 : decode cX7_lightestChute 54 = .ok (.istore_n 1, 1) := by decide +kernel
theorem dX7_lightestChute_55 : decode cX7_lightestChute 55 = .ok (.iinc 3 1, 3) := by decide +kernel
theorem dX7_lightestChute_58 : decode cX7_lightestChute 58 = .ok (.goto (-51), 3) := by decide +kernel
theorem dX7_lightestChute_61 : decode cX7_lightestChute 61 = .ok (.iload_n 1, 1) := by decide +kernel
theorem dX7_lightestChute_62 : decode cX7_lightestChute 62 = .ok (.ireturn, 1) := by decide +kernel
theorem dX8_init_0 : decode cX8_init 0 = .ok (.aload_n 0, 1) := by decide +kernel
theorem dX8_init_1 : decode cX8_init 1 = .ok (.invokespecial 1, 3) := by decide +kernel
theorem dX8_init_4 : decode cX8_init 4 = .ok (.aload_n 0, 1) := by decide +kernel
theorem dX8_init_5 : decode cX8_init 5 = .ok (.new 7, 3) := by decide +kernel
theorem dX8_init_8 : decode cX8_init 8 = .ok (.dup, 1) := by decide +kernel
theorem dX8_init_9 : decode cX8_init 9 = .ok (.invokespecial 9, 3) := by decide +kernel
theorem dX8_init_12 : decode cX8_init 12 = .ok (.putfield 10, 3) := by decide +kernel
theorem dX8_init_15 : decode cX8_init 15 = .ok (.aload_n 0, 1) := by decide +kernel
theorem dX8_init_16 : decode cX8_init 16 = .ok (.new 16, 3) := by decide +kernel
theorem dX8_init_19 : decode cX8_init 19 = .ok (.dup, 1) := by decide +kernel
theorem dX8_init_20 : decode cX8_init 20 = .ok (.invokespecial 18, 3) := by decide +kernel
theorem dX8_init_23 : decode cX8_init 23 = .ok (.putfield 19, 3) := by decide +kernel
theorem dX8_init_26 : decode cX8_init 26 = .ok (.aload_n 0, 1) := by decide +kernel
theorem dX8_init_27 : decode cX8_init 27 = .ok (.new 23, 3) := by decide +kernel
theorem dX8_init_30 : decode cX8_init 30 = .ok (.dup, 1) := by decide +kernel
theorem dX8_init_31 : decode cX8_init 31 = .ok (.invokespecial 25, 3) := by decide +kernel
theorem dX8_init_34 : decode cX8_init 34 = .ok (.putfield 26, 3) := by decide +kernel
theorem dX8_init_37 : decode cX8_init 37 = .ok (.aload_n 0, 1) := by decide +kernel
theorem dX8_init_38 : decode cX8_init 38 = .ok (.new 30, 3) := by decide +kernel
theorem dX8_init_41 : decode cX8_init 41 = .ok (.dup, 1) := by decide +kernel
theorem dX8_init_42 : decode cX8_init 42 = .ok (.aload_n 0, 1) := by decide +kernel
theorem dX8_init_43 : decode cX8_init 43 = .ok (.getfield 26, 3) := by decide +kernel
theorem dX8_init_46 : decode cX8_init 46 = .ok (.aload_n 0, 1) := by decide +kernel
theorem dX8_init_47 : decode cX8_init 47 = .ok (.getfield 10, 3) := by decide +kernel
theorem dX8_init_50 : decode cX8_init 50 = .ok (.invokespecial 32, 3) := by decide +kernel
theorem dX8_init_53 : decode cX8_init 53 = .ok (.putfield 35, 3) := by decide +kernel
theorem dX8_init_56 : decode cX8_init 56 = .ok (.aload_n 0, 1) := by decide +kernel
theorem dX8_init_57 : decode cX8_init 57 = .ok (.new 39, 3) := by decide +kernel
theorem dX8_init_60 : decode cX8_init 60 = .ok (.dup, 1) := by decide +kernel
theorem dX8_init_61 : decode cX8_init 61 = .ok (.aload_n 0, 1) := by decide +kernel
theorem dX8_init_62 : decode cX8_init 62 = .ok (.getfield 26, 3) := by decide +kernel
theorem dX8_init_65 : decode cX8_init 65 = .ok (.aload_n 0, 1) := by decide +kernel
theorem dX8_init_66 : decode cX8_init 66 = .ok (.getfield 10, 3) := by decide +kernel
theorem dX8_init_69 : decode cX8_init 69 = .ok (.aload_n 0, 1) := by decide +kernel
theorem dX8_init_70 : decode cX8_init 70 = .ok (.getfield 19, 3) := by decide +kernel
theorem dX8_init_73 : decode cX8_init 73 = .ok (.invokespecial 41, 3) := by decide +kernel
theorem dX8_init_76 : decode cX8_init 76 = .ok (.putfield 44, 3) := by decide +kernel
theorem dX8_init_79 : decode cX8_init 79 = .ok (.aload_n 0, 1) := by decide +kernel
theorem dX8_init_80 : decode cX8_init 80 = .ok (.new 48, 3) := by decide +kernel
theorem dX8_init_83 : decode cX8_init 83 = .ok (.dup, 1) := by decide +kernel
theorem dX8_init_84 : decode cX8_init 84 = .ok (.sipush 300, 3) := by decide +kernel
theorem dX8_init_87 : decode cX8_init 87 = .ok (.invokespecial 50, 3) := by decide +kernel
theorem dX8_init_90 : decode cX8_init 90 = .ok (.putfield 53, 3) := by decide +kernel
theorem dX8_init_93 : decode cX8_init 93 = .ok (.aload_n 0, 1) := by decide +kernel
theorem dX8_init_94 : decode cX8_init 94 = .ok (.new 57, 3) := by decide +kernel
theorem dX8_init_97 : decode cX8_init 97 = .ok (.dup, 1) := by decide +kernel
theorem dX8_init_98 : decode cX8_init 98 = .ok (.invokespecial 59, 3) := by decide +kernel
theorem dX8_init_101 : decode cX8_init 101 = .ok (.putfield 60, 3) := by decide +kernel
theorem dX8_init_104 : decode cX8_init 104 = .ok (.aload_n 0, 1) := by decide +kernel
theorem dX8_init_105 : decode cX8_init 105 = .ok (.sipush 300, 3) := by decide +kernel
theorem dX8_init_108 : decode cX8_init 108 = .ok (.newarray .int, 2) := by decide +kernel
theorem dX8_init_110 : decode cX8_init 110 = .ok (.putfield 64, 3) := by decide +kernel
theorem dX8_init_113 : decode cX8_init 113 = .ok (.return_, 1) := by decide +kernel
theorem dX8_setLoop_0 : decode cX8_setLoop 0 = .ok (.iload_n 1, 1) := by decide +kernel
theorem dX8_setLoop_1 : decode cX8_setLoop 1 = .ok (.iconst 4, 1) := by decide +kernel
theorem dX8_setLoop_2 : decode cX8_setLoop 2 = .ok (.if_icmp .lt 9, 3) := by decide +kernel
theorem dX8_setLoop_5 : decode cX8_setLoop 5 = .ok (.iload_n 1, 1) := by decide +kernel
theorem dX8_setLoop_6 : decode cX8_setLoop 6 = .ok (.bipush 20, 2) := by decide +kernel
theorem dX8_setLoop_8 : decode cX8_setLoop 8 = .ok (.if_icmp .le 11, 3) := by decide +kernel
theorem dX8_setLoop_11 : decode cX8_setLoop 11 = .ok (.new 68, 3) := by decide +kernel
theorem dX8_setLoop_14 : decode cX8_setLoop 14 = .ok (.dup, 1) := by decide +kernel
theorem dX8_setLoop_15 : decode cX8_setLoop 15 = .ok (.invokespecial 70, 3) := by decide +kernel
theorem dX8_setLoop_18 : decode cX8_setLoop 18 = .ok (.athrow, 1) := by decide +kernel
theorem dX8_setLoop_19 : decode cX8_setLoop 19 = .ok (.aload_n 0, 1) := by decide +kernel
theorem dX8_setLoop_20 : decode cX8_setLoop 20 = .ok (.getfield 26, 3) := by decide +kernel
theorem dX8_setLoop_23 : decode cX8_setLoop 23 = .ok (.getfield 71, 3) := by decide +kernel
theorem dX8_setLoop_26 : decode cX8_setLoop 26 = .ok (.ifCond .gt 13, 3) := by decide +kernel
theorem dX8_setLoop_29 : decode cX8_setLoop 29 = .ok (.aload_n 0, 1) := by decide +kernel
theorem dX8_setLoop_30 : decode cX8_setLoop 30 = .ok (.getfield 10, 3) := by decide +kernel
theorem dX8_setLoop_33 : decode cX8_setLoop 33 = .ok (.getfield 75, 3) := by decide +kernel
theorem dX8_setLoop_36 : decode cX8_setLoop 36 = .ok (.ifCond .le 11, 3) := by decide +kernel
theorem dX8_setLoop_39 : decode cX8_setLoop 39 = .ok (.new 78, 3) := by decide +kernel
theorem dX8_setLoop_42 : decode cX8_setLoop 42 = .ok (.dup, 1) := by decide +kernel
theorem dX8_setLoop_43 : decode cX8_setLoop 43 = .ok (.invokespecial 80, 3) := by decide +kernel
theorem dX8_setLoop_46 : decode cX8_setLoop 46 = .ok (.athrow, 1) := by decide +kernel
theorem dX8_setLoop_47 : decode cX8_setLoop 47 = .ok (.aload_n 0, 1) := by decide +kernel
theorem dX8_setLoop_48 : decode cX8_setLoop 48 = .ok (.getfield 19, 3) := by decide +kernel
theorem dX8_setLoop_51 : decode cX8_setLoop 51 = .ok (.getfield 81, 3) := by decide +kernel
theorem dX8_setLoop_54 : decode cX8_setLoop 54 = .ok (.istore_n 2, 1) := by decide +kernel
theorem dX8_setLoop_55 : decode cX8_setLoop 55 = .ok (.aload_n 0, 1) := by decide +kernel
theorem dX8_setLoop_56 : decode cX8_setLoop 56 = .ok (.getfield 19, 3) := by decide +kernel
theorem dX8_setLoop_59 : decode cX8_setLoop 59 = .ok (.iload_n 1, 1) := by decide +kernel
theorem dX8_setLoop_60 : decode cX8_setLoop 60 = .ok (.invokevirtual 84, 3) := by decide +kernel
theorem dX8_setLoop_63 : decode cX8_setLoop 63 = .ok (.aload_n 0, 1) := by decide +kernel
theorem dX8_setLoop_64 : decode cX8_setLoop 64 = .ok (.getfield 26, 3) := by decide +kernel
theorem dX8_setLoop_67 : decode cX8_setLoop 67 = .ok (.iload_n 1, 1) := by decide +kernel
theorem dX8_setLoop_68 : decode cX8_setLoop 68 = .ok (.iconst 1, 1) := by decide +kernel
theorem dX8_setLoop_69 : decode cX8_setLoop 69 = .ok (.isub, 1) := by decide +kernel
theorem dX8_setLoop_70 : decode cX8_setLoop 70 = .ok (.putfield 87, 3) := by decide +kernel
theorem dX8_setLoop_73 : decode cX8_setLoop 73 = .ok (.iload_n 2, 1) := by decide +kernel
theorem dX8_setLoop_74 : decode cX8_setLoop 74 = .ok (.ireturn, 1) := by decide +kernel
theorem dX8_addChute_0 : decode cX8_addChute 0 = .ok (.iload_n 1, 1) := by decide +kernel
theorem dX8_addChute_1 : decode cX8_addChute 1 = .ok (.iconst 1, 1) := by decide +kernel
theorem dX8_addChute_2 : decode cX8_addChute 2 = .ok (.if_icmp .lt 21, 3) := by decide +kernel
theorem dX8_addChute_5 : decode cX8_addChute 5 = .ok (.iload_n 1, 1) := by decide +kernel
theorem dX8_addChute_6 : decode cX8_addChute 6 = .ok (.aload_n 0, 1) := by decide +kernel
theorem dX8_addChute_7 : decode cX8_addChute 7 = .ok (.getfield 26, 3) := by decide +kernel
theorem dX8_addChute_10 : decode cX8_addChute 10 = .ok (.getfield 87, 3) := by decide +kernel
theorem dX8_addChute_13 : decode cX8_addChute 13 = .ok (.if_icmp .ge 10, 3) := by decide +kernel
theorem dX8_addChute_16 : decode cX8_addChute 16 = .ok (.iload_n 2, 1) := by decide +kernel
theorem dX8_addChute_17 : decode cX8_addChute 17 = .ok (.invokestatic 90, 3) := by decide +kernel
theorem dX8_addChute_20 : decode cX8_addChute 20 = .ok (.ifCond .ne 11, 3) := by decide +kernel
theorem dX8_addChute_23 : decode cX8_addChute 23 = .ok (.new 68, 3) := by decide +kernel
theorem dX8_addChute_26 : decode cX8_addChute 26 = .ok (.dup, 1) := by decide +kernel
theorem dX8_addChute_27 : decode cX8_addChute 27 = .ok (.invokespecial 70, 3) := by decide +kernel
theorem dX8_addChute_30 : decode cX8_addChute 30 = .ok (.athrow, 1) := by decide +kernel
theorem dX8_addChute_31 : decode cX8_addChute 31 = .ok (.aload_n 0, 1) := by decide +kernel
theorem dX8_addChute_32 : decode cX8_addChute 32 = .ok (.getfield 26, 3) := by decide +kernel
theorem dX8_addChute_35 : decode cX8_addChute 35 = .ok (.iload_n 1, 1) := by decide +kernel
theorem dX8_addChute_36 : decode cX8_addChute 36 = .ok (.invokevirtual 94, 3) := by decide +kernel
theorem dX8_addChute_39 : decode cX8_addChute 39 = .ok (.ifnull 11, 3) := by decide +kernel
theorem dX8_addChute_42 : decode cX8_addChute 42 = .ok (.new 98, 3) := by decide +kernel
theorem dX8_addChute_45 : decode cX8_addChute 45 = .ok (.dup, 1) := by decide +kernel
theorem dX8_addChute_46 : decode cX8_addChute 46 = .ok (.invokespecial 100, 3) := by decide +kernel
theorem dX8_addChute_49 : decode cX8_addChute 49 = .ok (.athrow, 1) := by decide +kernel
theorem dX8_addChute_50 : decode cX8_addChute 50 = .ok (.aload_n 0, 1) := by decide +kernel
theorem dX8_addChute_51 : decode cX8_addChute 51 = .ok (.getfield 26, 3) := by decide +kernel
theorem dX8_addChute_54 : decode cX8_addChute 54 = .ok (.getfield 71, 3) := by decide +kernel
theorem dX8_addChute_57 : decode cX8_addChute 57 = .ok (.bipush 6, 2) := by decide +kernel
theorem dX8_addChute_59 : decode cX8_addChute 59 = .ok (.if_icmp .lt 11, 3) := by decide +kernel
theorem dX8_addChute_62 : decode cX8_addChute 62 = .ok (.new 78, 3) := by decide +kernel
theorem dX8_addChute_65 : decode cX8_addChute 65 = .ok (.dup, 1) := by decide +kernel
theorem dX8_addChute_66 : decode cX8_addChute 66 = .ok (.invokespecial 80, 3) := by decide +kernel
theorem dX8_addChute_69 : decode cX8_addChute 69 = .ok (.athrow, 1) := by decide +kernel
theorem dX8_addChute_70 : decode cX8_addChute 70 = .ok (.aload_n 0, 1) := by decide +kernel
theorem dX8_addChute_71 : decode cX8_addChute 71 = .ok (.getfield 26, 3) := by decide +kernel
theorem dX8_addChute_74 : decode cX8_addChute 74 = .ok (.iload_n 1, 1) := by decide +kernel
theorem dX8_addChute_75 : decode cX8_addChute 75 = .ok (.iload_n 2, 1) := by decide +kernel
theorem dX8_addChute_76 : decode cX8_addChute 76 = .ok (.invokevirtual 101, 3) := by decide +kernel
theorem dX8_addChute_79 : decode cX8_addChute 79 = .ok (.ireturn, 1) := by decide +kernel
theorem dX8_setCapacity_0 : decode cX8_setCapacity 0 = .ok (.aload_n 0, 1) := by decide +kernel
theorem dX8_setCapacity_1 : decode cX8_setCapacity 1 = .ok (.iload_n 1, 1) := by decide +kernel
theorem dX8_setCapacity_2 : decode cX8_setCapacity 2 = .ok (.invokevirtual 105, 3) := by decide +kernel
theorem dX8_setCapacity_5 : decode cX8_setCapacity 5 = .ok (.astore_n 3, 1) := by decide +kernel
theorem dX8_setCapacity_6 : decode cX8_setCapacity 6 = .ok (.iload_n 2, 1) := by decide +kernel
theorem dX8_setCapacity_7 : decode cX8_setCapacity 7 = .ok (.invokestatic 90, 3) := by decide +kernel
theorem dX8_setCapacity_10 : decode cX8_setCapacity 10 = .ok (.ifCond .ne 11, 3) := by decide +kernel
theorem dX8_setCapacity_13 : decode cX8_setCapacity 13 = .ok (.new 68, 3) := by decide +kernel
theorem dX8_setCapacity_16 : decode cX8_setCapacity 16 = .ok (.dup, 1) := by decide +kernel
theorem dX8_setCapacity_17 : decode cX8_setCapacity 17 = .ok (.invokespecial 70, 3) := by decide +kernel
theorem dX8_setCapacity_20 : decode cX8_setCapacity 20 = .ok (.athrow, 1) := by decide +kernel
theorem dX8_setCapacity_21 : decode cX8_setCapacity 21 = .ok (.aload_n 3, 1) := by decide +kernel
theorem dX8_setCapacity_22 : decode cX8_setCapacity 22 = .ok (.getfield 108, 3) := by decide +kernel
theorem dX8_setCapacity_25 : decode cX8_setCapacity 25 = .ok (.getfield 113, 3) := by decide +kernel
theorem dX8_setCapacity_28 : decode cX8_setCapacity 28 = .ok (.iload_n 2, 1) := by decide +kernel
theorem dX8_setCapacity_29 : decode cX8_setCapacity 29 = .ok (.if_icmp .le 11, 3) := by decide +kernel
theorem dX8_setCapacity_32 : decode cX8_setCapacity 32 = .ok (.new 78, 3) := by decide +kernel
theorem dX8_setCapacity_35 : decode cX8_setCapacity 35 = .ok (.dup, 1) := by decide +kernel
theorem dX8_setCapacity_36 : decode cX8_setCapacity 36 = .ok (.invokespecial 80, 3) := by decide +kernel
theorem dX8_setCapacity_39 : decode cX8_setCapacity 39 = .ok (.athrow, 1) := by decide +kernel
theorem dX8_setCapacity_40 : decode cX8_setCapacity 40 = .ok (.aload_n 3, 1) := by decide +kernel
theorem dX8_setCapacity_41 : decode cX8_setCapacity 41 = .ok (.getfield 116, 3) := by decide +kernel
theorem dX8_setCapacity_44 : decode cX8_setCapacity 44 = .ok (.istore 4, 2) := by decide +kernel
theorem dX8_setCapacity_46 : decode cX8_setCapacity 46 = .ok (.aload_n 3, 1) := by decide +kernel
theorem dX8_setCapacity_47 : decode cX8_setCapacity 47 = .ok (.iload_n 2, 1) := by decide +kernel
theorem dX8_setCapacity_48 : decode cX8_setCapacity 48 = .ok (.putfield 116, 3) := by decide +kernel
theorem dX8_setCapacity_51 : decode cX8_setCapacity 51 = .ok (.iload 4, 2) := by decide +kernel
theorem dX8_setCapacity_53 : decode cX8_setCapacity 53 = .ok (.ireturn, 1) := by decide +kernel
theorem dX8_setLimit_0 : decode cX8_setLimit 0 = .ok (.iload_n 1, 1) := by decide +kernel
theorem dX8_setLimit_1 : decode cX8_setLimit 1 = .ok (.iconst 1, 1) := by decide +kernel
theorem dX8_setLimit_2 : decode cX8_setLimit 2 = .ok (.if_icmp .lt 9, 3) := by decide +kernel
theorem dX8_setLimit_5 : decode cX8_setLimit 5 = .ok (.iload_n 1, 1) := by decide +kernel
theorem dX8_setLimit_6 : decode cX8_setLimit 6 = .ok (.bipush 9, 2) := by decide +kernel
theorem dX8_setLimit_8 : decode cX8_setLimit 8 = .ok (.if_icmp .le 11, 3) := by decide +kernel
theorem dX8_setLimit_11 : decode cX8_setLimit 11 = .ok (.new 68, 3) := by decide +kernel
theorem dX8_setLimit_14 : decode cX8_setLimit 14 = .ok (.dup, 1) := by decide +kernel
theorem dX8_setLimit_15 : decode cX8_setLimit 15 = .ok (.invokespecial 70, 3) := by decide +kernel
theorem dX8_setLimit_18 : decode cX8_setLimit 18 = .ok (.athrow, 1) := by decide +kernel
theorem dX8_setLimit_19 : decode cX8_setLimit 19 = .ok (.aload_n 0, 1) := by decide +kernel
theorem dX8_setLimit_20 : decode cX8_setLimit 20 = .ok (.getfield 26, 3) := by decide +kernel
theorem dX8_setLimit_23 : decode cX8_setLimit 23 = .ok (.getfield 119, 3) := by decide +kernel
theorem dX8_setLimit_26 : decode cX8_setLimit 26 = .ok (.istore_n 2, 1) := by decide +kernel
theorem dX8_setLimit_27 : decode cX8_setLimit 27 = .ok (.aload_n 0, 1) := by decide +kernel
theorem dX8_setLimit_28 : decode cX8_setLimit 28 = .ok (.getfield 26, 3) := by decide +kernel
theorem dX8_setLimit_31 : decode cX8_setLimit 31 = .ok (.iload_n 1, 1) := by decide +kernel
theorem dX8_setLimit_32 : decode cX8_setLimit 32 = .ok (.putfield 119, 3) := by decide +kernel
theorem dX8_setLimit_35 : decode cX8_setLimit 35 = .ok (.iload_n 2, 1) := by decide +kernel
theorem dX8_setLimit_36 : decode cX8_setLimit 36 = .ok (.ireturn, 1) := by decide +kernel
theorem dX8_jam_0 : decode cX8_jam 0 = .ok (.aload_n 0, 1) := by decide +kernel
theorem dX8_jam_1 : decode cX8_jam 1 = .ok (.iload_n 1, 1) := by decide +kernel
theorem dX8_jam_2 : decode cX8_jam 2 = .ok (.invokevirtual 122, 3) := by decide +kernel
theorem dX8_jam_5 : decode cX8_jam 5 = .ok (.aload_n 0, 1) := by decide +kernel
theorem dX8_jam_6 : decode cX8_jam 6 = .ok (.getfield 26, 3) := by decide +kernel
theorem dX8_jam_9 : decode cX8_jam 9 = .ok (.iload_n 1, 1) := by decide +kernel
theorem dX8_jam_10 : decode cX8_jam 10 = .ok (.invokevirtual 125, 3) := by decide +kernel
theorem dX8_jam_13 : decode cX8_jam 13 = .ok (.ifCond .eq 11, 3) := by decide +kernel
theorem dX8_jam_16 : decode cX8_jam 16 = .ok (.new 78, 3) := by decide +kernel
theorem dX8_jam_19 : decode cX8_jam 19 = .ok (.dup, 1) := by decide +kernel
theorem dX8_jam_20 : decode cX8_jam 20 = .ok (.invokespecial 80, 3) := by decide +kernel
theorem dX8_jam_23 : decode cX8_jam 23 = .ok (.athrow, 1) := by decide +kernel
theorem dX8_jam_24 : decode cX8_jam 24 = .ok (.aload_n 0, 1) := by decide +kernel
theorem dX8_jam_25 : decode cX8_jam 25 = .ok (.getfield 26, 3) := by decide +kernel
theorem dX8_jam_28 : decode cX8_jam 28 = .ok (.iload_n 1, 1) := by decide +kernel
theorem dX8_jam_29 : decode cX8_jam 29 = .ok (.iconst 1, 1) := by decide +kernel
theorem dX8_jam_30 : decode cX8_jam 30 = .ok (.invokevirtual 128, 3) := by decide +kernel
theorem dX8_jam_33 : decode cX8_jam 33 = .ok (.aload_n 0, 1) := by decide +kernel
theorem dX8_jam_34 : decode cX8_jam 34 = .ok (.getfield 26, 3) := by decide +kernel
theorem dX8_jam_37 : decode cX8_jam 37 = .ok (.invokevirtual 132, 3) := by decide +kernel
theorem dX8_jam_40 : decode cX8_jam 40 = .ok (.ireturn, 1) := by decide +kernel
theorem dX8_free_0 : decode cX8_free 0 = .ok (.aload_n 0, 1) := by decide +kernel
theorem dX8_free_1 : decode cX8_free 1 = .ok (.iload_n 1, 1) := by decide +kernel
theorem dX8_free_2 : decode cX8_free 2 = .ok (.invokevirtual 122, 3) := by decide +kernel
theorem dX8_free_5 : decode cX8_free 5 = .ok (.aload_n 0, 1) := by decide +kernel
theorem dX8_free_6 : decode cX8_free 6 = .ok (.getfield 26, 3) := by decide +kernel
theorem dX8_free_9 : decode cX8_free 9 = .ok (.iload_n 1, 1) := by decide +kernel
theorem dX8_free_10 : decode cX8_free 10 = .ok (.invokevirtual 125, 3) := by decide +kernel
theorem dX8_free_13 : decode cX8_free 13 = .ok (.ifCond .ne 11, 3) := by decide +kernel
theorem dX8_free_16 : decode cX8_free 16 = .ok (.new 78, 3) := by decide +kernel
theorem dX8_free_19 : decode cX8_free 19 = .ok (.dup, 1) := by decide +kernel
theorem dX8_free_20 : decode cX8_free 20 = .ok (.invokespecial 80, 3) := by decide +kernel
theorem dX8_free_23 : decode cX8_free 23 = .ok (.athrow, 1) := by decide +kernel
theorem dX8_free_24 : decode cX8_free 24 = .ok (.aload_n 0, 1) := by decide +kernel
theorem dX8_free_25 : decode cX8_free 25 = .ok (.getfield 26, 3) := by decide +kernel
theorem dX8_free_28 : decode cX8_free 28 = .ok (.iload_n 1, 1) := by decide +kernel
theorem dX8_free_29 : decode cX8_free 29 = .ok (.iconst 0, 1) := by decide +kernel
theorem dX8_free_30 : decode cX8_free 30 = .ok (.invokevirtual 128, 3) := by decide +kernel
theorem dX8_free_33 : decode cX8_free 33 = .ok (.aload_n 0, 1) := by decide +kernel
theorem dX8_free_34 : decode cX8_free 34 = .ok (.getfield 26, 3) := by decide +kernel
theorem dX8_free_37 : decode cX8_free 37 = .ok (.invokevirtual 132, 3) := by decide +kernel
theorem dX8_free_40 : decode cX8_free 40 = .ok (.ireturn, 1) := by decide +kernel
theorem dX8_stationAt_0 : decode cX8_stationAt 0 = .ok (.aload_n 0, 1) := by decide +kernel
theorem dX8_stationAt_1 : decode cX8_stationAt 1 = .ok (.iload_n 1, 1) := by decide +kernel
theorem dX8_stationAt_2 : decode cX8_stationAt 2 = .ok (.invokevirtual 136, 3) := by decide +kernel
theorem dX8_stationAt_5 : decode cX8_stationAt 5 = .ok (.aload_n 0, 1) := by decide +kernel
theorem dX8_stationAt_6 : decode cX8_stationAt 6 = .ok (.getfield 26, 3) := by decide +kernel
theorem dX8_stationAt_9 : decode cX8_stationAt 9 = .ok (.iload_n 1, 1) := by decide +kernel
theorem dX8_stationAt_10 : decode cX8_stationAt 10 = .ok (.invokevirtual 139, 3) := by decide +kernel
theorem dX8_stationAt_13 : decode cX8_stationAt 13 = .ok (.ireturn, 1) := by decide +kernel
theorem dX8_arrive_0 : decode cX8_arrive 0 = .ok (.iload_n 1, 1) := by decide +kernel
theorem dX8_arrive_1 : decode cX8_arrive 1 = .ok (.invokestatic 143, 3) := by decide +kernel
theorem dX8_arrive_4 : decode cX8_arrive 4 = .ok (.ifCond .eq 14, 3) := by decide +kernel
theorem dX8_arrive_7 : decode cX8_arrive 7 = .ok (.iload_n 2, 1) := by decide +kernel
theorem dX8_arrive_8 : decode cX8_arrive 8 = .ok (.iconst 1, 1) := by decide +kernel
theorem dX8_arrive_9 : decode cX8_arrive 9 = .ok (.if_icmp .lt 9, 3) := by decide +kernel
theorem dX8_arrive_12 : decode cX8_arrive 12 = .ok (.iload_n 2, 1) := by decide +kernel
theorem dX8_arrive_13 : decode cX8_arrive 13 = .ok (.bipush 9, 2) := by decide +kernel
theorem dX8_arrive_15 : decode cX8_arrive 15 = .ok (.if_icmp .le 11, 3) := by decide +kernel
theorem dX8_arrive_18 : decode cX8_arrive 18 = .ok (.new 68, 3) := by decide +kernel
theorem dX8_arrive_21 : decode cX8_arrive 21 = .ok (.dup, 1) := by decide +kernel
theorem dX8_arrive_22 : decode cX8_arrive 22 = .ok (.invokespecial 70, 3) := by decide +kernel
theorem dX8_arrive_25 : decode cX8_arrive 25 = .ok (.athrow, 1) := by decide +kernel
theorem dX8_arrive_26 : decode cX8_arrive 26 = .ok (.aload_n 0, 1) := by decide +kernel
theorem dX8_arrive_27 : decode cX8_arrive 27 = .ok (.getfield 10, 3) := by decide +kernel
theorem dX8_arrive_30 : decode cX8_arrive 30 = .ok (.getfield 75, 3) := by decide +kernel
theorem dX8_arrive_33 : decode cX8_arrive 33 = .ok (.sipush 300, 3) := by decide +kernel
theorem dX8_arrive_36 : decode cX8_arrive 36 = .ok (.if_icmp .lt 11, 3) := by decide +kernel
theorem dX8_arrive_39 : decode cX8_arrive 39 = .ok (.new 78, 3) := by decide +kernel
theorem dX8_arrive_42 : decode cX8_arrive 42 = .ok (.dup, 1) := by decide +kernel
theorem dX8_arrive_43 : decode cX8_arrive 43 = .ok (.invokespecial 80, 3) := by decide +kernel
theorem dX8_arrive_46 : decode cX8_arrive 46 = .ok (.athrow, 1) := by decide +kernel
theorem dX8_arrive_47 : decode cX8_arrive 47 = .ok (.aload_n 0, 1) := by decide +kernel
theorem dX8_arrive_48 : decode cX8_arrive 48 = .ok (.getfield 10, 3) := by decide +kernel
theorem dX8_arrive_51 : decode cX8_arrive 51 = .ok (.iload_n 1, 1) := by decide +kernel
theorem dX8_arrive_52 : decode cX8_arrive 52 = .ok (.iload_n 2, 1) := by decide +kernel
theorem dX8_arrive_53 : decode cX8_arrive 53 = .ok (.invokevirtual 146, 3) := by decide +kernel
theorem dX8_arrive_56 : decode cX8_arrive 56 = .ok (.ireturn, 1) := by decide +kernel
theorem dX8_pass_0 : decode cX8_pass 0 = .ok (.iload_n 1, 1) := by decide +kernel
theorem dX8_pass_1 : decode cX8_pass 1 = .ok (.invokestatic 149, 3) := by decide +kernel
theorem dX8_pass_4 : decode cX8_pass 4 = .ok (.iconst 0, 1) := by decide +kernel
theorem dX8_pass_5 : decode cX8_pass 5 = .ok (.istore_n 2, 1) := by decide +kernel
theorem dX8_pass_6 : decode cX8_pass 6 = .ok (.iconst 0, 1) := by decide +kernel
theorem dX8_pass_7 : decode cX8_pass 7 = .ok (.istore_n 3, 1) := by decide +kernel
theorem dX8_pass_8 : decode cX8_pass 8 = .ok (.iload_n 3, 1) := by decide +kernel
theorem dX8_pass_9 : decode cX8_pass 9 = .ok (.iload_n 1, 1) := by decide +kernel
theorem dX8_pass_10 : decode cX8_pass 10 = .ok (.if_icmp .ge 16, 3) := by decide +kernel
theorem dX8_pass_13 : decode cX8_pass 13 = .ok (.iload_n 2, 1) := by decide +kernel
theorem dX8_pass_14 : decode cX8_pass 14 = .ok (.aload_n 0, 1) := by decide +kernel
theorem dX8_pass_15 : decode cX8_pass 15 = .ok (.invokevirtual 152, 3) := by decide +kernel
theorem dX8_pass_18 : decode cX8_pass 18 = .ok (.iadd, 1) := by decide +kernel
theorem dX8_pass_19 : decode cX8_pass 19 = .ok (.istore_n 2, 1) := by decide +kernel
theorem dX8_pass_20 : decode cX8_pass 20 = .ok (.iinc 3 1, 3) := by decide +kernel
theorem dX8_pass_23 : decode cX8_pass 23 = .ok (.goto (-15), 3) := by decide +kernel
theorem dX8_pass_26 : decode cX8_pass 26 = .ok (.iload_n 2, 1) := by decide +kernel
theorem dX8_pass_27 : decode cX8_pass 27 = .ok (.ireturn, 1) := by decide +kernel
theorem dX8_tick_0 : decode cX8_tick 0 = .ok (.aload_n 0, 1) := by decide +kernel
theorem dX8_tick_1 : decode cX8_tick 1 = .ok (.getfield 155, 3) := by decide +kernel
theorem dX8_tick_4 : decode cX8_tick 4 = .ok (.lreturn, 1) := by decide +kernel
theorem dX8_stateOf_0 : decode cX8_stateOf 0 = .ok (.aload_n 0, 1) := by decide +kernel
theorem dX8_stateOf_1 : decode cX8_stateOf 1 = .ok (.iload_n 1, 1) := by decide +kernel
theorem dX8_stateOf_2 : decode cX8_stateOf 2 = .ok (.invokevirtual 159, 3) := by decide +kernel
theorem dX8_stateOf_5 : decode cX8_stateOf 5 = .ok (.aload_n 0, 1) := by decide +kernel
theorem dX8_stateOf_6 : decode cX8_stateOf 6 = .ok (.getfield 10, 3) := by decide +kernel
theorem dX8_stateOf_9 : decode cX8_stateOf 9 = .ok (.iload_n 1, 1) := by decide +kernel
theorem dX8_stateOf_10 : decode cX8_stateOf 10 = .ok (.invokevirtual 162, 3) := by decide +kernel
theorem dX8_stateOf_13 : decode cX8_stateOf 13 = .ok (.ireturn, 1) := by decide +kernel
theorem dX8_positionOf_0 : decode cX8_positionOf 0 = .ok (.aload_n 0, 1) := by decide +kernel
theorem dX8_positionOf_1 : decode cX8_positionOf 1 = .ok (.iload_n 1, 1) := by decide +kernel
theorem dX8_positionOf_2 : decode cX8_positionOf 2 = .ok (.invokevirtual 159, 3) := by decide +kernel
theorem dX8_positionOf_5 : decode cX8_positionOf 5 = .ok (.aload_n 0, 1) := by decide +kernel
theorem dX8_positionOf_6 : decode cX8_positionOf 6 = .ok (.getfield 19, 3) := by decide +kernel
theorem dX8_positionOf_9 : decode cX8_positionOf 9 = .ok (.iload_n 1, 1) := by decide +kernel
theorem dX8_positionOf_10 : decode cX8_positionOf 10 = .ok (.invokevirtual 165, 3) := by decide +kernel
theorem dX8_positionOf_13 : decode cX8_positionOf 13 = .ok (.istore_n 2, 1) := by decide +kernel
theorem dX8_positionOf_14 : decode cX8_positionOf 14 = .ok (.iload_n 2, 1) := by decide +kernel
theorem dX8_positionOf_15 : decode cX8_positionOf 15 = .ok (.iconst (-1), 1) := by decide +kernel
theorem dX8_positionOf_16 : decode cX8_positionOf 16 = .ok (.if_icmp .ne 11, 3) := by decide +kernel
theorem dX8_positionOf_19 : decode cX8_positionOf 19 = .ok (.new 78, 3) := by decide +kernel
theorem dX8_positionOf_22 : decode cX8_positionOf 22 = .ok (.dup, 1) := by decide +kernel
theorem dX8_positionOf_23 : decode cX8_positionOf 23 = .ok (.invokespecial 80, 3) := by decide +kernel
theorem dX8_positionOf_26 : decode cX8_positionOf 26 = .ok (.athrow, 1) := by decide +kernel
theorem dX8_positionOf_27 : decode cX8_positionOf 27 = .ok (.iload_n 2, 1) := by decide +kernel
theorem dX8_positionOf_28 : decode cX8_positionOf 28 = .ok (.ireturn, 1) := by decide +kernel
theorem dX8_roundsOf_0 : decode cX8_roundsOf 0 = .ok (.aload_n 0, 1) := by decide +kernel
theorem dX8_roundsOf_1 : decode cX8_roundsOf 1 = .ok (.iload_n 1, 1) := by decide +kernel
theorem dX8_roundsOf_2 : decode cX8_roundsOf 2 = .ok (.invokevirtual 159, 3) := by decide +kernel
theorem dX8_roundsOf_5 : decode cX8_roundsOf 5 = .ok (.aload_n 0, 1) := by decide +kernel
theorem dX8_roundsOf_6 : decode cX8_roundsOf 6 = .ok (.getfield 10, 3) := by decide +kernel
theorem dX8_roundsOf_9 : decode cX8_roundsOf 9 = .ok (.iload_n 1, 1) := by decide +kernel
theorem dX8_roundsOf_10 : decode cX8_roundsOf 10 = .ok (.invokevirtual 162, 3) := by decide +kernel
theorem dX8_roundsOf_13 : decode cX8_roundsOf 13 = .ok (.istore_n 2, 1) := by decide +kernel
theorem dX8_roundsOf_14 : decode cX8_roundsOf 14 = .ok (.iload_n 2, 1) := by decide +kernel
theorem dX8_roundsOf_15 : decode cX8_roundsOf 15 = .ok (.bipush 119, 2) := by decide +kernel
theorem dX8_roundsOf_17 : decode cX8_roundsOf 17 = .ok (.if_icmp .ne 11, 3) := by decide +kernel
theorem dX8_roundsOf_20 : decode cX8_roundsOf 20 = .ok (.new 78, 3) := by decide +kernel
theorem dX8_roundsOf_23 : decode cX8_roundsOf 23 = .ok (.dup, 1) := by decide +kernel
theorem dX8_roundsOf_24 : decode cX8_roundsOf 24 = .ok (.invokespecial 80, 3) := by decide +kernel
theorem dX8_roundsOf_27 : decode cX8_roundsOf 27 = .ok (.athrow, 1) := by decide +kernel
theorem dX8_roundsOf_28 : decode cX8_roundsOf 28 = .ok (.iload_n 2, 1) := by decide +kernel
theorem dX8_roundsOf_29 : decode cX8_roundsOf 29 = .ok (.bipush 108, 2) := by decide +kernel
theorem dX8_roundsOf_31 : decode cX8_roundsOf 31 = .ok (.if_icmp .ne 19, 3) := by decide +kernel
theorem dX8_roundsOf_34 : decode cX8_roundsOf 34 = .ok (.aload_n 0, 1) := by decide +kernel
theorem dX8_roundsOf_35 : decode cX8_roundsOf 35 = .ok (.getfield 19, 3) := by decide +kernel
theorem dX8_roundsOf_38 : decode cX8_roundsOf 38 = .ok (.aload_n 0, 1) := by decide +kernel
theorem dX8_roundsOf_39 : decode cX8_roundsOf 39 = .ok (.getfield 19, 3) := by decide +kernel
theorem dX8_roundsOf_42 : decode cX8_roundsOf 42 = .ok (.iload_n 1, 1) := by decide +kernel
theorem dX8_roundsOf_43 : decode cX8_roundsOf 43 = .ok (.invokevirtual 165, 3) := by decide +kernel
theorem dX8_roundsOf_46 : decode cX8_roundsOf 46 = .ok (.invokevirtual 169, 3) := by decide +kernel
theorem dX8_roundsOf_49 : decode cX8_roundsOf 49 = .ok (.ireturn, 1) := by decide +kernel
theorem dX8_roundsOf_50 : decode cX8_roundsOf 50 = .ok (.aload_n 0, 1) := by decide +kernel
theorem dX8_roundsOf_51 : decode cX8_roundsOf 51 = .ok (.getfield 10, 3) := by decide +kernel
theorem dX8_roundsOf_54 : decode cX8_roundsOf 54 = .ok (.iload_n 1, 1) := by decide +kernel
theorem dX8_roundsOf_55 : decode cX8_roundsOf 55 = .ok (.invokevirtual 172, 3) := by decide +kernel
theorem dX8_roundsOf_58 : decode cX8_roundsOf 58 = .ok (.ireturn, 1) := by decide +kernel
theorem dX8_trayAt_0 : decode cX8_trayAt 0 = .ok (.aload_n 0, 1) := by decide +kernel
theorem dX8_trayAt_1 : decode cX8_trayAt 1 = .ok (.iload_n 1, 1) := by decide +kernel
theorem dX8_trayAt_2 : decode cX8_trayAt 2 = .ok (.invokevirtual 136, 3) := by decide +kernel
theorem dX8_trayAt_5 : decode cX8_trayAt 5 = .ok (.aload_n 0, 1) := by decide +kernel
theorem dX8_trayAt_6 : decode cX8_trayAt 6 = .ok (.getfield 19, 3) := by decide +kernel
theorem dX8_trayAt_9 : decode cX8_trayAt 9 = .ok (.iload_n 1, 1) := by decide +kernel
theorem dX8_trayAt_10 : decode cX8_trayAt 10 = .ok (.invokevirtual 175, 3) := by decide +kernel
theorem dX8_trayAt_13 : decode cX8_trayAt 13 = .ok (.istore_n 2, 1) := by decide +kernel
theorem dX8_trayAt_14 : decode cX8_trayAt 14 = .ok (.iload_n 2, 1) := by decide +kernel
theorem dX8_trayAt_15 : decode cX8_trayAt 15 = .ok (.iconst (-1), 1) := by decide +kernel
theorem dX8_trayAt_16 : decode cX8_trayAt 16 = .ok (.if_icmp .ne 11, 3) := by decide +kernel
theorem dX8_trayAt_19 : decode cX8_trayAt 19 = .ok (.new 178, 3) := by decide +kernel
theorem dX8_trayAt_22 : decode cX8_trayAt 22 = .ok (.dup, 1) := by decide +kernel
theorem dX8_trayAt_23 : decode cX8_trayAt 23 = .ok (.invokespecial 180, 3) := by decide +kernel
theorem dX8_trayAt_26 : decode cX8_trayAt 26 = .ok (.athrow, 1) := by decide +kernel
theorem dX8_trayAt_27 : decode cX8_trayAt 27 = .ok (.iload_n 2, 1) := by decide +kernel
theorem dX8_trayAt_28 : decode cX8_trayAt 28 = .ok (.ireturn, 1) := by decide +kernel
theorem dX8_waiting_0 : decode cX8_waiting 0 = .ok (.aload_n 0, 1) := by decide +kernel
theorem dX8_waiting_1 : decode cX8_waiting 1 = .ok (.getfield 10, 3) := by decide +kernel
theorem dX8_waiting_4 : decode cX8_waiting 4 = .ok (.getfield 75, 3) := by decide +kernel
theorem dX8_waiting_7 : decode cX8_waiting 7 = .ok (.aload_n 0, 1) := by decide +kernel
theorem dX8_waiting_8 : decode cX8_waiting 8 = .ok (.getfield 10, 3) := by decide +kernel
theorem dX8_waiting_11 : decode cX8_waiting 11 = .ok (.getfield 181, 3) := by decide +kernel
theorem dX8_waiting_14 : decode cX8_waiting 14 = .ok (.isub, 1) := by decide +kernel
theorem dX8_waiting_15 : decode cX8_waiting 15 = .ok (.ireturn, 1) := by decide +kernel
theorem dX8_onLoop_0 : decode cX8_onLoop 0 = .ok (.aload_n 0, 1) := by decide +kernel
theorem dX8_onLoop_1 : decode cX8_onLoop 1 = .ok (.getfield 10, 3) := by decide +kernel
theorem dX8_onLoop_4 : decode cX8_onLoop 4 = .ok (.getfield 181, 3) := by decide +kernel
theorem dX8_onLoop_7 : decode cX8_onLoop 7 = .ok (.aload_n 0, 1) := by decide +kernel
theorem dX8_onLoop_8 : decode cX8_onLoop 8 = .ok (.getfield 10, 3) := by decide +kernel
theorem dX8_onLoop_11 : decode cX8_onLoop 11 = .ok (.getfield 184, 3) := by decide +kernel
theorem dX8_onLoop_14 : decode cX8_onLoop 14 = .ok (.isub, 1) := by decide +kernel
theorem dX8_onLoop_15 : decode cX8_onLoop 15 = .ok (.ireturn, 1) := by decide +kernel
theorem dX8_overflowed_0 : decode cX8_overflowed 0 = .ok (.aload_n 0, 1) := by decide +kernel
theorem dX8_overflowed_1 : decode cX8_overflowed 1 = .ok (.getfield 53, 3) := by decide +kernel
theorem dX8_overflowed_4 : decode cX8_overflowed 4 = .ok (.getfield 113, 3) := by decide +kernel
theorem dX8_overflowed_7 : decode cX8_overflowed 7 = .ok (.ireturn, 1) := by decide +kernel
theorem dX8_leavingAhead_0 : decode cX8_leavingAhead 0 = .ok (.iload_n 1, 1) := by decide +kernel
theorem dX8_leavingAhead_1 : decode cX8_leavingAhead 1 = .ok (.invokestatic 149, 3) := by decide +kernel
theorem dX8_leavingAhead_4 : decode cX8_leavingAhead 4 = .ok (.aload_n 0, 1) := by decide +kernel
theorem dX8_leavingAhead_5 : decode cX8_leavingAhead 5 = .ok (.getfield 44, 3) := by decide +kernel
theorem dX8_leavingAhead_8 : decode cX8_leavingAhead 8 = .ok (.iload_n 1, 1) := by decide +kernel
theorem dX8_leavingAhead_9 : decode cX8_leavingAhead 9 = .ok (.invokevirtual 187, 3) := by decide +kernel
theorem dX8_leavingAhead_12 : decode cX8_leavingAhead 12 = .ok (.ireturn, 1) := by decide +kernel
theorem dX8_leavingByTrays_0 : decode cX8_leavingByTrays 0 = .ok (.iload_n 1, 1) := by decide +kernel
theorem dX8_leavingByTrays_1 : decode cX8_leavingByTrays 1 = .ok (.invokestatic 149, 3) := by decide +kernel
theorem dX8_leavingByTrays_4 : decode cX8_leavingByTrays 4 = .ok (.aload_n 0, 1) := by decide +kernel
theorem dX8_leavingByTrays_5 : decode cX8_leavingByTrays 5 = .ok (.getfield 44, 3) := by decide +kernel
theorem dX8_leavingByTrays_8 : decode cX8_leavingByTrays 8 = .ok (.iload_n 1, 1) := by decide +kernel
theorem dX8_leavingByTrays_9 : decode cX8_leavingByTrays 9 = .ok (.invokevirtual 190, 3) := by decide +kernel
theorem dX8_leavingByTrays_12 : decode cX8_leavingByTrays 12 = .ok (.ireturn, 1) := by decide +kernel
theorem dX8_startWave_0 : decode cX8_startWave 0 = .ok (.aload_n 0, 1) := by decide +kernel
theorem dX8_startWave_1 : decode cX8_startWave 1 = .ok (.getfield 26, 3) := by decide +kernel
theorem dX8_startWave_4 : decode cX8_startWave 4 = .ok (.invokevirtual 193, 3) := by decide +kernel
theorem dX8_startWave_7 : decode cX8_startWave 7 = .ok (.ifCond .ne 11, 3) := by decide +kernel
theorem dX8_startWave_10 : decode cX8_startWave 10 = .ok (.new 78, 3) := by decide +kernel
theorem dX8_startWave_13 : decode cX8_startWave 13 = .ok (.dup, 1) := by decide +kernel
theorem dX8_startWave_14 : decode cX8_startWave 14 = .ok (.invokespecial 80, 3) := by decide +kernel
theorem dX8_startWave_17 : decode cX8_startWave 17 = .ok (.athrow, 1) := by decide +kernel
theorem dX8_startWave_18 : decode cX8_startWave 18 = .ok (.aload_n 0, 1) := by decide +kernel
theorem dX8_startWave_19 : decode cX8_startWave 19 = .ok (.getfield 35, 3) := by decide +kernel
theorem dX8_startWave_22 : decode cX8_startWave 22 = .ok (.invokevirtual 197, 3) := by decide +kernel
theorem dX8_startWave_25 : decode cX8_startWave 25 = .ok (.ireturn, 1) := by decide +kernel
theorem dX8_assign_0 : decode cX8_assign 0 = .ok (.iload_n 1, 1) := by decide +kernel
theorem dX8_assign_1 : decode cX8_assign 1 = .ok (.invokestatic 200, 3) := by decide +kernel
theorem dX8_assign_4 : decode cX8_assign 4 = .ok (.aload_n 0, 1) := by decide +kernel
theorem dX8_assign_5 : decode cX8_assign 5 = .ok (.iload_n 2, 1) := by decide +kernel
theorem dX8_assign_6 : decode cX8_assign 6 = .ok (.invokevirtual 105, 3) := by decide +kernel
theorem dX8_assign_9 : decode cX8_assign 9 = .ok (.pop, 1) := by decide +kernel
theorem dX8_assign_10 : decode cX8_assign 10 = .ok (.aload_n 0, 1) := by decide +kernel
theorem dX8_assign_11 : decode cX8_assign 11 = .ok (.getfield 26, 3) := by decide +kernel
theorem dX8_assign_14 : decode cX8_assign 14 = .ok (.iload_n 1, 1) := by decide +kernel
theorem dX8_assign_15 : decode cX8_assign 15 = .ok (.invokevirtual 203, 3) := by decide +kernel
theorem dX8_assign_18 : decode cX8_assign 18 = .ok (.istore_n 3, 1) := by decide +kernel
theorem dX8_assign_19 : decode cX8_assign 19 = .ok (.aload_n 0, 1) := by decide +kernel
theorem dX8_assign_20 : decode cX8_assign 20 = .ok (.getfield 26, 3) := by decide +kernel
theorem dX8_assign_23 : decode cX8_assign 23 = .ok (.iload_n 1, 1) := by decide +kernel
theorem dX8_assign_24 : decode cX8_assign 24 = .ok (.iload_n 2, 1) := by decide +kernel
theorem dX8_assign_25 : decode cX8_assign 25 = .ok (.invokevirtual 206, 3) := by decide +kernel
theorem dX8_assign_28 : decode cX8_assign 28 = .ok (.iload_n 3, 1) := by decide +kernel
theorem dX8_assign_29 : decode cX8_assign 29 = .ok (.ireturn, 1) := by decide +kernel
theorem dX8_unassign_0 : decode cX8_unassign 0 = .ok (.iload_n 1, 1) := by decide +kernel
theorem dX8_unassign_1 : decode cX8_unassign 1 = .ok (.invokestatic 200, 3) := by decide +kernel
theorem dX8_unassign_4 : decode cX8_unassign 4 = .ok (.aload_n 0, 1) := by decide +kernel
theorem dX8_unassign_5 : decode cX8_unassign 5 = .ok (.getfield 26, 3) := by decide +kernel
theorem dX8_unassign_8 : decode cX8_unassign 8 = .ok (.iload_n 1, 1) := by decide +kernel
theorem dX8_unassign_9 : decode cX8_unassign 9 = .ok (.invokevirtual 203, 3) := by decide +kernel
theorem dX8_unassign_12 : decode cX8_unassign 12 = .ok (.istore_n 2, 1) := by decide +kernel
theorem dX8_unassign_13 : decode cX8_unassign 13 = .ok (.iload_n 2, 1) := by decide +kernel
theorem dX8_unassign_14 : decode cX8_unassign 14 = .ok (.iconst (-1), 1) := by decide +kernel
theorem dX8_unassign_15 : decode cX8_unassign 15 = .ok (.if_icmp .ne 11, 3) := by decide +kernel
theorem dX8_unassign_18 : decode cX8_unassign 18 = .ok (.new 78, 3) := by decide +kernel
theorem dX8_unassign_21 : decode cX8_unassign 21 = .ok (.dup, 1) := by decide +kernel
theorem dX8_unassign_22 : decode cX8_unassign 22 = .ok (.invokespecial 80, 3) := by decide +kernel
theorem dX8_unassign_25 : decode cX8_unassign 25 = .ok (.athrow, 1) := by decide +kernel
theorem dX8_unassign_26 : decode cX8_unassign 26 = .ok (.aload_n 0, 1) := by decide +kernel
theorem dX8_unassign_27 : decode cX8_unassign 27 = .ok (.getfield 26, 3) := by decide +kernel
theorem dX8_unassign_30 : decode cX8_unassign 30 = .ok (.iload_n 1, 1) := by decide +kernel
theorem dX8_unassign_31 : decode cX8_unassign 31 = .ok (.iconst (-1), 1) := by decide +kernel
theorem dX8_unassign_32 : decode cX8_unassign 32 = .ok (.invokevirtual 206, 3) := by decide +kernel
theorem dX8_unassign_35 : decode cX8_unassign 35 = .ok (.iload_n 2, 1) := by decide +kernel
theorem dX8_unassign_36 : decode cX8_unassign 36 = .ok (.ireturn, 1) := by decide +kernel
theorem dX8_chuteFor_0 : decode cX8_chuteFor 0 = .ok (.iload_n 1, 1) := by decide +kernel
theorem dX8_chuteFor_1 : decode cX8_chuteFor 1 = .ok (.invokestatic 200, 3) := by decide +kernel
theorem dX8_chuteFor_4 : decode cX8_chuteFor 4 = .ok (.aload_n 0, 1) := by decide +kernel
theorem dX8_chuteFor_5 : decode cX8_chuteFor 5 = .ok (.getfield 26, 3) := by decide +kernel
theorem dX8_chuteFor_8 : decode cX8_chuteFor 8 = .ok (.iload_n 1, 1) := by decide +kernel
theorem dX8_chuteFor_9 : decode cX8_chuteFor 9 = .ok (.invokevirtual 203, 3) := by decide +kernel
theorem dX8_chuteFor_12 : decode cX8_chuteFor 12 = .ok (.istore_n 2, 1) := by decide +kernel
theorem dX8_chuteFor_13 : decode cX8_chuteFor 13 = .ok (.iload_n 2, 1) := by decide +kernel
theorem dX8_chuteFor_14 : decode cX8_chuteFor 14 = .ok (.iconst (-1), 1) := by decide +kernel
theorem dX8_chuteFor_15 : decode cX8_chuteFor 15 = .ok (.if_icmp .ne 11, 3) := by decide +kernel
theorem dX8_chuteFor_18 : decode cX8_chuteFor 18 = .ok (.new 178, 3) := by decide +kernel
theorem dX8_chuteFor_21 : decode cX8_chuteFor 21 = .ok (.dup, 1) := by decide +kernel
theorem dX8_chuteFor_22 : decode cX8_chuteFor 22 = .ok (.invokespecial 180, 3) := by decide +kernel
theorem dX8_chuteFor_25 : decode cX8_chuteFor 25 = .ok (.athrow, 1) := by decide +kernel
theorem dX8_chuteFor_26 : decode cX8_chuteFor 26 = .ok (.iload_n 2, 1) := by decide +kernel
theorem dX8_chuteFor_27 : decode cX8_chuteFor 27 = .ok (.ireturn, 1) := by decide +kernel
theorem dX8_load_0 : decode cX8_load 0 = .ok (.iload_n 1, 1) := by decide +kernel
theorem dX8_load_1 : decode cX8_load 1 = .ok (.invokestatic 200, 3) := by decide +kernel
theorem dX8_load_4 : decode cX8_load 4 = .ok (.aload_n 0, 1) := by decide +kernel
theorem dX8_load_5 : decode cX8_load 5 = .ok (.getfield 10, 3) := by decide +kernel
theorem dX8_load_8 : decode cX8_load 8 = .ok (.iload_n 1, 1) := by decide +kernel
theorem dX8_load_9 : decode cX8_load 9 = .ok (.invokevirtual 210, 3) := by decide +kernel
theorem dX8_load_12 : decode cX8_load 12 = .ok (.ireturn, 1) := by decide +kernel
theorem dX8_inChute_0 : decode cX8_inChute 0 = .ok (.aload_n 0, 1) := by decide +kernel
theorem dX8_inChute_1 : decode cX8_inChute 1 = .ok (.iload_n 1, 1) := by decide +kernel
theorem dX8_inChute_2 : decode cX8_inChute 2 = .ok (.invokevirtual 105, 3) := by decide +kernel
theorem dX8_inChute_5 : decode cX8_inChute 5 = .ok (.getfield 108, 3) := by decide +kernel
theorem dX8_inChute_8 : decode cX8_inChute 8 = .ok (.getfield 113, 3) := by decide +kernel
theorem dX8_inChute_11 : decode cX8_inChute 11 = .ok (.ireturn, 1) := by decide +kernel
theorem dX8_seal_0 : decode cX8_seal 0 = .ok (.aload_n 0, 1) := by decide +kernel
theorem dX8_seal_1 : decode cX8_seal 1 = .ok (.iload_n 1, 1) := by decide +kernel
theorem dX8_seal_2 : decode cX8_seal 2 = .ok (.invokevirtual 105, 3) := by decide +kernel
theorem dX8_seal_5 : decode cX8_seal 5 = .ok (.invokevirtual 213, 3) := by decide +kernel
theorem dX8_seal_8 : decode cX8_seal 8 = .ok (.ireturn, 1) := by decide +kernel
theorem dX8_sealByParcels_0 : decode cX8_sealByParcels 0 = .ok (.aload_n 0, 1) := by decide +kernel
theorem dX8_sealByParcels_1 : decode cX8_sealByParcels 1 = .ok (.iload_n 1, 1) := by decide +kernel
theorem dX8_sealByParcels_2 : decode cX8_sealByParcels 2 = .ok (.invokevirtual 105, 3) := by decide +kernel
theorem dX8_sealByParcels_5 : decode cX8_sealByParcels 5 = .ok (.invokevirtual 216, 3) := by decide +kernel
theorem dX8_sealByParcels_8 : decode cX8_sealByParcels 8 = .ok (.ireturn, 1) := by decide +kernel
theorem dX8_dispatch_0 : decode cX8_dispatch 0 = .ok (.aload_n 0, 1) := by decide +kernel
theorem dX8_dispatch_1 : decode cX8_dispatch 1 = .ok (.iload_n 1, 1) := by decide +kernel
theorem dX8_dispatch_2 : decode cX8_dispatch 2 = .ok (.invokevirtual 105, 3) := by decide +kernel
theorem dX8_dispatch_5 : decode cX8_dispatch 5 = .ok (.astore_n 2, 1) := by decide +kernel
theorem dX8_dispatch_6 : decode cX8_dispatch 6 = .ok (.aload_n 2, 1) := by decide +kernel
theorem dX8_dispatch_7 : decode cX8_dispatch 7 = .ok (.getfield 108, 3) := by decide +kernel
theorem dX8_dispatch_10 : decode cX8_dispatch 10 = .ok (.getfield 113, 3) := by decide +kernel
theorem dX8_dispatch_13 : decode cX8_dispatch 13 = .ok (.ifCond .ne 11, 3) := by decide +kernel
theorem dX8_dispatch_16 : decode cX8_dispatch 16 = .ok (.new 78, 3) := by decide +kernel
theorem dX8_dispatch_19 : decode cX8_dispatch 19 = .ok (.dup, 1) := by decide +kernel
theorem dX8_dispatch_20 : decode cX8_dispatch 20 = .ok (.invokespecial 80, 3) := by decide +kernel
theorem dX8_dispatch_23 : decode cX8_dispatch 23 = .ok (.athrow, 1) := by decide +kernel
theorem dX8_dispatch_24 : decode cX8_dispatch 24 = .ok (.aload_n 2, 1) := by decide +kernel
theorem dX8_dispatch_25 : decode cX8_dispatch 25 = .ok (.invokevirtual 213, 3) := by decide +kernel
theorem dX8_dispatch_28 : decode cX8_dispatch 28 = .ok (.istore_n 3, 1) := by decide +kernel
theorem dX8_dispatch_29 : decode cX8_dispatch 29 = .ok (.aload_n 0, 1) := by decide +kernel
theorem dX8_dispatch_30 : decode cX8_dispatch 30 = .ok (.getfield 60, 3) := by decide +kernel
theorem dX8_dispatch_33 : decode cX8_dispatch 33 = .ok (.aload_n 2, 1) := by decide +kernel
theorem dX8_dispatch_34 : decode cX8_dispatch 34 = .ok (.getfield 108, 3) := by decide +kernel
theorem dX8_dispatch_37 : decode cX8_dispatch 37 = .ok (.invokevirtual 219, 3) := by decide +kernel
theorem dX8_dispatch_40 : decode cX8_dispatch 40 = .ok (.istore 4, 2) := by decide +kernel
theorem dX8_dispatch_42 : decode cX8_dispatch 42 = .ok (.iconst 0, 1) := by decide +kernel
theorem dX8_dispatch_43 : decode cX8_dispatch 43 = .ok (.istore 5, 2) := by decide +kernel
theorem dX8_dispatch_45 : decode cX8_dispatch 45 = .ok (.iload 5, 2) := by decide +kernel
theorem dX8_dispatch_47 : decode cX8_dispatch 47 = .ok (.aload_n 2, 1) := by decide +kernel
theorem dX8_dispatch_48 : decode cX8_dispatch 48 = .ok (.getfield 108, 3) := by decide +kernel
theorem dX8_dispatch_51 : decode cX8_dispatch 51 = .ok (.getfield 113, 3) := by decide +kernel
theorem dX8_dispatch_54 : decode cX8_dispatch 54 = .ok (.if_icmp .ge 27, 3) := by decide +kernel
theorem dX8_dispatch_57 : decode cX8_dispatch 57 = .ok (.aload_n 0, 1) := by decide +kernel
theorem dX8_dispatch_58 : decode cX8_dispatch 58 = .ok (.getfield 10, 3) := by decide +kernel
theorem dX8_dispatch_61 : decode cX8_dispatch 61 = .ok (.aload_n 2, 1) := by decide +kernel
theorem dX8_dispatch_62 : decode cX8_dispatch 62 = .ok (.getfield 108, 3) := by decide +kernel
theorem dX8_dispatch_65 : decode cX8_dispatch 65 = .ok (.iload 5, 2) := by decide +kernel
theorem dX8_dispatch_67 : decode cX8_dispatch 67 = .ok (.invokevirtual 223, 3) := by decide +kernel
theorem dX8_dispatch_70 : decode cX8_dispatch 70 = .ok (.iload 4, 2) := by decide +kernel
theorem dX8_dispatch_72 : decode cX8_dispatch 72 = .ok (.invokevirtual 226, 3) := by decide +kernel
theorem dX8_dispatch_75 : decode cX8_dispatch 75 = .ok (.iinc 5 1, 3) := by decide +kernel
theorem dX8_dispatch_78 : decode cX8_dispatch 78 = .ok (.goto (-33), 3) := by decide +kernel
theorem dX8_dispatch_81 : decode cX8_dispatch 81 = .ok (.aload_n 2, 1) := by decide +kernel
theorem dX8_dispatch_82 : decode cX8_dispatch 82 = .ok (.invokevirtual 229, 3) := by decide +kernel
theorem dX8_dispatch_85 : decode cX8_dispatch 85 = .ok (.iload_n 3, 1) := by decide +kernel
theorem dX8_dispatch_86 : decode cX8_dispatch 86 = .ok (.ireturn, 1) := by decide +kernel
theorem dX8_trucks_0 : decode cX8_trucks 0 = .ok (.aload_n 0, 1) := by decide +kernel
theorem dX8_trucks_1 : decode cX8_trucks 1 = .ok (.getfield 60, 3) := by decide +kernel
theorem dX8_trucks_4 : decode cX8_trucks 4 = .ok (.getfield 232, 3) := by decide +kernel
theorem dX8_trucks_7 : decode cX8_trucks 7 = .ok (.ireturn, 1) := by decide +kernel
theorem dX8_sealOfTruck_0 : decode cX8_sealOfTruck 0 = .ok (.aload_n 0, 1) := by decide +kernel
theorem dX8_sealOfTruck_1 : decode cX8_sealOfTruck 1 = .ok (.iload_n 1, 1) := by decide +kernel
theorem dX8_sealOfTruck_2 : decode cX8_sealOfTruck 2 = .ok (.invokevirtual 233, 3) := by decide +kernel
theorem dX8_sealOfTruck_5 : decode cX8_sealOfTruck 5 = .ok (.aload_n 0, 1) := by decide +kernel
theorem dX8_sealOfTruck_6 : decode cX8_sealOfTruck 6 = .ok (.getfield 60, 3) := by decide +kernel
theorem dX8_sealOfTruck_9 : decode cX8_sealOfTruck 9 = .ok (.iload_n 1, 1) := by decide +kernel
theorem dX8_sealOfTruck_10 : decode cX8_sealOfTruck 10 = .ok (.invokevirtual 236, 3) := by decide +kernel
theorem dX8_sealOfTruck_13 : decode cX8_sealOfTruck 13 = .ok (.ireturn, 1) := by decide +kernel
theorem dX8_parcelIn_0 : decode cX8_parcelIn 0 = .ok (.aload_n 0, 1) := by decide +kernel
theorem dX8_parcelIn_1 : decode cX8_parcelIn 1 = .ok (.iload_n 1, 1) := by decide +kernel
theorem dX8_parcelIn_2 : decode cX8_parcelIn 2 = .ok (.invokevirtual 233, 3) := by decide +kernel
theorem dX8_parcelIn_5 : decode cX8_parcelIn 5 = .ok (.iload_n 2, 1) := by decide +kernel
theorem dX8_parcelIn_6 : decode cX8_parcelIn 6 = .ok (.ifCond .lt 15, 3) := by decide +kernel
theorem dX8_parcelIn_9 : decode cX8_parcelIn 9 = .ok (.iload_n 2, 1) := by decide +kernel
theorem dX8_parcelIn_10 : decode cX8_parcelIn 10 = .ok (.aload_n 0, 1) := by decide +kernel
theorem dX8_parcelIn_11 : decode cX8_parcelIn 11 = .ok (.getfield 60, 3) := by decide +kernel
theorem dX8_parcelIn_14 : decode cX8_parcelIn 14 = .ok (.iload_n 1, 1) := by decide +kernel
theorem dX8_parcelIn_15 : decode cX8_parcelIn 15 = .ok (.invokevirtual 239, 3) := by decide +kernel
theorem dX8_parcelIn_18 : decode cX8_parcelIn 18 = .ok (.if_icmp .lt 11, 3) := by decide +kernel
theorem dX8_parcelIn_21 : decode cX8_parcelIn 21 = .ok (.new 178, 3) := by decide +kernel
theorem dX8_parcelIn_24 : decode cX8_parcelIn 24 = .ok (.dup, 1) := by decide +kernel
theorem dX8_parcelIn_25 : decode cX8_parcelIn 25 = .ok (.invokespecial 180, 3) := by decide +kernel
theorem dX8_parcelIn_28 : decode cX8_parcelIn 28 = .ok (.athrow, 1) := by decide +kernel
theorem dX8_parcelIn_29 : decode cX8_parcelIn 29 = .ok (.aload_n 0, 1) := by decide +kernel
theorem dX8_parcelIn_30 : decode cX8_parcelIn 30 = .ok (.getfield 60, 3) := by decide +kernel
theorem dX8_parcelIn_33 : decode cX8_parcelIn 33 = .ok (.iload_n 1, 1) := by decide +kernel
theorem dX8_parcelIn_34 : decode cX8_parcelIn 34 = .ok (.iload_n 2, 1) := by decide +kernel
theorem dX8_parcelIn_35 : decode cX8_parcelIn 35 = .ok (.invokevirtual 242, 3) := by decide +kernel
theorem dX8_parcelIn_38 : decode cX8_parcelIn 38 = .ok (.ireturn, 1) := by decide +kernel
theorem dX8_truckOf_0 : decode cX8_truckOf 0 = .ok (.aload_n 0, 1) := by decide +kernel
theorem dX8_truckOf_1 : decode cX8_truckOf 1 = .ok (.iload_n 1, 1) := by decide +kernel
theorem dX8_truckOf_2 : decode cX8_truckOf 2 = .ok (.invokevirtual 159, 3) := by decide +kernel
theorem dX8_truckOf_5 : decode cX8_truckOf 5 = .ok (.aload_n 0, 1) := by decide +kernel
theorem dX8_truckOf_6 : decode cX8_truckOf 6 = .ok (.getfield 10, 3) := by decide +kernel
theorem dX8_truckOf_9 : decode cX8_truckOf 9 = .ok (.iload_n 1, 1) := by decide +kernel
theorem dX8_truckOf_10 : decode cX8_truckOf 10 = .ok (.invokevirtual 162, 3) := by decide +kernel
theorem dX8_truckOf_13 : decode cX8_truckOf 13 = .ok (.bipush 116, 2) := by decide +kernel
theorem dX8_truckOf_15 : decode cX8_truckOf 15 = .ok (.if_icmp .eq 11, 3) := by decide +kernel
theorem dX8_truckOf_18 : decode cX8_truckOf 18 = .ok (.new 78, 3) := by decide +kernel
theorem dX8_truckOf_21 : decode cX8_truckOf 21 = .ok (.dup, 1) := by decide +kernel
theorem dX8_truckOf_22 : decode cX8_truckOf 22 = .ok (.invokespecial 80, 3) := by decide +kernel
theorem dX8_truckOf_25 : decode cX8_truckOf 25 = .ok (.athrow, 1) := by decide +kernel
theorem dX8_truckOf_26 : decode cX8_truckOf 26 = .ok (.aload_n 0, 1) := by decide +kernel
theorem dX8_truckOf_27 : decode cX8_truckOf 27 = .ok (.getfield 10, 3) := by decide +kernel
theorem dX8_truckOf_30 : decode cX8_truckOf 30 = .ok (.iload_n 1, 1) := by decide +kernel
theorem dX8_truckOf_31 : decode cX8_truckOf 31 = .ok (.invokevirtual 244, 3) := by decide +kernel
theorem dX8_truckOf_34 : decode cX8_truckOf 34 = .ok (.ireturn, 1) := by decide +kernel
theorem dX8_shipped_0 : decode cX8_shipped 0 = .ok (.aload_n 0, 1) := by decide +kernel
theorem dX8_shipped_1 : decode cX8_shipped 1 = .ok (.getfield 10, 3) := by decide +kernel
theorem dX8_shipped_4 : decode cX8_shipped 4 = .ok (.getfield 247, 3) := by decide +kernel
theorem dX8_shipped_7 : decode cX8_shipped 7 = .ok (.lreturn, 1) := by decide +kernel
theorem dX8_meanRounds_0 : decode cX8_meanRounds 0 = .ok (.aload_n 0, 1) := by decide +kernel
theorem dX8_meanRounds_1 : decode cX8_meanRounds 1 = .ok (.invokevirtual 250, 3) := by decide +kernel
theorem dX8_meanRounds_4 : decode cX8_meanRounds 4 = .ok (.aload_n 0, 1) := by decide +kernel
theorem dX8_meanRounds_5 : decode cX8_meanRounds 5 = .ok (.getfield 10, 3) := by decide +kernel
theorem dX8_meanRounds_8 : decode cX8_meanRounds 8 = .ok (.getfield 253, 3) := by decide +kernel
theorem dX8_meanRounds_11 : decode cX8_meanRounds 11 = .ok (.l2d, 1) := by decide +kernel
theorem dX8_meanRounds_12 : decode cX8_meanRounds 12 = .ok (.aload_n 0, 1) := by decide +kernel
theorem dX8_meanRounds_13 : decode cX8_meanRounds 13 = .ok (.getfield 10, 3) := by decide +kernel
theorem dX8_meanRounds_16 : decode cX8_meanRounds 16 = .ok (.getfield 184, 3) := by decide +kernel
theorem dX8_meanRounds_19 : decode cX8_meanRounds 19 = .ok (.i2d, 1) := by decide +kernel
theorem dX8_meanRounds_20 : decode cX8_meanRounds 20 = .ok (.ddiv, 1) := by decide +kernel
theorem dX8_meanRounds_21 : decode cX8_meanRounds 21 = .ok (.dreturn, 1) := by decide +kernel
theorem dX8_overflowShare_0 : decode cX8_overflowShare 0 = .ok (.aload_n 0, 1) := by decide +kernel
theorem dX8_overflowShare_1 : decode cX8_overflowShare 1 = .ok (.invokevirtual 250, 3) := by decide +kernel
theorem dX8_overflowShare_4 : decode cX8_overflowShare 4 = .ok (.aload_n 0, 1) := by decide +kernel
theorem dX8_overflowShare_5 : decode cX8_overflowShare 5 = .ok (.getfield 53, 3) := by decide +kernel
theorem dX8_overflowShare_8 : decode cX8_overflowShare 8 = .ok (.getfield 113, 3) := by decide +kernel
theorem dX8_overflowShare_11 : decode cX8_overflowShare 11 = .ok (.i2f, 1) := by decide +kernel
theorem dX8_overflowShare_12 : decode cX8_overflowShare 12 = .ok (.aload_n 0, 1) := by decide +kernel
theorem dX8_overflowShare_13 : decode cX8_overflowShare 13 = .ok (.getfield 10, 3) := by decide +kernel
theorem dX8_overflowShare_16 : decode cX8_overflowShare 16 = .ok (.getfield 184, 3) := by decide +kernel
theorem dX8_overflowShare_19 : decode cX8_overflowShare 19 = .ok (.i2f, 1) := by decide +kernel
theorem dX8_overflowShare_20 : decode cX8_overflowShare 20 = .ok (.fdiv, 1) := by decide +kernel
theorem dX8_overflowShare_21 : decode cX8_overflowShare 21 = .ok (.freturn, 1) := by decide +kernel
theorem dX8_isOnce_0 : decode cX8_isOnce 0 = .ok (.aload_n 0, 1) := by decide +kernel
theorem dX8_isOnce_1 : decode cX8_isOnce 1 = .ok (.invokevirtual 256, 3) := by decide +kernel
theorem dX8_isOnce_4 : decode cX8_isOnce 4 = .ok (.ifCond .eq 38, 3) := by decide +kernel
theorem dX8_isOnce_7 : decode cX8_isOnce 7 = .ok (.aload_n 0, 1) := by decide +kernel
theorem dX8_isOnce_8 : decode cX8_isOnce 8 = .ok (.getfield 26, 3) := by decide +kernel
theorem dX8_isOnce_11 : decode cX8_isOnce 11 = .ok (.invokevirtual 259, 3) := by decide +kernel
theorem dX8_isOnce_14 : decode cX8_isOnce 14 = .ok (.ifCond .eq 28, 3) := by decide +kernel
theorem dX8_isOnce_17 : decode cX8_isOnce 17 = .ok (.aload_n 0, 1) := by decide +kernel
theorem dX8_isOnce_18 : decode cX8_isOnce 18 = .ok (.getfield 44, 3) := by decide +kernel
theorem dX8_isOnce_21 : decode cX8_isOnce 21 = .ok (.bipush 60, 2) := by decide +kernel
theorem dX8_isOnce_23 : decode cX8_isOnce 23 = .ok (.invokevirtual 187, 3) := by decide +kernel
theorem dX8_isOnce_26 : decode cX8_isOnce 26 = .ok (.aload_n 0, 1) := by decide +kernel
theorem dX8_isOnce_27 : decode cX8_isOnce 27 = .ok (.getfield 44, 3) := by decide +kernel
theorem dX8_isOnce_30 : decode cX8_isOnce 30 = .ok (.bipush 60, 2) := by decide +kernel
theorem dX8_isOnce_32 : decode cX8_isOnce 32 = .ok (.invokevirtual 190, 3) := by decide +kernel
theorem dX8_isOnce_35 : decode cX8_isOnce 35 = .ok (.if_icmp .ne 7, 3) := by decide +kernel
theorem dX8_isOnce_38 : decode cX8_isOnce 38 = .ok (.iconst 1, 1) := by decide +kernel
theorem dX8_isOnce_39 : decode cX8_isOnce 39 = .ok (.goto 4, 3) := by decide +kernel
theorem dX8_isOnce_42 : decode cX8_isOnce 42 = .ok (.iconst 0, 1) := by decide +kernel
theorem dX8_isOnce_43 : decode cX8_isOnce 43 = .ok (.ireturn, 1) := by decide +kernel
theorem dX8_isCapacity_0 : decode cX8_isCapacity 0 = .ok (.iload_n 0, 1) := by decide +kernel
theorem dX8_isCapacity_1 : decode cX8_isCapacity 1 = .ok (.iconst 1, 1) := by decide +kernel
theorem dX8_isCapacity_2 : decode cX8_isCapacity 2 = .ok (.if_icmp .lt 13, 3) := by decide +kernel
theorem dX8_isCapacity_5 : decode cX8_isCapacity 5 = .ok (.iload_n 0, 1) := by decide +kernel
theorem dX8_isCapacity_6 : decode cX8_isCapacity 6 = .ok (.bipush 30, 2) := by decide +kernel
theorem dX8_isCapacity_8 : decode cX8_isCapacity 8 = .ok (.if_icmp .gt 7, 3) := by decide +kernel
theorem dX8_isCapacity_11 : decode cX8_isCapacity 11 = .ok (.iconst 1, 1) := by decide +kernel
theorem dX8_isCapacity_12 : decode cX8_isCapacity 12 = .ok (.goto 4, 3) := by decide +kernel
theorem dX8_isCapacity_15 : decode cX8_isCapacity 15 = .ok (.iconst 0, 1) := by decide +kernel
theorem dX8_isCapacity_16 : decode cX8_isCapacity 16 = .ok (.ireturn, 1) := by decide +kernel
theorem dX8_isRoute_0 : decode cX8_isRoute 0 = .ok (.iload_n 0, 1) := by decide +kernel
theorem dX8_isRoute_1 : decode cX8_isRoute 1 = .ok (.ifCond .lt 13, 3) := by decide +kernel
theorem dX8_isRoute_4 : decode cX8_isRoute 4 = .ok (.iload_n 0, 1) := by decide +kernel
theorem dX8_isRoute_5 : decode cX8_isRoute 5 = .ok (.bipush 8, 2) := by decide +kernel
theorem dX8_isRoute_7 : decode cX8_isRoute 7 = .ok (.if_icmp .ge 7, 3) := by decide +kernel
theorem dX8_isRoute_10 : decode cX8_isRoute 10 = .ok (.iconst 1, 1) := by decide +kernel
theorem dX8_isRoute_11 : decode cX8_isRoute 11 = .ok (.goto 4, 3) := by decide +kernel
theorem dX8_isRoute_14 : decode cX8_isRoute 14 = .ok (.iconst 0, 1) := by decide +kernel
theorem dX8_isRoute_15 : decode cX8_isRoute 15 = .ok (.ireturn, 1) := by decide +kernel
theorem dX8_requireRoute_0 : decode cX8_requireRoute 0 = .ok (.iload_n 0, 1) := by decide +kernel
theorem dX8_requireRoute_1 : decode cX8_requireRoute 1 = .ok (.invokestatic 143, 3) := by decide +kernel
theorem dX8_requireRoute_4 : decode cX8_requireRoute 4 = .ok (.ifCond .ne 11, 3) := by decide +kernel
theorem dX8_requireRoute_7 : decode cX8_requireRoute 7 = .ok (.new 68, 3) := by decide +kernel
theorem dX8_requireRoute_10 : decode cX8_requireRoute 10 = .ok (.dup, 1) := by decide +kernel
theorem dX8_requireRoute_11 : decode cX8_requireRoute 11 = .ok (.invokespecial 70, 3) := by decide +kernel
theorem dX8_requireRoute_14 : decode cX8_requireRoute 14 = .ok (.athrow, 1) := by decide +kernel
theorem dX8_requireRoute_15 : decode cX8_requireRoute 15 = .ok (.return_, 1) := by decide +kernel
theorem dX8_requireTicks_0 : decode cX8_requireTicks 0 = .ok (.iload_n 0, 1) := by decide +kernel
theorem dX8_requireTicks_1 : decode cX8_requireTicks 1 = .ok (.iconst 1, 1) := by decide +kernel
theorem dX8_requireTicks_2 : decode cX8_requireTicks 2 = .ok (.if_icmp .lt 10, 3) := by decide +kernel
theorem dX8_requireTicks_5 : decode cX8_requireTicks 5 = .ok (.iload_n 0, 1) := by decide +kernel
theorem dX8_requireTicks_6 : decode cX8_requireTicks 6 = .ok (.sipush 200, 3) := by decide +kernel
theorem dX8_requireTicks_9 : decode cX8_requireTicks 9 = .ok (.if_icmp .le 11, 3) := by decide +kernel
theorem dX8_requireTicks_12 : decode cX8_requireTicks 12 = .ok (.new 68, 3) := by decide +kernel
theorem dX8_requireTicks_15 : decode cX8_requireTicks 15 = .ok (.dup, 1) := by decide +kernel
theorem dX8_requireTicks_16 : decode cX8_requireTicks 16 = .ok (.invokespecial 70, 3) := by decide +kernel
theorem dX8_requireTicks_19 : decode cX8_requireTicks 19 = .ok (.athrow, 1) := by decide +kernel
theorem dX8_requireTicks_20 : decode cX8_requireTicks 20 = .ok (.return_, 1) := by decide +kernel
theorem dX8_requirePosition_0 : decode cX8_requirePosition 0 = .ok (.aload_n 0, 1) := by decide +kernel
theorem dX8_requirePosition_1 : decode cX8_requirePosition 1 = .ok (.getfield 19, 3) := by decide +kernel
theorem dX8_requirePosition_4 : decode cX8_requirePosition 4 = .ok (.iload_n 1, 1) := by decide +kernel
theorem dX8_requirePosition_5 : decode cX8_requirePosition 5 = .ok (.invokevirtual 262, 3) := by decide +kernel
theorem dX8_requirePosition_8 : decode cX8_requirePosition 8 = .ok (.ifCond .ne 11, 3) := by decide +kernel
theorem dX8_requirePosition_11 : decode cX8_requirePosition 11 = .ok (.new 68, 3) := by decide +kernel
theorem dX8_requirePosition_14 : decode cX8_requirePosition 14 = .ok (.dup, 1) := by decide +kernel
theorem dX8_requirePosition_15 : decode cX8_requirePosition 15 = .ok (.invokespecial 70, 3) := by decide +kernel
theorem dX8_requirePosition_18 : decode cX8_requirePosition 18 = .ok (.athrow, 1) := by decide +kernel
theorem dX8_requirePosition_19 : decode cX8_requirePosition 19 = .ok (.return_, 1) := by decide +kernel
theorem dX8_requireStation_0 : decode cX8_requireStation 0 = .ok (.aload_n 0, 1) := by decide +kernel
theorem dX8_requireStation_1 : decode cX8_requireStation 1 = .ok (.getfield 26, 3) := by decide +kernel
theorem dX8_requireStation_4 : decode cX8_requireStation 4 = .ok (.iload_n 1, 1) := by decide +kernel
theorem dX8_requireStation_5 : decode cX8_requireStation 5 = .ok (.invokevirtual 139, 3) := by decide +kernel
theorem dX8_requireStation_8 : decode cX8_requireStation 8 = .ok (.bipush 45, 2) := by decide +kernel
theorem dX8_requireStation_10 : decode cX8_requireStation 10 = .ok (.if_icmp .ne 11, 3) := by decide +kernel
theorem dX8_requireStation_13 : decode cX8_requireStation 13 = .ok (.new 178, 3) := by decide +kernel
theorem dX8_requireStation_16 : decode cX8_requireStation 16 = .ok (.dup, 1) := by decide +kernel
theorem dX8_requireStation_17 : decode cX8_requireStation 17 = .ok (.invokespecial 180, 3) := by decide +kernel
theorem dX8_requireStation_20 : decode cX8_requireStation 20 = .ok (.athrow, 1) := by decide +kernel
theorem dX8_requireStation_21 : decode cX8_requireStation 21 = .ok (.return_, 1) := by decide +kernel
theorem dX8_requireParcel_0 : decode cX8_requireParcel 0 = .ok (.aload_n 0, 1) := by decide +kernel
theorem dX8_requireParcel_1 : decode cX8_requireParcel 1 = .ok (.getfield 10, 3) := by decide +kernel
theorem dX8_requireParcel_4 : decode cX8_requireParcel 4 = .ok (.iload_n 1, 1) := by decide +kernel
theorem dX8_requireParcel_5 : decode cX8_requireParcel 5 = .ok (.invokevirtual 265, 3) := by decide +kernel
theorem dX8_requireParcel_8 : decode cX8_requireParcel 8 = .ok (.ifCond .ne 11, 3) := by decide +kernel
theorem dX8_requireParcel_11 : decode cX8_requireParcel 11 = .ok (.new 178, 3) := by decide +kernel
theorem dX8_requireParcel_14 : decode cX8_requireParcel 14 = .ok (.dup, 1) := by decide +kernel
theorem dX8_requireParcel_15 : decode cX8_requireParcel 15 = .ok (.invokespecial 180, 3) := by decide +kernel
theorem dX8_requireParcel_18 : decode cX8_requireParcel 18 = .ok (.athrow, 1) := by decide +kernel
theorem dX8_requireParcel_19 : decode cX8_requireParcel 19 = .ok (.return_, 1) := by decide +kernel
theorem dX8_requireChute_0 : decode cX8_requireChute 0 = .ok (.aload_n 0, 1) := by decide +kernel
theorem dX8_requireChute_1 : decode cX8_requireChute 1 = .ok (.getfield 26, 3) := by decide +kernel
theorem dX8_requireChute_4 : decode cX8_requireChute 4 = .ok (.iload_n 1, 1) := by decide +kernel
theorem dX8_requireChute_5 : decode cX8_requireChute 5 = .ok (.invokevirtual 266, 3) := by decide +kernel
theorem dX8_requireChute_8 : decode cX8_requireChute 8 = .ok (.astore_n 2, 1) := by decide +kernel
theorem dX8_requireChute_9 : decode cX8_requireChute 9 = .ok (.aload_n 2, 1) := by decide +kernel
theorem dX8_requireChute_10 : decode cX8_requireChute 10 = .ok (.ifnonnull 11, 3) := by decide +kernel
theorem dX8_requireChute_13 : decode cX8_requireChute 13 = .ok (.new 269, 3) := by decide +kernel
theorem dX8_requireChute_16 : decode cX8_requireChute 16 = .ok (.dup, 1) := by decide +kernel
theorem dX8_requireChute_17 : decode cX8_requireChute 17 = .ok (.invokespecial 271, 3) := by decide +kernel
theorem dX8_requireChute_20 : decode cX8_requireChute 20 = .ok (.athrow, 1) := by decide +kernel
theorem dX8_requireChute_21 : decode cX8_requireChute 21 = .ok (.aload_n 2, 1) := by decide +kernel
theorem dX8_requireChute_22 : decode cX8_requireChute 22 = .ok (.areturn, 1) := by decide +kernel
theorem dX8_requireTruck_0 : decode cX8_requireTruck 0 = .ok (.aload_n 0, 1) := by decide +kernel
theorem dX8_requireTruck_1 : decode cX8_requireTruck 1 = .ok (.getfield 60, 3) := by decide +kernel
theorem dX8_requireTruck_4 : decode cX8_requireTruck 4 = .ok (.iload_n 1, 1) := by decide +kernel
theorem dX8_requireTruck_5 : decode cX8_requireTruck 5 = .ok (.invokevirtual 272, 3) := by decide +kernel
theorem dX8_requireTruck_8 : decode cX8_requireTruck 8 = .ok (.ifCond .ne 11, 3) := by decide +kernel
theorem dX8_requireTruck_11 : decode cX8_requireTruck 11 = .ok (.new 269, 3) := by decide +kernel
theorem dX8_requireTruck_14 : decode cX8_requireTruck 14 = .ok (.dup, 1) := by decide +kernel
theorem dX8_requireTruck_15 : decode cX8_requireTruck 15 = .ok (.invokespecial 271, 3) := by decide +kernel
theorem dX8_requireTruck_18 : decode cX8_requireTruck 18 = .ok (.athrow, 1) := by decide +kernel
theorem dX8_requireTruck_19 : decode cX8_requireTruck 19 = .ok (.return_, 1) := by decide +kernel
theorem dX8_requireSomeLeft_0 : decode cX8_requireSomeLeft 0 = .ok (.aload_n 0, 1) := by decide +kernel
theorem dX8_requireSomeLeft_1 : decode cX8_requireSomeLeft 1 = .ok (.getfield 10, 3) := by decide +kernel
theorem dX8_requireSomeLeft_4 : decode cX8_requireSomeLeft 4 = .ok (.getfield 184, 3) := by decide +kernel
theorem dX8_requireSomeLeft_7 : decode cX8_requireSomeLeft 7 = .ok (.ifCond .gt 11, 3) := by decide +kernel
theorem dX8_requireSomeLeft_10 : decode cX8_requireSomeLeft 10 = .ok (.new 273, 3) := by decide +kernel
theorem dX8_requireSomeLeft_13 : decode cX8_requireSomeLeft 13 = .ok (.dup, 1) := by decide +kernel
theorem dX8_requireSomeLeft_14 : decode cX8_requireSomeLeft 14 = .ok (.invokespecial 275, 3) := by decide +kernel
theorem dX8_requireSomeLeft_17 : decode cX8_requireSomeLeft 17 = .ok (.athrow, 1) := by decide +kernel
theorem dX8_requireSomeLeft_18 : decode cX8_requireSomeLeft 18 = .ok (.return_, 1) := by decide +kernel
theorem dX8_passOneTick_0 : decode cX8_passOneTick 0 = .ok (.aload_n 0, 1) := by decide +kernel
theorem dX8_passOneTick_1 : decode cX8_passOneTick 1 = .ok (.dup, 1) := by decide +kernel
theorem dX8_passOneTick_2 : decode cX8_passOneTick 2 = .ok (.getfield 155, 3) := by decide +kernel
theorem dX8_passOneTick_5 : decode cX8_passOneTick 5 = .ok (.lconst 1, 1) := by decide +kernel
theorem dX8_passOneTick_6 : decode cX8_passOneTick 6 = .ok (.ladd, 1) := by decide +kernel
theorem dX8_passOneTick_7 : decode cX8_passOneTick 7 = .ok (.putfield 155, 3) := by decide +kernel
theorem dX8_passOneTick_10 : decode cX8_passOneTick 10 = .ok (.aload_n 0, 1) := by decide +kernel
theorem dX8_passOneTick_11 : decode cX8_passOneTick 11 = .ok (.getfield 19, 3) := by decide +kernel
theorem dX8_passOneTick_14 : decode cX8_passOneTick 14 = .ok (.invokevirtual 276, 3) := by decide +kernel
theorem dX8_passOneTick_17 : decode cX8_passOneTick 17 = .ok (.aload_n 0, 1) := by decide +kernel
theorem dX8_passOneTick_18 : decode cX8_passOneTick 18 = .ok (.getfield 26, 3) := by decide +kernel
theorem dX8_passOneTick_21 : decode cX8_passOneTick 21 = .ok (.aload_n 0, 1) := by decide +kernel
theorem dX8_passOneTick_22 : decode cX8_passOneTick 22 = .ok (.getfield 19, 3) := by decide +kernel
theorem dX8_passOneTick_25 : decode cX8_passOneTick 25 = .ok (.iconst 0, 1) := by decide +kernel
theorem dX8_passOneTick_26 : decode cX8_passOneTick 26 = .ok (.invokevirtual 175, 3) := by decide +kernel
theorem dX8_passOneTick_29 : decode cX8_passOneTick 29 = .ok (.aload_n 0, 1) := by decide +kernel
theorem dX8_passOneTick_30 : decode cX8_passOneTick 30 = .ok (.getfield 10, 3) := by decide +kernel
theorem dX8_passOneTick_33 : decode cX8_passOneTick 33 = .ok (.getfield 181, 3) := by decide +kernel
theorem dX8_passOneTick_36 : decode cX8_passOneTick 36 = .ok (.aload_n 0, 1) := by decide +kernel
theorem dX8_passOneTick_37 : decode cX8_passOneTick 37 = .ok (.getfield 10, 3) := by decide +kernel
theorem dX8_passOneTick_40 : decode cX8_passOneTick 40 = .ok (.getfield 75, 3) := by decide +kernel
theorem dX8_passOneTick_43 : decode cX8_passOneTick 43 = .ok (.invokevirtual 279, 3) := by decide +kernel
theorem dX8_passOneTick_46 : decode cX8_passOneTick 46 = .ok (.ifCond .eq 18, 3) := by decide +kernel
theorem dX8_passOneTick_49 : decode cX8_passOneTick 49 = .ok (.aload_n 0, 1) := by decide +kernel
theorem dX8_passOneTick_50 : decode cX8_passOneTick 50 = .ok (.getfield 19, 3) := by decide +kernel
theorem dX8_passOneTick_53 : decode cX8_passOneTick 53 = .ok (.iconst 0, 1) := by decide +kernel
theorem dX8_passOneTick_54 : decode cX8_passOneTick 54 = .ok (.aload_n 0, 1) := by decide +kernel
theorem dX8_passOneTick_55 : decode cX8_passOneTick 55 = .ok (.getfield 10, 3) := by decide +kernel
theorem dX8_passOneTick_58 : decode cX8_passOneTick 58 = .ok (.invokevirtual 283, 3) := by decide +kernel
theorem dX8_passOneTick_61 : decode cX8_passOneTick 61 = .ok (.invokevirtual 286, 3) := by decide +kernel
theorem dX8_passOneTick_64 : decode cX8_passOneTick 64 = .ok (.iconst 0, 1) := by decide +kernel
theorem dX8_passOneTick_65 : decode cX8_passOneTick 65 = .ok (.istore_n 1, 1) := by decide +kernel
theorem dX8_passOneTick_66 : decode cX8_passOneTick 66 = .ok (.iconst 0, 1) := by decide +kernel
theorem dX8_passOneTick_67 : decode cX8_passOneTick 67 = .ok (.istore_n 2, 1) := by decide +kernel
theorem dX8_passOneTick_68 : decode cX8_passOneTick 68 = .ok (.iload_n 2, 1) := by decide +kernel
theorem dX8_passOneTick_69 : decode cX8_passOneTick 69 = .ok (.aload_n 0, 1) := by decide +kernel
theorem dX8_passOneTick_70 : decode cX8_passOneTick 70 = .ok (.getfield 26, 3) := by decide +kernel
theorem dX8_passOneTick_73 : decode cX8_passOneTick 73 = .ok (.getfield 71, 3) := by decide +kernel
theorem dX8_passOneTick_76 : decode cX8_passOneTick 76 = .ok (.if_icmp .ge 17, 3) := by decide +kernel
theorem dX8_passOneTick_79 : decode cX8_passOneTick 79 = .ok (.iload_n 1, 1) := by decide +kernel
theorem dX8_passOneTick_80 : decode cX8_passOneTick 80 = .ok (.aload_n 0, 1) := by decide +kernel
theorem dX8_passOneTick_81 : decode cX8_passOneTick 81 = .ok (.iload_n 2, 1) := by decide +kernel
theorem dX8_passOneTick_82 : decode cX8_passOneTick 82 = .ok (.invokevirtual 289, 3) := by decide +kernel
theorem dX8_passOneTick_85 : decode cX8_passOneTick 85 = .ok (.iadd, 1) := by decide +kernel
theorem dX8_passOneTick_86 : decode cX8_passOneTick 86 = .ok (.istore_n 1, 1) := by decide +kernel
theorem dX8_passOneTick_87 : decode cX8_passOneTick 87 = .ok (.iinc 2 1, 3) := by decide +kernel
theorem dX8_passOneTick_90 : decode cX8_passOneTick 90 = .ok (.goto (-22), 3) := by decide +kernel
theorem dX8_passOneTick_93 : decode cX8_passOneTick 93 = .ok (.iload_n 1, 1) := by decide +kernel
theorem dX8_passOneTick_94 : decode cX8_passOneTick 94 = .ok (.aload_n 0, 1) := by decide +kernel
theorem dX8_passOneTick_95 : decode cX8_passOneTick 95 = .ok (.invokevirtual 292, 3) := by decide +kernel
theorem dX8_passOneTick_98 : decode cX8_passOneTick 98 = .ok (.iadd, 1) := by decide +kernel
theorem dX8_passOneTick_99 : decode cX8_passOneTick 99 = .ok (.ireturn, 1) := by decide +kernel
theorem dX8_dropInto_0 : decode cX8_dropInto 0 = .ok (.aload_n 0, 1) := by decide +kernel
theorem dX8_dropInto_1 : decode cX8_dropInto 1 = .ok (.getfield 26, 3) := by decide +kernel
theorem dX8_dropInto_4 : decode cX8_dropInto 4 = .ok (.iload_n 1, 1) := by decide +kernel
theorem dX8_dropInto_5 : decode cX8_dropInto 5 = .ok (.invokevirtual 266, 3) := by decide +kernel
theorem dX8_dropInto_8 : decode cX8_dropInto 8 = .ok (.astore_n 2, 1) := by decide +kernel
theorem dX8_dropInto_9 : decode cX8_dropInto 9 = .ok (.aload_n 2, 1) := by decide +kernel
theorem dX8_dropInto_10 : decode cX8_dropInto 10 = .ok (.ifnonnull 5, 3) := by decide +kernel
theorem dX8_dropInto_13 : decode cX8_dropInto 13 = .ok (.iconst 0, 1) := by decide +kernel
theorem dX8_dropInto_14 : decode cX8_dropInto 14 = .ok (.ireturn, 1) := by decide +kernel
theorem dX8_dropInto_15 : decode cX8_dropInto 15 = .ok (.aload_n 0, 1) := by decide +kernel
theorem dX8_dropInto_16 : decode cX8_dropInto 16 = .ok (.getfield 19, 3) := by decide +kernel
theorem dX8_dropInto_19 : decode cX8_dropInto 19 = .ok (.aload_n 2, 1) := by decide +kernel
theorem dX8_dropInto_20 : decode cX8_dropInto 20 = .ok (.getfield 295, 3) := by decide +kernel
theorem dX8_dropInto_23 : decode cX8_dropInto 23 = .ok (.invokevirtual 175, 3) := by decide +kernel
theorem dX8_dropInto_26 : decode cX8_dropInto 26 = .ok (.istore_n 3, 1) := by decide +kernel
theorem dX8_dropInto_27 : decode cX8_dropInto 27 = .ok (.aload_n 0, 1) := by decide +kernel
theorem dX8_dropInto_28 : decode cX8_dropInto 28 = .ok (.getfield 26, 3) := by decide +kernel
theorem dX8_dropInto_31 : decode cX8_dropInto 31 = .ok (.iload_n 1, 1) := by decide +kernel
theorem dX8_dropInto_32 : decode cX8_dropInto 32 = .ok (.aload_n 0, 1) := by decide +kernel
theorem dX8_dropInto_33 : decode cX8_dropInto 33 = .ok (.getfield 10, 3) := by decide +kernel
theorem dX8_dropInto_36 : decode cX8_dropInto 36 = .ok (.iload_n 3, 1) := by decide +kernel
theorem dX8_dropInto_37 : decode cX8_dropInto 37 = .ok (.invokevirtual 298, 3) := by decide +kernel
theorem dX8_dropInto_40 : decode cX8_dropInto 40 = .ok (.aload_n 2, 1) := by decide +kernel
theorem dX8_dropInto_41 : decode cX8_dropInto 41 = .ok (.getfield 108, 3) := by decide +kernel
theorem dX8_dropInto_44 : decode cX8_dropInto 44 = .ok (.getfield 113, 3) := by decide +kernel
theorem dX8_dropInto_47 : decode cX8_dropInto 47 = .ok (.invokevirtual 301, 3) := by decide +kernel
theorem dX8_dropInto_50 : decode cX8_dropInto 50 = .ok (.ifCond .ne 5, 3) := by decide +kernel
theorem dX8_dropInto_53 : decode cX8_dropInto 53 = .ok (.iconst 0, 1) := by decide +kernel
theorem dX8_dropInto_54 : decode cX8_dropInto 54 = .ok (.ireturn, 1) := by decide +kernel
theorem dX8_dropInto_55 : decode cX8_dropInto 55 = .ok (.aload_n 0, 1) := by decide +kernel
theorem dX8_dropInto_56 : decode cX8_dropInto 56 = .ok (.getfield 10, 3) := by decide +kernel
theorem dX8_dropInto_59 : decode cX8_dropInto 59 = .ok (.iload_n 3, 1) := by decide +kernel
theorem dX8_dropInto_60 : decode cX8_dropInto 60 = .ok (.bipush 99, 2) := by decide +kernel
theorem dX8_dropInto_62 : decode cX8_dropInto 62 = .ok (.aload_n 0, 1) := by decide +kernel
theorem dX8_dropInto_63 : decode cX8_dropInto 63 = .ok (.getfield 19, 3) := by decide +kernel
theorem dX8_dropInto_66 : decode cX8_dropInto 66 = .ok (.aload_n 2, 1) := by decide +kernel
theorem dX8_dropInto_67 : decode cX8_dropInto 67 = .ok (.getfield 295, 3) := by decide +kernel
theorem dX8_dropInto_70 : decode cX8_dropInto 70 = .ok (.invokevirtual 169, 3) := by decide +kernel
theorem dX8_dropInto_73 : decode cX8_dropInto 73 = .ok (.invokevirtual 304, 3) := by decide +kernel
theorem dX8_dropInto_76 : decode cX8_dropInto 76 = .ok (.aload_n 0, 1) := by decide +kernel
theorem dX8_dropInto_77 : decode cX8_dropInto 77 = .ok (.getfield 19, 3) := by decide +kernel
theorem dX8_dropInto_80 : decode cX8_dropInto 80 = .ok (.aload_n 2, 1) := by decide +kernel
theorem dX8_dropInto_81 : decode cX8_dropInto 81 = .ok (.getfield 295, 3) := by decide +kernel
theorem dX8_dropInto_84 : decode cX8_dropInto 84 = .ok (.invokevirtual 308, 3) := by decide +kernel
theorem dX8_dropInto_87 : decode cX8_dropInto 87 = .ok (.aload_n 2, 1) := by decide +kernel
theorem dX8_dropInto_88 : decode cX8_dropInto 88 = .ok (.iload_n 3, 1) := by decide +kernel
theorem dX8_dropInto_89 : decode cX8_dropInto 89 = .ok (.invokevirtual 311, 3) := by decide +kernel
theorem dX8_dropInto_92 : decode cX8_dropInto 92 = .ok (.iconst 1, 1) := by decide +kernel
theorem dX8_dropInto_93 : decode cX8_dropInto 93 = .ok (.ireturn, 1) := by decide +kernel
theorem dX8_dropIntoOverflow_0 : decode cX8_dropIntoOverflow 0 = .ok (.aload_n 0, 1) := by decide +kernel
theorem dX8_dropIntoOverflow_1 : decode cX8_dropIntoOverflow 1 = .ok (.getfield 19, 3) := by decide +kernel
theorem dX8_dropIntoOverflow_4 : decode cX8_dropIntoOverflow 4 = .ok (.aload_n 0, 1) := by decide +kernel
theorem dX8_dropIntoOverflow_5 : decode cX8_dropIntoOverflow 5 = .ok (.getfield 26, 3) := by decide +kernel
theorem dX8_dropIntoOverflow_8 : decode cX8_dropIntoOverflow 8 = .ok (.getfield 87, 3) := by decide +kernel
theorem dX8_dropIntoOverflow_11 : decode cX8_dropIntoOverflow 11 = .ok (.invokevirtual 175, 3) := by decide +kernel
theorem dX8_dropIntoOverflow_14 : decode cX8_dropIntoOverflow 14 = .ok (.istore_n 1, 1) := by decide +kernel
theorem dX8_dropIntoOverflow_15 : decode cX8_dropIntoOverflow 15 = .ok (.aload_n 0, 1) := by decide +kernel
theorem dX8_dropIntoOverflow_16 : decode cX8_dropIntoOverflow 16 = .ok (.getfield 19, 3) := by decide +kernel
theorem dX8_dropIntoOverflow_19 : decode cX8_dropIntoOverflow 19 = .ok (.aload_n 0, 1) := by decide +kernel
theorem dX8_dropIntoOverflow_20 : decode cX8_dropIntoOverflow 20 = .ok (.getfield 26, 3) := by decide +kernel
theorem dX8_dropIntoOverflow_23 : decode cX8_dropIntoOverflow 23 = .ok (.getfield 87, 3) := by decide +kernel
theorem dX8_dropIntoOverflow_26 : decode cX8_dropIntoOverflow 26 = .ok (.invokevirtual 169, 3) := by decide +kernel
theorem dX8_dropIntoOverflow_29 : decode cX8_dropIntoOverflow 29 = .ok (.istore_n 2, 1) := by decide +kernel
theorem dX8_dropIntoOverflow_30 : decode cX8_dropIntoOverflow 30 = .ok (.aload_n 0, 1) := by decide +kernel
theorem dX8_dropIntoOverflow_31 : decode cX8_dropIntoOverflow 31 = .ok (.getfield 26, 3) := by decide +kernel
theorem dX8_dropIntoOverflow_34 : decode cX8_dropIntoOverflow 34 = .ok (.iload_n 1, 1) := by decide +kernel
theorem dX8_dropIntoOverflow_35 : decode cX8_dropIntoOverflow 35 = .ok (.iload_n 2, 1) := by decide +kernel
theorem dX8_dropIntoOverflow_36 : decode cX8_dropIntoOverflow 36 = .ok (.invokevirtual 314, 3) := by decide +kernel
theorem dX8_dropIntoOverflow_39 : decode cX8_dropIntoOverflow 39 = .ok (.ifCond .ne 5, 3) := by decide +kernel
theorem dX8_dropIntoOverflow_42 : decode cX8_dropIntoOverflow 42 = .ok (.iconst 0, 1) := by decide +kernel
theorem dX8_dropIntoOverflow_43 : decode cX8_dropIntoOverflow 43 = .ok (.ireturn, 1) := by decide +kernel
theorem dX8_dropIntoOverflow_44 : decode cX8_dropIntoOverflow 44 = .ok (.aload_n 0, 1) := by decide +kernel
theorem dX8_dropIntoOverflow_45 : decode cX8_dropIntoOverflow 45 = .ok (.getfield 10, 3) := by decide +kernel
theorem dX8_dropIntoOverflow_48 : decode cX8_dropIntoOverflow 48 = .ok (.iload_n 1, 1) := by decide +kernel
theorem dX8_dropIntoOverflow_49 : decode cX8_dropIntoOverflow 49 = .ok (.bipush 111, 2) := by decide +kernel
theorem dX8_dropIntoOverflow_51 : decode cX8_dropIntoOverflow 51 = .ok (.iload_n 2, 1) := by decide +kernel
theorem dX8_dropIntoOverflow_52 : decode cX8_dropIntoOverflow 52 = .ok (.invokevirtual 304, 3) := by decide +kernel
theorem dX8_dropIntoOverflow_55 : decode cX8_dropIntoOverflow 55 = .ok (.aload_n 0, 1) := by decide +kernel
theorem dX8_dropIntoOverflow_56 : decode cX8_dropIntoOverflow 56 = .ok (.getfield 19, 3) := by decide +kernel
theorem dX8_dropIntoOverflow_59 : decode cX8_dropIntoOverflow 59 = .ok (.aload_n 0, 1) := by decide +kernel
theorem dX8_dropIntoOverflow_60 : decode cX8_dropIntoOverflow 60 = .ok (.getfield 26, 3) := by decide +kernel
theorem dX8_dropIntoOverflow_63 : decode cX8_dropIntoOverflow 63 = .ok (.getfield 87, 3) := by decide +kernel
theorem dX8_dropIntoOverflow_66 : decode cX8_dropIntoOverflow 66 = .ok (.invokevirtual 308, 3) := by decide +kernel
theorem dX8_dropIntoOverflow_69 : decode cX8_dropIntoOverflow 69 = .ok (.aload_n 0, 1) := by decide +kernel
theorem dX8_dropIntoOverflow_70 : decode cX8_dropIntoOverflow 70 = .ok (.getfield 53, 3) := by decide +kernel
theorem dX8_dropIntoOverflow_73 : decode cX8_dropIntoOverflow 73 = .ok (.iload_n 1, 1) := by decide +kernel
theorem dX8_dropIntoOverflow_74 : decode cX8_dropIntoOverflow 74 = .ok (.invokevirtual 318, 3) := by decide +kernel
theorem dX8_dropIntoOverflow_77 : decode cX8_dropIntoOverflow 77 = .ok (.iconst 1, 1) := by decide +kernel
theorem dX8_dropIntoOverflow_78 : decode cX8_dropIntoOverflow 78 = .ok (.ireturn, 1) := by decide +kernel
theorem dX8_eachParcelIsOnce_0 : decode cX8_eachParcelIsOnce 0 = .ok (.iconst 0, 1) := by decide +kernel
theorem dX8_eachParcelIsOnce_1 : decode cX8_eachParcelIsOnce 1 = .ok (.istore_n 1, 1) := by decide +kernel
theorem dX8_eachParcelIsOnce_2 : decode cX8_eachParcelIsOnce 2 = .ok (.iload_n 1, 1) := by decide +kernel
theorem dX8_eachParcelIsOnce_3 : decode cX8_eachParcelIsOnce 3 = .ok (.aload_n 0, 1) := by decide +kernel
theorem dX8_eachParcelIsOnce_4 : decode cX8_eachParcelIsOnce 4 = .ok (.getfield 64, 3) := by decide +kernel
theorem dX8_eachParcelIsOnce_7 : decode cX8_eachParcelIsOnce 7 = .ok (.arraylength, 1) := by decide +kernel
theorem dX8_eachParcelIsOnce_8 : decode cX8_eachParcelIsOnce 8 = .ok (.if_icmp .ge 16, 3) := by decide +kernel
theorem dX8_eachParcelIsOnce_11 : decode cX8_eachParcelIsOnce 11 = .ok (.aload_n 0, 1) := by decide +kernel
theorem dX8_eachParcelIsOnce_12 : decode cX8_eachParcelIsOnce 12 = .ok (.getfield 64, 3) := by decide +kernel
theorem dX8_eachParcelIsOnce_15 : decode cX8_eachParcelIsOnce 15 = .ok (.iload_n 1, 1) := by decide +kernel
theorem dX8_eachParcelIsOnce_16 : decode cX8_eachParcelIsOnce 16 = .ok (.iconst 0, 1) := by decide +kernel
theorem dX8_eachParcelIsOnce_17 : decode cX8_eachParcelIsOnce 17 = .ok (.iastore, 1) := by decide +kernel
theorem dX8_eachParcelIsOnce_18 : decode cX8_eachParcelIsOnce 18 = .ok (.iinc 1 1, 3) := by decide +kernel
theorem dX8_eachParcelIsOnce_21 : decode cX8_eachParcelIsOnce 21 = .ok (.goto (-19), 3) := by decide +kernel
theorem dX8_eachParcelIsOnce_24 : decode cX8_eachParcelIsOnce 24 = .ok (.aload_n 0, 1) := by decide +kernel
theorem dX8_eachParcelIsOnce_25 : decode cX8_eachParcelIsOnce 25 = .ok (.getfield 10, 3) := by decide +kernel
theorem dX8_eachParcelIsOnce_28 : decode cX8_eachParcelIsOnce 28 = .ok (.getfield 181, 3) := by decide +kernel
theorem dX8_eachParcelIsOnce_31 : decode cX8_eachParcelIsOnce 31 = .ok (.istore_n 1, 1) := by decide +kernel
theorem dX8_eachParcelIsOnce_32 : decode cX8_eachParcelIsOnce 32 = .ok (.iload_n 1, 1) := by decide +kernel
theorem dX8_eachParcelIsOnce_33 : decode cX8_eachParcelIsOnce 33 = .ok (.aload_n 0, 1) := by decide +kernel
theorem dX8_eachParcelIsOnce_34 : decode cX8_eachParcelIsOnce 34 = .ok (.getfield 10, 3) := by decide +kernel
theorem dX8_eachParcelIsOnce_37 : decode cX8_eachParcelIsOnce 37 = .ok (.getfield 75, 3) := by decide +kernel
theorem dX8_eachParcelIsOnce_40 : decode cX8_eachParcelIsOnce 40 = .ok (.if_icmp .ge 14, 3) := by decide +kernel
theorem dX8_eachParcelIsOnce_43 : decode cX8_eachParcelIsOnce 43 = .ok (.aload_n 0, 1) := by decide +kernel
theorem dX8_eachParcelIsOnce_44 : decode cX8_eachParcelIsOnce 44 = .ok (.iload_n 1, 1) := by decide +kernel
theorem dX8_eachParcelIsOnce_45 : decode cX8_eachParcelIsOnce 45 = .ok (.invokevirtual 320, 3) := by decide +kernel
theorem dX8_eachParcelIsOnce_48 : decode cX8_eachParcelIsOnce 48 = .ok (.iinc 1 1, 3) := by decide +kernel
theorem dX8_eachParcelIsOnce_51 : decode cX8_eachParcelIsOnce 51 = .ok (.goto (-19), 3) := by decide +kernel
theorem dX8_eachParcelIsOnce_54 : decode cX8_eachParcelIsOnce 54 = .ok (.iconst 0, 1) := by decide +kernel
theorem dX8_eachParcelIsOnce_55 : decode cX8_eachParcelIsOnce 55 = .ok (.istore_n 1, 1) := by decide +kernel
theorem dX8_eachParcelIsOnce_56 : decode cX8_eachParcelIsOnce 56 = .ok (.iload_n 1, 1) := by decide +kernel
theorem dX8_eachParcelIsOnce_57 : decode cX8_eachParcelIsOnce 57 = .ok (.aload_n 0, 1) := by decide +kernel
theorem dX8_eachParcelIsOnce_58 : decode cX8_eachParcelIsOnce 58 = .ok (.getfield 19, 3) := by decide +kernel
theorem dX8_eachParcelIsOnce_61 : decode cX8_eachParcelIsOnce 61 = .ok (.getfield 81, 3) := by decide +kernel
theorem dX8_eachParcelIsOnce_64 : decode cX8_eachParcelIsOnce 64 = .ok (.if_icmp .ge 21, 3) := by decide +kernel
theorem dX8_eachParcelIsOnce_67 : decode cX8_eachParcelIsOnce 67 = .ok (.aload_n 0, 1) := by decide +kernel
theorem dX8_eachParcelIsOnce_68 : decode cX8_eachParcelIsOnce 68 = .ok (.aload_n 0, 1) := by decide +kernel
theorem dX8_eachParcelIsOnce_69 : decode cX8_eachParcelIsOnce 69 = .ok (.getfield 19, 3) := by decide +kernel
theorem dX8_eachParcelIsOnce_72 : decode cX8_eachParcelIsOnce 72 = .ok (.iload_n 1, 1) := by decide +kernel
theorem dX8_eachParcelIsOnce_73 : decode cX8_eachParcelIsOnce 73 = .ok (.invokevirtual 175, 3) := by decide +kernel
theorem dX8_eachParcelIsOnce_76 : decode cX8_eachParcelIsOnce 76 = .ok (.invokevirtual 320, 3) := by decide +kernel
theorem dX8_eachParcelIsOnce_79 : decode cX8_eachParcelIsOnce 79 = .ok (.iinc 1 1, 3) := by decide +kernel
theorem dX8_eachParcelIsOnce_82 : decode cX8_eachParcelIsOnce 82 = .ok (.goto (-26), 3) := by decide +kernel
theorem dX8_eachParcelIsOnce_85 : decode cX8_eachParcelIsOnce 85 = .ok (.iconst 0, 1) := by decide +kernel
theorem dX8_eachParcelIsOnce_86 : decode cX8_eachParcelIsOnce 86 = .ok (.istore_n 1, 1) := by decide +kernel
theorem dX8_eachParcelIsOnce_87 : decode cX8_eachParcelIsOnce 87 = .ok (.iload_n 1, 1) := by decide +kernel
theorem dX8_eachParcelIsOnce_88 : decode cX8_eachParcelIsOnce 88 = .ok (.aload_n 0, 1) := by decide +kernel
theorem dX8_eachParcelIsOnce_89 : decode cX8_eachParcelIsOnce 89 = .ok (.getfield 26, 3) := by decide +kernel
theorem dX8_eachParcelIsOnce_92 : decode cX8_eachParcelIsOnce 92 = .ok (.getfield 71, 3) := by decide +kernel
theorem dX8_eachParcelIsOnce_95 : decode cX8_eachParcelIsOnce 95 = .ok (.if_icmp .ge 30, 3) := by decide +kernel
theorem dX8_eachParcelIsOnce_98 : decode cX8_eachParcelIsOnce 98 = .ok (.aload_n 0, 1) := by decide +kernel
theorem dX8_eachParcelIsOnce_99 : decode cX8_eachParcelIsOnce 99 = .ok (.getfield 26, 3) := by decide +kernel
theorem dX8_eachParcelIsOnce_102 : decode cX8_eachParcelIsOnce 102 = .ok (.iload_n 1, 1) := by decide +kernel
theorem dX8_eachParcelIsOnce_103 : decode cX8_eachParcelIsOnce 103 = .ok (.invokevirtual 266, 3) := by decide +kernel
theorem dX8_eachParcelIsOnce_106 : decode cX8_eachParcelIsOnce 106 = .ok (.astore_n 2, 1) := by decide +kernel
theorem dX8_eachParcelIsOnce_107 : decode cX8_eachParcelIsOnce 107 = .ok (.aload_n 2, 1) := by decide +kernel
theorem dX8_eachParcelIsOnce_108 : decode cX8_eachParcelIsOnce 108 = .ok (.ifnull 11, 3) := by decide +kernel
theorem dX8_eachParcelIsOnce_111 : decode cX8_eachParcelIsOnce 111 = .ok (.aload_n 0, 1) := by decide +kernel
theorem dX8_eachParcelIsOnce_112 : decode cX8_eachParcelIsOnce 112 = .ok (.aload_n 2, 1) := by decide +kernel
theorem dX8_eachParcelIsOnce_113 : decode cX8_eachParcelIsOnce 113 = .ok (.getfield 108, 3) := by decide +kernel
theorem dX8_eachParcelIsOnce_116 : decode cX8_eachParcelIsOnce 116 = .ok (.invokevirtual 323, 3) := by decide +kernel
theorem dX8_eachParcelIsOnce_119 : decode cX8_eachParcelIsOnce 119 = .ok (.iinc 1 1, 3) := by decide +kernel
theorem dX8_eachParcelIsOnce_122 : decode cX8_eachParcelIsOnce 122 = .ok (.goto (-35), 3) := by decide +kernel
theorem dX8_eachParcelIsOnce_125 : decode cX8_eachParcelIsOnce 125 = .ok (.aload_n 0, 1) := by decide +kernel
theorem dX8_eachParcelIsOnce_126 : decode cX8_eachParcelIsOnce 126 = .ok (.aload_n 0, 1) := by decide +kernel
theorem dX8_eachParcelIsOnce_127 : decode cX8_eachParcelIsOnce 127 = .ok (.getfield 60, 3) := by decide +kernel
theorem dX8_eachParcelIsOnce_130 : decode cX8_eachParcelIsOnce 130 = .ok (.getfield 327, 3) := by decide +kernel
theorem dX8_eachParcelIsOnce_133 : decode cX8_eachParcelIsOnce 133 = .ok (.invokevirtual 323, 3) := by decide +kernel
theorem dX8_eachParcelIsOnce_136 : decode cX8_eachParcelIsOnce 136 = .ok (.aload_n 0, 1) := by decide +kernel
theorem dX8_eachParcelIsOnce_137 : decode cX8_eachParcelIsOnce 137 = .ok (.aload_n 0, 1) := by decide +kernel
theorem dX8_eachParcelIsOnce_138 : decode cX8_eachParcelIsOnce 138 = .ok (.getfield 53, 3) := by decide +kernel
theorem dX8_eachParcelIsOnce_141 : decode cX8_eachParcelIsOnce 141 = .ok (.invokevirtual 323, 3) := by decide +kernel
theorem dX8_eachParcelIsOnce_144 : decode cX8_eachParcelIsOnce 144 = .ok (.iconst 0, 1) := by decide +kernel
theorem dX8_eachParcelIsOnce_145 : decode cX8_eachParcelIsOnce 145 = .ok (.istore_n 1, 1) := by decide +kernel
theorem dX8_eachParcelIsOnce_146 : decode cX8_eachParcelIsOnce 146 = .ok (.iload_n 1, 1) := by decide +kernel
theorem dX8_eachParcelIsOnce_147 : decode cX8_eachParcelIsOnce 147 = .ok (.aload_n 0, 1) := by decide +kernel
end
section
theorem dX8_eachParcelIsOnce_148 : decode cX8_eachParcelIsOnce 148 = .ok (.getfield 64, 3) := by decide +kernel
theorem dX8_eachParcelIsOnce_151 : decode cX8_eachParcelIsOnce 151 = .ok (.arraylength, 1) := by decide +kernel
theorem dX8_eachParcelIsOnce_152 : decode cX8_eachParcelIsOnce 152 = .ok (.if_icmp .ge 36, 3) := by decide +kernel
theorem dX8_eachParcelIsOnce_155 : decode cX8_eachParcelIsOnce 155 = .ok (.aload_n 0, 1) := by decide +kernel
theorem dX8_eachParcelIsOnce_156 : decode cX8_eachParcelIsOnce 156 = .ok (.getfield 64, 3) := by decide +kernel
theorem dX8_eachParcelIsOnce_159 : decode cX8_eachParcelIsOnce 159 = .ok (.iload_n 1, 1) := by decide +kernel
theorem dX8_eachParcelIsOnce_160 : decode cX8_eachParcelIsOnce 160 = .ok (.iaload, 1) := by decide +kernel
theorem dX8_eachParcelIsOnce_161 : decode cX8_eachParcelIsOnce 161 = .ok (.aload_n 0, 1) := by decide +kernel
theorem dX8_eachParcelIsOnce_162 : decode cX8_eachParcelIsOnce 162 = .ok (.getfield 10, 3) := by decide +kernel
theorem dX8_eachParcelIsOnce_165 : decode cX8_eachParcelIsOnce 165 = .ok (.iload_n 1, 1) := by decide +kernel
theorem dX8_eachParcelIsOnce_166 : decode cX8_eachParcelIsOnce 166 = .ok (.invokevirtual 265, 3) := by decide +kernel
theorem dX8_eachParcelIsOnce_169 : decode cX8_eachParcelIsOnce 169 = .ok (.ifCond .eq 7, 3) := by decide +kernel
theorem dX8_eachParcelIsOnce_172 : decode cX8_eachParcelIsOnce 172 = .ok (.iconst 1, 1) := by decide +kernel
theorem dX8_eachParcelIsOnce_173 : decode cX8_eachParcelIsOnce 173 = .ok (.goto 4, 3) := by decide +kernel
theorem dX8_eachParcelIsOnce_176 : decode cX8_eachParcelIsOnce 176 = .ok (.iconst 0, 1) := by decide +kernel
theorem dX8_eachParcelIsOnce_177 : decode cX8_eachParcelIsOnce 177 = .ok (.if_icmp .eq 5, 3) := by decide +kernel
theorem dX8_eachParcelIsOnce_180 : decode cX8_eachParcelIsOnce 180 = .ok (.iconst 0, 1) := by decide +kernel
theorem dX8_eachParcelIsOnce_181 : decode cX8_eachParcelIsOnce 181 = .ok (.ireturn, 1) := by decide +kernel
theorem dX8_eachParcelIsOnce_182 : decode cX8_eachParcelIsOnce 182 = .ok (.iinc 1 1, 3) := by decide +kernel
theorem dX8_eachParcelIsOnce_185 : decode cX8_eachParcelIsOnce 185 = .ok (.goto (-39), 3) := by decide +kernel
theorem dX8_eachParcelIsOnce_188 : decode cX8_eachParcelIsOnce 188 = .ok (.iconst 1, 1) := by decide +kernel
theorem dX8_eachParcelIsOnce_189 : decode cX8_eachParcelIsOnce 189 = .ok (.ireturn, 1) := by decide +kernel
theorem dX8_seeAll_0 : decode cX8_seeAll 0 = .ok (.iconst 0, 1) := by decide +kernel
theorem dX8_seeAll_1 : decode cX8_seeAll 1 = .ok (.istore_n 2, 1) := by decide +kernel
theorem dX8_seeAll_2 : decode cX8_seeAll 2 = .ok (.iload_n 2, 1) := by decide +kernel
theorem dX8_seeAll_3 : decode cX8_seeAll 3 = .ok (.aload_n 1, 1) := by decide +kernel
theorem dX8_seeAll_4 : decode cX8_seeAll 4 = .ok (.getfield 113, 3) := by decide +kernel
theorem dX8_seeAll_7 : decode cX8_seeAll 7 = .ok (.if_icmp .ge 18, 3) := by decide +kernel
theorem dX8_seeAll_10 : decode cX8_seeAll 10 = .ok (.aload_n 0, 1) := by decide +kernel
theorem dX8_seeAll_11 : decode cX8_seeAll 11 = .ok (.aload_n 1, 1) := by decide +kernel
theorem dX8_seeAll_12 : decode cX8_seeAll 12 = .ok (.iload_n 2, 1) := by decide +kernel
theorem dX8_seeAll_13 : decode cX8_seeAll 13 = .ok (.invokevirtual 223, 3) := by decide +kernel
theorem dX8_seeAll_16 : decode cX8_seeAll 16 = .ok (.invokevirtual 320, 3) := by decide +kernel
theorem dX8_seeAll_19 : decode cX8_seeAll 19 = .ok (.iinc 2 1, 3) := by decide +kernel
theorem dX8_seeAll_22 : decode cX8_seeAll 22 = .ok (.goto (-20), 3) := by decide +kernel
theorem dX8_seeAll_25 : decode cX8_seeAll 25 = .ok (.return_, 1) := by decide +kernel
theorem dX8_see_0 : decode cX8_see 0 = .ok (.iload_n 1, 1) := by decide +kernel
theorem dX8_see_1 : decode cX8_see 1 = .ok (.ifCond .lt 22, 3) := by decide +kernel
theorem dX8_see_4 : decode cX8_see 4 = .ok (.iload_n 1, 1) := by decide +kernel
theorem dX8_see_5 : decode cX8_see 5 = .ok (.aload_n 0, 1) := by decide +kernel
theorem dX8_see_6 : decode cX8_see 6 = .ok (.getfield 64, 3) := by decide +kernel
theorem dX8_see_9 : decode cX8_see 9 = .ok (.arraylength, 1) := by decide +kernel
theorem dX8_see_10 : decode cX8_see 10 = .ok (.if_icmp .ge 13, 3) := by decide +kernel
theorem dX8_see_13 : decode cX8_see 13 = .ok (.aload_n 0, 1) := by decide +kernel
theorem dX8_see_14 : decode cX8_see 14 = .ok (.getfield 64, 3) := by decide +kernel
theorem dX8_see_17 : decode cX8_see 17 = .ok (.iload_n 1, 1) := by decide +kernel
theorem dX8_see_18 : decode cX8_see 18 = .ok (.dup2, 1) := by decide +kernel
theorem dX8_see_19 : decode cX8_see 19 = .ok (.iaload, 1) := by decide +kernel
theorem dX8_see_20 : decode cX8_see 20 = .ok (.iconst 1, 1) := by decide +kernel
theorem dX8_see_21 : decode cX8_see 21 = .ok (.iadd, 1) := by decide +kernel
theorem dX8_see_22 : decode cX8_see 22 = .ok (.iastore, 1) := by decide +kernel
theorem dX8_see_23 : decode cX8_see 23 = .ok (.return_, 1) := by decide +kernel
theorem dX9_init_0 : decode cX9_init 0 = .ok (.aload_n 0, 1) := by decide +kernel
theorem dX9_init_1 : decode cX9_init 1 = .ok (.invokespecial 1, 3) := by decide +kernel
theorem dX9_init_4 : decode cX9_init 4 = .ok (.aload_n 0, 1) := by decide +kernel
theorem dX9_init_5 : decode cX9_init 5 = .ok (.bipush 12, 2) := by decide +kernel
theorem dX9_init_7 : decode cX9_init 7 = .ok (.putfield 7, 3) := by decide +kernel
theorem dX9_init_10 : decode cX9_init 10 = .ok (.aload_n 0, 1) := by decide +kernel
theorem dX9_init_11 : decode cX9_init 11 = .ok (.bipush 20, 2) := by decide +kernel
theorem dX9_init_13 : decode cX9_init 13 = .ok (.newarray .int, 2) := by decide +kernel
theorem dX9_init_15 : decode cX9_init 15 = .ok (.putfield 13, 3) := by decide +kernel
theorem dX9_init_18 : decode cX9_init 18 = .ok (.aload_n 0, 1) := by decide +kernel
theorem dX9_init_19 : decode cX9_init 19 = .ok (.bipush 6, 2) := by decide +kernel
theorem dX9_init_21 : decode cX9_init 21 = .ok (.newarray .int, 2) := by decide +kernel
theorem dX9_init_23 : decode cX9_init 23 = .ok (.putfield 17, 3) := by decide +kernel
theorem dX9_init_26 : decode cX9_init 26 = .ok (.aload_n 0, 1) := by decide +kernel
theorem dX9_init_27 : decode cX9_init 27 = .ok (.bipush 6, 2) := by decide +kernel
theorem dX9_init_29 : decode cX9_init 29 = .ok (.newarray .int, 2) := by decide +kernel
theorem dX9_init_31 : decode cX9_init 31 = .ok (.putfield 20, 3) := by decide +kernel
theorem dX9_init_34 : decode cX9_init 34 = .ok (.aload_n 0, 1) := by decide +kernel
theorem dX9_init_35 : decode cX9_init 35 = .ok (.bipush 6, 2) := by decide +kernel
theorem dX9_init_37 : decode cX9_init 37 = .ok (.newarray .boolean, 2) := by decide +kernel
theorem dX9_init_39 : decode cX9_init 39 = .ok (.putfield 23, 3) := by decide +kernel
theorem dX9_init_42 : decode cX9_init 42 = .ok (.aload_n 0, 1) := by decide +kernel
theorem dX9_init_43 : decode cX9_init 43 = .ok (.iconst 2, 1) := by decide +kernel
theorem dX9_init_44 : decode cX9_init 44 = .ok (.putfield 27, 3) := by decide +kernel
theorem dX9_init_47 : decode cX9_init 47 = .ok (.aload_n 0, 1) := by decide +kernel
theorem dX9_init_48 : decode cX9_init 48 = .ok (.sipush 300, 3) := by decide +kernel
theorem dX9_init_51 : decode cX9_init 51 = .ok (.newarray .int, 2) := by decide +kernel
theorem dX9_init_53 : decode cX9_init 53 = .ok (.putfield 30, 3) := by decide +kernel
theorem dX9_init_56 : decode cX9_init 56 = .ok (.aload_n 0, 1) := by decide +kernel
theorem dX9_init_57 : decode cX9_init 57 = .ok (.sipush 300, 3) := by decide +kernel
theorem dX9_init_60 : decode cX9_init 60 = .ok (.newarray .int, 2) := by decide +kernel
theorem dX9_init_62 : decode cX9_init 62 = .ok (.putfield 33, 3) := by decide +kernel
theorem dX9_init_65 : decode cX9_init 65 = .ok (.aload_n 0, 1) := by decide +kernel
theorem dX9_init_66 : decode cX9_init 66 = .ok (.sipush 300, 3) := by decide +kernel
theorem dX9_init_69 : decode cX9_init 69 = .ok (.newarray .int, 2) := by decide +kernel
theorem dX9_init_71 : decode cX9_init 71 = .ok (.putfield 36, 3) := by decide +kernel
theorem dX9_init_74 : decode cX9_init 74 = .ok (.aload_n 0, 1) := by decide +kernel
theorem dX9_init_75 : decode cX9_init 75 = .ok (.sipush 300, 3) := by decide +kernel
theorem dX9_init_78 : decode cX9_init 78 = .ok (.newarray .int, 2) := by decide +kernel
theorem dX9_init_80 : decode cX9_init 80 = .ok (.putfield 39, 3) := by decide +kernel
theorem dX9_init_83 : decode cX9_init 83 = .ok (.aload_n 0, 1) := by decide +kernel
theorem dX9_init_84 : decode cX9_init 84 = .ok (.bipush 8, 2) := by decide +kernel
theorem dX9_init_86 : decode cX9_init 86 = .ok (.newarray .int, 2) := by decide +kernel
theorem dX9_init_88 : decode cX9_init 88 = .ok (.putfield 42, 3) := by decide +kernel
theorem dX9_init_91 : decode cX9_init 91 = .ok (.aload_n 0, 1) := by decide +kernel
theorem dX9_init_92 : decode cX9_init 92 = .ok (.bipush 6, 2) := by decide +kernel
theorem dX9_init_94 : decode cX9_init 94 = .ok (.newarray .int, 2) := by decide +kernel
theorem dX9_init_96 : decode cX9_init 96 = .ok (.putfield 45, 3) := by decide +kernel
theorem dX9_init_99 : decode cX9_init 99 = .ok (.aload_n 0, 1) := by decide +kernel
theorem dX9_init_100 : decode cX9_init 100 = .ok (.sipush 180, 3) := by decide +kernel
theorem dX9_init_103 : decode cX9_init 103 = .ok (.newarray .int, 2) := by decide +kernel
theorem dX9_init_105 : decode cX9_init 105 = .ok (.putfield 48, 3) := by decide +kernel
theorem dX9_init_108 : decode cX9_init 108 = .ok (.aload_n 0, 1) := by decide +kernel
theorem dX9_init_109 : decode cX9_init 109 = .ok (.bipush 6, 2) := by decide +kernel
theorem dX9_init_111 : decode cX9_init 111 = .ok (.newarray .int, 2) := by decide +kernel
theorem dX9_init_113 : decode cX9_init 113 = .ok (.putfield 51, 3) := by decide +kernel
theorem dX9_init_116 : decode cX9_init 116 = .ok (.aload_n 0, 1) := by decide +kernel
theorem dX9_init_117 : decode cX9_init 117 = .ok (.bipush 6, 2) := by decide +kernel
theorem dX9_init_119 : decode cX9_init 119 = .ok (.newarray .int, 2) := by decide +kernel
theorem dX9_init_121 : decode cX9_init 121 = .ok (.putfield 54, 3) := by decide +kernel
theorem dX9_init_124 : decode cX9_init 124 = .ok (.aload_n 0, 1) := by decide +kernel
theorem dX9_init_125 : decode cX9_init 125 = .ok (.sipush 300, 3) := by decide +kernel
theorem dX9_init_128 : decode cX9_init 128 = .ok (.newarray .int, 2) := by decide +kernel
theorem dX9_init_130 : decode cX9_init 130 = .ok (.putfield 57, 3) := by decide +kernel
theorem dX9_init_133 : decode cX9_init 133 = .ok (.aload_n 0, 1) := by decide +kernel
theorem dX9_init_134 : decode cX9_init 134 = .ok (.sipush 300, 3) := by decide +kernel
theorem dX9_init_137 : decode cX9_init 137 = .ok (.newarray .int, 2) := by decide +kernel
theorem dX9_init_139 : decode cX9_init 139 = .ok (.putfield 60, 3) := by decide +kernel
theorem dX9_init_142 : decode cX9_init 142 = .ok (.aload_n 0, 1) := by decide +kernel
theorem dX9_init_143 : decode cX9_init 143 = .ok (.sipush 300, 3) := by decide +kernel
theorem dX9_init_146 : decode cX9_init 146 = .ok (.newarray .int, 2) := by decide +kernel
theorem dX9_init_148 : decode cX9_init 148 = .ok (.putfield 63, 3) := by decide +kernel
theorem dX9_init_151 : decode cX9_init 151 = .ok (.aload_n 0, 1) := by decide +kernel
theorem dX9_init_152 : decode cX9_init 152 = .ok (.bipush 20, 2) := by decide +kernel
theorem dX9_init_154 : decode cX9_init 154 = .ok (.newarray .int, 2) := by decide +kernel
theorem dX9_init_156 : decode cX9_init 156 = .ok (.putfield 66, 3) := by decide +kernel
theorem dX9_init_159 : decode cX9_init 159 = .ok (.aload_n 0, 1) := by decide +kernel
theorem dX9_init_160 : decode cX9_init 160 = .ok (.sipush 300, 3) := by decide +kernel
theorem dX9_init_163 : decode cX9_init 163 = .ok (.newarray .int, 2) := by decide +kernel
theorem dX9_init_165 : decode cX9_init 165 = .ok (.putfield 69, 3) := by decide +kernel
theorem dX9_init_168 : decode cX9_init 168 = .ok (.aload_n 0, 1) := by decide +kernel
theorem dX9_init_169 : decode cX9_init 169 = .ok (.bipush 6, 2) := by decide +kernel
theorem dX9_init_171 : decode cX9_init 171 = .ok (.newarray .int, 2) := by decide +kernel
theorem dX9_init_173 : decode cX9_init 173 = .ok (.putfield 72, 3) := by decide +kernel
theorem dX9_init_176 : decode cX9_init 176 = .ok (.aload_n 0, 1) := by decide +kernel
theorem dX9_init_177 : decode cX9_init 177 = .ok (.bipush 6, 2) := by decide +kernel
theorem dX9_init_179 : decode cX9_init 179 = .ok (.newarray .int, 2) := by decide +kernel
theorem dX9_init_181 : decode cX9_init 181 = .ok (.putfield 75, 3) := by decide +kernel
theorem dX9_init_184 : decode cX9_init 184 = .ok (.aload_n 0, 1) := by decide +kernel
theorem dX9_init_185 : decode cX9_init 185 = .ok (.bipush 8, 2) := by decide +kernel
theorem dX9_init_187 : decode cX9_init 187 = .ok (.newarray .int, 2) := by decide +kernel
theorem dX9_init_189 : decode cX9_init 189 = .ok (.putfield 78, 3) := by decide +kernel
theorem dX9_init_192 : decode cX9_init 192 = .ok (.iconst 0, 1) := by decide +kernel
theorem dX9_init_193 : decode cX9_init 193 = .ok (.istore_n 1, 1) := by decide +kernel
theorem dX9_init_194 : decode cX9_init 194 = .ok (.iload_n 1, 1) := by decide +kernel
theorem dX9_init_195 : decode cX9_init 195 = .ok (.bipush 20, 2) := by decide +kernel
theorem dX9_init_197 : decode cX9_init 197 = .ok (.if_icmp .ge 16, 3) := by decide +kernel
theorem dX9_init_200 : decode cX9_init 200 = .ok (.aload_n 0, 1) := by decide +kernel
theorem dX9_init_201 : decode cX9_init 201 = .ok (.getfield 13, 3) := by decide +kernel
theorem dX9_init_204 : decode cX9_init 204 = .ok (.iload_n 1, 1) := by decide +kernel
theorem dX9_init_205 : decode cX9_init 205 = .ok (.iconst (-1), 1) := by decide +kernel
theorem dX9_init_206 : decode cX9_init 206 = .ok (.iastore, 1) := by decide +kernel
theorem dX9_init_207 : decode cX9_init 207 = .ok (.iinc 1 1, 3) := by decide +kernel
theorem dX9_init_210 : decode cX9_init 210 = .ok (.goto (-16), 3) := by decide +kernel
theorem dX9_init_213 : decode cX9_init 213 = .ok (.iconst 0, 1) := by decide +kernel
theorem dX9_init_214 : decode cX9_init 214 = .ok (.istore_n 1, 1) := by decide +kernel
theorem dX9_init_215 : decode cX9_init 215 = .ok (.iload_n 1, 1) := by decide +kernel
theorem dX9_init_216 : decode cX9_init 216 = .ok (.bipush 8, 2) := by decide +kernel
theorem dX9_init_218 : decode cX9_init 218 = .ok (.if_icmp .ge 16, 3) := by decide +kernel
theorem dX9_init_221 : decode cX9_init 221 = .ok (.aload_n 0, 1) := by decide +kernel
theorem dX9_init_222 : decode cX9_init 222 = .ok (.getfield 42, 3) := by decide +kernel
theorem dX9_init_225 : decode cX9_init 225 = .ok (.iload_n 1, 1) := by decide +kernel
theorem dX9_init_226 : decode cX9_init 226 = .ok (.iconst (-1), 1) := by decide +kernel
theorem dX9_init_227 : decode cX9_init 227 = .ok (.iastore, 1) := by decide +kernel
theorem dX9_init_228 : decode cX9_init 228 = .ok (.iinc 1 1, 3) := by decide +kernel
theorem dX9_init_231 : decode cX9_init 231 = .ok (.goto (-16), 3) := by decide +kernel
theorem dX9_init_234 : decode cX9_init 234 = .ok (.return_, 1) := by decide +kernel
theorem dX9_thrown_0 : decode cX9_thrown 0 = .ok (.aload_n 0, 1) := by decide +kernel
theorem dX9_thrown_1 : decode cX9_thrown 1 = .ok (.getfield 81, 3) := by decide +kernel
theorem dX9_thrown_4 : decode cX9_thrown 4 = .ok (.ireturn, 1) := by decide +kernel
theorem dX9_isIn_0 : decode cX9_isIn 0 = .ok (.iload_n 0, 1) := by decide +kernel
theorem dX9_isIn_1 : decode cX9_isIn 1 = .ok (.iload_n 1, 1) := by decide +kernel
theorem dX9_isIn_2 : decode cX9_isIn 2 = .ok (.if_icmp .lt 12, 3) := by decide +kernel
theorem dX9_isIn_5 : decode cX9_isIn 5 = .ok (.iload_n 0, 1) := by decide +kernel
theorem dX9_isIn_6 : decode cX9_isIn 6 = .ok (.iload_n 2, 1) := by decide +kernel
theorem dX9_isIn_7 : decode cX9_isIn 7 = .ok (.if_icmp .gt 7, 3) := by decide +kernel
theorem dX9_isIn_10 : decode cX9_isIn 10 = .ok (.iconst 1, 1) := by decide +kernel
theorem dX9_isIn_11 : decode cX9_isIn 11 = .ok (.goto 4, 3) := by decide +kernel
theorem dX9_isIn_14 : decode cX9_isIn 14 = .ok (.iconst 0, 1) := by decide +kernel
theorem dX9_isIn_15 : decode cX9_isIn 15 = .ok (.ireturn, 1) := by decide +kernel
theorem dX9_goesOn_0 : decode cX9_goesOn 0 = .ok (.aload_n 0, 1) := by decide +kernel
theorem dX9_goesOn_1 : decode cX9_goesOn 1 = .ok (.iload_n 1, 1) := by decide +kernel
theorem dX9_goesOn_2 : decode cX9_goesOn 2 = .ok (.putfield 81, 3) := by decide +kernel
theorem dX9_goesOn_5 : decode cX9_goesOn 5 = .ok (.iload_n 1, 1) := by decide +kernel
theorem dX9_goesOn_6 : decode cX9_goesOn 6 = .ok (.ifCond .ne 7, 3) := by decide +kernel
theorem dX9_goesOn_9 : decode cX9_goesOn 9 = .ok (.iconst 1, 1) := by decide +kernel
theorem dX9_goesOn_10 : decode cX9_goesOn 10 = .ok (.goto 4, 3) := by decide +kernel
theorem dX9_goesOn_13 : decode cX9_goesOn 13 = .ok (.iconst 0, 1) := by decide +kernel
theorem dX9_goesOn_14 : decode cX9_goesOn 14 = .ok (.ireturn, 1) := by decide +kernel
theorem dX9_isChute_0 : decode cX9_isChute 0 = .ok (.iload_n 1, 1) := by decide +kernel
theorem dX9_isChute_1 : decode cX9_isChute 1 = .ok (.iconst 0, 1) := by decide +kernel
theorem dX9_isChute_2 : decode cX9_isChute 2 = .ok (.aload_n 0, 1) := by decide +kernel
theorem dX9_isChute_3 : decode cX9_isChute 3 = .ok (.getfield 84, 3) := by decide +kernel
theorem dX9_isChute_6 : decode cX9_isChute 6 = .ok (.iconst 1, 1) := by decide +kernel
theorem dX9_isChute_7 : decode cX9_isChute 7 = .ok (.isub, 1) := by decide +kernel
theorem dX9_isChute_8 : decode cX9_isChute 8 = .ok (.invokestatic 87, 3) := by decide +kernel
theorem dX9_isChute_11 : decode cX9_isChute 11 = .ok (.ireturn, 1) := by decide +kernel
theorem dX9_isParcel_0 : decode cX9_isParcel 0 = .ok (.iload_n 1, 1) := by decide +kernel
theorem dX9_isParcel_1 : decode cX9_isParcel 1 = .ok (.iconst 0, 1) := by decide +kernel
theorem dX9_isParcel_2 : decode cX9_isParcel 2 = .ok (.aload_n 0, 1) := by decide +kernel
theorem dX9_isParcel_3 : decode cX9_isParcel 3 = .ok (.getfield 91, 3) := by decide +kernel
theorem dX9_isParcel_6 : decode cX9_isParcel 6 = .ok (.iconst 1, 1) := by decide +kernel
theorem dX9_isParcel_7 : decode cX9_isParcel 7 = .ok (.isub, 1) := by decide +kernel
theorem dX9_isParcel_8 : decode cX9_isParcel 8 = .ok (.invokestatic 87, 3) := by decide +kernel
theorem dX9_isParcel_11 : decode cX9_isParcel 11 = .ok (.ireturn, 1) := by decide +kernel
theorem dX9_isPosition_0 : decode cX9_isPosition 0 = .ok (.iload_n 1, 1) := by decide +kernel
theorem dX9_isPosition_1 : decode cX9_isPosition 1 = .ok (.iconst 0, 1) := by decide +kernel
theorem dX9_isPosition_2 : decode cX9_isPosition 2 = .ok (.aload_n 0, 1) := by decide +kernel
theorem dX9_isPosition_3 : decode cX9_isPosition 3 = .ok (.getfield 7, 3) := by decide +kernel
theorem dX9_isPosition_6 : decode cX9_isPosition 6 = .ok (.iconst 1, 1) := by decide +kernel
theorem dX9_isPosition_7 : decode cX9_isPosition 7 = .ok (.isub, 1) := by decide +kernel
theorem dX9_isPosition_8 : decode cX9_isPosition 8 = .ok (.invokestatic 87, 3) := by decide +kernel
theorem dX9_isPosition_11 : decode cX9_isPosition 11 = .ok (.ireturn, 1) := by decide +kernel
theorem dX9_chuteAt_0 : decode cX9_chuteAt 0 = .ok (.iconst 0, 1) := by decide +kernel
theorem dX9_chuteAt_1 : decode cX9_chuteAt 1 = .ok (.istore_n 2, 1) := by decide +kernel
theorem dX9_chuteAt_2 : decode cX9_chuteAt 2 = .ok (.iload_n 2, 1) := by decide +kernel
theorem dX9_chuteAt_3 : decode cX9_chuteAt 3 = .ok (.aload_n 0, 1) := by decide +kernel
theorem dX9_chuteAt_4 : decode cX9_chuteAt 4 = .ok (.getfield 84, 3) := by decide +kernel
theorem dX9_chuteAt_7 : decode cX9_chuteAt 7 = .ok (.if_icmp .ge 21, 3) := by decide +kernel
theorem dX9_chuteAt_10 : decode cX9_chuteAt 10 = .ok (.aload_n 0, 1) := by decide +kernel
theorem dX9_chuteAt_11 : decode cX9_chuteAt 11 = .ok (.getfield 17, 3) := by decide +kernel
theorem dX9_chuteAt_14 : decode cX9_chuteAt 14 = .ok (.iload_n 2, 1) := by decide +kernel
theorem dX9_chuteAt_15 : decode cX9_chuteAt 15 = .ok (.iaload, 1) := by decide +kernel
theorem dX9_chuteAt_16 : decode cX9_chuteAt 16 = .ok (.iload_n 1, 1) := by decide +kernel
theorem dX9_chuteAt_17 : decode cX9_chuteAt 17 = .ok (.if_icmp .ne 5, 3) := by decide +kernel
theorem dX9_chuteAt_20 : decode cX9_chuteAt 20 = .ok (.iload_n 2, 1) := by decide +kernel
theorem dX9_chuteAt_21 : decode cX9_chuteAt 21 = .ok (.ireturn, 1) := by decide +kernel
theorem dX9_chuteAt_22 : decode cX9_chuteAt 22 = .ok (.iinc 2 1, 3) := by decide +kernel
theorem dX9_chuteAt_25 : decode cX9_chuteAt 25 = .ok (.goto (-23), 3) := by decide +kernel
theorem dX9_chuteAt_28 : decode cX9_chuteAt 28 = .ok (.iconst (-1), 1) := by decide +kernel
theorem dX9_chuteAt_29 : decode cX9_chuteAt 29 = .ok (.ireturn, 1) := by decide +kernel
theorem dX9_setLoop_0 : decode cX9_setLoop 0 = .ok (.aload_n 0, 1) := by decide +kernel
theorem dX9_setLoop_1 : decode cX9_setLoop 1 = .ok (.iload_n 1, 1) := by decide +kernel
theorem dX9_setLoop_2 : decode cX9_setLoop 2 = .ok (.iconst 4, 1) := by decide +kernel
theorem dX9_setLoop_3 : decode cX9_setLoop 3 = .ok (.bipush 20, 2) := by decide +kernel
theorem dX9_setLoop_5 : decode cX9_setLoop 5 = .ok (.invokestatic 87, 3) := by decide +kernel
theorem dX9_setLoop_8 : decode cX9_setLoop 8 = .ok (.ifCond .ne 7, 3) := by decide +kernel
theorem dX9_setLoop_11 : decode cX9_setLoop 11 = .ok (.iconst 1, 1) := by decide +kernel
theorem dX9_setLoop_12 : decode cX9_setLoop 12 = .ok (.goto 22, 3) := by decide +kernel
theorem dX9_setLoop_15 : decode cX9_setLoop 15 = .ok (.aload_n 0, 1) := by decide +kernel
theorem dX9_setLoop_16 : decode cX9_setLoop 16 = .ok (.getfield 84, 3) := by decide +kernel
theorem dX9_setLoop_19 : decode cX9_setLoop 19 = .ok (.ifCond .gt 10, 3) := by decide +kernel
theorem dX9_setLoop_22 : decode cX9_setLoop 22 = .ok (.aload_n 0, 1) := by decide +kernel
theorem dX9_setLoop_23 : decode cX9_setLoop 23 = .ok (.getfield 91, 3) := by decide +kernel
theorem dX9_setLoop_26 : decode cX9_setLoop 26 = .ok (.ifCond .le 7, 3) := by decide +kernel
theorem dX9_setLoop_29 : decode cX9_setLoop 29 = .ok (.iconst 2, 1) := by decide +kernel
theorem dX9_setLoop_30 : decode cX9_setLoop 30 = .ok (.goto 4, 3) := by decide +kernel
theorem dX9_setLoop_33 : decode cX9_setLoop 33 = .ok (.iconst 0, 1) := by decide +kernel
theorem dX9_setLoop_34 : decode cX9_setLoop 34 = .ok (.invokevirtual 94, 3) := by decide +kernel
theorem dX9_setLoop_37 : decode cX9_setLoop 37 = .ok (.ifCond .ne 5, 3) := by decide +kernel
theorem dX9_setLoop_40 : decode cX9_setLoop 40 = .ok (.iconst 0, 1) := by decide +kernel
theorem dX9_setLoop_41 : decode cX9_setLoop 41 = .ok (.ireturn, 1) := by decide +kernel
theorem dX9_setLoop_42 : decode cX9_setLoop 42 = .ok (.aload_n 0, 1) := by decide +kernel
theorem dX9_setLoop_43 : decode cX9_setLoop 43 = .ok (.getfield 7, 3) := by decide +kernel
theorem dX9_setLoop_46 : decode cX9_setLoop 46 = .ok (.istore_n 2, 1) := by decide +kernel
theorem dX9_setLoop_47 : decode cX9_setLoop 47 = .ok (.aload_n 0, 1) := by decide +kernel
theorem dX9_setLoop_48 : decode cX9_setLoop 48 = .ok (.iload_n 1, 1) := by decide +kernel
theorem dX9_setLoop_49 : decode cX9_setLoop 49 = .ok (.putfield 7, 3) := by decide +kernel
theorem dX9_setLoop_52 : decode cX9_setLoop 52 = .ok (.iload_n 2, 1) := by decide +kernel
theorem dX9_setLoop_53 : decode cX9_setLoop 53 = .ok (.ireturn, 1) := by decide +kernel
theorem dX9_addChute_0 : decode cX9_addChute 0 = .ok (.iload_n 1, 1) := by decide +kernel
theorem dX9_addChute_1 : decode cX9_addChute 1 = .ok (.iconst 1, 1) := by decide +kernel
theorem dX9_addChute_2 : decode cX9_addChute 2 = .ok (.aload_n 0, 1) := by decide +kernel
theorem dX9_addChute_3 : decode cX9_addChute 3 = .ok (.getfield 7, 3) := by decide +kernel
theorem dX9_addChute_6 : decode cX9_addChute 6 = .ok (.iconst 2, 1) := by decide +kernel
theorem dX9_addChute_7 : decode cX9_addChute 7 = .ok (.isub, 1) := by decide +kernel
theorem dX9_addChute_8 : decode cX9_addChute 8 = .ok (.invokestatic 87, 3) := by decide +kernel
theorem dX9_addChute_11 : decode cX9_addChute 11 = .ok (.ifCond .eq 13, 3) := by decide +kernel
theorem dX9_addChute_14 : decode cX9_addChute 14 = .ok (.iload_n 2, 1) := by decide +kernel
theorem dX9_addChute_15 : decode cX9_addChute 15 = .ok (.iconst 1, 1) := by decide +kernel
theorem dX9_addChute_16 : decode cX9_addChute 16 = .ok (.bipush 30, 2) := by decide +kernel
theorem dX9_addChute_18 : decode cX9_addChute 18 = .ok (.invokestatic 87, 3) := by decide +kernel
theorem dX9_addChute_21 : decode cX9_addChute 21 = .ok (.ifCond .ne 7, 3) := by decide +kernel
theorem dX9_addChute_24 : decode cX9_addChute 24 = .ok (.iconst 1, 1) := by decide +kernel
theorem dX9_addChute_25 : decode cX9_addChute 25 = .ok (.goto 30, 3) := by decide +kernel
theorem dX9_addChute_28 : decode cX9_addChute 28 = .ok (.aload_n 0, 1) := by decide +kernel
theorem dX9_addChute_29 : decode cX9_addChute 29 = .ok (.iload_n 1, 1) := by decide +kernel
theorem dX9_addChute_30 : decode cX9_addChute 30 = .ok (.invokevirtual 98, 3) := by decide +kernel
theorem dX9_addChute_33 : decode cX9_addChute 33 = .ok (.iconst (-1), 1) := by decide +kernel
theorem dX9_addChute_34 : decode cX9_addChute 34 = .ok (.if_icmp .eq 7, 3) := by decide +kernel
theorem dX9_addChute_37 : decode cX9_addChute 37 = .ok (.iconst 2, 1) := by decide +kernel
theorem dX9_addChute_38 : decode cX9_addChute 38 = .ok (.goto 17, 3) := by decide +kernel
theorem dX9_addChute_41 : decode cX9_addChute 41 = .ok (.aload_n 0, 1) := by decide +kernel
theorem dX9_addChute_42 : decode cX9_addChute 42 = .ok (.getfield 84, 3) := by decide +kernel
theorem dX9_addChute_45 : decode cX9_addChute 45 = .ok (.bipush 6, 2) := by decide +kernel
theorem dX9_addChute_47 : decode cX9_addChute 47 = .ok (.if_icmp .ne 7, 3) := by decide +kernel
theorem dX9_addChute_50 : decode cX9_addChute 50 = .ok (.iconst 3, 1) := by decide +kernel
theorem dX9_addChute_51 : decode cX9_addChute 51 = .ok (.goto 4, 3) := by decide +kernel
theorem dX9_addChute_54 : decode cX9_addChute 54 = .ok (.iconst 0, 1) := by decide +kernel
theorem dX9_addChute_55 : decode cX9_addChute 55 = .ok (.istore_n 3, 1) := by decide +kernel
theorem dX9_addChute_56 : decode cX9_addChute 56 = .ok (.aload_n 0, 1) := by decide +kernel
theorem dX9_addChute_57 : decode cX9_addChute 57 = .ok (.iload_n 3, 1) := by decide +kernel
theorem dX9_addChute_58 : decode cX9_addChute 58 = .ok (.invokevirtual 94, 3) := by decide +kernel
theorem dX9_addChute_61 : decode cX9_addChute 61 = .ok (.ifCond .ne 5, 3) := by decide +kernel
theorem dX9_addChute_64 : decode cX9_addChute 64 = .ok (.iconst 0, 1) := by decide +kernel
theorem dX9_addChute_65 : decode cX9_addChute 65 = .ok (.ireturn, 1) := by decide +kernel
theorem dX9_addChute_66 : decode cX9_addChute 66 = .ok (.aload_n 0, 1) := by decide +kernel
theorem dX9_addChute_67 : decode cX9_addChute 67 = .ok (.getfield 17, 3) := by decide +kernel
theorem dX9_addChute_70 : decode cX9_addChute 70 = .ok (.aload_n 0, 1) := by decide +kernel
theorem dX9_addChute_71 : decode cX9_addChute 71 = .ok (.getfield 84, 3) := by decide +kernel
theorem dX9_addChute_74 : decode cX9_addChute 74 = .ok (.iload_n 1, 1) := by decide +kernel
theorem dX9_addChute_75 : decode cX9_addChute 75 = .ok (.iastore, 1) := by decide +kernel
theorem dX9_addChute_76 : decode cX9_addChute 76 = .ok (.aload_n 0, 1) := by decide +kernel
theorem dX9_addChute_77 : decode cX9_addChute 77 = .ok (.getfield 20, 3) := by decide +kernel
theorem dX9_addChute_80 : decode cX9_addChute 80 = .ok (.aload_n 0, 1) := by decide +kernel
theorem dX9_addChute_81 : decode cX9_addChute 81 = .ok (.getfield 84, 3) := by decide +kernel
theorem dX9_addChute_84 : decode cX9_addChute 84 = .ok (.iload_n 2, 1) := by decide +kernel
theorem dX9_addChute_85 : decode cX9_addChute 85 = .ok (.iastore, 1) := by decide +kernel
theorem dX9_addChute_86 : decode cX9_addChute 86 = .ok (.aload_n 0, 1) := by decide +kernel
theorem dX9_addChute_87 : decode cX9_addChute 87 = .ok (.dup, 1) := by decide +kernel
theorem dX9_addChute_88 : decode cX9_addChute 88 = .ok (.getfield 84, 3) := by decide +kernel
theorem dX9_addChute_91 : decode cX9_addChute 91 = .ok (.iconst 1, 1) := by decide +kernel
theorem dX9_addChute_92 : decode cX9_addChute 92 = .ok (.iadd, 1) := by decide +kernel
theorem dX9_addChute_93 : decode cX9_addChute 93 = .ok (.putfield 84, 3) := by decide +kernel
theorem dX9_addChute_96 : decode cX9_addChute 96 = .ok (.aload_n 0, 1) := by decide +kernel
theorem dX9_addChute_97 : decode cX9_addChute 97 = .ok (.getfield 84, 3) := by decide +kernel
theorem dX9_addChute_100 : decode cX9_addChute 100 = .ok (.iconst 1, 1) := by decide +kernel
theorem dX9_addChute_101 : decode cX9_addChute 101 = .ok (.isub, 1) := by decide +kernel
theorem dX9_addChute_102 : decode cX9_addChute 102 = .ok (.ireturn, 1) := by decide +kernel
theorem dX9_setCapacity_0 : decode cX9_setCapacity 0 = .ok (.aload_n 0, 1) := by decide +kernel
theorem dX9_setCapacity_1 : decode cX9_setCapacity 1 = .ok (.iload_n 1, 1) := by decide +kernel
theorem dX9_setCapacity_2 : decode cX9_setCapacity 2 = .ok (.invokevirtual 102, 3) := by decide +kernel
theorem dX9_setCapacity_5 : decode cX9_setCapacity 5 = .ok (.ifCond .ne 7, 3) := by decide +kernel
theorem dX9_setCapacity_8 : decode cX9_setCapacity 8 = .ok (.iconst 1, 1) := by decide +kernel
theorem dX9_setCapacity_9 : decode cX9_setCapacity 9 = .ok (.goto 32, 3) := by decide +kernel
theorem dX9_setCapacity_12 : decode cX9_setCapacity 12 = .ok (.iload_n 2, 1) := by decide +kernel
theorem dX9_setCapacity_13 : decode cX9_setCapacity 13 = .ok (.iconst 1, 1) := by decide +kernel
theorem dX9_setCapacity_14 : decode cX9_setCapacity 14 = .ok (.bipush 30, 2) := by decide +kernel
theorem dX9_setCapacity_16 : decode cX9_setCapacity 16 = .ok (.invokestatic 87, 3) := by decide +kernel
theorem dX9_setCapacity_19 : decode cX9_setCapacity 19 = .ok (.ifCond .ne 7, 3) := by decide +kernel
theorem dX9_setCapacity_22 : decode cX9_setCapacity 22 = .ok (.iconst 2, 1) := by decide +kernel
theorem dX9_setCapacity_23 : decode cX9_setCapacity 23 = .ok (.goto 18, 3) := by decide +kernel
theorem dX9_setCapacity_26 : decode cX9_setCapacity 26 = .ok (.aload_n 0, 1) := by decide +kernel
theorem dX9_setCapacity_27 : decode cX9_setCapacity 27 = .ok (.getfield 45, 3) := by decide +kernel
theorem dX9_setCapacity_30 : decode cX9_setCapacity 30 = .ok (.iload_n 1, 1) := by decide +kernel
theorem dX9_setCapacity_31 : decode cX9_setCapacity 31 = .ok (.iaload, 1) := by decide +kernel
theorem dX9_setCapacity_32 : decode cX9_setCapacity 32 = .ok (.iload_n 2, 1) := by decide +kernel
theorem dX9_setCapacity_33 : decode cX9_setCapacity 33 = .ok (.if_icmp .le 7, 3) := by decide +kernel
theorem dX9_setCapacity_36 : decode cX9_setCapacity 36 = .ok (.iconst 3, 1) := by decide +kernel
theorem dX9_setCapacity_37 : decode cX9_setCapacity 37 = .ok (.goto 4, 3) := by decide +kernel
theorem dX9_setCapacity_40 : decode cX9_setCapacity 40 = .ok (.iconst 0, 1) := by decide +kernel
theorem dX9_setCapacity_41 : decode cX9_setCapacity 41 = .ok (.istore_n 3, 1) := by decide +kernel
theorem dX9_setCapacity_42 : decode cX9_setCapacity 42 = .ok (.aload_n 0, 1) := by decide +kernel
theorem dX9_setCapacity_43 : decode cX9_setCapacity 43 = .ok (.iload_n 3, 1) := by decide +kernel
theorem dX9_setCapacity_44 : decode cX9_setCapacity 44 = .ok (.invokevirtual 94, 3) := by decide +kernel
theorem dX9_setCapacity_47 : decode cX9_setCapacity 47 = .ok (.ifCond .ne 5, 3) := by decide +kernel
theorem dX9_setCapacity_50 : decode cX9_setCapacity 50 = .ok (.iconst 0, 1) := by decide +kernel
theorem dX9_setCapacity_51 : decode cX9_setCapacity 51 = .ok (.ireturn, 1) := by decide +kernel
theorem dX9_setCapacity_52 : decode cX9_setCapacity 52 = .ok (.aload_n 0, 1) := by decide +kernel
theorem dX9_setCapacity_53 : decode cX9_setCapacity 53 = .ok (.getfield 20, 3) := by decide +kernel
theorem dX9_setCapacity_56 : decode cX9_setCapacity 56 = .ok (.iload_n 1, 1) := by decide +kernel
theorem dX9_setCapacity_57 : decode cX9_setCapacity 57 = .ok (.iaload, 1) := by decide +kernel
theorem dX9_setCapacity_58 : decode cX9_setCapacity 58 = .ok (.istore 4, 2) := by decide +kernel
theorem dX9_setCapacity_60 : decode cX9_setCapacity 60 = .ok (.aload_n 0, 1) := by decide +kernel
theorem dX9_setCapacity_61 : decode cX9_setCapacity 61 = .ok (.getfield 20, 3) := by decide +kernel
theorem dX9_setCapacity_64 : decode cX9_setCapacity 64 = .ok (.iload_n 1, 1) := by decide +kernel
theorem dX9_setCapacity_65 : decode cX9_setCapacity 65 = .ok (.iload_n 2, 1) := by decide +kernel
theorem dX9_setCapacity_66 : decode cX9_setCapacity 66 = .ok (.iastore, 1) := by decide +kernel
theorem dX9_setCapacity_67 : decode cX9_setCapacity 67 = .ok (.iload 4, 2) := by decide +kernel
theorem dX9_setCapacity_69 : decode cX9_setCapacity 69 = .ok (.ireturn, 1) := by decide +kernel
theorem dX9_setLimit_0 : decode cX9_setLimit 0 = .ok (.aload_n 0, 1) := by decide +kernel
theorem dX9_setLimit_1 : decode cX9_setLimit 1 = .ok (.getfield 27, 3) := by decide +kernel
theorem dX9_setLimit_4 : decode cX9_setLimit 4 = .ok (.istore_n 2, 1) := by decide +kernel
theorem dX9_setLimit_5 : decode cX9_setLimit 5 = .ok (.aload_n 0, 1) := by decide +kernel
theorem dX9_setLimit_6 : decode cX9_setLimit 6 = .ok (.aload_n 0, 1) := by decide +kernel
theorem dX9_setLimit_7 : decode cX9_setLimit 7 = .ok (.iload_n 1, 1) := by decide +kernel
theorem dX9_setLimit_8 : decode cX9_setLimit 8 = .ok (.iconst 1, 1) := by decide +kernel
theorem dX9_setLimit_9 : decode cX9_setLimit 9 = .ok (.bipush 9, 2) := by decide +kernel
theorem dX9_setLimit_11 : decode cX9_setLimit 11 = .ok (.invokestatic 87, 3) := by decide +kernel
theorem dX9_setLimit_14 : decode cX9_setLimit 14 = .ok (.ifCond .eq 7, 3) := by decide +kernel
theorem dX9_setLimit_17 : decode cX9_setLimit 17 = .ok (.iconst 0, 1) := by decide +kernel
theorem dX9_setLimit_18 : decode cX9_setLimit 18 = .ok (.goto 4, 3) := by decide +kernel
theorem dX9_setLimit_21 : decode cX9_setLimit 21 = .ok (.iconst 1, 1) := by decide +kernel
theorem dX9_setLimit_22 : decode cX9_setLimit 22 = .ok (.invokevirtual 94, 3) := by decide +kernel
theorem dX9_setLimit_25 : decode cX9_setLimit 25 = .ok (.ifCond .eq 7, 3) := by decide +kernel
theorem dX9_setLimit_28 : decode cX9_setLimit 28 = .ok (.iload_n 1, 1) := by decide +kernel
theorem dX9_setLimit_29 : decode cX9_setLimit 29 = .ok (.goto 7, 3) := by decide +kernel
theorem dX9_setLimit_32 : decode cX9_setLimit 32 = .ok (.aload_n 0, 1) := by decide +kernel
theorem dX9_setLimit_33 : decode cX9_setLimit 33 = .ok (.getfield 27, 3) := by decide +kernel
theorem dX9_setLimit_36 : decode cX9_setLimit 36 = .ok (.putfield 27, 3) := by decide +kernel
theorem dX9_setLimit_39 : decode cX9_setLimit 39 = .ok (.iload_n 2, 1) := by decide +kernel
theorem dX9_setLimit_40 : decode cX9_setLimit 40 = .ok (.ireturn, 1) := by decide +kernel
theorem dX9_isStation_0 : decode cX9_isStation 0 = .ok (.iload_n 1, 1) := by decide +kernel
theorem dX9_isStation_1 : decode cX9_isStation 1 = .ok (.ifCond .eq 22, 3) := by decide +kernel
theorem dX9_isStation_4 : decode cX9_isStation 4 = .ok (.iload_n 1, 1) := by decide +kernel
theorem dX9_isStation_5 : decode cX9_isStation 5 = .ok (.aload_n 0, 1) := by decide +kernel
theorem dX9_isStation_6 : decode cX9_isStation 6 = .ok (.getfield 7, 3) := by decide +kernel
theorem dX9_isStation_9 : decode cX9_isStation 9 = .ok (.iconst 1, 1) := by decide +kernel
theorem dX9_isStation_10 : decode cX9_isStation 10 = .ok (.isub, 1) := by decide +kernel
theorem dX9_isStation_11 : decode cX9_isStation 11 = .ok (.if_icmp .eq 12, 3) := by decide +kernel
theorem dX9_isStation_14 : decode cX9_isStation 14 = .ok (.aload_n 0, 1) := by decide +kernel
theorem dX9_isStation_15 : decode cX9_isStation 15 = .ok (.iload_n 1, 1) := by decide +kernel
theorem dX9_isStation_16 : decode cX9_isStation 16 = .ok (.invokevirtual 98, 3) := by decide +kernel
theorem dX9_isStation_19 : decode cX9_isStation 19 = .ok (.iconst (-1), 1) := by decide +kernel
theorem dX9_isStation_20 : decode cX9_isStation 20 = .ok (.if_icmp .eq 7, 3) := by decide +kernel
theorem dX9_isStation_23 : decode cX9_isStation 23 = .ok (.iconst 1, 1) := by decide +kernel
theorem dX9_isStation_24 : decode cX9_isStation 24 = .ok (.goto 4, 3) := by decide +kernel
theorem dX9_isStation_27 : decode cX9_isStation 27 = .ok (.iconst 0, 1) := by decide +kernel
theorem dX9_isStation_28 : decode cX9_isStation 28 = .ok (.ireturn, 1) := by decide +kernel
theorem dX9_isJammedAt_0 : decode cX9_isJammedAt 0 = .ok (.iload_n 1, 1) := by decide +kernel
theorem dX9_isJammedAt_1 : decode cX9_isJammedAt 1 = .ok (.ifCond .ne 10, 3) := by decide +kernel
theorem dX9_isJammedAt_4 : decode cX9_isJammedAt 4 = .ok (.aload_n 0, 1) := by decide +kernel
theorem dX9_isJammedAt_5 : decode cX9_isJammedAt 5 = .ok (.getfield 105, 3) := by decide +kernel
theorem dX9_isJammedAt_8 : decode cX9_isJammedAt 8 = .ok (.goto 30, 3) := by decide +kernel
theorem dX9_isJammedAt_11 : decode cX9_isJammedAt 11 = .ok (.iload_n 1, 1) := by decide +kernel
theorem dX9_isJammedAt_12 : decode cX9_isJammedAt 12 = .ok (.aload_n 0, 1) := by decide +kernel
theorem dX9_isJammedAt_13 : decode cX9_isJammedAt 13 = .ok (.getfield 7, 3) := by decide +kernel
theorem dX9_isJammedAt_16 : decode cX9_isJammedAt 16 = .ok (.iconst 1, 1) := by decide +kernel
theorem dX9_isJammedAt_17 : decode cX9_isJammedAt 17 = .ok (.isub, 1) := by decide +kernel
theorem dX9_isJammedAt_18 : decode cX9_isJammedAt 18 = .ok (.if_icmp .ne 10, 3) := by decide +kernel
theorem dX9_isJammedAt_21 : decode cX9_isJammedAt 21 = .ok (.aload_n 0, 1) := by decide +kernel
theorem dX9_isJammedAt_22 : decode cX9_isJammedAt 22 = .ok (.getfield 109, 3) := by decide +kernel
theorem dX9_isJammedAt_25 : decode cX9_isJammedAt 25 = .ok (.goto 13, 3) := by decide +kernel
theorem dX9_isJammedAt_28 : decode cX9_isJammedAt 28 = .ok (.aload_n 0, 1) := by decide +kernel
theorem dX9_isJammedAt_29 : decode cX9_isJammedAt 29 = .ok (.getfield 23, 3) := by decide +kernel
theorem dX9_isJammedAt_32 : decode cX9_isJammedAt 32 = .ok (.aload_n 0, 1) := by decide +kernel
theorem dX9_isJammedAt_33 : decode cX9_isJammedAt 33 = .ok (.iload_n 1, 1) := by decide +kernel
theorem dX9_isJammedAt_34 : decode cX9_isJammedAt 34 = .ok (.invokevirtual 98, 3) := by decide +kernel
theorem dX9_isJammedAt_37 : decode cX9_isJammedAt 37 = .ok (.baload, 1) := by decide +kernel
theorem dX9_isJammedAt_38 : decode cX9_isJammedAt 38 = .ok (.ireturn, 1) := by decide +kernel
theorem dX9_sets_0 : decode cX9_sets 0 = .ok (.iload_n 1, 1) := by decide +kernel
theorem dX9_sets_1 : decode cX9_sets 1 = .ok (.ifCond .ne 11, 3) := by decide +kernel
theorem dX9_sets_4 : decode cX9_sets 4 = .ok (.aload_n 0, 1) := by decide +kernel
theorem dX9_sets_5 : decode cX9_sets 5 = .ok (.iload_n 2, 1) := by decide +kernel
theorem dX9_sets_6 : decode cX9_sets 6 = .ok (.putfield 105, 3) := by decide +kernel
theorem dX9_sets_9 : decode cX9_sets 9 = .ok (.goto 32, 3) := by decide +kernel
theorem dX9_sets_12 : decode cX9_sets 12 = .ok (.iload_n 1, 1) := by decide +kernel
theorem dX9_sets_13 : decode cX9_sets 13 = .ok (.aload_n 0, 1) := by decide +kernel
theorem dX9_sets_14 : decode cX9_sets 14 = .ok (.getfield 7, 3) := by decide +kernel
theorem dX9_sets_17 : decode cX9_sets 17 = .ok (.iconst 1, 1) := by decide +kernel
theorem dX9_sets_18 : decode cX9_sets 18 = .ok (.isub, 1) := by decide +kernel
theorem dX9_sets_19 : decode cX9_sets 19 = .ok (.if_icmp .ne 11, 3) := by decide +kernel
theorem dX9_sets_22 : decode cX9_sets 22 = .ok (.aload_n 0, 1) := by decide +kernel
theorem dX9_sets_23 : decode cX9_sets 23 = .ok (.iload_n 2, 1) := by decide +kernel
theorem dX9_sets_24 : decode cX9_sets 24 = .ok (.putfield 109, 3) := by decide +kernel
theorem dX9_sets_27 : decode cX9_sets 27 = .ok (.goto 14, 3) := by decide +kernel
theorem dX9_sets_30 : decode cX9_sets 30 = .ok (.aload_n 0, 1) := by decide +kernel
theorem dX9_sets_31 : decode cX9_sets 31 = .ok (.getfield 23, 3) := by decide +kernel
theorem dX9_sets_34 : decode cX9_sets 34 = .ok (.aload_n 0, 1) := by decide +kernel
theorem dX9_sets_35 : decode cX9_sets 35 = .ok (.iload_n 1, 1) := by decide +kernel
theorem dX9_sets_36 : decode cX9_sets 36 = .ok (.invokevirtual 98, 3) := by decide +kernel
theorem dX9_sets_39 : decode cX9_sets 39 = .ok (.iload_n 2, 1) := by decide +kernel
theorem dX9_sets_40 : decode cX9_sets 40 = .ok (.bastore, 1) := by decide +kernel
theorem dX9_sets_41 : decode cX9_sets 41 = .ok (.return_, 1) := by decide +kernel
theorem dX9_jams_0 : decode cX9_jams 0 = .ok (.aload_n 0, 1) := by decide +kernel
theorem dX9_jams_1 : decode cX9_jams 1 = .ok (.getfield 105, 3) := by decide +kernel
theorem dX9_jams_4 : decode cX9_jams 4 = .ok (.ifCond .eq 7, 3) := by decide +kernel
theorem dX9_jams_7 : decode cX9_jams 7 = .ok (.iconst 1, 1) := by decide +kernel
theorem dX9_jams_8 : decode cX9_jams 8 = .ok (.goto 4, 3) := by decide +kernel
theorem dX9_jams_11 : decode cX9_jams 11 = .ok (.iconst 0, 1) := by decide +kernel
theorem dX9_jams_12 : decode cX9_jams 12 = .ok (.aload_n 0, 1) := by decide +kernel
theorem dX9_jams_13 : decode cX9_jams 13 = .ok (.getfield 109, 3) := by decide +kernel
theorem dX9_jams_16 : decode cX9_jams 16 = .ok (.ifCond .eq 7, 3) := by decide +kernel
theorem dX9_jams_19 : decode cX9_jams 19 = .ok (.iconst 1, 1) := by decide +kernel
theorem dX9_jams_20 : decode cX9_jams 20 = .ok (.goto 4, 3) := by decide +kernel
theorem dX9_jams_23 : decode cX9_jams 23 = .ok (.iconst 0, 1) := by decide +kernel
theorem dX9_jams_24 : decode cX9_jams 24 = .ok (.iadd, 1) := by decide +kernel
theorem dX9_jams_25 : decode cX9_jams 25 = .ok (.istore_n 1, 1) := by decide +kernel
theorem dX9_jams_26 : decode cX9_jams 26 = .ok (.iconst 0, 1) := by decide +kernel
theorem dX9_jams_27 : decode cX9_jams 27 = .ok (.istore_n 2, 1) := by decide +kernel
theorem dX9_jams_28 : decode cX9_jams 28 = .ok (.iload_n 2, 1) := by decide +kernel
theorem dX9_jams_29 : decode cX9_jams 29 = .ok (.aload_n 0, 1) := by decide +kernel
theorem dX9_jams_30 : decode cX9_jams 30 = .ok (.getfield 84, 3) := by decide +kernel
theorem dX9_jams_33 : decode cX9_jams 33 = .ok (.if_icmp .ge 26, 3) := by decide +kernel
theorem dX9_jams_36 : decode cX9_jams 36 = .ok (.iload_n 1, 1) := by decide +kernel
theorem dX9_jams_37 : decode cX9_jams 37 = .ok (.aload_n 0, 1) := by decide +kernel
theorem dX9_jams_38 : decode cX9_jams 38 = .ok (.getfield 23, 3) := by decide +kernel
theorem dX9_jams_41 : decode cX9_jams 41 = .ok (.iload_n 2, 1) := by decide +kernel
theorem dX9_jams_42 : decode cX9_jams 42 = .ok (.baload, 1) := by decide +kernel
theorem dX9_jams_43 : decode cX9_jams 43 = .ok (.ifCond .eq 7, 3) := by decide +kernel
theorem dX9_jams_46 : decode cX9_jams 46 = .ok (.iconst 1, 1) := by decide +kernel
theorem dX9_jams_47 : decode cX9_jams 47 = .ok (.goto 4, 3) := by decide +kernel
theorem dX9_jams_50 : decode cX9_jams 50 = .ok (.iconst 0, 1) := by decide +kernel
theorem dX9_jams_51 : decode cX9_jams 51 = .ok (.iadd, 1) := by decide +kernel
theorem dX9_jams_52 : decode cX9_jams 52 = .ok (.istore_n 1, 1) := by decide +kernel
theorem dX9_jams_53 : decode cX9_jams 53 = .ok (.iinc 2 1, 3) := by decide +kernel
theorem dX9_jams_56 : decode cX9_jams 56 = .ok (.goto (-28), 3) := by decide +kernel
theorem dX9_jams_59 : decode cX9_jams 59 = .ok (.iload_n 1, 1) := by decide +kernel
theorem dX9_jams_60 : decode cX9_jams 60 = .ok (.ireturn, 1) := by decide +kernel
theorem dX9_jam_0 : decode cX9_jam 0 = .ok (.aload_n 0, 1) := by decide +kernel
theorem dX9_jam_1 : decode cX9_jam 1 = .ok (.aload_n 0, 1) := by decide +kernel
theorem dX9_jam_2 : decode cX9_jam 2 = .ok (.iload_n 1, 1) := by decide +kernel
theorem dX9_jam_3 : decode cX9_jam 3 = .ok (.invokevirtual 112, 3) := by decide +kernel
theorem dX9_jam_6 : decode cX9_jam 6 = .ok (.ifCond .ne 7, 3) := by decide +kernel
theorem dX9_jam_9 : decode cX9_jam 9 = .ok (.iconst 1, 1) := by decide +kernel
theorem dX9_jam_10 : decode cX9_jam 10 = .ok (.goto 16, 3) := by decide +kernel
theorem dX9_jam_13 : decode cX9_jam 13 = .ok (.aload_n 0, 1) := by decide +kernel
theorem dX9_jam_14 : decode cX9_jam 14 = .ok (.iload_n 1, 1) := by decide +kernel
theorem dX9_jam_15 : decode cX9_jam 15 = .ok (.invokevirtual 115, 3) := by decide +kernel
theorem dX9_jam_18 : decode cX9_jam 18 = .ok (.ifCond .eq 7, 3) := by decide +kernel
theorem dX9_jam_21 : decode cX9_jam 21 = .ok (.iconst 2, 1) := by decide +kernel
theorem dX9_jam_22 : decode cX9_jam 22 = .ok (.goto 4, 3) := by decide +kernel
theorem dX9_jam_25 : decode cX9_jam 25 = .ok (.iconst 0, 1) := by decide +kernel
theorem dX9_jam_26 : decode cX9_jam 26 = .ok (.invokevirtual 94, 3) := by decide +kernel
theorem dX9_jam_29 : decode cX9_jam 29 = .ok (.ifCond .ne 5, 3) := by decide +kernel
theorem dX9_jam_32 : decode cX9_jam 32 = .ok (.iconst 0, 1) := by decide +kernel
theorem dX9_jam_33 : decode cX9_jam 33 = .ok (.ireturn, 1) := by decide +kernel
theorem dX9_jam_34 : decode cX9_jam 34 = .ok (.aload_n 0, 1) := by decide +kernel
theorem dX9_jam_35 : decode cX9_jam 35 = .ok (.iload_n 1, 1) := by decide +kernel
theorem dX9_jam_36 : decode cX9_jam 36 = .ok (.iconst 1, 1) := by decide +kernel
theorem dX9_jam_37 : decode cX9_jam 37 = .ok (.invokevirtual 118, 3) := by decide +kernel
theorem dX9_jam_40 : decode cX9_jam 40 = .ok (.aload_n 0, 1) := by decide +kernel
theorem dX9_jam_41 : decode cX9_jam 41 = .ok (.invokevirtual 122, 3) := by decide +kernel
theorem dX9_jam_44 : decode cX9_jam 44 = .ok (.ireturn, 1) := by decide +kernel
theorem dX9_free_0 : decode cX9_free 0 = .ok (.aload_n 0, 1) := by decide +kernel
theorem dX9_free_1 : decode cX9_free 1 = .ok (.aload_n 0, 1) := by decide +kernel
theorem dX9_free_2 : decode cX9_free 2 = .ok (.iload_n 1, 1) := by decide +kernel
theorem dX9_free_3 : decode cX9_free 3 = .ok (.invokevirtual 112, 3) := by decide +kernel
theorem dX9_free_6 : decode cX9_free 6 = .ok (.ifCond .ne 7, 3) := by decide +kernel
theorem dX9_free_9 : decode cX9_free 9 = .ok (.iconst 1, 1) := by decide +kernel
theorem dX9_free_10 : decode cX9_free 10 = .ok (.goto 16, 3) := by decide +kernel
theorem dX9_free_13 : decode cX9_free 13 = .ok (.aload_n 0, 1) := by decide +kernel
theorem dX9_free_14 : decode cX9_free 14 = .ok (.iload_n 1, 1) := by decide +kernel
theorem dX9_free_15 : decode cX9_free 15 = .ok (.invokevirtual 115, 3) := by decide +kernel
theorem dX9_free_18 : decode cX9_free 18 = .ok (.ifCond .ne 7, 3) := by decide +kernel
theorem dX9_free_21 : decode cX9_free 21 = .ok (.iconst 2, 1) := by decide +kernel
theorem dX9_free_22 : decode cX9_free 22 = .ok (.goto 4, 3) := by decide +kernel
theorem dX9_free_25 : decode cX9_free 25 = .ok (.iconst 0, 1) := by decide +kernel
theorem dX9_free_26 : decode cX9_free 26 = .ok (.invokevirtual 94, 3) := by decide +kernel
theorem dX9_free_29 : decode cX9_free 29 = .ok (.ifCond .ne 5, 3) := by decide +kernel
theorem dX9_free_32 : decode cX9_free 32 = .ok (.iconst 0, 1) := by decide +kernel
theorem dX9_free_33 : decode cX9_free 33 = .ok (.ireturn, 1) := by decide +kernel
theorem dX9_free_34 : decode cX9_free 34 = .ok (.aload_n 0, 1) := by decide +kernel
theorem dX9_free_35 : decode cX9_free 35 = .ok (.iload_n 1, 1) := by decide +kernel
theorem dX9_free_36 : decode cX9_free 36 = .ok (.iconst 0, 1) := by decide +kernel
theorem dX9_free_37 : decode cX9_free 37 = .ok (.invokevirtual 118, 3) := by decide +kernel
theorem dX9_free_40 : decode cX9_free 40 = .ok (.aload_n 0, 1) := by decide +kernel
theorem dX9_free_41 : decode cX9_free 41 = .ok (.invokevirtual 122, 3) := by decide +kernel
theorem dX9_free_44 : decode cX9_free 44 = .ok (.ireturn, 1) := by decide +kernel
theorem dX9_stationAt_0 : decode cX9_stationAt 0 = .ok (.aload_n 0, 1) := by decide +kernel
theorem dX9_stationAt_1 : decode cX9_stationAt 1 = .ok (.aload_n 0, 1) := by decide +kernel
theorem dX9_stationAt_2 : decode cX9_stationAt 2 = .ok (.iload_n 1, 1) := by decide +kernel
theorem dX9_stationAt_3 : decode cX9_stationAt 3 = .ok (.invokevirtual 126, 3) := by decide +kernel
theorem dX9_stationAt_6 : decode cX9_stationAt 6 = .ok (.ifCond .eq 7, 3) := by decide +kernel
theorem dX9_stationAt_9 : decode cX9_stationAt 9 = .ok (.iconst 0, 1) := by decide +kernel
theorem dX9_stationAt_10 : decode cX9_stationAt 10 = .ok (.goto 4, 3) := by decide +kernel
theorem dX9_stationAt_13 : decode cX9_stationAt 13 = .ok (.iconst 1, 1) := by decide +kernel
theorem dX9_stationAt_14 : decode cX9_stationAt 14 = .ok (.invokevirtual 94, 3) := by decide +kernel
theorem dX9_stationAt_17 : decode cX9_stationAt 17 = .ok (.ifCond .ne 5, 3) := by decide +kernel
theorem dX9_stationAt_20 : decode cX9_stationAt 20 = .ok (.iconst 0, 1) := by decide +kernel
theorem dX9_stationAt_21 : decode cX9_stationAt 21 = .ok (.ireturn, 1) := by decide +kernel
theorem dX9_stationAt_22 : decode cX9_stationAt 22 = .ok (.iload_n 1, 1) := by decide +kernel
theorem dX9_stationAt_23 : decode cX9_stationAt 23 = .ok (.ifCond .ne 8, 3) := by decide +kernel
theorem dX9_stationAt_26 : decode cX9_stationAt 26 = .ok (.bipush 105, 2) := by decide +kernel
theorem dX9_stationAt_28 : decode cX9_stationAt 28 = .ok (.goto 34, 3) := by decide +kernel
theorem dX9_stationAt_31 : decode cX9_stationAt 31 = .ok (.iload_n 1, 1) := by decide +kernel
theorem dX9_stationAt_32 : decode cX9_stationAt 32 = .ok (.aload_n 0, 1) := by decide +kernel
theorem dX9_stationAt_33 : decode cX9_stationAt 33 = .ok (.getfield 7, 3) := by decide +kernel
theorem dX9_stationAt_36 : decode cX9_stationAt 36 = .ok (.iconst 1, 1) := by decide +kernel
theorem dX9_stationAt_37 : decode cX9_stationAt 37 = .ok (.isub, 1) := by decide +kernel
theorem dX9_stationAt_38 : decode cX9_stationAt 38 = .ok (.if_icmp .ne 8, 3) := by decide +kernel
theorem dX9_stationAt_41 : decode cX9_stationAt 41 = .ok (.bipush 111, 2) := by decide +kernel
theorem dX9_stationAt_43 : decode cX9_stationAt 43 = .ok (.goto 19, 3) := by decide +kernel
theorem dX9_stationAt_46 : decode cX9_stationAt 46 = .ok (.aload_n 0, 1) := by decide +kernel
theorem dX9_stationAt_47 : decode cX9_stationAt 47 = .ok (.iload_n 1, 1) := by decide +kernel
theorem dX9_stationAt_48 : decode cX9_stationAt 48 = .ok (.invokevirtual 98, 3) := by decide +kernel
theorem dX9_stationAt_51 : decode cX9_stationAt 51 = .ok (.iconst (-1), 1) := by decide +kernel
theorem dX9_stationAt_52 : decode cX9_stationAt 52 = .ok (.if_icmp .eq 8, 3) := by decide +kernel
theorem dX9_stationAt_55 : decode cX9_stationAt 55 = .ok (.bipush 99, 2) := by decide +kernel
theorem dX9_stationAt_57 : decode cX9_stationAt 57 = .ok (.goto 5, 3) := by decide +kernel
theorem dX9_stationAt_60 : decode cX9_stationAt 60 = .ok (.bipush 45, 2) := by decide +kernel
theorem dX9_stationAt_62 : decode cX9_stationAt 62 = .ok (.ireturn, 1) := by decide +kernel
theorem dX9_moves_0 : decode cX9_moves 0 = .ok (.aload_n 0, 1) := by decide +kernel
theorem dX9_moves_1 : decode cX9_moves 1 = .ok (.getfield 13, 3) := by decide +kernel
theorem dX9_moves_4 : decode cX9_moves 4 = .ok (.aload_n 0, 1) := by decide +kernel
theorem dX9_moves_5 : decode cX9_moves 5 = .ok (.getfield 7, 3) := by decide +kernel
theorem dX9_moves_8 : decode cX9_moves 8 = .ok (.iconst 1, 1) := by decide +kernel
theorem dX9_moves_9 : decode cX9_moves 9 = .ok (.isub, 1) := by decide +kernel
theorem dX9_moves_10 : decode cX9_moves 10 = .ok (.iaload, 1) := by decide +kernel
theorem dX9_moves_11 : decode cX9_moves 11 = .ok (.istore_n 1, 1) := by decide +kernel
theorem dX9_moves_12 : decode cX9_moves 12 = .ok (.aload_n 0, 1) := by decide +kernel
theorem dX9_moves_13 : decode cX9_moves 13 = .ok (.getfield 7, 3) := by decide +kernel
theorem dX9_moves_16 : decode cX9_moves 16 = .ok (.iconst 1, 1) := by decide +kernel
theorem dX9_moves_17 : decode cX9_moves 17 = .ok (.isub, 1) := by decide +kernel
theorem dX9_moves_18 : decode cX9_moves 18 = .ok (.istore_n 2, 1) := by decide +kernel
theorem dX9_moves_19 : decode cX9_moves 19 = .ok (.iload_n 2, 1) := by decide +kernel
theorem dX9_moves_20 : decode cX9_moves 20 = .ok (.ifCond .le 23, 3) := by decide +kernel
theorem dX9_moves_23 : decode cX9_moves 23 = .ok (.aload_n 0, 1) := by decide +kernel
theorem dX9_moves_24 : decode cX9_moves 24 = .ok (.getfield 13, 3) := by decide +kernel
theorem dX9_moves_27 : decode cX9_moves 27 = .ok (.iload_n 2, 1) := by decide +kernel
theorem dX9_moves_28 : decode cX9_moves 28 = .ok (.aload_n 0, 1) := by decide +kernel
theorem dX9_moves_29 : decode cX9_moves 29 = .ok (.getfield 13, 3) := by decide +kernel
theorem dX9_moves_32 : decode cX9_moves 32 = .ok (.iload_n 2, 1) := by decide +kernel
theorem dX9_moves_33 : decode cX9_moves 33 = .ok (.iconst 1, 1) := by decide +kernel
theorem dX9_moves_34 : decode cX9_moves 34 = .ok (.isub, 1) := by decide +kernel
theorem dX9_moves_35 : decode cX9_moves 35 = .ok (.iaload, 1) := by decide +kernel
theorem dX9_moves_36 : decode cX9_moves 36 = .ok (.iastore, 1) := by decide +kernel
theorem dX9_moves_37 : decode cX9_moves 37 = .ok (.iinc 2 (-1), 3) := by decide +kernel
theorem dX9_moves_40 : decode cX9_moves 40 = .ok (.goto (-21), 3) := by decide +kernel
theorem dX9_moves_43 : decode cX9_moves 43 = .ok (.aload_n 0, 1) := by decide +kernel
theorem dX9_moves_44 : decode cX9_moves 44 = .ok (.getfield 13, 3) := by decide +kernel
theorem dX9_moves_47 : decode cX9_moves 47 = .ok (.iconst 0, 1) := by decide +kernel
theorem dX9_moves_48 : decode cX9_moves 48 = .ok (.iload_n 1, 1) := by decide +kernel
theorem dX9_moves_49 : decode cX9_moves 49 = .ok (.iastore, 1) := by decide +kernel
theorem dX9_moves_50 : decode cX9_moves 50 = .ok (.iload_n 1, 1) := by decide +kernel
theorem dX9_moves_51 : decode cX9_moves 51 = .ok (.iconst (-1), 1) := by decide +kernel
theorem dX9_moves_52 : decode cX9_moves 52 = .ok (.if_icmp .eq 13, 3) := by decide +kernel
theorem dX9_moves_55 : decode cX9_moves 55 = .ok (.aload_n 0, 1) := by decide +kernel
theorem dX9_moves_56 : decode cX9_moves 56 = .ok (.getfield 39, 3) := by decide +kernel
theorem dX9_moves_59 : decode cX9_moves 59 = .ok (.iload_n 1, 1) := by decide +kernel
theorem dX9_moves_60 : decode cX9_moves 60 = .ok (.dup2, 1) := by decide +kernel
theorem dX9_moves_61 : decode cX9_moves 61 = .ok (.iaload, 1) := by decide +kernel
theorem dX9_moves_62 : decode cX9_moves 62 = .ok (.iconst 1, 1) := by decide +kernel
theorem dX9_moves_63 : decode cX9_moves 63 = .ok (.iadd, 1) := by decide +kernel
theorem dX9_moves_64 : decode cX9_moves 64 = .ok (.iastore, 1) := by decide +kernel
theorem dX9_moves_65 : decode cX9_moves 65 = .ok (.return_, 1) := by decide +kernel
theorem dX9_drops_0 : decode cX9_drops 0 = .ok (.aload_n 0, 1) := by decide +kernel
theorem dX9_drops_1 : decode cX9_drops 1 = .ok (.getfield 13, 3) := by decide +kernel
theorem dX9_drops_4 : decode cX9_drops 4 = .ok (.aload_n 0, 1) := by decide +kernel
theorem dX9_drops_5 : decode cX9_drops 5 = .ok (.getfield 17, 3) := by decide +kernel
theorem dX9_drops_8 : decode cX9_drops 8 = .ok (.iload_n 1, 1) := by decide +kernel
theorem dX9_drops_9 : decode cX9_drops 9 = .ok (.iaload, 1) := by decide +kernel
theorem dX9_drops_10 : decode cX9_drops 10 = .ok (.iaload, 1) := by decide +kernel
theorem dX9_drops_11 : decode cX9_drops 11 = .ok (.istore_n 2, 1) := by decide +kernel
theorem dX9_drops_12 : decode cX9_drops 12 = .ok (.iload_n 2, 1) := by decide +kernel
theorem dX9_drops_13 : decode cX9_drops 13 = .ok (.iconst (-1), 1) := by decide +kernel
theorem dX9_drops_14 : decode cX9_drops 14 = .ok (.if_icmp .eq 46, 3) := by decide +kernel
theorem dX9_drops_17 : decode cX9_drops 17 = .ok (.aload_n 0, 1) := by decide +kernel
theorem dX9_drops_18 : decode cX9_drops 18 = .ok (.getfield 23, 3) := by decide +kernel
theorem dX9_drops_21 : decode cX9_drops 21 = .ok (.iload_n 1, 1) := by decide +kernel
theorem dX9_drops_22 : decode cX9_drops 22 = .ok (.baload, 1) := by decide +kernel
theorem dX9_drops_23 : decode cX9_drops 23 = .ok (.ifCond .ne 37, 3) := by decide +kernel
theorem dX9_drops_26 : decode cX9_drops 26 = .ok (.aload_n 0, 1) := by decide +kernel
theorem dX9_drops_27 : decode cX9_drops 27 = .ok (.getfield 42, 3) := by decide +kernel
theorem dX9_drops_30 : decode cX9_drops 30 = .ok (.aload_n 0, 1) := by decide +kernel
theorem dX9_drops_31 : decode cX9_drops 31 = .ok (.getfield 30, 3) := by decide +kernel
theorem dX9_drops_34 : decode cX9_drops 34 = .ok (.iload_n 2, 1) := by decide +kernel
theorem dX9_drops_35 : decode cX9_drops 35 = .ok (.iaload, 1) := by decide +kernel
theorem dX9_drops_36 : decode cX9_drops 36 = .ok (.iaload, 1) := by decide +kernel
theorem dX9_drops_37 : decode cX9_drops 37 = .ok (.iload_n 1, 1) := by decide +kernel
theorem dX9_drops_38 : decode cX9_drops 38 = .ok (.if_icmp .ne 22, 3) := by decide +kernel
theorem dX9_drops_41 : decode cX9_drops 41 = .ok (.aload_n 0, 1) := by decide +kernel
theorem dX9_drops_42 : decode cX9_drops 42 = .ok (.getfield 45, 3) := by decide +kernel
theorem dX9_drops_45 : decode cX9_drops 45 = .ok (.iload_n 1, 1) := by decide +kernel
theorem dX9_drops_46 : decode cX9_drops 46 = .ok (.iaload, 1) := by decide +kernel
theorem dX9_drops_47 : decode cX9_drops 47 = .ok (.aload_n 0, 1) := by decide +kernel
theorem dX9_drops_48 : decode cX9_drops 48 = .ok (.getfield 20, 3) := by decide +kernel
theorem dX9_drops_51 : decode cX9_drops 51 = .ok (.iload_n 1, 1) := by decide +kernel
theorem dX9_drops_52 : decode cX9_drops 52 = .ok (.iaload, 1) := by decide +kernel
theorem dX9_drops_53 : decode cX9_drops 53 = .ok (.if_icmp .ge 7, 3) := by decide +kernel
theorem dX9_drops_56 : decode cX9_drops 56 = .ok (.iconst 1, 1) := by decide +kernel
theorem dX9_drops_57 : decode cX9_drops 57 = .ok (.goto 4, 3) := by decide +kernel
theorem dX9_drops_60 : decode cX9_drops 60 = .ok (.iconst 0, 1) := by decide +kernel
theorem dX9_drops_61 : decode cX9_drops 61 = .ok (.ireturn, 1) := by decide +kernel
theorem dX9_overflows_0 : decode cX9_overflows 0 = .ok (.aload_n 0, 1) := by decide +kernel
theorem dX9_overflows_1 : decode cX9_overflows 1 = .ok (.getfield 13, 3) := by decide +kernel
theorem dX9_overflows_4 : decode cX9_overflows 4 = .ok (.aload_n 0, 1) := by decide +kernel
theorem dX9_overflows_5 : decode cX9_overflows 5 = .ok (.getfield 7, 3) := by decide +kernel
theorem dX9_overflows_8 : decode cX9_overflows 8 = .ok (.iconst 1, 1) := by decide +kernel
theorem dX9_overflows_9 : decode cX9_overflows 9 = .ok (.isub, 1) := by decide +kernel
theorem dX9_overflows_10 : decode cX9_overflows 10 = .ok (.iaload, 1) := by decide +kernel
theorem dX9_overflows_11 : decode cX9_overflows 11 = .ok (.istore_n 1, 1) := by decide +kernel
theorem dX9_overflows_12 : decode cX9_overflows 12 = .ok (.iload_n 1, 1) := by decide +kernel
theorem dX9_overflows_13 : decode cX9_overflows 13 = .ok (.iconst (-1), 1) := by decide +kernel
theorem dX9_overflows_14 : decode cX9_overflows 14 = .ok (.if_icmp .eq 27, 3) := by decide +kernel
theorem dX9_overflows_17 : decode cX9_overflows 17 = .ok (.aload_n 0, 1) := by decide +kernel
theorem dX9_overflows_18 : decode cX9_overflows 18 = .ok (.getfield 109, 3) := by decide +kernel
theorem dX9_overflows_21 : decode cX9_overflows 21 = .ok (.ifCond .ne 20, 3) := by decide +kernel
theorem dX9_overflows_24 : decode cX9_overflows 24 = .ok (.aload_n 0, 1) := by decide +kernel
theorem dX9_overflows_25 : decode cX9_overflows 25 = .ok (.getfield 39, 3) := by decide +kernel
theorem dX9_overflows_28 : decode cX9_overflows 28 = .ok (.iload_n 1, 1) := by decide +kernel
theorem dX9_overflows_29 : decode cX9_overflows 29 = .ok (.iaload, 1) := by decide +kernel
theorem dX9_overflows_30 : decode cX9_overflows 30 = .ok (.aload_n 0, 1) := by decide +kernel
theorem dX9_overflows_31 : decode cX9_overflows 31 = .ok (.getfield 27, 3) := by decide +kernel
theorem dX9_overflows_34 : decode cX9_overflows 34 = .ok (.if_icmp .lt 7, 3) := by decide +kernel
theorem dX9_overflows_37 : decode cX9_overflows 37 = .ok (.iconst 1, 1) := by decide +kernel
theorem dX9_overflows_38 : decode cX9_overflows 38 = .ok (.goto 4, 3) := by decide +kernel
theorem dX9_overflows_41 : decode cX9_overflows 41 = .ok (.iconst 0, 1) := by decide +kernel
theorem dX9_overflows_42 : decode cX9_overflows 42 = .ok (.ireturn, 1) := by decide +kernel
theorem dX9_leaves_0 : decode cX9_leaves 0 = .ok (.aload_n 0, 1) := by decide +kernel
theorem dX9_leaves_1 : decode cX9_leaves 1 = .ok (.getfield 36, 3) := by decide +kernel
theorem dX9_leaves_4 : decode cX9_leaves 4 = .ok (.iload_n 1, 1) := by decide +kernel
theorem dX9_leaves_5 : decode cX9_leaves 5 = .ok (.iload_n 2, 1) := by decide +kernel
theorem dX9_leaves_6 : decode cX9_leaves 6 = .ok (.iastore, 1) := by decide +kernel
theorem dX9_leaves_7 : decode cX9_leaves 7 = .ok (.aload_n 0, 1) := by decide +kernel
theorem dX9_leaves_8 : decode cX9_leaves 8 = .ok (.dup, 1) := by decide +kernel
theorem dX9_leaves_9 : decode cX9_leaves 9 = .ok (.getfield 129, 3) := by decide +kernel
theorem dX9_leaves_12 : decode cX9_leaves 12 = .ok (.iconst 1, 1) := by decide +kernel
theorem dX9_leaves_13 : decode cX9_leaves 13 = .ok (.iadd, 1) := by decide +kernel
theorem dX9_leaves_14 : decode cX9_leaves 14 = .ok (.putfield 129, 3) := by decide +kernel
theorem dX9_leaves_17 : decode cX9_leaves 17 = .ok (.aload_n 0, 1) := by decide +kernel
theorem dX9_leaves_18 : decode cX9_leaves 18 = .ok (.dup, 1) := by decide +kernel
theorem dX9_leaves_19 : decode cX9_leaves 19 = .ok (.getfield 132, 3) := by decide +kernel
theorem dX9_leaves_22 : decode cX9_leaves 22 = .ok (.aload_n 0, 1) := by decide +kernel
theorem dX9_leaves_23 : decode cX9_leaves 23 = .ok (.getfield 39, 3) := by decide +kernel
theorem dX9_leaves_26 : decode cX9_leaves 26 = .ok (.iload_n 1, 1) := by decide +kernel
theorem dX9_leaves_27 : decode cX9_leaves 27 = .ok (.iaload, 1) := by decide +kernel
theorem dX9_leaves_28 : decode cX9_leaves 28 = .ok (.iadd, 1) := by decide +kernel
theorem dX9_leaves_29 : decode cX9_leaves 29 = .ok (.putfield 132, 3) := by decide +kernel
theorem dX9_leaves_32 : decode cX9_leaves 32 = .ok (.return_, 1) := by decide +kernel
theorem dX9_passesOne_0 : decode cX9_passesOne 0 = .ok (.aload_n 0, 1) := by decide +kernel
theorem dX9_passesOne_1 : decode cX9_passesOne 1 = .ok (.getfield 129, 3) := by decide +kernel
theorem dX9_passesOne_4 : decode cX9_passesOne 4 = .ok (.istore_n 1, 1) := by decide +kernel
theorem dX9_passesOne_5 : decode cX9_passesOne 5 = .ok (.aload_n 0, 1) := by decide +kernel
theorem dX9_passesOne_6 : decode cX9_passesOne 6 = .ok (.dup, 1) := by decide +kernel
theorem dX9_passesOne_7 : decode cX9_passesOne 7 = .ok (.getfield 135, 3) := by decide +kernel
theorem dX9_passesOne_10 : decode cX9_passesOne 10 = .ok (.lconst 1, 1) := by decide +kernel
theorem dX9_passesOne_11 : decode cX9_passesOne 11 = .ok (.ladd, 1) := by decide +kernel
theorem dX9_passesOne_12 : decode cX9_passesOne 12 = .ok (.putfield 135, 3) := by decide +kernel
theorem dX9_passesOne_15 : decode cX9_passesOne 15 = .ok (.aload_n 0, 1) := by decide +kernel
theorem dX9_passesOne_16 : decode cX9_passesOne 16 = .ok (.invokevirtual 139, 3) := by decide +kernel
theorem dX9_passesOne_19 : decode cX9_passesOne 19 = .ok (.iconst 0, 1) := by decide +kernel
theorem dX9_passesOne_20 : decode cX9_passesOne 20 = .ok (.istore_n 2, 1) := by decide +kernel
theorem dX9_passesOne_21 : decode cX9_passesOne 21 = .ok (.iload_n 2, 1) := by decide +kernel
theorem dX9_passesOne_22 : decode cX9_passesOne 22 = .ok (.aload_n 0, 1) := by decide +kernel
theorem dX9_passesOne_23 : decode cX9_passesOne 23 = .ok (.getfield 84, 3) := by decide +kernel
theorem dX9_passesOne_26 : decode cX9_passesOne 26 = .ok (.if_icmp .ge 117, 3) := by decide +kernel
theorem dX9_passesOne_29 : decode cX9_passesOne 29 = .ok (.aload_n 0, 1) := by decide +kernel
theorem dX9_passesOne_30 : decode cX9_passesOne 30 = .ok (.iload_n 2, 1) := by decide +kernel
theorem dX9_passesOne_31 : decode cX9_passesOne 31 = .ok (.invokevirtual 142, 3) := by decide +kernel
theorem dX9_passesOne_34 : decode cX9_passesOne 34 = .ok (.ifCond .eq 103, 3) := by decide +kernel
theorem dX9_passesOne_37 : decode cX9_passesOne 37 = .ok (.aload_n 0, 1) := by decide +kernel
theorem dX9_passesOne_38 : decode cX9_passesOne 38 = .ok (.getfield 13, 3) := by decide +kernel
theorem dX9_passesOne_41 : decode cX9_passesOne 41 = .ok (.aload_n 0, 1) := by decide +kernel
theorem dX9_passesOne_42 : decode cX9_passesOne 42 = .ok (.getfield 17, 3) := by decide +kernel
theorem dX9_passesOne_45 : decode cX9_passesOne 45 = .ok (.iload_n 2, 1) := by decide +kernel
theorem dX9_passesOne_46 : decode cX9_passesOne 46 = .ok (.iaload, 1) := by decide +kernel
theorem dX9_passesOne_47 : decode cX9_passesOne 47 = .ok (.iaload, 1) := by decide +kernel
theorem dX9_passesOne_48 : decode cX9_passesOne 48 = .ok (.istore_n 3, 1) := by decide +kernel
theorem dX9_passesOne_49 : decode cX9_passesOne 49 = .ok (.aload_n 0, 1) := by decide +kernel
theorem dX9_passesOne_50 : decode cX9_passesOne 50 = .ok (.getfield 13, 3) := by decide +kernel
theorem dX9_passesOne_53 : decode cX9_passesOne 53 = .ok (.aload_n 0, 1) := by decide +kernel
theorem dX9_passesOne_54 : decode cX9_passesOne 54 = .ok (.getfield 17, 3) := by decide +kernel
theorem dX9_passesOne_57 : decode cX9_passesOne 57 = .ok (.iload_n 2, 1) := by decide +kernel
theorem dX9_passesOne_58 : decode cX9_passesOne 58 = .ok (.iaload, 1) := by decide +kernel
theorem dX9_passesOne_59 : decode cX9_passesOne 59 = .ok (.iconst (-1), 1) := by decide +kernel
theorem dX9_passesOne_60 : decode cX9_passesOne 60 = .ok (.iastore, 1) := by decide +kernel
theorem dX9_passesOne_61 : decode cX9_passesOne 61 = .ok (.aload_n 0, 1) := by decide +kernel
theorem dX9_passesOne_62 : decode cX9_passesOne 62 = .ok (.getfield 48, 3) := by decide +kernel
theorem dX9_passesOne_65 : decode cX9_passesOne 65 = .ok (.bipush 30, 2) := by decide +kernel
theorem dX9_passesOne_67 : decode cX9_passesOne 67 = .ok (.iload_n 2, 1) := by decide +kernel
theorem dX9_passesOne_68 : decode cX9_passesOne 68 = .ok (.imul, 1) := by decide +kernel
theorem dX9_passesOne_69 : decode cX9_passesOne 69 = .ok (.aload_n 0, 1) := by decide +kernel
theorem dX9_passesOne_70 : decode cX9_passesOne 70 = .ok (.getfield 45, 3) := by decide +kernel
theorem dX9_passesOne_73 : decode cX9_passesOne 73 = .ok (.iload_n 2, 1) := by decide +kernel
theorem dX9_passesOne_74 : decode cX9_passesOne 74 = .ok (.iaload, 1) := by decide +kernel
theorem dX9_passesOne_75 : decode cX9_passesOne 75 = .ok (.iadd, 1) := by decide +kernel
theorem dX9_passesOne_76 : decode cX9_passesOne 76 = .ok (.iload_n 3, 1) := by decide +kernel
theorem dX9_passesOne_77 : decode cX9_passesOne 77 = .ok (.iastore, 1) := by decide +kernel
theorem dX9_passesOne_78 : decode cX9_passesOne 78 = .ok (.aload_n 0, 1) := by decide +kernel
theorem dX9_passesOne_79 : decode cX9_passesOne 79 = .ok (.getfield 45, 3) := by decide +kernel
theorem dX9_passesOne_82 : decode cX9_passesOne 82 = .ok (.iload_n 2, 1) := by decide +kernel
theorem dX9_passesOne_83 : decode cX9_passesOne 83 = .ok (.dup2, 1) := by decide +kernel
theorem dX9_passesOne_84 : decode cX9_passesOne 84 = .ok (.iaload, 1) := by decide +kernel
theorem dX9_passesOne_85 : decode cX9_passesOne 85 = .ok (.iconst 1, 1) := by decide +kernel
theorem dX9_passesOne_86 : decode cX9_passesOne 86 = .ok (.iadd, 1) := by decide +kernel
theorem dX9_passesOne_87 : decode cX9_passesOne 87 = .ok (.iastore, 1) := by decide +kernel
theorem dX9_passesOne_88 : decode cX9_passesOne 88 = .ok (.aload_n 0, 1) := by decide +kernel
theorem dX9_passesOne_89 : decode cX9_passesOne 89 = .ok (.getfield 51, 3) := by decide +kernel
theorem dX9_passesOne_92 : decode cX9_passesOne 92 = .ok (.iload_n 2, 1) := by decide +kernel
theorem dX9_passesOne_93 : decode cX9_passesOne 93 = .ok (.aload_n 0, 1) := by decide +kernel
theorem dX9_passesOne_94 : decode cX9_passesOne 94 = .ok (.getfield 51, 3) := by decide +kernel
theorem dX9_passesOne_97 : decode cX9_passesOne 97 = .ok (.iload_n 2, 1) := by decide +kernel
theorem dX9_passesOne_98 : decode cX9_passesOne 98 = .ok (.iaload, 1) := by decide +kernel
theorem dX9_passesOne_99 : decode cX9_passesOne 99 = .ok (.iload_n 3, 1) := by decide +kernel
theorem dX9_passesOne_100 : decode cX9_passesOne 100 = .ok (.iadd, 1) := by decide +kernel
theorem dX9_passesOne_101 : decode cX9_passesOne 101 = .ok (.iconst 1, 1) := by decide +kernel
theorem dX9_passesOne_102 : decode cX9_passesOne 102 = .ok (.iadd, 1) := by decide +kernel
theorem dX9_passesOne_103 : decode cX9_passesOne 103 = .ok (.sipush 9973, 3) := by decide +kernel
theorem dX9_passesOne_106 : decode cX9_passesOne 106 = .ok (.irem, 1) := by decide +kernel
theorem dX9_passesOne_107 : decode cX9_passesOne 107 = .ok (.iastore, 1) := by decide +kernel
theorem dX9_passesOne_108 : decode cX9_passesOne 108 = .ok (.aload_n 0, 1) := by decide +kernel
theorem dX9_passesOne_109 : decode cX9_passesOne 109 = .ok (.getfield 54, 3) := by decide +kernel
theorem dX9_passesOne_112 : decode cX9_passesOne 112 = .ok (.iload_n 2, 1) := by decide +kernel
theorem dX9_passesOne_113 : decode cX9_passesOne 113 = .ok (.aload_n 0, 1) := by decide +kernel
theorem dX9_passesOne_114 : decode cX9_passesOne 114 = .ok (.getfield 54, 3) := by decide +kernel
theorem dX9_passesOne_117 : decode cX9_passesOne 117 = .ok (.iload_n 2, 1) := by decide +kernel
theorem dX9_passesOne_118 : decode cX9_passesOne 118 = .ok (.iaload, 1) := by decide +kernel
theorem dX9_passesOne_119 : decode cX9_passesOne 119 = .ok (.aload_n 0, 1) := by decide +kernel
theorem dX9_passesOne_120 : decode cX9_passesOne 120 = .ok (.getfield 51, 3) := by decide +kernel
theorem dX9_passesOne_123 : decode cX9_passesOne 123 = .ok (.iload_n 2, 1) := by decide +kernel
theorem dX9_passesOne_124 : decode cX9_passesOne 124 = .ok (.iaload, 1) := by decide +kernel
theorem dX9_passesOne_125 : decode cX9_passesOne 125 = .ok (.iadd, 1) := by decide +kernel
theorem dX9_passesOne_126 : decode cX9_passesOne 126 = .ok (.sipush 9973, 3) := by decide +kernel
theorem dX9_passesOne_129 : decode cX9_passesOne 129 = .ok (.irem, 1) := by decide +kernel
theorem dX9_passesOne_130 : decode cX9_passesOne 130 = .ok (.iastore, 1) := by decide +kernel
theorem dX9_passesOne_131 : decode cX9_passesOne 131 = .ok (.aload_n 0, 1) := by decide +kernel
theorem dX9_passesOne_132 : decode cX9_passesOne 132 = .ok (.iload_n 3, 1) := by decide +kernel
theorem dX9_passesOne_133 : decode cX9_passesOne 133 = .ok (.iconst 2, 1) := by decide +kernel
theorem dX9_passesOne_134 : decode cX9_passesOne 134 = .ok (.invokevirtual 145, 3) := by decide +kernel
theorem dX9_passesOne_137 : decode cX9_passesOne 137 = .ok (.iinc 2 1, 3) := by decide +kernel
theorem dX9_passesOne_140 : decode cX9_passesOne 140 = .ok (.goto (-119), 3) := by decide +kernel
theorem dX9_passesOne_143 : decode cX9_passesOne 143 = .ok (.aload_n 0, 1) := by decide +kernel
theorem dX9_passesOne_144 : decode cX9_passesOne 144 = .ok (.invokevirtual 149, 3) := by decide +kernel
theorem dX9_passesOne_147 : decode cX9_passesOne 147 = .ok (.ifCond .eq 41, 3) := by decide +kernel
theorem dX9_passesOne_150 : decode cX9_passesOne 150 = .ok (.aload_n 0, 1) := by decide +kernel
theorem dX9_passesOne_151 : decode cX9_passesOne 151 = .ok (.aload_n 0, 1) := by decide +kernel
theorem dX9_passesOne_152 : decode cX9_passesOne 152 = .ok (.getfield 13, 3) := by decide +kernel
theorem dX9_passesOne_155 : decode cX9_passesOne 155 = .ok (.aload_n 0, 1) := by decide +kernel
theorem dX9_passesOne_156 : decode cX9_passesOne 156 = .ok (.getfield 7, 3) := by decide +kernel
theorem dX9_passesOne_159 : decode cX9_passesOne 159 = .ok (.iconst 1, 1) := by decide +kernel
theorem dX9_passesOne_160 : decode cX9_passesOne 160 = .ok (.isub, 1) := by decide +kernel
theorem dX9_passesOne_161 : decode cX9_passesOne 161 = .ok (.iaload, 1) := by decide +kernel
theorem dX9_passesOne_162 : decode cX9_passesOne 162 = .ok (.iconst 4, 1) := by decide +kernel
theorem dX9_passesOne_163 : decode cX9_passesOne 163 = .ok (.invokevirtual 145, 3) := by decide +kernel
theorem dX9_passesOne_166 : decode cX9_passesOne 166 = .ok (.aload_n 0, 1) := by decide +kernel
theorem dX9_passesOne_167 : decode cX9_passesOne 167 = .ok (.getfield 13, 3) := by decide +kernel
theorem dX9_passesOne_170 : decode cX9_passesOne 170 = .ok (.aload_n 0, 1) := by decide +kernel
theorem dX9_passesOne_171 : decode cX9_passesOne 171 = .ok (.getfield 7, 3) := by decide +kernel
theorem dX9_passesOne_174 : decode cX9_passesOne 174 = .ok (.iconst 1, 1) := by decide +kernel
theorem dX9_passesOne_175 : decode cX9_passesOne 175 = .ok (.isub, 1) := by decide +kernel
theorem dX9_passesOne_176 : decode cX9_passesOne 176 = .ok (.iconst (-1), 1) := by decide +kernel
theorem dX9_passesOne_177 : decode cX9_passesOne 177 = .ok (.iastore, 1) := by decide +kernel
theorem dX9_passesOne_178 : decode cX9_passesOne 178 = .ok (.aload_n 0, 1) := by decide +kernel
theorem dX9_passesOne_179 : decode cX9_passesOne 179 = .ok (.dup, 1) := by decide +kernel
theorem dX9_passesOne_180 : decode cX9_passesOne 180 = .ok (.getfield 153, 3) := by decide +kernel
theorem dX9_passesOne_183 : decode cX9_passesOne 183 = .ok (.iconst 1, 1) := by decide +kernel
theorem dX9_passesOne_184 : decode cX9_passesOne 184 = .ok (.iadd, 1) := by decide +kernel
theorem dX9_passesOne_185 : decode cX9_passesOne 185 = .ok (.putfield 153, 3) := by decide +kernel
theorem dX9_passesOne_188 : decode cX9_passesOne 188 = .ok (.aload_n 0, 1) := by decide +kernel
theorem dX9_passesOne_189 : decode cX9_passesOne 189 = .ok (.getfield 105, 3) := by decide +kernel
theorem dX9_passesOne_192 : decode cX9_passesOne 192 = .ok (.ifCond .ne 54, 3) := by decide +kernel
theorem dX9_passesOne_195 : decode cX9_passesOne 195 = .ok (.aload_n 0, 1) := by decide +kernel
theorem dX9_passesOne_196 : decode cX9_passesOne 196 = .ok (.getfield 13, 3) := by decide +kernel
theorem dX9_passesOne_199 : decode cX9_passesOne 199 = .ok (.iconst 0, 1) := by decide +kernel
theorem dX9_passesOne_200 : decode cX9_passesOne 200 = .ok (.iaload, 1) := by decide +kernel
theorem dX9_passesOne_201 : decode cX9_passesOne 201 = .ok (.iconst (-1), 1) := by decide +kernel
theorem dX9_passesOne_202 : decode cX9_passesOne 202 = .ok (.if_icmp .ne 44, 3) := by decide +kernel
theorem dX9_passesOne_205 : decode cX9_passesOne 205 = .ok (.aload_n 0, 1) := by decide +kernel
theorem dX9_passesOne_206 : decode cX9_passesOne 206 = .ok (.getfield 156, 3) := by decide +kernel
theorem dX9_passesOne_209 : decode cX9_passesOne 209 = .ok (.aload_n 0, 1) := by decide +kernel
theorem dX9_passesOne_210 : decode cX9_passesOne 210 = .ok (.getfield 91, 3) := by decide +kernel
theorem dX9_passesOne_213 : decode cX9_passesOne 213 = .ok (.if_icmp .ge 33, 3) := by decide +kernel
theorem dX9_passesOne_216 : decode cX9_passesOne 216 = .ok (.aload_n 0, 1) := by decide +kernel
theorem dX9_passesOne_217 : decode cX9_passesOne 217 = .ok (.getfield 13, 3) := by decide +kernel
theorem dX9_passesOne_220 : decode cX9_passesOne 220 = .ok (.iconst 0, 1) := by decide +kernel
theorem dX9_passesOne_221 : decode cX9_passesOne 221 = .ok (.aload_n 0, 1) := by decide +kernel
theorem dX9_passesOne_222 : decode cX9_passesOne 222 = .ok (.getfield 156, 3) := by decide +kernel
theorem dX9_passesOne_225 : decode cX9_passesOne 225 = .ok (.iastore, 1) := by decide +kernel
theorem dX9_passesOne_226 : decode cX9_passesOne 226 = .ok (.aload_n 0, 1) := by decide +kernel
theorem dX9_passesOne_227 : decode cX9_passesOne 227 = .ok (.getfield 36, 3) := by decide +kernel
theorem dX9_passesOne_230 : decode cX9_passesOne 230 = .ok (.aload_n 0, 1) := by decide +kernel
theorem dX9_passesOne_231 : decode cX9_passesOne 231 = .ok (.getfield 156, 3) := by decide +kernel
theorem dX9_passesOne_234 : decode cX9_passesOne 234 = .ok (.iconst 1, 1) := by decide +kernel
theorem dX9_passesOne_235 : decode cX9_passesOne 235 = .ok (.iastore, 1) := by decide +kernel
theorem dX9_passesOne_236 : decode cX9_passesOne 236 = .ok (.aload_n 0, 1) := by decide +kernel
theorem dX9_passesOne_237 : decode cX9_passesOne 237 = .ok (.dup, 1) := by decide +kernel
theorem dX9_passesOne_238 : decode cX9_passesOne 238 = .ok (.getfield 156, 3) := by decide +kernel
theorem dX9_passesOne_241 : decode cX9_passesOne 241 = .ok (.iconst 1, 1) := by decide +kernel
theorem dX9_passesOne_242 : decode cX9_passesOne 242 = .ok (.iadd, 1) := by decide +kernel
theorem dX9_passesOne_243 : decode cX9_passesOne 243 = .ok (.putfield 156, 3) := by decide +kernel
theorem dX9_passesOne_246 : decode cX9_passesOne 246 = .ok (.aload_n 0, 1) := by decide +kernel
theorem dX9_passesOne_247 : decode cX9_passesOne 247 = .ok (.getfield 129, 3) := by decide +kernel
theorem dX9_passesOne_250 : decode cX9_passesOne 250 = .ok (.iload_n 1, 1) := by decide +kernel
theorem dX9_passesOne_251 : decode cX9_passesOne 251 = .ok (.isub, 1) := by decide +kernel
theorem dX9_passesOne_252 : decode cX9_passesOne 252 = .ok (.ireturn, 1) := by decide +kernel
theorem dX9_pass_0 : decode cX9_pass 0 = .ok (.aload_n 0, 1) := by decide +kernel
theorem dX9_pass_1 : decode cX9_pass 1 = .ok (.iload_n 1, 1) := by decide +kernel
theorem dX9_pass_2 : decode cX9_pass 2 = .ok (.iconst 1, 1) := by decide +kernel
theorem dX9_pass_3 : decode cX9_pass 3 = .ok (.sipush 200, 3) := by decide +kernel
theorem dX9_pass_6 : decode cX9_pass 6 = .ok (.invokestatic 87, 3) := by decide +kernel
theorem dX9_pass_9 : decode cX9_pass 9 = .ok (.ifCond .eq 7, 3) := by decide +kernel
theorem dX9_pass_12 : decode cX9_pass 12 = .ok (.iconst 0, 1) := by decide +kernel
theorem dX9_pass_13 : decode cX9_pass 13 = .ok (.goto 4, 3) := by decide +kernel
theorem dX9_pass_16 : decode cX9_pass 16 = .ok (.iconst 1, 1) := by decide +kernel
theorem dX9_pass_17 : decode cX9_pass 17 = .ok (.invokevirtual 94, 3) := by decide +kernel
theorem dX9_pass_20 : decode cX9_pass 20 = .ok (.ifCond .ne 5, 3) := by decide +kernel
theorem dX9_pass_23 : decode cX9_pass 23 = .ok (.iconst 0, 1) := by decide +kernel
theorem dX9_pass_24 : decode cX9_pass 24 = .ok (.ireturn, 1) := by decide +kernel
theorem dX9_pass_25 : decode cX9_pass 25 = .ok (.iconst 0, 1) := by decide +kernel
theorem dX9_pass_26 : decode cX9_pass 26 = .ok (.istore_n 2, 1) := by decide +kernel
theorem dX9_pass_27 : decode cX9_pass 27 = .ok (.iconst 0, 1) := by decide +kernel
theorem dX9_pass_28 : decode cX9_pass 28 = .ok (.istore_n 3, 1) := by decide +kernel
theorem dX9_pass_29 : decode cX9_pass 29 = .ok (.iload_n 3, 1) := by decide +kernel
theorem dX9_pass_30 : decode cX9_pass 30 = .ok (.iload_n 1, 1) := by decide +kernel
theorem dX9_pass_31 : decode cX9_pass 31 = .ok (.if_icmp .ge 16, 3) := by decide +kernel
theorem dX9_pass_34 : decode cX9_pass 34 = .ok (.iload_n 2, 1) := by decide +kernel
theorem dX9_pass_35 : decode cX9_pass 35 = .ok (.aload_n 0, 1) := by decide +kernel
theorem dX9_pass_36 : decode cX9_pass 36 = .ok (.invokevirtual 159, 3) := by decide +kernel
theorem dX9_pass_39 : decode cX9_pass 39 = .ok (.iadd, 1) := by decide +kernel
theorem dX9_pass_40 : decode cX9_pass 40 = .ok (.istore_n 2, 1) := by decide +kernel
theorem dX9_pass_41 : decode cX9_pass 41 = .ok (.iinc 3 1, 3) := by decide +kernel
theorem dX9_pass_44 : decode cX9_pass 44 = .ok (.goto (-15), 3) := by decide +kernel
theorem dX9_pass_47 : decode cX9_pass 47 = .ok (.iload_n 2, 1) := by decide +kernel
theorem dX9_pass_48 : decode cX9_pass 48 = .ok (.ireturn, 1) := by decide +kernel
theorem dX9_looksOne_0 : decode cX9_looksOne 0 = .ok (.iconst 0, 1) := by decide +kernel
theorem dX9_looksOne_1 : decode cX9_looksOne 1 = .ok (.istore_n 1, 1) := by decide +kernel
theorem dX9_looksOne_2 : decode cX9_looksOne 2 = .ok (.aload_n 0, 1) := by decide +kernel
theorem dX9_looksOne_3 : decode cX9_looksOne 3 = .ok (.invokevirtual 139, 3) := by decide +kernel
theorem dX9_looksOne_6 : decode cX9_looksOne 6 = .ok (.iconst 0, 1) := by decide +kernel
theorem dX9_looksOne_7 : decode cX9_looksOne 7 = .ok (.istore_n 2, 1) := by decide +kernel
theorem dX9_looksOne_8 : decode cX9_looksOne 8 = .ok (.iload_n 2, 1) := by decide +kernel
theorem dX9_looksOne_9 : decode cX9_looksOne 9 = .ok (.aload_n 0, 1) := by decide +kernel
theorem dX9_looksOne_10 : decode cX9_looksOne 10 = .ok (.getfield 84, 3) := by decide +kernel
theorem dX9_looksOne_13 : decode cX9_looksOne 13 = .ok (.if_icmp .ge 42, 3) := by decide +kernel
theorem dX9_looksOne_16 : decode cX9_looksOne 16 = .ok (.aload_n 0, 1) := by decide +kernel
theorem dX9_looksOne_17 : decode cX9_looksOne 17 = .ok (.iload_n 2, 1) := by decide +kernel
theorem dX9_looksOne_18 : decode cX9_looksOne 18 = .ok (.invokevirtual 142, 3) := by decide +kernel
theorem dX9_looksOne_21 : decode cX9_looksOne 21 = .ok (.ifCond .eq 28, 3) := by decide +kernel
theorem dX9_looksOne_24 : decode cX9_looksOne 24 = .ok (.aload_n 0, 1) := by decide +kernel
theorem dX9_looksOne_25 : decode cX9_looksOne 25 = .ok (.getfield 13, 3) := by decide +kernel
theorem dX9_looksOne_28 : decode cX9_looksOne 28 = .ok (.aload_n 0, 1) := by decide +kernel
theorem dX9_looksOne_29 : decode cX9_looksOne 29 = .ok (.getfield 17, 3) := by decide +kernel
theorem dX9_looksOne_32 : decode cX9_looksOne 32 = .ok (.iload_n 2, 1) := by decide +kernel
theorem dX9_looksOne_33 : decode cX9_looksOne 33 = .ok (.iaload, 1) := by decide +kernel
theorem dX9_looksOne_34 : decode cX9_looksOne 34 = .ok (.iconst (-1), 1) := by decide +kernel
theorem dX9_looksOne_35 : decode cX9_looksOne 35 = .ok (.iastore, 1) := by decide +kernel
theorem dX9_looksOne_36 : decode cX9_looksOne 36 = .ok (.aload_n 0, 1) := by decide +kernel
theorem dX9_looksOne_37 : decode cX9_looksOne 37 = .ok (.getfield 45, 3) := by decide +kernel
theorem dX9_looksOne_40 : decode cX9_looksOne 40 = .ok (.iload_n 2, 1) := by decide +kernel
theorem dX9_looksOne_41 : decode cX9_looksOne 41 = .ok (.dup2, 1) := by decide +kernel
theorem dX9_looksOne_42 : decode cX9_looksOne 42 = .ok (.iaload, 1) := by decide +kernel
theorem dX9_looksOne_43 : decode cX9_looksOne 43 = .ok (.iconst 1, 1) := by decide +kernel
theorem dX9_looksOne_44 : decode cX9_looksOne 44 = .ok (.iadd, 1) := by decide +kernel
theorem dX9_looksOne_45 : decode cX9_looksOne 45 = .ok (.iastore, 1) := by decide +kernel
theorem dX9_looksOne_46 : decode cX9_looksOne 46 = .ok (.iinc 1 1, 3) := by decide +kernel
theorem dX9_looksOne_49 : decode cX9_looksOne 49 = .ok (.iinc 2 1, 3) := by decide +kernel
theorem dX9_looksOne_52 : decode cX9_looksOne 52 = .ok (.goto (-44), 3) := by decide +kernel
theorem dX9_looksOne_55 : decode cX9_looksOne 55 = .ok (.aload_n 0, 1) := by decide +kernel
theorem dX9_looksOne_56 : decode cX9_looksOne 56 = .ok (.invokevirtual 149, 3) := by decide +kernel
theorem dX9_looksOne_59 : decode cX9_looksOne 59 = .ok (.ifCond .eq 18, 3) := by decide +kernel
theorem dX9_looksOne_62 : decode cX9_looksOne 62 = .ok (.aload_n 0, 1) := by decide +kernel
theorem dX9_looksOne_63 : decode cX9_looksOne 63 = .ok (.getfield 13, 3) := by decide +kernel
theorem dX9_looksOne_66 : decode cX9_looksOne 66 = .ok (.aload_n 0, 1) := by decide +kernel
theorem dX9_looksOne_67 : decode cX9_looksOne 67 = .ok (.getfield 7, 3) := by decide +kernel
theorem dX9_looksOne_70 : decode cX9_looksOne 70 = .ok (.iconst 1, 1) := by decide +kernel
theorem dX9_looksOne_71 : decode cX9_looksOne 71 = .ok (.isub, 1) := by decide +kernel
theorem dX9_looksOne_72 : decode cX9_looksOne 72 = .ok (.iconst (-1), 1) := by decide +kernel
theorem dX9_looksOne_73 : decode cX9_looksOne 73 = .ok (.iastore, 1) := by decide +kernel
theorem dX9_looksOne_74 : decode cX9_looksOne 74 = .ok (.iinc 1 1, 3) := by decide +kernel
theorem dX9_looksOne_77 : decode cX9_looksOne 77 = .ok (.aload_n 0, 1) := by decide +kernel
theorem dX9_looksOne_78 : decode cX9_looksOne 78 = .ok (.getfield 105, 3) := by decide +kernel
theorem dX9_looksOne_81 : decode cX9_looksOne 81 = .ok (.ifCond .ne 44, 3) := by decide +kernel
theorem dX9_looksOne_84 : decode cX9_looksOne 84 = .ok (.aload_n 0, 1) := by decide +kernel
theorem dX9_looksOne_85 : decode cX9_looksOne 85 = .ok (.getfield 13, 3) := by decide +kernel
theorem dX9_looksOne_88 : decode cX9_looksOne 88 = .ok (.iconst 0, 1) := by decide +kernel
theorem dX9_looksOne_89 : decode cX9_looksOne 89 = .ok (.iaload, 1) := by decide +kernel
theorem dX9_looksOne_90 : decode cX9_looksOne 90 = .ok (.iconst (-1), 1) := by decide +kernel
theorem dX9_looksOne_91 : decode cX9_looksOne 91 = .ok (.if_icmp .ne 34, 3) := by decide +kernel
theorem dX9_looksOne_94 : decode cX9_looksOne 94 = .ok (.aload_n 0, 1) := by decide +kernel
theorem dX9_looksOne_95 : decode cX9_looksOne 95 = .ok (.getfield 156, 3) := by decide +kernel
theorem dX9_looksOne_98 : decode cX9_looksOne 98 = .ok (.aload_n 0, 1) := by decide +kernel
theorem dX9_looksOne_99 : decode cX9_looksOne 99 = .ok (.getfield 91, 3) := by decide +kernel
theorem dX9_looksOne_102 : decode cX9_looksOne 102 = .ok (.if_icmp .ge 23, 3) := by decide +kernel
theorem dX9_looksOne_105 : decode cX9_looksOne 105 = .ok (.aload_n 0, 1) := by decide +kernel
theorem dX9_looksOne_106 : decode cX9_looksOne 106 = .ok (.getfield 13, 3) := by decide +kernel
theorem dX9_looksOne_109 : decode cX9_looksOne 109 = .ok (.iconst 0, 1) := by decide +kernel
theorem dX9_looksOne_110 : decode cX9_looksOne 110 = .ok (.aload_n 0, 1) := by decide +kernel
theorem dX9_looksOne_111 : decode cX9_looksOne 111 = .ok (.getfield 156, 3) := by decide +kernel
theorem dX9_looksOne_114 : decode cX9_looksOne 114 = .ok (.iastore, 1) := by decide +kernel
theorem dX9_looksOne_115 : decode cX9_looksOne 115 = .ok (.aload_n 0, 1) := by decide +kernel
theorem dX9_looksOne_116 : decode cX9_looksOne 116 = .ok (.dup, 1) := by decide +kernel
theorem dX9_looksOne_117 : decode cX9_looksOne 117 = .ok (.getfield 156, 3) := by decide +kernel
theorem dX9_looksOne_120 : decode cX9_looksOne 120 = .ok (.iconst 1, 1) := by decide +kernel
theorem dX9_looksOne_121 : decode cX9_looksOne 121 = .ok (.iadd, 1) := by decide +kernel
theorem dX9_looksOne_122 : decode cX9_looksOne 122 = .ok (.putfield 156, 3) := by decide +kernel
theorem dX9_looksOne_125 : decode cX9_looksOne 125 = .ok (.iload_n 1, 1) := by decide +kernel
theorem dX9_looksOne_126 : decode cX9_looksOne 126 = .ok (.ireturn, 1) := by decide +kernel
theorem dX9_leavingAhead_0 : decode cX9_leavingAhead 0 = .ok (.aload_n 0, 1) := by decide +kernel
theorem dX9_leavingAhead_1 : decode cX9_leavingAhead 1 = .ok (.iload_n 1, 1) := by decide +kernel
theorem dX9_leavingAhead_2 : decode cX9_leavingAhead 2 = .ok (.iconst 1, 1) := by decide +kernel
theorem dX9_leavingAhead_3 : decode cX9_leavingAhead 3 = .ok (.sipush 200, 3) := by decide +kernel
theorem dX9_leavingAhead_6 : decode cX9_leavingAhead 6 = .ok (.invokestatic 87, 3) := by decide +kernel
theorem dX9_leavingAhead_9 : decode cX9_leavingAhead 9 = .ok (.ifCond .eq 7, 3) := by decide +kernel
theorem dX9_leavingAhead_12 : decode cX9_leavingAhead 12 = .ok (.iconst 0, 1) := by decide +kernel
theorem dX9_leavingAhead_13 : decode cX9_leavingAhead 13 = .ok (.goto 4, 3) := by decide +kernel
theorem dX9_leavingAhead_16 : decode cX9_leavingAhead 16 = .ok (.iconst 1, 1) := by decide +kernel
theorem dX9_leavingAhead_17 : decode cX9_leavingAhead 17 = .ok (.invokevirtual 94, 3) := by decide +kernel
theorem dX9_leavingAhead_20 : decode cX9_leavingAhead 20 = .ok (.ifCond .ne 5, 3) := by decide +kernel
theorem dX9_leavingAhead_23 : decode cX9_leavingAhead 23 = .ok (.iconst 0, 1) := by decide +kernel
theorem dX9_leavingAhead_24 : decode cX9_leavingAhead 24 = .ok (.ireturn, 1) := by decide +kernel
theorem dX9_leavingAhead_25 : decode cX9_leavingAhead 25 = .ok (.aload_n 0, 1) := by decide +kernel
theorem dX9_leavingAhead_26 : decode cX9_leavingAhead 26 = .ok (.getfield 156, 3) := by decide +kernel
theorem dX9_leavingAhead_29 : decode cX9_leavingAhead 29 = .ok (.istore_n 2, 1) := by decide +kernel
theorem dX9_leavingAhead_30 : decode cX9_leavingAhead 30 = .ok (.iconst 0, 1) := by decide +kernel
theorem dX9_leavingAhead_31 : decode cX9_leavingAhead 31 = .ok (.istore_n 3, 1) := by decide +kernel
theorem dX9_leavingAhead_32 : decode cX9_leavingAhead 32 = .ok (.iload_n 3, 1) := by decide +kernel
theorem dX9_leavingAhead_33 : decode cX9_leavingAhead 33 = .ok (.aload_n 0, 1) := by decide +kernel
theorem dX9_leavingAhead_34 : decode cX9_leavingAhead 34 = .ok (.getfield 7, 3) := by decide +kernel
theorem dX9_leavingAhead_37 : decode cX9_leavingAhead 37 = .ok (.if_icmp .ge 21, 3) := by decide +kernel
theorem dX9_leavingAhead_40 : decode cX9_leavingAhead 40 = .ok (.aload_n 0, 1) := by decide +kernel
theorem dX9_leavingAhead_41 : decode cX9_leavingAhead 41 = .ok (.getfield 66, 3) := by decide +kernel
theorem dX9_leavingAhead_44 : decode cX9_leavingAhead 44 = .ok (.iload_n 3, 1) := by decide +kernel
theorem dX9_leavingAhead_45 : decode cX9_leavingAhead 45 = .ok (.aload_n 0, 1) := by decide +kernel
theorem dX9_leavingAhead_46 : decode cX9_leavingAhead 46 = .ok (.getfield 13, 3) := by decide +kernel
theorem dX9_leavingAhead_49 : decode cX9_leavingAhead 49 = .ok (.iload_n 3, 1) := by decide +kernel
theorem dX9_leavingAhead_50 : decode cX9_leavingAhead 50 = .ok (.iaload, 1) := by decide +kernel
theorem dX9_leavingAhead_51 : decode cX9_leavingAhead 51 = .ok (.iastore, 1) := by decide +kernel
theorem dX9_leavingAhead_52 : decode cX9_leavingAhead 52 = .ok (.iinc 3 1, 3) := by decide +kernel
theorem dX9_leavingAhead_55 : decode cX9_leavingAhead 55 = .ok (.goto (-23), 3) := by decide +kernel
theorem dX9_leavingAhead_58 : decode cX9_leavingAhead 58 = .ok (.iconst 0, 1) := by decide +kernel
theorem dX9_leavingAhead_59 : decode cX9_leavingAhead 59 = .ok (.istore_n 3, 1) := by decide +kernel
theorem dX9_leavingAhead_60 : decode cX9_leavingAhead 60 = .ok (.iload_n 3, 1) := by decide +kernel
theorem dX9_leavingAhead_61 : decode cX9_leavingAhead 61 = .ok (.aload_n 0, 1) := by decide +kernel
theorem dX9_leavingAhead_62 : decode cX9_leavingAhead 62 = .ok (.getfield 91, 3) := by decide +kernel
theorem dX9_leavingAhead_65 : decode cX9_leavingAhead 65 = .ok (.if_icmp .ge 21, 3) := by decide +kernel
theorem dX9_leavingAhead_68 : decode cX9_leavingAhead 68 = .ok (.aload_n 0, 1) := by decide +kernel
theorem dX9_leavingAhead_69 : decode cX9_leavingAhead 69 = .ok (.getfield 69, 3) := by decide +kernel
theorem dX9_leavingAhead_72 : decode cX9_leavingAhead 72 = .ok (.iload_n 3, 1) := by decide +kernel
theorem dX9_leavingAhead_73 : decode cX9_leavingAhead 73 = .ok (.aload_n 0, 1) := by decide +kernel
theorem dX9_leavingAhead_74 : decode cX9_leavingAhead 74 = .ok (.getfield 39, 3) := by decide +kernel
theorem dX9_leavingAhead_77 : decode cX9_leavingAhead 77 = .ok (.iload_n 3, 1) := by decide +kernel
theorem dX9_leavingAhead_78 : decode cX9_leavingAhead 78 = .ok (.iaload, 1) := by decide +kernel
theorem dX9_leavingAhead_79 : decode cX9_leavingAhead 79 = .ok (.iastore, 1) := by decide +kernel
theorem dX9_leavingAhead_80 : decode cX9_leavingAhead 80 = .ok (.iinc 3 1, 3) := by decide +kernel
theorem dX9_leavingAhead_83 : decode cX9_leavingAhead 83 = .ok (.goto (-23), 3) := by decide +kernel
theorem dX9_leavingAhead_86 : decode cX9_leavingAhead 86 = .ok (.iconst 0, 1) := by decide +kernel
theorem dX9_leavingAhead_87 : decode cX9_leavingAhead 87 = .ok (.istore_n 3, 1) := by decide +kernel
theorem dX9_leavingAhead_88 : decode cX9_leavingAhead 88 = .ok (.iload_n 3, 1) := by decide +kernel
theorem dX9_leavingAhead_89 : decode cX9_leavingAhead 89 = .ok (.aload_n 0, 1) := by decide +kernel
theorem dX9_leavingAhead_90 : decode cX9_leavingAhead 90 = .ok (.getfield 84, 3) := by decide +kernel
theorem dX9_leavingAhead_93 : decode cX9_leavingAhead 93 = .ok (.if_icmp .ge 21, 3) := by decide +kernel
theorem dX9_leavingAhead_96 : decode cX9_leavingAhead 96 = .ok (.aload_n 0, 1) := by decide +kernel
theorem dX9_leavingAhead_97 : decode cX9_leavingAhead 97 = .ok (.getfield 72, 3) := by decide +kernel
theorem dX9_leavingAhead_100 : decode cX9_leavingAhead 100 = .ok (.iload_n 3, 1) := by decide +kernel
theorem dX9_leavingAhead_101 : decode cX9_leavingAhead 101 = .ok (.aload_n 0, 1) := by decide +kernel
theorem dX9_leavingAhead_102 : decode cX9_leavingAhead 102 = .ok (.getfield 45, 3) := by decide +kernel
theorem dX9_leavingAhead_105 : decode cX9_leavingAhead 105 = .ok (.iload_n 3, 1) := by decide +kernel
theorem dX9_leavingAhead_106 : decode cX9_leavingAhead 106 = .ok (.iaload, 1) := by decide +kernel
theorem dX9_leavingAhead_107 : decode cX9_leavingAhead 107 = .ok (.iastore, 1) := by decide +kernel
theorem dX9_leavingAhead_108 : decode cX9_leavingAhead 108 = .ok (.iinc 3 1, 3) := by decide +kernel
theorem dX9_leavingAhead_111 : decode cX9_leavingAhead 111 = .ok (.goto (-23), 3) := by decide +kernel
theorem dX9_leavingAhead_114 : decode cX9_leavingAhead 114 = .ok (.iconst 0, 1) := by decide +kernel
theorem dX9_leavingAhead_115 : decode cX9_leavingAhead 115 = .ok (.istore_n 3, 1) := by decide +kernel
theorem dX9_leavingAhead_116 : decode cX9_leavingAhead 116 = .ok (.iconst 0, 1) := by decide +kernel
theorem dX9_leavingAhead_117 : decode cX9_leavingAhead 117 = .ok (.istore 4, 2) := by decide +kernel
theorem dX9_leavingAhead_119 : decode cX9_leavingAhead 119 = .ok (.iload 4, 2) := by decide +kernel
theorem dX9_leavingAhead_121 : decode cX9_leavingAhead 121 = .ok (.iload_n 1, 1) := by decide +kernel
theorem dX9_leavingAhead_122 : decode cX9_leavingAhead 122 = .ok (.if_icmp .ge 16, 3) := by decide +kernel
theorem dX9_leavingAhead_125 : decode cX9_leavingAhead 125 = .ok (.iload_n 3, 1) := by decide +kernel
theorem dX9_leavingAhead_126 : decode cX9_leavingAhead 126 = .ok (.aload_n 0, 1) := by decide +kernel
theorem dX9_leavingAhead_127 : decode cX9_leavingAhead 127 = .ok (.invokevirtual 162, 3) := by decide +kernel
theorem dX9_leavingAhead_130 : decode cX9_leavingAhead 130 = .ok (.iadd, 1) := by decide +kernel
theorem dX9_leavingAhead_131 : decode cX9_leavingAhead 131 = .ok (.istore_n 3, 1) := by decide +kernel
theorem dX9_leavingAhead_132 : decode cX9_leavingAhead 132 = .ok (.iinc 4 1, 3) := by decide +kernel
theorem dX9_leavingAhead_135 : decode cX9_leavingAhead 135 = .ok (.goto (-16), 3) := by decide +kernel
theorem dX9_leavingAhead_138 : decode cX9_leavingAhead 138 = .ok (.aload_n 0, 1) := by decide +kernel
theorem dX9_leavingAhead_139 : decode cX9_leavingAhead 139 = .ok (.iload_n 2, 1) := by decide +kernel
theorem dX9_leavingAhead_140 : decode cX9_leavingAhead 140 = .ok (.putfield 156, 3) := by decide +kernel
theorem dX9_leavingAhead_143 : decode cX9_leavingAhead 143 = .ok (.iconst 0, 1) := by decide +kernel
theorem dX9_leavingAhead_144 : decode cX9_leavingAhead 144 = .ok (.istore 4, 2) := by decide +kernel
theorem dX9_leavingAhead_146 : decode cX9_leavingAhead 146 = .ok (.iload 4, 2) := by decide +kernel
theorem dX9_leavingAhead_148 : decode cX9_leavingAhead 148 = .ok (.aload_n 0, 1) := by decide +kernel
theorem dX9_leavingAhead_149 : decode cX9_leavingAhead 149 = .ok (.getfield 7, 3) := by decide +kernel
theorem dX9_leavingAhead_152 : decode cX9_leavingAhead 152 = .ok (.if_icmp .ge 23, 3) := by decide +kernel
theorem dX9_leavingAhead_155 : decode cX9_leavingAhead 155 = .ok (.aload_n 0, 1) := by decide +kernel
theorem dX9_leavingAhead_156 : decode cX9_leavingAhead 156 = .ok (.getfield 13, 3) := by decide +kernel
theorem dX9_leavingAhead_159 : decode cX9_leavingAhead 159 = .ok (.iload 4, 2) := by decide +kernel
theorem dX9_leavingAhead_161 : decode cX9_leavingAhead 161 = .ok (.aload_n 0, 1) := by decide +kernel
theorem dX9_leavingAhead_162 : decode cX9_leavingAhead 162 = .ok (.getfield 66, 3) := by decide +kernel
theorem dX9_leavingAhead_165 : decode cX9_leavingAhead 165 = .ok (.iload 4, 2) := by decide +kernel
theorem dX9_leavingAhead_167 : decode cX9_leavingAhead 167 = .ok (.iaload, 1) := by decide +kernel
theorem dX9_leavingAhead_168 : decode cX9_leavingAhead 168 = .ok (.iastore, 1) := by decide +kernel
theorem dX9_leavingAhead_169 : decode cX9_leavingAhead 169 = .ok (.iinc 4 1, 3) := by decide +kernel
theorem dX9_leavingAhead_172 : decode cX9_leavingAhead 172 = .ok (.goto (-26), 3) := by decide +kernel
theorem dX9_leavingAhead_175 : decode cX9_leavingAhead 175 = .ok (.iconst 0, 1) := by decide +kernel
theorem dX9_leavingAhead_176 : decode cX9_leavingAhead 176 = .ok (.istore 4, 2) := by decide +kernel
theorem dX9_leavingAhead_178 : decode cX9_leavingAhead 178 = .ok (.iload 4, 2) := by decide +kernel
theorem dX9_leavingAhead_180 : decode cX9_leavingAhead 180 = .ok (.aload_n 0, 1) := by decide +kernel
theorem dX9_leavingAhead_181 : decode cX9_leavingAhead 181 = .ok (.getfield 91, 3) := by decide +kernel
theorem dX9_leavingAhead_184 : decode cX9_leavingAhead 184 = .ok (.if_icmp .ge 23, 3) := by decide +kernel
theorem dX9_leavingAhead_187 : decode cX9_leavingAhead 187 = .ok (.aload_n 0, 1) := by decide +kernel
theorem dX9_leavingAhead_188 : decode cX9_leavingAhead 188 = .ok (.getfield 39, 3) := by decide +kernel
theorem dX9_leavingAhead_191 : decode cX9_leavingAhead 191 = .ok (.iload 4, 2) := by decide +kernel
theorem dX9_leavingAhead_193 : decode cX9_leavingAhead 193 = .ok (.aload_n 0, 1) := by decide +kernel
theorem dX9_leavingAhead_194 : decode cX9_leavingAhead 194 = .ok (.getfield 69, 3) := by decide +kernel
theorem dX9_leavingAhead_197 : decode cX9_leavingAhead 197 = .ok (.iload 4, 2) := by decide +kernel
theorem dX9_leavingAhead_199 : decode cX9_leavingAhead 199 = .ok (.iaload, 1) := by decide +kernel
theorem dX9_leavingAhead_200 : decode cX9_leavingAhead 200 = .ok (.iastore, 1) := by decide +kernel
theorem dX9_leavingAhead_201 : decode cX9_leavingAhead 201 = .ok (.iinc 4 1, 3) := by decide +kernel
theorem dX9_leavingAhead_204 : decode cX9_leavingAhead 204 = .ok (.goto (-26), 3) := by decide +kernel
theorem dX9_leavingAhead_207 : decode cX9_leavingAhead 207 = .ok (.iconst 0, 1) := by decide +kernel
theorem dX9_leavingAhead_208 : decode cX9_leavingAhead 208 = .ok (.istore 4, 2) := by decide +kernel
theorem dX9_leavingAhead_210 : decode cX9_leavingAhead 210 = .ok (.iload 4, 2) := by decide +kernel
theorem dX9_leavingAhead_212 : decode cX9_leavingAhead 212 = .ok (.aload_n 0, 1) := by decide +kernel
theorem dX9_leavingAhead_213 : decode cX9_leavingAhead 213 = .ok (.getfield 84, 3) := by decide +kernel
theorem dX9_leavingAhead_216 : decode cX9_leavingAhead 216 = .ok (.if_icmp .ge 23, 3) := by decide +kernel
theorem dX9_leavingAhead_219 : decode cX9_leavingAhead 219 = .ok (.aload_n 0, 1) := by decide +kernel
theorem dX9_leavingAhead_220 : decode cX9_leavingAhead 220 = .ok (.getfield 45, 3) := by decide +kernel
theorem dX9_leavingAhead_223 : decode cX9_leavingAhead 223 = .ok (.iload 4, 2) := by decide +kernel
theorem dX9_leavingAhead_225 : decode cX9_leavingAhead 225 = .ok (.aload_n 0, 1) := by decide +kernel
theorem dX9_leavingAhead_226 : decode cX9_leavingAhead 226 = .ok (.getfield 72, 3) := by decide +kernel
theorem dX9_leavingAhead_229 : decode cX9_leavingAhead 229 = .ok (.iload 4, 2) := by decide +kernel
theorem dX9_leavingAhead_231 : decode cX9_leavingAhead 231 = .ok (.iaload, 1) := by decide +kernel
theorem dX9_leavingAhead_232 : decode cX9_leavingAhead 232 = .ok (.iastore, 1) := by decide +kernel
theorem dX9_leavingAhead_233 : decode cX9_leavingAhead 233 = .ok (.iinc 4 1, 3) := by decide +kernel
theorem dX9_leavingAhead_236 : decode cX9_leavingAhead 236 = .ok (.goto (-26), 3) := by decide +kernel
theorem dX9_leavingAhead_239 : decode cX9_leavingAhead 239 = .ok (.iload_n 3, 1) := by decide +kernel
theorem dX9_leavingAhead_240 : decode cX9_leavingAhead 240 = .ok (.ireturn, 1) := by decide +kernel
theorem dX9_leavingByTrays_0 : decode cX9_leavingByTrays 0 = .ok (.aload_n 0, 1) := by decide +kernel
theorem dX9_leavingByTrays_1 : decode cX9_leavingByTrays 1 = .ok (.iload_n 1, 1) := by decide +kernel
theorem dX9_leavingByTrays_2 : decode cX9_leavingByTrays 2 = .ok (.invokevirtual 165, 3) := by decide +kernel
theorem dX9_leavingByTrays_5 : decode cX9_leavingByTrays 5 = .ok (.ireturn, 1) := by decide +kernel
theorem dX9_arrive_0 : decode cX9_arrive 0 = .ok (.iload_n 1, 1) := by decide +kernel
theorem dX9_arrive_1 : decode cX9_arrive 1 = .ok (.iconst 0, 1) := by decide +kernel
theorem dX9_arrive_2 : decode cX9_arrive 2 = .ok (.bipush 7, 2) := by decide +kernel
theorem dX9_arrive_4 : decode cX9_arrive 4 = .ok (.invokestatic 87, 3) := by decide +kernel
theorem dX9_arrive_7 : decode cX9_arrive 7 = .ok (.ifCond .eq 13, 3) := by decide +kernel
theorem dX9_arrive_10 : decode cX9_arrive 10 = .ok (.iload_n 2, 1) := by decide +kernel
theorem dX9_arrive_11 : decode cX9_arrive 11 = .ok (.iconst 1, 1) := by decide +kernel
theorem dX9_arrive_12 : decode cX9_arrive 12 = .ok (.bipush 9, 2) := by decide +kernel
theorem dX9_arrive_14 : decode cX9_arrive 14 = .ok (.invokestatic 87, 3) := by decide +kernel
theorem dX9_arrive_17 : decode cX9_arrive 17 = .ok (.ifCond .ne 7, 3) := by decide +kernel
theorem dX9_arrive_20 : decode cX9_arrive 20 = .ok (.iconst 1, 1) := by decide +kernel
theorem dX9_arrive_21 : decode cX9_arrive 21 = .ok (.goto 18, 3) := by decide +kernel
theorem dX9_arrive_24 : decode cX9_arrive 24 = .ok (.aload_n 0, 1) := by decide +kernel
theorem dX9_arrive_25 : decode cX9_arrive 25 = .ok (.getfield 91, 3) := by decide +kernel
theorem dX9_arrive_28 : decode cX9_arrive 28 = .ok (.sipush 300, 3) := by decide +kernel
theorem dX9_arrive_31 : decode cX9_arrive 31 = .ok (.if_icmp .ne 7, 3) := by decide +kernel
theorem dX9_arrive_34 : decode cX9_arrive 34 = .ok (.iconst 2, 1) := by decide +kernel
theorem dX9_arrive_35 : decode cX9_arrive 35 = .ok (.goto 4, 3) := by decide +kernel
theorem dX9_arrive_38 : decode cX9_arrive 38 = .ok (.iconst 0, 1) := by decide +kernel
theorem dX9_arrive_39 : decode cX9_arrive 39 = .ok (.istore_n 3, 1) := by decide +kernel
theorem dX9_arrive_40 : decode cX9_arrive 40 = .ok (.aload_n 0, 1) := by decide +kernel
theorem dX9_arrive_41 : decode cX9_arrive 41 = .ok (.iload_n 3, 1) := by decide +kernel
theorem dX9_arrive_42 : decode cX9_arrive 42 = .ok (.invokevirtual 94, 3) := by decide +kernel
theorem dX9_arrive_45 : decode cX9_arrive 45 = .ok (.ifCond .ne 5, 3) := by decide +kernel
theorem dX9_arrive_48 : decode cX9_arrive 48 = .ok (.iconst 0, 1) := by decide +kernel
theorem dX9_arrive_49 : decode cX9_arrive 49 = .ok (.ireturn, 1) := by decide +kernel
theorem dX9_arrive_50 : decode cX9_arrive 50 = .ok (.aload_n 0, 1) := by decide +kernel
theorem dX9_arrive_51 : decode cX9_arrive 51 = .ok (.getfield 30, 3) := by decide +kernel
theorem dX9_arrive_54 : decode cX9_arrive 54 = .ok (.aload_n 0, 1) := by decide +kernel
theorem dX9_arrive_55 : decode cX9_arrive 55 = .ok (.getfield 91, 3) := by decide +kernel
theorem dX9_arrive_58 : decode cX9_arrive 58 = .ok (.iload_n 1, 1) := by decide +kernel
theorem dX9_arrive_59 : decode cX9_arrive 59 = .ok (.iastore, 1) := by decide +kernel
theorem dX9_arrive_60 : decode cX9_arrive 60 = .ok (.aload_n 0, 1) := by decide +kernel
theorem dX9_arrive_61 : decode cX9_arrive 61 = .ok (.getfield 33, 3) := by decide +kernel
theorem dX9_arrive_64 : decode cX9_arrive 64 = .ok (.aload_n 0, 1) := by decide +kernel
theorem dX9_arrive_65 : decode cX9_arrive 65 = .ok (.getfield 91, 3) := by decide +kernel
theorem dX9_arrive_68 : decode cX9_arrive 68 = .ok (.iload_n 2, 1) := by decide +kernel
theorem dX9_arrive_69 : decode cX9_arrive 69 = .ok (.iastore, 1) := by decide +kernel
theorem dX9_arrive_70 : decode cX9_arrive 70 = .ok (.aload_n 0, 1) := by decide +kernel
theorem dX9_arrive_71 : decode cX9_arrive 71 = .ok (.dup, 1) := by decide +kernel
theorem dX9_arrive_72 : decode cX9_arrive 72 = .ok (.getfield 91, 3) := by decide +kernel
theorem dX9_arrive_75 : decode cX9_arrive 75 = .ok (.iconst 1, 1) := by decide +kernel
theorem dX9_arrive_76 : decode cX9_arrive 76 = .ok (.iadd, 1) := by decide +kernel
theorem dX9_arrive_77 : decode cX9_arrive 77 = .ok (.putfield 91, 3) := by decide +kernel
theorem dX9_arrive_80 : decode cX9_arrive 80 = .ok (.aload_n 0, 1) := by decide +kernel
theorem dX9_arrive_81 : decode cX9_arrive 81 = .ok (.getfield 91, 3) := by decide +kernel
theorem dX9_arrive_84 : decode cX9_arrive 84 = .ok (.iconst 1, 1) := by decide +kernel
theorem dX9_arrive_85 : decode cX9_arrive 85 = .ok (.isub, 1) := by decide +kernel
theorem dX9_arrive_86 : decode cX9_arrive 86 = .ok (.ireturn, 1) := by decide +kernel
theorem dX9_tick_0 : decode cX9_tick 0 = .ok (.aload_n 0, 1) := by decide +kernel
theorem dX9_tick_1 : decode cX9_tick 1 = .ok (.iconst 0, 1) := by decide +kernel
theorem dX9_tick_2 : decode cX9_tick 2 = .ok (.putfield 81, 3) := by decide +kernel
theorem dX9_tick_5 : decode cX9_tick 5 = .ok (.aload_n 0, 1) := by decide +kernel
theorem dX9_tick_6 : decode cX9_tick 6 = .ok (.getfield 135, 3) := by decide +kernel
theorem dX9_tick_9 : decode cX9_tick 9 = .ok (.lreturn, 1) := by decide +kernel
theorem dX9_stateOf_0 : decode cX9_stateOf 0 = .ok (.aload_n 0, 1) := by decide +kernel
theorem dX9_stateOf_1 : decode cX9_stateOf 1 = .ok (.aload_n 0, 1) := by decide +kernel
theorem dX9_stateOf_2 : decode cX9_stateOf 2 = .ok (.iload_n 1, 1) := by decide +kernel
theorem dX9_stateOf_3 : decode cX9_stateOf 3 = .ok (.invokevirtual 168, 3) := by decide +kernel
theorem dX9_stateOf_6 : decode cX9_stateOf 6 = .ok (.ifCond .eq 7, 3) := by decide +kernel
theorem dX9_stateOf_9 : decode cX9_stateOf 9 = .ok (.iconst 0, 1) := by decide +kernel
theorem dX9_stateOf_10 : decode cX9_stateOf 10 = .ok (.goto 4, 3) := by decide +kernel
theorem dX9_stateOf_13 : decode cX9_stateOf 13 = .ok (.iconst 1, 1) := by decide +kernel
theorem dX9_stateOf_14 : decode cX9_stateOf 14 = .ok (.invokevirtual 94, 3) := by decide +kernel
theorem dX9_stateOf_17 : decode cX9_stateOf 17 = .ok (.ifCond .ne 5, 3) := by decide +kernel
theorem dX9_stateOf_20 : decode cX9_stateOf 20 = .ok (.iconst 0, 1) := by decide +kernel
theorem dX9_stateOf_21 : decode cX9_stateOf 21 = .ok (.ireturn, 1) := by decide +kernel
theorem dX9_stateOf_22 : decode cX9_stateOf 22 = .ok (.aload_n 0, 1) := by decide +kernel
theorem dX9_stateOf_23 : decode cX9_stateOf 23 = .ok (.getfield 36, 3) := by decide +kernel
theorem dX9_stateOf_26 : decode cX9_stateOf 26 = .ok (.iload_n 1, 1) := by decide +kernel
theorem dX9_stateOf_27 : decode cX9_stateOf 27 = .ok (.iaload, 1) := by decide +kernel
theorem dX9_stateOf_28 : decode cX9_stateOf 28 = .ok (.istore_n 2, 1) := by decide +kernel
theorem dX9_stateOf_29 : decode cX9_stateOf 29 = .ok (.iload_n 2, 1) := by decide +kernel
theorem dX9_stateOf_30 : decode cX9_stateOf 30 = .ok (.ifCond .ne 8, 3) := by decide +kernel
theorem dX9_stateOf_33 : decode cX9_stateOf 33 = .ok (.bipush 119, 2) := by decide +kernel
theorem dX9_stateOf_35 : decode cX9_stateOf 35 = .ok (.goto 35, 3) := by decide +kernel
theorem dX9_stateOf_38 : decode cX9_stateOf 38 = .ok (.iload_n 2, 1) := by decide +kernel
theorem dX9_stateOf_39 : decode cX9_stateOf 39 = .ok (.iconst 1, 1) := by decide +kernel
theorem dX9_stateOf_40 : decode cX9_stateOf 40 = .ok (.if_icmp .ne 8, 3) := by decide +kernel
theorem dX9_stateOf_43 : decode cX9_stateOf 43 = .ok (.bipush 108, 2) := by decide +kernel
theorem dX9_stateOf_45 : decode cX9_stateOf 45 = .ok (.goto 25, 3) := by decide +kernel
theorem dX9_stateOf_48 : decode cX9_stateOf 48 = .ok (.iload_n 2, 1) := by decide +kernel
theorem dX9_stateOf_49 : decode cX9_stateOf 49 = .ok (.iconst 2, 1) := by decide +kernel
theorem dX9_stateOf_50 : decode cX9_stateOf 50 = .ok (.if_icmp .ne 8, 3) := by decide +kernel
theorem dX9_stateOf_53 : decode cX9_stateOf 53 = .ok (.bipush 99, 2) := by decide +kernel
theorem dX9_stateOf_55 : decode cX9_stateOf 55 = .ok (.goto 15, 3) := by decide +kernel
theorem dX9_stateOf_58 : decode cX9_stateOf 58 = .ok (.iload_n 2, 1) := by decide +kernel
theorem dX9_stateOf_59 : decode cX9_stateOf 59 = .ok (.iconst 3, 1) := by decide +kernel
theorem dX9_stateOf_60 : decode cX9_stateOf 60 = .ok (.if_icmp .ne 8, 3) := by decide +kernel
theorem dX9_stateOf_63 : decode cX9_stateOf 63 = .ok (.bipush 116, 2) := by decide +kernel
theorem dX9_stateOf_65 : decode cX9_stateOf 65 = .ok (.goto 5, 3) := by decide +kernel
theorem dX9_stateOf_68 : decode cX9_stateOf 68 = .ok (.bipush 111, 2) := by decide +kernel
theorem dX9_stateOf_70 : decode cX9_stateOf 70 = .ok (.ireturn, 1) := by decide +kernel
theorem dX9_positionIn_0 : decode cX9_positionIn 0 = .ok (.iconst 0, 1) := by decide +kernel
theorem dX9_positionIn_1 : decode cX9_positionIn 1 = .ok (.istore_n 2, 1) := by decide +kernel
theorem dX9_positionIn_2 : decode cX9_positionIn 2 = .ok (.aload_n 0, 1) := by decide +kernel
theorem dX9_positionIn_3 : decode cX9_positionIn 3 = .ok (.getfield 13, 3) := by decide +kernel
theorem dX9_positionIn_6 : decode cX9_positionIn 6 = .ok (.iload_n 2, 1) := by decide +kernel
theorem dX9_positionIn_7 : decode cX9_positionIn 7 = .ok (.iaload, 1) := by decide +kernel
theorem dX9_positionIn_8 : decode cX9_positionIn 8 = .ok (.iload_n 1, 1) := by decide +kernel
theorem dX9_positionIn_9 : decode cX9_positionIn 9 = .ok (.if_icmp .eq 9, 3) := by decide +kernel
theorem dX9_positionIn_12 : decode cX9_positionIn 12 = .ok (.iinc 2 1, 3) := by decide +kernel
theorem dX9_positionIn_15 : decode cX9_positionIn 15 = .ok (.goto (-13), 3) := by decide +kernel
theorem dX9_positionIn_18 : decode cX9_positionIn 18 = .ok (.iload_n 2, 1) := by decide +kernel
theorem dX9_positionIn_19 : decode cX9_positionIn 19 = .ok (.ireturn, 1) := by decide +kernel
theorem dX9_positionOf_0 : decode cX9_positionOf 0 = .ok (.aload_n 0, 1) := by decide +kernel
theorem dX9_positionOf_1 : decode cX9_positionOf 1 = .ok (.aload_n 0, 1) := by decide +kernel
theorem dX9_positionOf_2 : decode cX9_positionOf 2 = .ok (.iload_n 1, 1) := by decide +kernel
theorem dX9_positionOf_3 : decode cX9_positionOf 3 = .ok (.invokevirtual 168, 3) := by decide +kernel
theorem dX9_positionOf_6 : decode cX9_positionOf 6 = .ok (.ifCond .ne 7, 3) := by decide +kernel
theorem dX9_positionOf_9 : decode cX9_positionOf 9 = .ok (.iconst 1, 1) := by decide +kernel
theorem dX9_positionOf_10 : decode cX9_positionOf 10 = .ok (.goto 18, 3) := by decide +kernel
theorem dX9_positionOf_13 : decode cX9_positionOf 13 = .ok (.aload_n 0, 1) := by decide +kernel
theorem dX9_positionOf_14 : decode cX9_positionOf 14 = .ok (.getfield 36, 3) := by decide +kernel
theorem dX9_positionOf_17 : decode cX9_positionOf 17 = .ok (.iload_n 1, 1) := by decide +kernel
theorem dX9_positionOf_18 : decode cX9_positionOf 18 = .ok (.iaload, 1) := by decide +kernel
theorem dX9_positionOf_19 : decode cX9_positionOf 19 = .ok (.iconst 1, 1) := by decide +kernel
theorem dX9_positionOf_20 : decode cX9_positionOf 20 = .ok (.if_icmp .eq 7, 3) := by decide +kernel
theorem dX9_positionOf_23 : decode cX9_positionOf 23 = .ok (.iconst 2, 1) := by decide +kernel
theorem dX9_positionOf_24 : decode cX9_positionOf 24 = .ok (.goto 4, 3) := by decide +kernel
theorem dX9_positionOf_27 : decode cX9_positionOf 27 = .ok (.iconst 0, 1) := by decide +kernel
theorem dX9_positionOf_28 : decode cX9_positionOf 28 = .ok (.invokevirtual 94, 3) := by decide +kernel
theorem dX9_positionOf_31 : decode cX9_positionOf 31 = .ok (.ifCond .eq 11, 3) := by decide +kernel
theorem dX9_positionOf_34 : decode cX9_positionOf 34 = .ok (.aload_n 0, 1) := by decide +kernel
theorem dX9_positionOf_35 : decode cX9_positionOf 35 = .ok (.iload_n 1, 1) := by decide +kernel
theorem dX9_positionOf_36 : decode cX9_positionOf 36 = .ok (.invokevirtual 171, 3) := by decide +kernel
theorem dX9_positionOf_39 : decode cX9_positionOf 39 = .ok (.goto 4, 3) := by decide +kernel
theorem dX9_positionOf_42 : decode cX9_positionOf 42 = .ok (.iconst 0, 1) := by decide +kernel
theorem dX9_positionOf_43 : decode cX9_positionOf 43 = .ok (.ireturn, 1) := by decide +kernel
theorem dX9_roundsOf_0 : decode cX9_roundsOf 0 = .ok (.aload_n 0, 1) := by decide +kernel
theorem dX9_roundsOf_1 : decode cX9_roundsOf 1 = .ok (.aload_n 0, 1) := by decide +kernel
theorem dX9_roundsOf_2 : decode cX9_roundsOf 2 = .ok (.iload_n 1, 1) := by decide +kernel
theorem dX9_roundsOf_3 : decode cX9_roundsOf 3 = .ok (.invokevirtual 168, 3) := by decide +kernel
theorem dX9_roundsOf_6 : decode cX9_roundsOf 6 = .ok (.ifCond .ne 7, 3) := by decide +kernel
theorem dX9_roundsOf_9 : decode cX9_roundsOf 9 = .ok (.iconst 1, 1) := by decide +kernel
theorem dX9_roundsOf_10 : decode cX9_roundsOf 10 = .ok (.goto 17, 3) := by decide +kernel
theorem dX9_roundsOf_13 : decode cX9_roundsOf 13 = .ok (.aload_n 0, 1) := by decide +kernel
theorem dX9_roundsOf_14 : decode cX9_roundsOf 14 = .ok (.getfield 36, 3) := by decide +kernel
theorem dX9_roundsOf_17 : decode cX9_roundsOf 17 = .ok (.iload_n 1, 1) := by decide +kernel
theorem dX9_roundsOf_18 : decode cX9_roundsOf 18 = .ok (.iaload, 1) := by decide +kernel
theorem dX9_roundsOf_19 : decode cX9_roundsOf 19 = .ok (.ifCond .ne 7, 3) := by decide +kernel
theorem dX9_roundsOf_22 : decode cX9_roundsOf 22 = .ok (.iconst 2, 1) := by decide +kernel
theorem dX9_roundsOf_23 : decode cX9_roundsOf 23 = .ok (.goto 4, 3) := by decide +kernel
theorem dX9_roundsOf_26 : decode cX9_roundsOf 26 = .ok (.iconst 0, 1) := by decide +kernel
theorem dX9_roundsOf_27 : decode cX9_roundsOf 27 = .ok (.invokevirtual 94, 3) := by decide +kernel
theorem dX9_roundsOf_30 : decode cX9_roundsOf 30 = .ok (.ifCond .eq 12, 3) := by decide +kernel
theorem dX9_roundsOf_33 : decode cX9_roundsOf 33 = .ok (.aload_n 0, 1) := by decide +kernel
theorem dX9_roundsOf_34 : decode cX9_roundsOf 34 = .ok (.getfield 39, 3) := by decide +kernel
theorem dX9_roundsOf_37 : decode cX9_roundsOf 37 = .ok (.iload_n 1, 1) := by decide +kernel
theorem dX9_roundsOf_38 : decode cX9_roundsOf 38 = .ok (.iaload, 1) := by decide +kernel
theorem dX9_roundsOf_39 : decode cX9_roundsOf 39 = .ok (.goto 4, 3) := by decide +kernel
theorem dX9_roundsOf_42 : decode cX9_roundsOf 42 = .ok (.iconst 0, 1) := by decide +kernel
theorem dX9_roundsOf_43 : decode cX9_roundsOf 43 = .ok (.ireturn, 1) := by decide +kernel
theorem dX9_trayAt_0 : decode cX9_trayAt 0 = .ok (.aload_n 0, 1) := by decide +kernel
theorem dX9_trayAt_1 : decode cX9_trayAt 1 = .ok (.aload_n 0, 1) := by decide +kernel
theorem dX9_trayAt_2 : decode cX9_trayAt 2 = .ok (.iload_n 1, 1) := by decide +kernel
theorem dX9_trayAt_3 : decode cX9_trayAt 3 = .ok (.invokevirtual 126, 3) := by decide +kernel
theorem dX9_trayAt_6 : decode cX9_trayAt 6 = .ok (.ifCond .ne 7, 3) := by decide +kernel
theorem dX9_trayAt_9 : decode cX9_trayAt 9 = .ok (.iconst 1, 1) := by decide +kernel
theorem dX9_trayAt_10 : decode cX9_trayAt 10 = .ok (.goto 18, 3) := by decide +kernel
theorem dX9_trayAt_13 : decode cX9_trayAt 13 = .ok (.aload_n 0, 1) := by decide +kernel
theorem dX9_trayAt_14 : decode cX9_trayAt 14 = .ok (.getfield 13, 3) := by decide +kernel
theorem dX9_trayAt_17 : decode cX9_trayAt 17 = .ok (.iload_n 1, 1) := by decide +kernel
theorem dX9_trayAt_18 : decode cX9_trayAt 18 = .ok (.iaload, 1) := by decide +kernel
theorem dX9_trayAt_19 : decode cX9_trayAt 19 = .ok (.iconst (-1), 1) := by decide +kernel
end
section
theorem dX9_trayAt_20 : decode cX9_trayAt 20 = .ok (.if_icmp .ne 7, 3) := by decide +kernel
theorem dX9_trayAt_23 : decode cX9_trayAt 23 = .ok (.iconst 2, 1) := by decide +kernel
theorem dX9_trayAt_24 : decode cX9_trayAt 24 = .ok (.goto 4, 3) := by decide +kernel
theorem dX9_trayAt_27 : decode cX9_trayAt 27 = .ok (.iconst 0, 1) := by decide +kernel
theorem dX9_trayAt_28 : decode cX9_trayAt 28 = .ok (.invokevirtual 94, 3) := by decide +kernel
theorem dX9_trayAt_31 : decode cX9_trayAt 31 = .ok (.ifCond .eq 12, 3) := by decide +kernel
theorem dX9_trayAt_34 : decode cX9_trayAt 34 = .ok (.aload_n 0, 1) := by decide +kernel
theorem dX9_trayAt_35 : decode cX9_trayAt 35 = .ok (.getfield 13, 3) := by decide +kernel
theorem dX9_trayAt_38 : decode cX9_trayAt 38 = .ok (.iload_n 1, 1) := by decide +kernel
theorem dX9_trayAt_39 : decode cX9_trayAt 39 = .ok (.iaload, 1) := by decide +kernel
theorem dX9_trayAt_40 : decode cX9_trayAt 40 = .ok (.goto 4, 3) := by decide +kernel
theorem dX9_trayAt_43 : decode cX9_trayAt 43 = .ok (.iconst 0, 1) := by decide +kernel
theorem dX9_trayAt_44 : decode cX9_trayAt 44 = .ok (.ireturn, 1) := by decide +kernel
theorem dX9_waiting_0 : decode cX9_waiting 0 = .ok (.aload_n 0, 1) := by decide +kernel
theorem dX9_waiting_1 : decode cX9_waiting 1 = .ok (.iconst 0, 1) := by decide +kernel
theorem dX9_waiting_2 : decode cX9_waiting 2 = .ok (.putfield 81, 3) := by decide +kernel
theorem dX9_waiting_5 : decode cX9_waiting 5 = .ok (.aload_n 0, 1) := by decide +kernel
theorem dX9_waiting_6 : decode cX9_waiting 6 = .ok (.getfield 91, 3) := by decide +kernel
theorem dX9_waiting_9 : decode cX9_waiting 9 = .ok (.aload_n 0, 1) := by decide +kernel
theorem dX9_waiting_10 : decode cX9_waiting 10 = .ok (.getfield 156, 3) := by decide +kernel
theorem dX9_waiting_13 : decode cX9_waiting 13 = .ok (.isub, 1) := by decide +kernel
theorem dX9_waiting_14 : decode cX9_waiting 14 = .ok (.ireturn, 1) := by decide +kernel
theorem dX9_onLoop_0 : decode cX9_onLoop 0 = .ok (.aload_n 0, 1) := by decide +kernel
theorem dX9_onLoop_1 : decode cX9_onLoop 1 = .ok (.iconst 0, 1) := by decide +kernel
theorem dX9_onLoop_2 : decode cX9_onLoop 2 = .ok (.putfield 81, 3) := by decide +kernel
theorem dX9_onLoop_5 : decode cX9_onLoop 5 = .ok (.aload_n 0, 1) := by decide +kernel
theorem dX9_onLoop_6 : decode cX9_onLoop 6 = .ok (.getfield 156, 3) := by decide +kernel
theorem dX9_onLoop_9 : decode cX9_onLoop 9 = .ok (.aload_n 0, 1) := by decide +kernel
theorem dX9_onLoop_10 : decode cX9_onLoop 10 = .ok (.getfield 129, 3) := by decide +kernel
theorem dX9_onLoop_13 : decode cX9_onLoop 13 = .ok (.isub, 1) := by decide +kernel
theorem dX9_onLoop_14 : decode cX9_onLoop 14 = .ok (.ireturn, 1) := by decide +kernel
theorem dX9_overflowed_0 : decode cX9_overflowed 0 = .ok (.aload_n 0, 1) := by decide +kernel
theorem dX9_overflowed_1 : decode cX9_overflowed 1 = .ok (.iconst 0, 1) := by decide +kernel
theorem dX9_overflowed_2 : decode cX9_overflowed 2 = .ok (.putfield 81, 3) := by decide +kernel
theorem dX9_overflowed_5 : decode cX9_overflowed 5 = .ok (.aload_n 0, 1) := by decide +kernel
theorem dX9_overflowed_6 : decode cX9_overflowed 6 = .ok (.getfield 153, 3) := by decide +kernel
theorem dX9_overflowed_9 : decode cX9_overflowed 9 = .ok (.ireturn, 1) := by decide +kernel
theorem dX9_loadOf_0 : decode cX9_loadOf 0 = .ok (.iconst 0, 1) := by decide +kernel
theorem dX9_loadOf_1 : decode cX9_loadOf 1 = .ok (.istore_n 2, 1) := by decide +kernel
theorem dX9_loadOf_2 : decode cX9_loadOf 2 = .ok (.iconst 0, 1) := by decide +kernel
theorem dX9_loadOf_3 : decode cX9_loadOf 3 = .ok (.istore_n 3, 1) := by decide +kernel
theorem dX9_loadOf_4 : decode cX9_loadOf 4 = .ok (.iload_n 3, 1) := by decide +kernel
theorem dX9_loadOf_5 : decode cX9_loadOf 5 = .ok (.aload_n 0, 1) := by decide +kernel
theorem dX9_loadOf_6 : decode cX9_loadOf 6 = .ok (.getfield 91, 3) := by decide +kernel
theorem dX9_loadOf_9 : decode cX9_loadOf 9 = .ok (.if_icmp .ge 51, 3) := by decide +kernel
theorem dX9_loadOf_12 : decode cX9_loadOf 12 = .ok (.iload_n 2, 1) := by decide +kernel
theorem dX9_loadOf_13 : decode cX9_loadOf 13 = .ok (.aload_n 0, 1) := by decide +kernel
theorem dX9_loadOf_14 : decode cX9_loadOf 14 = .ok (.getfield 30, 3) := by decide +kernel
theorem dX9_loadOf_17 : decode cX9_loadOf 17 = .ok (.iload_n 3, 1) := by decide +kernel
theorem dX9_loadOf_18 : decode cX9_loadOf 18 = .ok (.iaload, 1) := by decide +kernel
theorem dX9_loadOf_19 : decode cX9_loadOf 19 = .ok (.iload_n 1, 1) := by decide +kernel
theorem dX9_loadOf_20 : decode cX9_loadOf 20 = .ok (.if_icmp .ne 31, 3) := by decide +kernel
theorem dX9_loadOf_23 : decode cX9_loadOf 23 = .ok (.aload_n 0, 1) := by decide +kernel
theorem dX9_loadOf_24 : decode cX9_loadOf 24 = .ok (.getfield 36, 3) := by decide +kernel
theorem dX9_loadOf_27 : decode cX9_loadOf 27 = .ok (.iload_n 3, 1) := by decide +kernel
theorem dX9_loadOf_28 : decode cX9_loadOf 28 = .ok (.iaload, 1) := by decide +kernel
theorem dX9_loadOf_29 : decode cX9_loadOf 29 = .ok (.ifCond .eq 13, 3) := by decide +kernel
theorem dX9_loadOf_32 : decode cX9_loadOf 32 = .ok (.aload_n 0, 1) := by decide +kernel
theorem dX9_loadOf_33 : decode cX9_loadOf 33 = .ok (.getfield 36, 3) := by decide +kernel
theorem dX9_loadOf_36 : decode cX9_loadOf 36 = .ok (.iload_n 3, 1) := by decide +kernel
theorem dX9_loadOf_37 : decode cX9_loadOf 37 = .ok (.iaload, 1) := by decide +kernel
theorem dX9_loadOf_38 : decode cX9_loadOf 38 = .ok (.iconst 1, 1) := by decide +kernel
theorem dX9_loadOf_39 : decode cX9_loadOf 39 = .ok (.if_icmp .ne 12, 3) := by decide +kernel
theorem dX9_loadOf_42 : decode cX9_loadOf 42 = .ok (.aload_n 0, 1) := by decide +kernel
theorem dX9_loadOf_43 : decode cX9_loadOf 43 = .ok (.getfield 33, 3) := by decide +kernel
theorem dX9_loadOf_46 : decode cX9_loadOf 46 = .ok (.iload_n 3, 1) := by decide +kernel
theorem dX9_loadOf_47 : decode cX9_loadOf 47 = .ok (.iaload, 1) := by decide +kernel
theorem dX9_loadOf_48 : decode cX9_loadOf 48 = .ok (.goto 4, 3) := by decide +kernel
theorem dX9_loadOf_51 : decode cX9_loadOf 51 = .ok (.iconst 0, 1) := by decide +kernel
theorem dX9_loadOf_52 : decode cX9_loadOf 52 = .ok (.iadd, 1) := by decide +kernel
theorem dX9_loadOf_53 : decode cX9_loadOf 53 = .ok (.istore_n 2, 1) := by decide +kernel
theorem dX9_loadOf_54 : decode cX9_loadOf 54 = .ok (.iinc 3 1, 3) := by decide +kernel
theorem dX9_loadOf_57 : decode cX9_loadOf 57 = .ok (.goto (-53), 3) := by decide +kernel
theorem dX9_loadOf_60 : decode cX9_loadOf 60 = .ok (.iload_n 2, 1) := by decide +kernel
theorem dX9_loadOf_61 : decode cX9_loadOf 61 = .ok (.ireturn, 1) := by decide +kernel
theorem dX9_isSomeFree_0 : decode cX9_isSomeFree 0 = .ok (.iconst 0, 1) := by decide +kernel
theorem dX9_isSomeFree_1 : decode cX9_isSomeFree 1 = .ok (.istore_n 1, 1) := by decide +kernel
theorem dX9_isSomeFree_2 : decode cX9_isSomeFree 2 = .ok (.iconst 0, 1) := by decide +kernel
theorem dX9_isSomeFree_3 : decode cX9_isSomeFree 3 = .ok (.istore_n 2, 1) := by decide +kernel
theorem dX9_isSomeFree_4 : decode cX9_isSomeFree 4 = .ok (.iload_n 2, 1) := by decide +kernel
theorem dX9_isSomeFree_5 : decode cX9_isSomeFree 5 = .ok (.aload_n 0, 1) := by decide +kernel
theorem dX9_isSomeFree_6 : decode cX9_isSomeFree 6 = .ok (.getfield 84, 3) := by decide +kernel
theorem dX9_isSomeFree_9 : decode cX9_isSomeFree 9 = .ok (.if_icmp .ge 28, 3) := by decide +kernel
theorem dX9_isSomeFree_12 : decode cX9_isSomeFree 12 = .ok (.iload_n 1, 1) := by decide +kernel
theorem dX9_isSomeFree_13 : decode cX9_isSomeFree 13 = .ok (.ifCond .ne 12, 3) := by decide +kernel
theorem dX9_isSomeFree_16 : decode cX9_isSomeFree 16 = .ok (.aload_n 0, 1) := by decide +kernel
theorem dX9_isSomeFree_17 : decode cX9_isSomeFree 17 = .ok (.getfield 23, 3) := by decide +kernel
theorem dX9_isSomeFree_20 : decode cX9_isSomeFree 20 = .ok (.iload_n 2, 1) := by decide +kernel
theorem dX9_isSomeFree_21 : decode cX9_isSomeFree 21 = .ok (.baload, 1) := by decide +kernel
theorem dX9_isSomeFree_22 : decode cX9_isSomeFree 22 = .ok (.ifCond .ne 7, 3) := by decide +kernel
theorem dX9_isSomeFree_25 : decode cX9_isSomeFree 25 = .ok (.iconst 1, 1) := by decide +kernel
theorem dX9_isSomeFree_26 : decode cX9_isSomeFree 26 = .ok (.goto 4, 3) := by decide +kernel
theorem dX9_isSomeFree_29 : decode cX9_isSomeFree 29 = .ok (.iconst 0, 1) := by decide +kernel
theorem dX9_isSomeFree_30 : decode cX9_isSomeFree 30 = .ok (.istore_n 1, 1) := by decide +kernel
theorem dX9_isSomeFree_31 : decode cX9_isSomeFree 31 = .ok (.iinc 2 1, 3) := by decide +kernel
theorem dX9_isSomeFree_34 : decode cX9_isSomeFree 34 = .ok (.goto (-30), 3) := by decide +kernel
theorem dX9_isSomeFree_37 : decode cX9_isSomeFree 37 = .ok (.iload_n 1, 1) := by decide +kernel
theorem dX9_isSomeFree_38 : decode cX9_isSomeFree 38 = .ok (.ireturn, 1) := by decide +kernel
theorem dX9_leastChute_0 : decode cX9_leastChute 0 = .ok (.iconst (-1), 1) := by decide +kernel
theorem dX9_leastChute_1 : decode cX9_leastChute 1 = .ok (.istore_n 1, 1) := by decide +kernel
theorem dX9_leastChute_2 : decode cX9_leastChute 2 = .ok (.iconst 0, 1) := by decide +kernel
theorem dX9_leastChute_3 : decode cX9_leastChute 3 = .ok (.istore_n 2, 1) := by decide +kernel
theorem dX9_leastChute_4 : decode cX9_leastChute 4 = .ok (.iload_n 2, 1) := by decide +kernel
theorem dX9_leastChute_5 : decode cX9_leastChute 5 = .ok (.aload_n 0, 1) := by decide +kernel
theorem dX9_leastChute_6 : decode cX9_leastChute 6 = .ok (.getfield 84, 3) := by decide +kernel
theorem dX9_leastChute_9 : decode cX9_leastChute 9 = .ok (.if_icmp .ge 44, 3) := by decide +kernel
theorem dX9_leastChute_12 : decode cX9_leastChute 12 = .ok (.aload_n 0, 1) := by decide +kernel
theorem dX9_leastChute_13 : decode cX9_leastChute 13 = .ok (.getfield 23, 3) := by decide +kernel
theorem dX9_leastChute_16 : decode cX9_leastChute 16 = .ok (.iload_n 2, 1) := by decide +kernel
theorem dX9_leastChute_17 : decode cX9_leastChute 17 = .ok (.baload, 1) := by decide +kernel
theorem dX9_leastChute_18 : decode cX9_leastChute 18 = .ok (.ifCond .ne 27, 3) := by decide +kernel
theorem dX9_leastChute_21 : decode cX9_leastChute 21 = .ok (.iload_n 1, 1) := by decide +kernel
theorem dX9_leastChute_22 : decode cX9_leastChute 22 = .ok (.iconst (-1), 1) := by decide +kernel
theorem dX9_leastChute_23 : decode cX9_leastChute 23 = .ok (.if_icmp .eq 18, 3) := by decide +kernel
theorem dX9_leastChute_26 : decode cX9_leastChute 26 = .ok (.aload_n 0, 1) := by decide +kernel
theorem dX9_leastChute_27 : decode cX9_leastChute 27 = .ok (.getfield 75, 3) := by decide +kernel
theorem dX9_leastChute_30 : decode cX9_leastChute 30 = .ok (.iload_n 2, 1) := by decide +kernel
theorem dX9_leastChute_31 : decode cX9_leastChute 31 = .ok (.iaload, 1) := by decide +kernel
theorem dX9_leastChute_32 : decode cX9_leastChute 32 = .ok (.aload_n 0, 1) := by decide +kernel
theorem dX9_leastChute_33 : decode cX9_leastChute 33 = .ok (.getfield 75, 3) := by decide +kernel
theorem dX9_leastChute_36 : decode cX9_leastChute 36 = .ok (.iload_n 1, 1) := by decide +kernel
theorem dX9_leastChute_37 : decode cX9_leastChute 37 = .ok (.iaload, 1) := by decide +kernel
theorem dX9_leastChute_38 : decode cX9_leastChute 38 = .ok (.if_icmp .ge 7, 3) := by decide +kernel
theorem dX9_leastChute_41 : decode cX9_leastChute 41 = .ok (.iload_n 2, 1) := by decide +kernel
theorem dX9_leastChute_42 : decode cX9_leastChute 42 = .ok (.goto 4, 3) := by decide +kernel
theorem dX9_leastChute_45 : decode cX9_leastChute 45 = .ok (.iload_n 1, 1) := by decide +kernel
theorem dX9_leastChute_46 : decode cX9_leastChute 46 = .ok (.istore_n 1, 1) := by decide +kernel
theorem dX9_leastChute_47 : decode cX9_leastChute 47 = .ok (.iinc 2 1, 3) := by decide +kernel
theorem dX9_leastChute_50 : decode cX9_leastChute 50 = .ok (.goto (-46), 3) := by decide +kernel
theorem dX9_leastChute_53 : decode cX9_leastChute 53 = .ok (.iload_n 1, 1) := by decide +kernel
theorem dX9_leastChute_54 : decode cX9_leastChute 54 = .ok (.ireturn, 1) := by decide +kernel
theorem dX9_greatestRoute_0 : decode cX9_greatestRoute 0 = .ok (.iconst 0, 1) := by decide +kernel
theorem dX9_greatestRoute_1 : decode cX9_greatestRoute 1 = .ok (.istore_n 1, 1) := by decide +kernel
theorem dX9_greatestRoute_2 : decode cX9_greatestRoute 2 = .ok (.iconst 1, 1) := by decide +kernel
theorem dX9_greatestRoute_3 : decode cX9_greatestRoute 3 = .ok (.istore_n 2, 1) := by decide +kernel
theorem dX9_greatestRoute_4 : decode cX9_greatestRoute 4 = .ok (.iload_n 2, 1) := by decide +kernel
theorem dX9_greatestRoute_5 : decode cX9_greatestRoute 5 = .ok (.bipush 8, 2) := by decide +kernel
theorem dX9_greatestRoute_7 : decode cX9_greatestRoute 7 = .ok (.if_icmp .ge 30, 3) := by decide +kernel
theorem dX9_greatestRoute_10 : decode cX9_greatestRoute 10 = .ok (.aload_n 0, 1) := by decide +kernel
theorem dX9_greatestRoute_11 : decode cX9_greatestRoute 11 = .ok (.getfield 78, 3) := by decide +kernel
theorem dX9_greatestRoute_14 : decode cX9_greatestRoute 14 = .ok (.iload_n 2, 1) := by decide +kernel
theorem dX9_greatestRoute_15 : decode cX9_greatestRoute 15 = .ok (.iaload, 1) := by decide +kernel
theorem dX9_greatestRoute_16 : decode cX9_greatestRoute 16 = .ok (.aload_n 0, 1) := by decide +kernel
theorem dX9_greatestRoute_17 : decode cX9_greatestRoute 17 = .ok (.getfield 78, 3) := by decide +kernel
theorem dX9_greatestRoute_20 : decode cX9_greatestRoute 20 = .ok (.iload_n 1, 1) := by decide +kernel
theorem dX9_greatestRoute_21 : decode cX9_greatestRoute 21 = .ok (.iaload, 1) := by decide +kernel
theorem dX9_greatestRoute_22 : decode cX9_greatestRoute 22 = .ok (.if_icmp .le 7, 3) := by decide +kernel
theorem dX9_greatestRoute_25 : decode cX9_greatestRoute 25 = .ok (.iload_n 2, 1) := by decide +kernel
theorem dX9_greatestRoute_26 : decode cX9_greatestRoute 26 = .ok (.goto 4, 3) := by decide +kernel
theorem dX9_greatestRoute_29 : decode cX9_greatestRoute 29 = .ok (.iload_n 1, 1) := by decide +kernel
theorem dX9_greatestRoute_30 : decode cX9_greatestRoute 30 = .ok (.istore_n 1, 1) := by decide +kernel
theorem dX9_greatestRoute_31 : decode cX9_greatestRoute 31 = .ok (.iinc 2 1, 3) := by decide +kernel
theorem dX9_greatestRoute_34 : decode cX9_greatestRoute 34 = .ok (.goto (-30), 3) := by decide +kernel
theorem dX9_greatestRoute_37 : decode cX9_greatestRoute 37 = .ok (.iload_n 1, 1) := by decide +kernel
theorem dX9_greatestRoute_38 : decode cX9_greatestRoute 38 = .ok (.ireturn, 1) := by decide +kernel
theorem dX9_startWave_0 : decode cX9_startWave 0 = .ok (.aload_n 0, 1) := by decide +kernel
theorem dX9_startWave_1 : decode cX9_startWave 1 = .ok (.aload_n 0, 1) := by decide +kernel
theorem dX9_startWave_2 : decode cX9_startWave 2 = .ok (.invokevirtual 174, 3) := by decide +kernel
theorem dX9_startWave_5 : decode cX9_startWave 5 = .ok (.ifCond .eq 7, 3) := by decide +kernel
theorem dX9_startWave_8 : decode cX9_startWave 8 = .ok (.iconst 0, 1) := by decide +kernel
theorem dX9_startWave_9 : decode cX9_startWave 9 = .ok (.goto 4, 3) := by decide +kernel
theorem dX9_startWave_12 : decode cX9_startWave 12 = .ok (.iconst 1, 1) := by decide +kernel
theorem dX9_startWave_13 : decode cX9_startWave 13 = .ok (.invokevirtual 94, 3) := by decide +kernel
theorem dX9_startWave_16 : decode cX9_startWave 16 = .ok (.ifCond .ne 5, 3) := by decide +kernel
theorem dX9_startWave_19 : decode cX9_startWave 19 = .ok (.iconst 0, 1) := by decide +kernel
theorem dX9_startWave_20 : decode cX9_startWave 20 = .ok (.ireturn, 1) := by decide +kernel
theorem dX9_startWave_21 : decode cX9_startWave 21 = .ok (.iconst 0, 1) := by decide +kernel
theorem dX9_startWave_22 : decode cX9_startWave 22 = .ok (.istore_n 1, 1) := by decide +kernel
theorem dX9_startWave_23 : decode cX9_startWave 23 = .ok (.iload_n 1, 1) := by decide +kernel
theorem dX9_startWave_24 : decode cX9_startWave 24 = .ok (.bipush 6, 2) := by decide +kernel
theorem dX9_startWave_26 : decode cX9_startWave 26 = .ok (.if_icmp .ge 16, 3) := by decide +kernel
theorem dX9_startWave_29 : decode cX9_startWave 29 = .ok (.aload_n 0, 1) := by decide +kernel
theorem dX9_startWave_30 : decode cX9_startWave 30 = .ok (.getfield 75, 3) := by decide +kernel
theorem dX9_startWave_33 : decode cX9_startWave 33 = .ok (.iload_n 1, 1) := by decide +kernel
theorem dX9_startWave_34 : decode cX9_startWave 34 = .ok (.iconst 0, 1) := by decide +kernel
theorem dX9_startWave_35 : decode cX9_startWave 35 = .ok (.iastore, 1) := by decide +kernel
theorem dX9_startWave_36 : decode cX9_startWave 36 = .ok (.iinc 1 1, 3) := by decide +kernel
theorem dX9_startWave_39 : decode cX9_startWave 39 = .ok (.goto (-16), 3) := by decide +kernel
theorem dX9_startWave_42 : decode cX9_startWave 42 = .ok (.iconst 0, 1) := by decide +kernel
theorem dX9_startWave_43 : decode cX9_startWave 43 = .ok (.istore_n 1, 1) := by decide +kernel
theorem dX9_startWave_44 : decode cX9_startWave 44 = .ok (.iload_n 1, 1) := by decide +kernel
theorem dX9_startWave_45 : decode cX9_startWave 45 = .ok (.bipush 8, 2) := by decide +kernel
theorem dX9_startWave_47 : decode cX9_startWave 47 = .ok (.if_icmp .ge 27, 3) := by decide +kernel
theorem dX9_startWave_50 : decode cX9_startWave 50 = .ok (.aload_n 0, 1) := by decide +kernel
theorem dX9_startWave_51 : decode cX9_startWave 51 = .ok (.getfield 78, 3) := by decide +kernel
theorem dX9_startWave_54 : decode cX9_startWave 54 = .ok (.iload_n 1, 1) := by decide +kernel
theorem dX9_startWave_55 : decode cX9_startWave 55 = .ok (.aload_n 0, 1) := by decide +kernel
theorem dX9_startWave_56 : decode cX9_startWave 56 = .ok (.iload_n 1, 1) := by decide +kernel
theorem dX9_startWave_57 : decode cX9_startWave 57 = .ok (.invokevirtual 177, 3) := by decide +kernel
theorem dX9_startWave_60 : decode cX9_startWave 60 = .ok (.iastore, 1) := by decide +kernel
theorem dX9_startWave_61 : decode cX9_startWave 61 = .ok (.aload_n 0, 1) := by decide +kernel
theorem dX9_startWave_62 : decode cX9_startWave 62 = .ok (.getfield 42, 3) := by decide +kernel
theorem dX9_startWave_65 : decode cX9_startWave 65 = .ok (.iload_n 1, 1) := by decide +kernel
theorem dX9_startWave_66 : decode cX9_startWave 66 = .ok (.iconst (-1), 1) := by decide +kernel
theorem dX9_startWave_67 : decode cX9_startWave 67 = .ok (.iastore, 1) := by decide +kernel
theorem dX9_startWave_68 : decode cX9_startWave 68 = .ok (.iinc 1 1, 3) := by decide +kernel
theorem dX9_startWave_71 : decode cX9_startWave 71 = .ok (.goto (-27), 3) := by decide +kernel
theorem dX9_startWave_74 : decode cX9_startWave 74 = .ok (.iconst 0, 1) := by decide +kernel
theorem dX9_startWave_75 : decode cX9_startWave 75 = .ok (.istore_n 1, 1) := by decide +kernel
theorem dX9_startWave_76 : decode cX9_startWave 76 = .ok (.aload_n 0, 1) := by decide +kernel
theorem dX9_startWave_77 : decode cX9_startWave 77 = .ok (.invokevirtual 180, 3) := by decide +kernel
theorem dX9_startWave_80 : decode cX9_startWave 80 = .ok (.istore_n 2, 1) := by decide +kernel
theorem dX9_startWave_81 : decode cX9_startWave 81 = .ok (.aload_n 0, 1) := by decide +kernel
theorem dX9_startWave_82 : decode cX9_startWave 82 = .ok (.getfield 78, 3) := by decide +kernel
theorem dX9_startWave_85 : decode cX9_startWave 85 = .ok (.iload_n 2, 1) := by decide +kernel
theorem dX9_startWave_86 : decode cX9_startWave 86 = .ok (.iaload, 1) := by decide +kernel
theorem dX9_startWave_87 : decode cX9_startWave 87 = .ok (.ifCond .le 48, 3) := by decide +kernel
theorem dX9_startWave_90 : decode cX9_startWave 90 = .ok (.aload_n 0, 1) := by decide +kernel
theorem dX9_startWave_91 : decode cX9_startWave 91 = .ok (.invokevirtual 183, 3) := by decide +kernel
theorem dX9_startWave_94 : decode cX9_startWave 94 = .ok (.istore_n 3, 1) := by decide +kernel
theorem dX9_startWave_95 : decode cX9_startWave 95 = .ok (.aload_n 0, 1) := by decide +kernel
theorem dX9_startWave_96 : decode cX9_startWave 96 = .ok (.getfield 42, 3) := by decide +kernel
theorem dX9_startWave_99 : decode cX9_startWave 99 = .ok (.iload_n 2, 1) := by decide +kernel
theorem dX9_startWave_100 : decode cX9_startWave 100 = .ok (.iload_n 3, 1) := by decide +kernel
theorem dX9_startWave_101 : decode cX9_startWave 101 = .ok (.iastore, 1) := by decide +kernel
theorem dX9_startWave_102 : decode cX9_startWave 102 = .ok (.aload_n 0, 1) := by decide +kernel
theorem dX9_startWave_103 : decode cX9_startWave 103 = .ok (.getfield 75, 3) := by decide +kernel
theorem dX9_startWave_106 : decode cX9_startWave 106 = .ok (.iload_n 3, 1) := by decide +kernel
theorem dX9_startWave_107 : decode cX9_startWave 107 = .ok (.dup2, 1) := by decide +kernel
theorem dX9_startWave_108 : decode cX9_startWave 108 = .ok (.iaload, 1) := by decide +kernel
theorem dX9_startWave_109 : decode cX9_startWave 109 = .ok (.aload_n 0, 1) := by decide +kernel
theorem dX9_startWave_110 : decode cX9_startWave 110 = .ok (.getfield 78, 3) := by decide +kernel
theorem dX9_startWave_113 : decode cX9_startWave 113 = .ok (.iload_n 2, 1) := by decide +kernel
theorem dX9_startWave_114 : decode cX9_startWave 114 = .ok (.iaload, 1) := by decide +kernel
theorem dX9_startWave_115 : decode cX9_startWave 115 = .ok (.iadd, 1) := by decide +kernel
theorem dX9_startWave_116 : decode cX9_startWave 116 = .ok (.iastore, 1) := by decide +kernel
theorem dX9_startWave_117 : decode cX9_startWave 117 = .ok (.aload_n 0, 1) := by decide +kernel
theorem dX9_startWave_118 : decode cX9_startWave 118 = .ok (.getfield 78, 3) := by decide +kernel
theorem dX9_startWave_121 : decode cX9_startWave 121 = .ok (.iload_n 2, 1) := by decide +kernel
theorem dX9_startWave_122 : decode cX9_startWave 122 = .ok (.iconst 0, 1) := by decide +kernel
theorem dX9_startWave_123 : decode cX9_startWave 123 = .ok (.iastore, 1) := by decide +kernel
theorem dX9_startWave_124 : decode cX9_startWave 124 = .ok (.iinc 1 1, 3) := by decide +kernel
theorem dX9_startWave_127 : decode cX9_startWave 127 = .ok (.aload_n 0, 1) := by decide +kernel
theorem dX9_startWave_128 : decode cX9_startWave 128 = .ok (.invokevirtual 180, 3) := by decide +kernel
theorem dX9_startWave_131 : decode cX9_startWave 131 = .ok (.istore_n 2, 1) := by decide +kernel
theorem dX9_startWave_132 : decode cX9_startWave 132 = .ok (.goto (-51), 3) := by decide +kernel
theorem dX9_startWave_135 : decode cX9_startWave 135 = .ok (.iload_n 1, 1) := by decide +kernel
theorem dX9_startWave_136 : decode cX9_startWave 136 = .ok (.ireturn, 1) := by decide +kernel
theorem dX9_isRoute_0 : decode cX9_isRoute 0 = .ok (.iload_n 0, 1) := by decide +kernel
theorem dX9_isRoute_1 : decode cX9_isRoute 1 = .ok (.iconst 0, 1) := by decide +kernel
theorem dX9_isRoute_2 : decode cX9_isRoute 2 = .ok (.bipush 7, 2) := by decide +kernel
theorem dX9_isRoute_4 : decode cX9_isRoute 4 = .ok (.invokestatic 87, 3) := by decide +kernel
theorem dX9_isRoute_7 : decode cX9_isRoute 7 = .ok (.ireturn, 1) := by decide +kernel
theorem dX9_assign_0 : decode cX9_assign 0 = .ok (.aload_n 0, 1) := by decide +kernel
theorem dX9_assign_1 : decode cX9_assign 1 = .ok (.iload_n 1, 1) := by decide +kernel
theorem dX9_assign_2 : decode cX9_assign 2 = .ok (.invokestatic 186, 3) := by decide +kernel
theorem dX9_assign_5 : decode cX9_assign 5 = .ok (.ifCond .ne 7, 3) := by decide +kernel
theorem dX9_assign_8 : decode cX9_assign 8 = .ok (.iconst 1, 1) := by decide +kernel
theorem dX9_assign_9 : decode cX9_assign 9 = .ok (.goto 16, 3) := by decide +kernel
theorem dX9_assign_12 : decode cX9_assign 12 = .ok (.aload_n 0, 1) := by decide +kernel
theorem dX9_assign_13 : decode cX9_assign 13 = .ok (.iload_n 2, 1) := by decide +kernel
theorem dX9_assign_14 : decode cX9_assign 14 = .ok (.invokevirtual 102, 3) := by decide +kernel
theorem dX9_assign_17 : decode cX9_assign 17 = .ok (.ifCond .ne 7, 3) := by decide +kernel
theorem dX9_assign_20 : decode cX9_assign 20 = .ok (.iconst 2, 1) := by decide +kernel
theorem dX9_assign_21 : decode cX9_assign 21 = .ok (.goto 4, 3) := by decide +kernel
theorem dX9_assign_24 : decode cX9_assign 24 = .ok (.iconst 0, 1) := by decide +kernel
theorem dX9_assign_25 : decode cX9_assign 25 = .ok (.invokevirtual 94, 3) := by decide +kernel
theorem dX9_assign_28 : decode cX9_assign 28 = .ok (.ifCond .ne 5, 3) := by decide +kernel
theorem dX9_assign_31 : decode cX9_assign 31 = .ok (.iconst 0, 1) := by decide +kernel
theorem dX9_assign_32 : decode cX9_assign 32 = .ok (.ireturn, 1) := by decide +kernel
theorem dX9_assign_33 : decode cX9_assign 33 = .ok (.aload_n 0, 1) := by decide +kernel
theorem dX9_assign_34 : decode cX9_assign 34 = .ok (.getfield 42, 3) := by decide +kernel
theorem dX9_assign_37 : decode cX9_assign 37 = .ok (.iload_n 1, 1) := by decide +kernel
theorem dX9_assign_38 : decode cX9_assign 38 = .ok (.iaload, 1) := by decide +kernel
theorem dX9_assign_39 : decode cX9_assign 39 = .ok (.istore_n 3, 1) := by decide +kernel
theorem dX9_assign_40 : decode cX9_assign 40 = .ok (.aload_n 0, 1) := by decide +kernel
theorem dX9_assign_41 : decode cX9_assign 41 = .ok (.getfield 42, 3) := by decide +kernel
theorem dX9_assign_44 : decode cX9_assign 44 = .ok (.iload_n 1, 1) := by decide +kernel
theorem dX9_assign_45 : decode cX9_assign 45 = .ok (.iload_n 2, 1) := by decide +kernel
theorem dX9_assign_46 : decode cX9_assign 46 = .ok (.iastore, 1) := by decide +kernel
theorem dX9_assign_47 : decode cX9_assign 47 = .ok (.iload_n 3, 1) := by decide +kernel
theorem dX9_assign_48 : decode cX9_assign 48 = .ok (.ireturn, 1) := by decide +kernel
theorem dX9_unassign_0 : decode cX9_unassign 0 = .ok (.aload_n 0, 1) := by decide +kernel
theorem dX9_unassign_1 : decode cX9_unassign 1 = .ok (.iload_n 1, 1) := by decide +kernel
theorem dX9_unassign_2 : decode cX9_unassign 2 = .ok (.invokestatic 186, 3) := by decide +kernel
theorem dX9_unassign_5 : decode cX9_unassign 5 = .ok (.ifCond .ne 7, 3) := by decide +kernel
theorem dX9_unassign_8 : decode cX9_unassign 8 = .ok (.iconst 1, 1) := by decide +kernel
theorem dX9_unassign_9 : decode cX9_unassign 9 = .ok (.goto 18, 3) := by decide +kernel
theorem dX9_unassign_12 : decode cX9_unassign 12 = .ok (.aload_n 0, 1) := by decide +kernel
theorem dX9_unassign_13 : decode cX9_unassign 13 = .ok (.getfield 42, 3) := by decide +kernel
theorem dX9_unassign_16 : decode cX9_unassign 16 = .ok (.iload_n 1, 1) := by decide +kernel
theorem dX9_unassign_17 : decode cX9_unassign 17 = .ok (.iaload, 1) := by decide +kernel
theorem dX9_unassign_18 : decode cX9_unassign 18 = .ok (.iconst (-1), 1) := by decide +kernel
theorem dX9_unassign_19 : decode cX9_unassign 19 = .ok (.if_icmp .ne 7, 3) := by decide +kernel
theorem dX9_unassign_22 : decode cX9_unassign 22 = .ok (.iconst 2, 1) := by decide +kernel
theorem dX9_unassign_23 : decode cX9_unassign 23 = .ok (.goto 4, 3) := by decide +kernel
theorem dX9_unassign_26 : decode cX9_unassign 26 = .ok (.iconst 0, 1) := by decide +kernel
theorem dX9_unassign_27 : decode cX9_unassign 27 = .ok (.invokevirtual 94, 3) := by decide +kernel
theorem dX9_unassign_30 : decode cX9_unassign 30 = .ok (.ifCond .ne 5, 3) := by decide +kernel
theorem dX9_unassign_33 : decode cX9_unassign 33 = .ok (.iconst 0, 1) := by decide +kernel
theorem dX9_unassign_34 : decode cX9_unassign 34 = .ok (.ireturn, 1) := by decide +kernel
theorem dX9_unassign_35 : decode cX9_unassign 35 = .ok (.aload_n 0, 1) := by decide +kernel
theorem dX9_unassign_36 : decode cX9_unassign 36 = .ok (.getfield 42, 3) := by decide +kernel
theorem dX9_unassign_39 : decode cX9_unassign 39 = .ok (.iload_n 1, 1) := by decide +kernel
theorem dX9_unassign_40 : decode cX9_unassign 40 = .ok (.iaload, 1) := by decide +kernel
theorem dX9_unassign_41 : decode cX9_unassign 41 = .ok (.istore_n 2, 1) := by decide +kernel
theorem dX9_unassign_42 : decode cX9_unassign 42 = .ok (.aload_n 0, 1) := by decide +kernel
theorem dX9_unassign_43 : decode cX9_unassign 43 = .ok (.getfield 42, 3) := by decide +kernel
theorem dX9_unassign_46 : decode cX9_unassign 46 = .ok (.iload_n 1, 1) := by decide +kernel
theorem dX9_unassign_47 : decode cX9_unassign 47 = .ok (.iconst (-1), 1) := by decide +kernel
theorem dX9_unassign_48 : decode cX9_unassign 48 = .ok (.iastore, 1) := by decide +kernel
theorem dX9_unassign_49 : decode cX9_unassign 49 = .ok (.iload_n 2, 1) := by decide +kernel
theorem dX9_unassign_50 : decode cX9_unassign 50 = .ok (.ireturn, 1) := by decide +kernel
theorem dX9_chuteFor_0 : decode cX9_chuteFor 0 = .ok (.aload_n 0, 1) := by decide +kernel
theorem dX9_chuteFor_1 : decode cX9_chuteFor 1 = .ok (.iload_n 1, 1) := by decide +kernel
theorem dX9_chuteFor_2 : decode cX9_chuteFor 2 = .ok (.invokestatic 186, 3) := by decide +kernel
theorem dX9_chuteFor_5 : decode cX9_chuteFor 5 = .ok (.ifCond .ne 7, 3) := by decide +kernel
theorem dX9_chuteFor_8 : decode cX9_chuteFor 8 = .ok (.iconst 1, 1) := by decide +kernel
theorem dX9_chuteFor_9 : decode cX9_chuteFor 9 = .ok (.goto 18, 3) := by decide +kernel
theorem dX9_chuteFor_12 : decode cX9_chuteFor 12 = .ok (.aload_n 0, 1) := by decide +kernel
theorem dX9_chuteFor_13 : decode cX9_chuteFor 13 = .ok (.getfield 42, 3) := by decide +kernel
theorem dX9_chuteFor_16 : decode cX9_chuteFor 16 = .ok (.iload_n 1, 1) := by decide +kernel
theorem dX9_chuteFor_17 : decode cX9_chuteFor 17 = .ok (.iaload, 1) := by decide +kernel
theorem dX9_chuteFor_18 : decode cX9_chuteFor 18 = .ok (.iconst (-1), 1) := by decide +kernel
theorem dX9_chuteFor_19 : decode cX9_chuteFor 19 = .ok (.if_icmp .ne 7, 3) := by decide +kernel
theorem dX9_chuteFor_22 : decode cX9_chuteFor 22 = .ok (.iconst 2, 1) := by decide +kernel
theorem dX9_chuteFor_23 : decode cX9_chuteFor 23 = .ok (.goto 4, 3) := by decide +kernel
theorem dX9_chuteFor_26 : decode cX9_chuteFor 26 = .ok (.iconst 0, 1) := by decide +kernel
theorem dX9_chuteFor_27 : decode cX9_chuteFor 27 = .ok (.invokevirtual 94, 3) := by decide +kernel
theorem dX9_chuteFor_30 : decode cX9_chuteFor 30 = .ok (.ifCond .eq 12, 3) := by decide +kernel
theorem dX9_chuteFor_33 : decode cX9_chuteFor 33 = .ok (.aload_n 0, 1) := by decide +kernel
theorem dX9_chuteFor_34 : decode cX9_chuteFor 34 = .ok (.getfield 42, 3) := by decide +kernel
theorem dX9_chuteFor_37 : decode cX9_chuteFor 37 = .ok (.iload_n 1, 1) := by decide +kernel
theorem dX9_chuteFor_38 : decode cX9_chuteFor 38 = .ok (.iaload, 1) := by decide +kernel
theorem dX9_chuteFor_39 : decode cX9_chuteFor 39 = .ok (.goto 4, 3) := by decide +kernel
theorem dX9_chuteFor_42 : decode cX9_chuteFor 42 = .ok (.iconst 0, 1) := by decide +kernel
theorem dX9_chuteFor_43 : decode cX9_chuteFor 43 = .ok (.ireturn, 1) := by decide +kernel
theorem dX9_load_0 : decode cX9_load 0 = .ok (.aload_n 0, 1) := by decide +kernel
theorem dX9_load_1 : decode cX9_load 1 = .ok (.iload_n 1, 1) := by decide +kernel
theorem dX9_load_2 : decode cX9_load 2 = .ok (.invokestatic 186, 3) := by decide +kernel
theorem dX9_load_5 : decode cX9_load 5 = .ok (.ifCond .eq 7, 3) := by decide +kernel
theorem dX9_load_8 : decode cX9_load 8 = .ok (.iconst 0, 1) := by decide +kernel
theorem dX9_load_9 : decode cX9_load 9 = .ok (.goto 4, 3) := by decide +kernel
theorem dX9_load_12 : decode cX9_load 12 = .ok (.iconst 1, 1) := by decide +kernel
theorem dX9_load_13 : decode cX9_load 13 = .ok (.invokevirtual 94, 3) := by decide +kernel
theorem dX9_load_16 : decode cX9_load 16 = .ok (.ifCond .eq 11, 3) := by decide +kernel
theorem dX9_load_19 : decode cX9_load 19 = .ok (.aload_n 0, 1) := by decide +kernel
theorem dX9_load_20 : decode cX9_load 20 = .ok (.iload_n 1, 1) := by decide +kernel
theorem dX9_load_21 : decode cX9_load 21 = .ok (.invokevirtual 177, 3) := by decide +kernel
theorem dX9_load_24 : decode cX9_load 24 = .ok (.goto 4, 3) := by decide +kernel
theorem dX9_load_27 : decode cX9_load 27 = .ok (.iconst 0, 1) := by decide +kernel
theorem dX9_load_28 : decode cX9_load 28 = .ok (.ireturn, 1) := by decide +kernel
theorem dX9_inChute_0 : decode cX9_inChute 0 = .ok (.aload_n 0, 1) := by decide +kernel
theorem dX9_inChute_1 : decode cX9_inChute 1 = .ok (.aload_n 0, 1) := by decide +kernel
theorem dX9_inChute_2 : decode cX9_inChute 2 = .ok (.iload_n 1, 1) := by decide +kernel
theorem dX9_inChute_3 : decode cX9_inChute 3 = .ok (.invokevirtual 102, 3) := by decide +kernel
theorem dX9_inChute_6 : decode cX9_inChute 6 = .ok (.ifCond .eq 7, 3) := by decide +kernel
theorem dX9_inChute_9 : decode cX9_inChute 9 = .ok (.iconst 0, 1) := by decide +kernel
theorem dX9_inChute_10 : decode cX9_inChute 10 = .ok (.goto 4, 3) := by decide +kernel
theorem dX9_inChute_13 : decode cX9_inChute 13 = .ok (.iconst 1, 1) := by decide +kernel
theorem dX9_inChute_14 : decode cX9_inChute 14 = .ok (.invokevirtual 94, 3) := by decide +kernel
theorem dX9_inChute_17 : decode cX9_inChute 17 = .ok (.ifCond .eq 12, 3) := by decide +kernel
theorem dX9_inChute_20 : decode cX9_inChute 20 = .ok (.aload_n 0, 1) := by decide +kernel
theorem dX9_inChute_21 : decode cX9_inChute 21 = .ok (.getfield 45, 3) := by decide +kernel
theorem dX9_inChute_24 : decode cX9_inChute 24 = .ok (.iload_n 1, 1) := by decide +kernel
theorem dX9_inChute_25 : decode cX9_inChute 25 = .ok (.iaload, 1) := by decide +kernel
theorem dX9_inChute_26 : decode cX9_inChute 26 = .ok (.goto 4, 3) := by decide +kernel
theorem dX9_inChute_29 : decode cX9_inChute 29 = .ok (.iconst 0, 1) := by decide +kernel
theorem dX9_inChute_30 : decode cX9_inChute 30 = .ok (.ireturn, 1) := by decide +kernel
theorem dX9_sealOf_0 : decode cX9_sealOf 0 = .ok (.sipush 10000, 3) := by decide +kernel
theorem dX9_sealOf_3 : decode cX9_sealOf 3 = .ok (.aload_n 0, 1) := by decide +kernel
theorem dX9_sealOf_4 : decode cX9_sealOf 4 = .ok (.getfield 54, 3) := by decide +kernel
theorem dX9_sealOf_7 : decode cX9_sealOf 7 = .ok (.iload_n 1, 1) := by decide +kernel
theorem dX9_sealOf_8 : decode cX9_sealOf 8 = .ok (.iaload, 1) := by decide +kernel
theorem dX9_sealOf_9 : decode cX9_sealOf 9 = .ok (.imul, 1) := by decide +kernel
theorem dX9_sealOf_10 : decode cX9_sealOf 10 = .ok (.aload_n 0, 1) := by decide +kernel
theorem dX9_sealOf_11 : decode cX9_sealOf 11 = .ok (.getfield 51, 3) := by decide +kernel
theorem dX9_sealOf_14 : decode cX9_sealOf 14 = .ok (.iload_n 1, 1) := by decide +kernel
theorem dX9_sealOf_15 : decode cX9_sealOf 15 = .ok (.iaload, 1) := by decide +kernel
theorem dX9_sealOf_16 : decode cX9_sealOf 16 = .ok (.iadd, 1) := by decide +kernel
theorem dX9_sealOf_17 : decode cX9_sealOf 17 = .ok (.ireturn, 1) := by decide +kernel
theorem dX9_seal_0 : decode cX9_seal 0 = .ok (.aload_n 0, 1) := by decide +kernel
theorem dX9_seal_1 : decode cX9_seal 1 = .ok (.aload_n 0, 1) := by decide +kernel
theorem dX9_seal_2 : decode cX9_seal 2 = .ok (.iload_n 1, 1) := by decide +kernel
theorem dX9_seal_3 : decode cX9_seal 3 = .ok (.invokevirtual 102, 3) := by decide +kernel
theorem dX9_seal_6 : decode cX9_seal 6 = .ok (.ifCond .eq 7, 3) := by decide +kernel
theorem dX9_seal_9 : decode cX9_seal 9 = .ok (.iconst 0, 1) := by decide +kernel
theorem dX9_seal_10 : decode cX9_seal 10 = .ok (.goto 4, 3) := by decide +kernel
theorem dX9_seal_13 : decode cX9_seal 13 = .ok (.iconst 1, 1) := by decide +kernel
theorem dX9_seal_14 : decode cX9_seal 14 = .ok (.invokevirtual 94, 3) := by decide +kernel
theorem dX9_seal_17 : decode cX9_seal 17 = .ok (.ifCond .eq 11, 3) := by decide +kernel
theorem dX9_seal_20 : decode cX9_seal 20 = .ok (.aload_n 0, 1) := by decide +kernel
theorem dX9_seal_21 : decode cX9_seal 21 = .ok (.iload_n 1, 1) := by decide +kernel
theorem dX9_seal_22 : decode cX9_seal 22 = .ok (.invokevirtual 189, 3) := by decide +kernel
theorem dX9_seal_25 : decode cX9_seal 25 = .ok (.goto 4, 3) := by decide +kernel
theorem dX9_seal_28 : decode cX9_seal 28 = .ok (.iconst 0, 1) := by decide +kernel
theorem dX9_seal_29 : decode cX9_seal 29 = .ok (.ireturn, 1) := by decide +kernel
theorem dX9_sealByParcels_0 : decode cX9_sealByParcels 0 = .ok (.aload_n 0, 1) := by decide +kernel
theorem dX9_sealByParcels_1 : decode cX9_sealByParcels 1 = .ok (.iload_n 1, 1) := by decide +kernel
theorem dX9_sealByParcels_2 : decode cX9_sealByParcels 2 = .ok (.invokevirtual 192, 3) := by decide +kernel
theorem dX9_sealByParcels_5 : decode cX9_sealByParcels 5 = .ok (.ireturn, 1) := by decide +kernel
theorem dX9_dispatch_0 : decode cX9_dispatch 0 = .ok (.aload_n 0, 1) := by decide +kernel
theorem dX9_dispatch_1 : decode cX9_dispatch 1 = .ok (.aload_n 0, 1) := by decide +kernel
theorem dX9_dispatch_2 : decode cX9_dispatch 2 = .ok (.iload_n 1, 1) := by decide +kernel
theorem dX9_dispatch_3 : decode cX9_dispatch 3 = .ok (.invokevirtual 102, 3) := by decide +kernel
theorem dX9_dispatch_6 : decode cX9_dispatch 6 = .ok (.ifCond .ne 7, 3) := by decide +kernel
theorem dX9_dispatch_9 : decode cX9_dispatch 9 = .ok (.iconst 1, 1) := by decide +kernel
theorem dX9_dispatch_10 : decode cX9_dispatch 10 = .ok (.goto 17, 3) := by decide +kernel
theorem dX9_dispatch_13 : decode cX9_dispatch 13 = .ok (.aload_n 0, 1) := by decide +kernel
theorem dX9_dispatch_14 : decode cX9_dispatch 14 = .ok (.getfield 45, 3) := by decide +kernel
theorem dX9_dispatch_17 : decode cX9_dispatch 17 = .ok (.iload_n 1, 1) := by decide +kernel
theorem dX9_dispatch_18 : decode cX9_dispatch 18 = .ok (.iaload, 1) := by decide +kernel
theorem dX9_dispatch_19 : decode cX9_dispatch 19 = .ok (.ifCond .ne 7, 3) := by decide +kernel
theorem dX9_dispatch_22 : decode cX9_dispatch 22 = .ok (.iconst 2, 1) := by decide +kernel
theorem dX9_dispatch_23 : decode cX9_dispatch 23 = .ok (.goto 4, 3) := by decide +kernel
theorem dX9_dispatch_26 : decode cX9_dispatch 26 = .ok (.iconst 0, 1) := by decide +kernel
theorem dX9_dispatch_27 : decode cX9_dispatch 27 = .ok (.invokevirtual 94, 3) := by decide +kernel
theorem dX9_dispatch_30 : decode cX9_dispatch 30 = .ok (.ifCond .ne 5, 3) := by decide +kernel
theorem dX9_dispatch_33 : decode cX9_dispatch 33 = .ok (.iconst 0, 1) := by decide +kernel
theorem dX9_dispatch_34 : decode cX9_dispatch 34 = .ok (.ireturn, 1) := by decide +kernel
theorem dX9_dispatch_35 : decode cX9_dispatch 35 = .ok (.aload_n 0, 1) := by decide +kernel
theorem dX9_dispatch_36 : decode cX9_dispatch 36 = .ok (.iload_n 1, 1) := by decide +kernel
theorem dX9_dispatch_37 : decode cX9_dispatch 37 = .ok (.invokevirtual 189, 3) := by decide +kernel
theorem dX9_dispatch_40 : decode cX9_dispatch 40 = .ok (.istore_n 2, 1) := by decide +kernel
theorem dX9_dispatch_41 : decode cX9_dispatch 41 = .ok (.iconst 0, 1) := by decide +kernel
theorem dX9_dispatch_42 : decode cX9_dispatch 42 = .ok (.istore_n 3, 1) := by decide +kernel
theorem dX9_dispatch_43 : decode cX9_dispatch 43 = .ok (.iload_n 3, 1) := by decide +kernel
theorem dX9_dispatch_44 : decode cX9_dispatch 44 = .ok (.aload_n 0, 1) := by decide +kernel
theorem dX9_dispatch_45 : decode cX9_dispatch 45 = .ok (.getfield 45, 3) := by decide +kernel
theorem dX9_dispatch_48 : decode cX9_dispatch 48 = .ok (.iload_n 1, 1) := by decide +kernel
theorem dX9_dispatch_49 : decode cX9_dispatch 49 = .ok (.iaload, 1) := by decide +kernel
theorem dX9_dispatch_50 : decode cX9_dispatch 50 = .ok (.if_icmp .ge 66, 3) := by decide +kernel
theorem dX9_dispatch_53 : decode cX9_dispatch 53 = .ok (.aload_n 0, 1) := by decide +kernel
theorem dX9_dispatch_54 : decode cX9_dispatch 54 = .ok (.getfield 48, 3) := by decide +kernel
theorem dX9_dispatch_57 : decode cX9_dispatch 57 = .ok (.bipush 30, 2) := by decide +kernel
theorem dX9_dispatch_59 : decode cX9_dispatch 59 = .ok (.iload_n 1, 1) := by decide +kernel
theorem dX9_dispatch_60 : decode cX9_dispatch 60 = .ok (.imul, 1) := by decide +kernel
theorem dX9_dispatch_61 : decode cX9_dispatch 61 = .ok (.iload_n 3, 1) := by decide +kernel
theorem dX9_dispatch_62 : decode cX9_dispatch 62 = .ok (.iadd, 1) := by decide +kernel
theorem dX9_dispatch_63 : decode cX9_dispatch 63 = .ok (.iaload, 1) := by decide +kernel
theorem dX9_dispatch_64 : decode cX9_dispatch 64 = .ok (.istore 4, 2) := by decide +kernel
theorem dX9_dispatch_66 : decode cX9_dispatch 66 = .ok (.aload_n 0, 1) := by decide +kernel
theorem dX9_dispatch_67 : decode cX9_dispatch 67 = .ok (.getfield 36, 3) := by decide +kernel
theorem dX9_dispatch_70 : decode cX9_dispatch 70 = .ok (.iload 4, 2) := by decide +kernel
theorem dX9_dispatch_72 : decode cX9_dispatch 72 = .ok (.iconst 3, 1) := by decide +kernel
theorem dX9_dispatch_73 : decode cX9_dispatch 73 = .ok (.iastore, 1) := by decide +kernel
theorem dX9_dispatch_74 : decode cX9_dispatch 74 = .ok (.aload_n 0, 1) := by decide +kernel
theorem dX9_dispatch_75 : decode cX9_dispatch 75 = .ok (.getfield 60, 3) := by decide +kernel
theorem dX9_dispatch_78 : decode cX9_dispatch 78 = .ok (.iload 4, 2) := by decide +kernel
theorem dX9_dispatch_80 : decode cX9_dispatch 80 = .ok (.aload_n 0, 1) := by decide +kernel
theorem dX9_dispatch_81 : decode cX9_dispatch 81 = .ok (.getfield 195, 3) := by decide +kernel
theorem dX9_dispatch_84 : decode cX9_dispatch 84 = .ok (.iastore, 1) := by decide +kernel
theorem dX9_dispatch_85 : decode cX9_dispatch 85 = .ok (.aload_n 0, 1) := by decide +kernel
theorem dX9_dispatch_86 : decode cX9_dispatch 86 = .ok (.getfield 63, 3) := by decide +kernel
theorem dX9_dispatch_89 : decode cX9_dispatch 89 = .ok (.iload 4, 2) := by decide +kernel
theorem dX9_dispatch_91 : decode cX9_dispatch 91 = .ok (.iload_n 3, 1) := by decide +kernel
theorem dX9_dispatch_92 : decode cX9_dispatch 92 = .ok (.iastore, 1) := by decide +kernel
theorem dX9_dispatch_93 : decode cX9_dispatch 93 = .ok (.aload_n 0, 1) := by decide +kernel
theorem dX9_dispatch_94 : decode cX9_dispatch 94 = .ok (.dup, 1) := by decide +kernel
theorem dX9_dispatch_95 : decode cX9_dispatch 95 = .ok (.getfield 198, 3) := by decide +kernel
theorem dX9_dispatch_98 : decode cX9_dispatch 98 = .ok (.aload_n 0, 1) := by decide +kernel
theorem dX9_dispatch_99 : decode cX9_dispatch 99 = .ok (.getfield 33, 3) := by decide +kernel
theorem dX9_dispatch_102 : decode cX9_dispatch 102 = .ok (.iload 4, 2) := by decide +kernel
theorem dX9_dispatch_104 : decode cX9_dispatch 104 = .ok (.iaload, 1) := by decide +kernel
theorem dX9_dispatch_105 : decode cX9_dispatch 105 = .ok (.i2l, 1) := by decide +kernel
theorem dX9_dispatch_106 : decode cX9_dispatch 106 = .ok (.ladd, 1) := by decide +kernel
theorem dX9_dispatch_107 : decode cX9_dispatch 107 = .ok (.putfield 198, 3) := by decide +kernel
theorem dX9_dispatch_110 : decode cX9_dispatch 110 = .ok (.iinc 3 1, 3) := by decide +kernel
theorem dX9_dispatch_113 : decode cX9_dispatch 113 = .ok (.goto (-70), 3) := by decide +kernel
theorem dX9_dispatch_116 : decode cX9_dispatch 116 = .ok (.aload_n 0, 1) := by decide +kernel
theorem dX9_dispatch_117 : decode cX9_dispatch 117 = .ok (.getfield 57, 3) := by decide +kernel
theorem dX9_dispatch_120 : decode cX9_dispatch 120 = .ok (.aload_n 0, 1) := by decide +kernel
theorem dX9_dispatch_121 : decode cX9_dispatch 121 = .ok (.getfield 195, 3) := by decide +kernel
theorem dX9_dispatch_124 : decode cX9_dispatch 124 = .ok (.aload_n 0, 1) := by decide +kernel
theorem dX9_dispatch_125 : decode cX9_dispatch 125 = .ok (.getfield 45, 3) := by decide +kernel
theorem dX9_dispatch_128 : decode cX9_dispatch 128 = .ok (.iload_n 1, 1) := by decide +kernel
theorem dX9_dispatch_129 : decode cX9_dispatch 129 = .ok (.iaload, 1) := by decide +kernel
theorem dX9_dispatch_130 : decode cX9_dispatch 130 = .ok (.iastore, 1) := by decide +kernel
theorem dX9_dispatch_131 : decode cX9_dispatch 131 = .ok (.aload_n 0, 1) := by decide +kernel
theorem dX9_dispatch_132 : decode cX9_dispatch 132 = .ok (.dup, 1) := by decide +kernel
theorem dX9_dispatch_133 : decode cX9_dispatch 133 = .ok (.getfield 195, 3) := by decide +kernel
theorem dX9_dispatch_136 : decode cX9_dispatch 136 = .ok (.iconst 1, 1) := by decide +kernel
theorem dX9_dispatch_137 : decode cX9_dispatch 137 = .ok (.iadd, 1) := by decide +kernel
theorem dX9_dispatch_138 : decode cX9_dispatch 138 = .ok (.putfield 195, 3) := by decide +kernel
theorem dX9_dispatch_141 : decode cX9_dispatch 141 = .ok (.aload_n 0, 1) := by decide +kernel
theorem dX9_dispatch_142 : decode cX9_dispatch 142 = .ok (.getfield 45, 3) := by decide +kernel
theorem dX9_dispatch_145 : decode cX9_dispatch 145 = .ok (.iload_n 1, 1) := by decide +kernel
theorem dX9_dispatch_146 : decode cX9_dispatch 146 = .ok (.iconst 0, 1) := by decide +kernel
theorem dX9_dispatch_147 : decode cX9_dispatch 147 = .ok (.iastore, 1) := by decide +kernel
theorem dX9_dispatch_148 : decode cX9_dispatch 148 = .ok (.aload_n 0, 1) := by decide +kernel
theorem dX9_dispatch_149 : decode cX9_dispatch 149 = .ok (.getfield 51, 3) := by decide +kernel
theorem dX9_dispatch_152 : decode cX9_dispatch 152 = .ok (.iload_n 1, 1) := by decide +kernel
theorem dX9_dispatch_153 : decode cX9_dispatch 153 = .ok (.iconst 0, 1) := by decide +kernel
theorem dX9_dispatch_154 : decode cX9_dispatch 154 = .ok (.iastore, 1) := by decide +kernel
theorem dX9_dispatch_155 : decode cX9_dispatch 155 = .ok (.aload_n 0, 1) := by decide +kernel
theorem dX9_dispatch_156 : decode cX9_dispatch 156 = .ok (.getfield 54, 3) := by decide +kernel
theorem dX9_dispatch_159 : decode cX9_dispatch 159 = .ok (.iload_n 1, 1) := by decide +kernel
theorem dX9_dispatch_160 : decode cX9_dispatch 160 = .ok (.iconst 0, 1) := by decide +kernel
theorem dX9_dispatch_161 : decode cX9_dispatch 161 = .ok (.iastore, 1) := by decide +kernel
theorem dX9_dispatch_162 : decode cX9_dispatch 162 = .ok (.iload_n 2, 1) := by decide +kernel
theorem dX9_dispatch_163 : decode cX9_dispatch 163 = .ok (.ireturn, 1) := by decide +kernel
theorem dX9_trucks_0 : decode cX9_trucks 0 = .ok (.aload_n 0, 1) := by decide +kernel
theorem dX9_trucks_1 : decode cX9_trucks 1 = .ok (.iconst 0, 1) := by decide +kernel
theorem dX9_trucks_2 : decode cX9_trucks 2 = .ok (.putfield 81, 3) := by decide +kernel
theorem dX9_trucks_5 : decode cX9_trucks 5 = .ok (.aload_n 0, 1) := by decide +kernel
theorem dX9_trucks_6 : decode cX9_trucks 6 = .ok (.getfield 195, 3) := by decide +kernel
theorem dX9_trucks_9 : decode cX9_trucks 9 = .ok (.ireturn, 1) := by decide +kernel
theorem dX9_parcelAt_0 : decode cX9_parcelAt 0 = .ok (.iconst 0, 1) := by decide +kernel
theorem dX9_parcelAt_1 : decode cX9_parcelAt 1 = .ok (.istore_n 3, 1) := by decide +kernel
theorem dX9_parcelAt_2 : decode cX9_parcelAt 2 = .ok (.aload_n 0, 1) := by decide +kernel
theorem dX9_parcelAt_3 : decode cX9_parcelAt 3 = .ok (.getfield 36, 3) := by decide +kernel
theorem dX9_parcelAt_6 : decode cX9_parcelAt 6 = .ok (.iload_n 3, 1) := by decide +kernel
theorem dX9_parcelAt_7 : decode cX9_parcelAt 7 = .ok (.iaload, 1) := by decide +kernel
theorem dX9_parcelAt_8 : decode cX9_parcelAt 8 = .ok (.iconst 3, 1) := by decide +kernel
theorem dX9_parcelAt_9 : decode cX9_parcelAt 9 = .ok (.if_icmp .ne 23, 3) := by decide +kernel
theorem dX9_parcelAt_12 : decode cX9_parcelAt 12 = .ok (.aload_n 0, 1) := by decide +kernel
theorem dX9_parcelAt_13 : decode cX9_parcelAt 13 = .ok (.getfield 60, 3) := by decide +kernel
theorem dX9_parcelAt_16 : decode cX9_parcelAt 16 = .ok (.iload_n 3, 1) := by decide +kernel
theorem dX9_parcelAt_17 : decode cX9_parcelAt 17 = .ok (.iaload, 1) := by decide +kernel
theorem dX9_parcelAt_18 : decode cX9_parcelAt 18 = .ok (.iload_n 1, 1) := by decide +kernel
theorem dX9_parcelAt_19 : decode cX9_parcelAt 19 = .ok (.if_icmp .ne 13, 3) := by decide +kernel
theorem dX9_parcelAt_22 : decode cX9_parcelAt 22 = .ok (.aload_n 0, 1) := by decide +kernel
theorem dX9_parcelAt_23 : decode cX9_parcelAt 23 = .ok (.getfield 63, 3) := by decide +kernel
theorem dX9_parcelAt_26 : decode cX9_parcelAt 26 = .ok (.iload_n 3, 1) := by decide +kernel
theorem dX9_parcelAt_27 : decode cX9_parcelAt 27 = .ok (.iaload, 1) := by decide +kernel
theorem dX9_parcelAt_28 : decode cX9_parcelAt 28 = .ok (.iload_n 2, 1) := by decide +kernel
theorem dX9_parcelAt_29 : decode cX9_parcelAt 29 = .ok (.if_icmp .eq 9, 3) := by decide +kernel
theorem dX9_parcelAt_32 : decode cX9_parcelAt 32 = .ok (.iinc 3 1, 3) := by decide +kernel
theorem dX9_parcelAt_35 : decode cX9_parcelAt 35 = .ok (.goto (-33), 3) := by decide +kernel
theorem dX9_parcelAt_38 : decode cX9_parcelAt 38 = .ok (.iload_n 3, 1) := by decide +kernel
theorem dX9_parcelAt_39 : decode cX9_parcelAt 39 = .ok (.ireturn, 1) := by decide +kernel
theorem dX9_sealOfTruck_0 : decode cX9_sealOfTruck 0 = .ok (.aload_n 0, 1) := by decide +kernel
theorem dX9_sealOfTruck_1 : decode cX9_sealOfTruck 1 = .ok (.iload_n 1, 1) := by decide +kernel
theorem dX9_sealOfTruck_2 : decode cX9_sealOfTruck 2 = .ok (.iconst 0, 1) := by decide +kernel
theorem dX9_sealOfTruck_3 : decode cX9_sealOfTruck 3 = .ok (.aload_n 0, 1) := by decide +kernel
theorem dX9_sealOfTruck_4 : decode cX9_sealOfTruck 4 = .ok (.getfield 195, 3) := by decide +kernel
theorem dX9_sealOfTruck_7 : decode cX9_sealOfTruck 7 = .ok (.iconst 1, 1) := by decide +kernel
theorem dX9_sealOfTruck_8 : decode cX9_sealOfTruck 8 = .ok (.isub, 1) := by decide +kernel
theorem dX9_sealOfTruck_9 : decode cX9_sealOfTruck 9 = .ok (.invokestatic 87, 3) := by decide +kernel
theorem dX9_sealOfTruck_12 : decode cX9_sealOfTruck 12 = .ok (.ifCond .eq 7, 3) := by decide +kernel
theorem dX9_sealOfTruck_15 : decode cX9_sealOfTruck 15 = .ok (.iconst 0, 1) := by decide +kernel
theorem dX9_sealOfTruck_16 : decode cX9_sealOfTruck 16 = .ok (.goto 4, 3) := by decide +kernel
theorem dX9_sealOfTruck_19 : decode cX9_sealOfTruck 19 = .ok (.iconst 1, 1) := by decide +kernel
theorem dX9_sealOfTruck_20 : decode cX9_sealOfTruck 20 = .ok (.invokevirtual 94, 3) := by decide +kernel
theorem dX9_sealOfTruck_23 : decode cX9_sealOfTruck 23 = .ok (.ifCond .ne 5, 3) := by decide +kernel
theorem dX9_sealOfTruck_26 : decode cX9_sealOfTruck 26 = .ok (.iconst 0, 1) := by decide +kernel
theorem dX9_sealOfTruck_27 : decode cX9_sealOfTruck 27 = .ok (.ireturn, 1) := by decide +kernel
theorem dX9_sealOfTruck_28 : decode cX9_sealOfTruck 28 = .ok (.iconst 0, 1) := by decide +kernel
theorem dX9_sealOfTruck_29 : decode cX9_sealOfTruck 29 = .ok (.istore_n 2, 1) := by decide +kernel
theorem dX9_sealOfTruck_30 : decode cX9_sealOfTruck 30 = .ok (.iconst 0, 1) := by decide +kernel
theorem dX9_sealOfTruck_31 : decode cX9_sealOfTruck 31 = .ok (.istore_n 3, 1) := by decide +kernel
theorem dX9_sealOfTruck_32 : decode cX9_sealOfTruck 32 = .ok (.iconst 0, 1) := by decide +kernel
theorem dX9_sealOfTruck_33 : decode cX9_sealOfTruck 33 = .ok (.istore 4, 2) := by decide +kernel
theorem dX9_sealOfTruck_35 : decode cX9_sealOfTruck 35 = .ok (.iload 4, 2) := by decide +kernel
theorem dX9_sealOfTruck_37 : decode cX9_sealOfTruck 37 = .ok (.aload_n 0, 1) := by decide +kernel
theorem dX9_sealOfTruck_38 : decode cX9_sealOfTruck 38 = .ok (.getfield 57, 3) := by decide +kernel
theorem dX9_sealOfTruck_41 : decode cX9_sealOfTruck 41 = .ok (.iload_n 1, 1) := by decide +kernel
theorem dX9_sealOfTruck_42 : decode cX9_sealOfTruck 42 = .ok (.iaload, 1) := by decide +kernel
theorem dX9_sealOfTruck_43 : decode cX9_sealOfTruck 43 = .ok (.if_icmp .ge 33, 3) := by decide +kernel
theorem dX9_sealOfTruck_46 : decode cX9_sealOfTruck 46 = .ok (.iload_n 2, 1) := by decide +kernel
theorem dX9_sealOfTruck_47 : decode cX9_sealOfTruck 47 = .ok (.aload_n 0, 1) := by decide +kernel
theorem dX9_sealOfTruck_48 : decode cX9_sealOfTruck 48 = .ok (.iload_n 1, 1) := by decide +kernel
theorem dX9_sealOfTruck_49 : decode cX9_sealOfTruck 49 = .ok (.iload 4, 2) := by decide +kernel
theorem dX9_sealOfTruck_51 : decode cX9_sealOfTruck 51 = .ok (.invokevirtual 201, 3) := by decide +kernel
theorem dX9_sealOfTruck_54 : decode cX9_sealOfTruck 54 = .ok (.iadd, 1) := by decide +kernel
theorem dX9_sealOfTruck_55 : decode cX9_sealOfTruck 55 = .ok (.iconst 1, 1) := by decide +kernel
theorem dX9_sealOfTruck_56 : decode cX9_sealOfTruck 56 = .ok (.iadd, 1) := by decide +kernel
theorem dX9_sealOfTruck_57 : decode cX9_sealOfTruck 57 = .ok (.sipush 9973, 3) := by decide +kernel
theorem dX9_sealOfTruck_60 : decode cX9_sealOfTruck 60 = .ok (.irem, 1) := by decide +kernel
theorem dX9_sealOfTruck_61 : decode cX9_sealOfTruck 61 = .ok (.istore_n 2, 1) := by decide +kernel
theorem dX9_sealOfTruck_62 : decode cX9_sealOfTruck 62 = .ok (.iload_n 3, 1) := by decide +kernel
theorem dX9_sealOfTruck_63 : decode cX9_sealOfTruck 63 = .ok (.iload_n 2, 1) := by decide +kernel
theorem dX9_sealOfTruck_64 : decode cX9_sealOfTruck 64 = .ok (.iadd, 1) := by decide +kernel
theorem dX9_sealOfTruck_65 : decode cX9_sealOfTruck 65 = .ok (.sipush 9973, 3) := by decide +kernel
theorem dX9_sealOfTruck_68 : decode cX9_sealOfTruck 68 = .ok (.irem, 1) := by decide +kernel
theorem dX9_sealOfTruck_69 : decode cX9_sealOfTruck 69 = .ok (.istore_n 3, 1) := by decide +kernel
theorem dX9_sealOfTruck_70 : decode cX9_sealOfTruck 70 = .ok (.iinc 4 1, 3) := by decide +kernel
theorem dX9_sealOfTruck_73 : decode cX9_sealOfTruck 73 = .ok (.goto (-38), 3) := by decide +kernel
theorem dX9_sealOfTruck_76 : decode cX9_sealOfTruck 76 = .ok (.sipush 10000, 3) := by decide +kernel
theorem dX9_sealOfTruck_79 : decode cX9_sealOfTruck 79 = .ok (.iload_n 3, 1) := by decide +kernel
theorem dX9_sealOfTruck_80 : decode cX9_sealOfTruck 80 = .ok (.imul, 1) := by decide +kernel
theorem dX9_sealOfTruck_81 : decode cX9_sealOfTruck 81 = .ok (.iload_n 2, 1) := by decide +kernel
theorem dX9_sealOfTruck_82 : decode cX9_sealOfTruck 82 = .ok (.iadd, 1) := by decide +kernel
theorem dX9_sealOfTruck_83 : decode cX9_sealOfTruck 83 = .ok (.ireturn, 1) := by decide +kernel
theorem dX9_parcelIn_0 : decode cX9_parcelIn 0 = .ok (.iload_n 1, 1) := by decide +kernel
theorem dX9_parcelIn_1 : decode cX9_parcelIn 1 = .ok (.iconst 0, 1) := by decide +kernel
theorem dX9_parcelIn_2 : decode cX9_parcelIn 2 = .ok (.aload_n 0, 1) := by decide +kernel
theorem dX9_parcelIn_3 : decode cX9_parcelIn 3 = .ok (.getfield 195, 3) := by decide +kernel
theorem dX9_parcelIn_6 : decode cX9_parcelIn 6 = .ok (.iconst 1, 1) := by decide +kernel
theorem dX9_parcelIn_7 : decode cX9_parcelIn 7 = .ok (.isub, 1) := by decide +kernel
theorem dX9_parcelIn_8 : decode cX9_parcelIn 8 = .ok (.invokestatic 87, 3) := by decide +kernel
theorem dX9_parcelIn_11 : decode cX9_parcelIn 11 = .ok (.ifCond .ne 7, 3) := by decide +kernel
theorem dX9_parcelIn_14 : decode cX9_parcelIn 14 = .ok (.iconst 1, 1) := by decide +kernel
theorem dX9_parcelIn_15 : decode cX9_parcelIn 15 = .ok (.goto 4, 3) := by decide +kernel
theorem dX9_parcelIn_18 : decode cX9_parcelIn 18 = .ok (.iconst 0, 1) := by decide +kernel
theorem dX9_parcelIn_19 : decode cX9_parcelIn 19 = .ok (.istore_n 3, 1) := by decide +kernel
theorem dX9_parcelIn_20 : decode cX9_parcelIn 20 = .ok (.iload_n 3, 1) := by decide +kernel
theorem dX9_parcelIn_21 : decode cX9_parcelIn 21 = .ok (.ifCond .ne 23, 3) := by decide +kernel
theorem dX9_parcelIn_24 : decode cX9_parcelIn 24 = .ok (.iload_n 2, 1) := by decide +kernel
theorem dX9_parcelIn_25 : decode cX9_parcelIn 25 = .ok (.iconst 0, 1) := by decide +kernel
theorem dX9_parcelIn_26 : decode cX9_parcelIn 26 = .ok (.aload_n 0, 1) := by decide +kernel
theorem dX9_parcelIn_27 : decode cX9_parcelIn 27 = .ok (.getfield 57, 3) := by decide +kernel
theorem dX9_parcelIn_30 : decode cX9_parcelIn 30 = .ok (.iload_n 1, 1) := by decide +kernel
theorem dX9_parcelIn_31 : decode cX9_parcelIn 31 = .ok (.iaload, 1) := by decide +kernel
theorem dX9_parcelIn_32 : decode cX9_parcelIn 32 = .ok (.iconst 1, 1) := by decide +kernel
theorem dX9_parcelIn_33 : decode cX9_parcelIn 33 = .ok (.isub, 1) := by decide +kernel
theorem dX9_parcelIn_34 : decode cX9_parcelIn 34 = .ok (.invokestatic 87, 3) := by decide +kernel
theorem dX9_parcelIn_37 : decode cX9_parcelIn 37 = .ok (.ifCond .ne 7, 3) := by decide +kernel
theorem dX9_parcelIn_40 : decode cX9_parcelIn 40 = .ok (.iconst 2, 1) := by decide +kernel
theorem dX9_parcelIn_41 : decode cX9_parcelIn 41 = .ok (.goto 4, 3) := by decide +kernel
theorem dX9_parcelIn_44 : decode cX9_parcelIn 44 = .ok (.iload_n 3, 1) := by decide +kernel
theorem dX9_parcelIn_45 : decode cX9_parcelIn 45 = .ok (.istore_n 3, 1) := by decide +kernel
theorem dX9_parcelIn_46 : decode cX9_parcelIn 46 = .ok (.aload_n 0, 1) := by decide +kernel
theorem dX9_parcelIn_47 : decode cX9_parcelIn 47 = .ok (.iload_n 3, 1) := by decide +kernel
theorem dX9_parcelIn_48 : decode cX9_parcelIn 48 = .ok (.invokevirtual 94, 3) := by decide +kernel
theorem dX9_parcelIn_51 : decode cX9_parcelIn 51 = .ok (.ifCond .eq 12, 3) := by decide +kernel
theorem dX9_parcelIn_54 : decode cX9_parcelIn 54 = .ok (.aload_n 0, 1) := by decide +kernel
theorem dX9_parcelIn_55 : decode cX9_parcelIn 55 = .ok (.iload_n 1, 1) := by decide +kernel
theorem dX9_parcelIn_56 : decode cX9_parcelIn 56 = .ok (.iload_n 2, 1) := by decide +kernel
theorem dX9_parcelIn_57 : decode cX9_parcelIn 57 = .ok (.invokevirtual 201, 3) := by decide +kernel
theorem dX9_parcelIn_60 : decode cX9_parcelIn 60 = .ok (.goto 4, 3) := by decide +kernel
theorem dX9_parcelIn_63 : decode cX9_parcelIn 63 = .ok (.iconst 0, 1) := by decide +kernel
theorem dX9_parcelIn_64 : decode cX9_parcelIn 64 = .ok (.ireturn, 1) := by decide +kernel
theorem dX9_truckOf_0 : decode cX9_truckOf 0 = .ok (.aload_n 0, 1) := by decide +kernel
theorem dX9_truckOf_1 : decode cX9_truckOf 1 = .ok (.aload_n 0, 1) := by decide +kernel
theorem dX9_truckOf_2 : decode cX9_truckOf 2 = .ok (.iload_n 1, 1) := by decide +kernel
theorem dX9_truckOf_3 : decode cX9_truckOf 3 = .ok (.invokevirtual 168, 3) := by decide +kernel
theorem dX9_truckOf_6 : decode cX9_truckOf 6 = .ok (.ifCond .ne 7, 3) := by decide +kernel
theorem dX9_truckOf_9 : decode cX9_truckOf 9 = .ok (.iconst 1, 1) := by decide +kernel
theorem dX9_truckOf_10 : decode cX9_truckOf 10 = .ok (.goto 18, 3) := by decide +kernel
theorem dX9_truckOf_13 : decode cX9_truckOf 13 = .ok (.aload_n 0, 1) := by decide +kernel
theorem dX9_truckOf_14 : decode cX9_truckOf 14 = .ok (.getfield 36, 3) := by decide +kernel
theorem dX9_truckOf_17 : decode cX9_truckOf 17 = .ok (.iload_n 1, 1) := by decide +kernel
theorem dX9_truckOf_18 : decode cX9_truckOf 18 = .ok (.iaload, 1) := by decide +kernel
theorem dX9_truckOf_19 : decode cX9_truckOf 19 = .ok (.iconst 3, 1) := by decide +kernel
theorem dX9_truckOf_20 : decode cX9_truckOf 20 = .ok (.if_icmp .eq 7, 3) := by decide +kernel
theorem dX9_truckOf_23 : decode cX9_truckOf 23 = .ok (.iconst 2, 1) := by decide +kernel
theorem dX9_truckOf_24 : decode cX9_truckOf 24 = .ok (.goto 4, 3) := by decide +kernel
theorem dX9_truckOf_27 : decode cX9_truckOf 27 = .ok (.iconst 0, 1) := by decide +kernel
theorem dX9_truckOf_28 : decode cX9_truckOf 28 = .ok (.invokevirtual 94, 3) := by decide +kernel
theorem dX9_truckOf_31 : decode cX9_truckOf 31 = .ok (.ifCond .eq 12, 3) := by decide +kernel
theorem dX9_truckOf_34 : decode cX9_truckOf 34 = .ok (.aload_n 0, 1) := by decide +kernel
theorem dX9_truckOf_35 : decode cX9_truckOf 35 = .ok (.getfield 60, 3) := by decide +kernel
theorem dX9_truckOf_38 : decode cX9_truckOf 38 = .ok (.iload_n 1, 1) := by decide +kernel
theorem dX9_truckOf_39 : decode cX9_truckOf 39 = .ok (.iaload, 1) := by decide +kernel
theorem dX9_truckOf_40 : decode cX9_truckOf 40 = .ok (.goto 4, 3) := by decide +kernel
theorem dX9_truckOf_43 : decode cX9_truckOf 43 = .ok (.iconst 0, 1) := by decide +kernel
theorem dX9_truckOf_44 : decode cX9_truckOf 44 = .ok (.ireturn, 1) := by decide +kernel
theorem dX9_shipped_0 : decode cX9_shipped 0 = .ok (.aload_n 0, 1) := by decide +kernel
theorem dX9_shipped_1 : decode cX9_shipped 1 = .ok (.iconst 0, 1) := by decide +kernel
theorem dX9_shipped_2 : decode cX9_shipped 2 = .ok (.putfield 81, 3) := by decide +kernel
theorem dX9_shipped_5 : decode cX9_shipped 5 = .ok (.aload_n 0, 1) := by decide +kernel
theorem dX9_shipped_6 : decode cX9_shipped 6 = .ok (.getfield 198, 3) := by decide +kernel
theorem dX9_shipped_9 : decode cX9_shipped 9 = .ok (.lreturn, 1) := by decide +kernel
theorem dX9_meanRounds_0 : decode cX9_meanRounds 0 = .ok (.aload_n 0, 1) := by decide +kernel
theorem dX9_meanRounds_1 : decode cX9_meanRounds 1 = .ok (.aload_n 0, 1) := by decide +kernel
theorem dX9_meanRounds_2 : decode cX9_meanRounds 2 = .ok (.getfield 129, 3) := by decide +kernel
theorem dX9_meanRounds_5 : decode cX9_meanRounds 5 = .ok (.ifCond .ne 7, 3) := by decide +kernel
theorem dX9_meanRounds_8 : decode cX9_meanRounds 8 = .ok (.iconst 1, 1) := by decide +kernel
theorem dX9_meanRounds_9 : decode cX9_meanRounds 9 = .ok (.goto 4, 3) := by decide +kernel
theorem dX9_meanRounds_12 : decode cX9_meanRounds 12 = .ok (.iconst 0, 1) := by decide +kernel
theorem dX9_meanRounds_13 : decode cX9_meanRounds 13 = .ok (.invokevirtual 94, 3) := by decide +kernel
theorem dX9_meanRounds_16 : decode cX9_meanRounds 16 = .ok (.ifCond .eq 17, 3) := by decide +kernel
theorem dX9_meanRounds_19 : decode cX9_meanRounds 19 = .ok (.aload_n 0, 1) := by decide +kernel
theorem dX9_meanRounds_20 : decode cX9_meanRounds 20 = .ok (.getfield 132, 3) := by decide +kernel
theorem dX9_meanRounds_23 : decode cX9_meanRounds 23 = .ok (.i2d, 1) := by decide +kernel
theorem dX9_meanRounds_24 : decode cX9_meanRounds 24 = .ok (.aload_n 0, 1) := by decide +kernel
theorem dX9_meanRounds_25 : decode cX9_meanRounds 25 = .ok (.getfield 129, 3) := by decide +kernel
theorem dX9_meanRounds_28 : decode cX9_meanRounds 28 = .ok (.i2d, 1) := by decide +kernel
theorem dX9_meanRounds_29 : decode cX9_meanRounds 29 = .ok (.ddiv, 1) := by decide +kernel
theorem dX9_meanRounds_30 : decode cX9_meanRounds 30 = .ok (.goto 4, 3) := by decide +kernel
theorem dX9_meanRounds_33 : decode cX9_meanRounds 33 = .ok (.dconst 0, 1) := by decide +kernel
theorem dX9_meanRounds_34 : decode cX9_meanRounds 34 = .ok (.dreturn, 1) := by decide +kernel
theorem dX9_overflowShare_0 : decode cX9_overflowShare 0 = .ok (.aload_n 0, 1) := by decide +kernel
theorem dX9_overflowShare_1 : decode cX9_overflowShare 1 = .ok (.aload_n 0, 1) := by decide +kernel
theorem dX9_overflowShare_2 : decode cX9_overflowShare 2 = .ok (.getfield 129, 3) := by decide +kernel
theorem dX9_overflowShare_5 : decode cX9_overflowShare 5 = .ok (.ifCond .ne 7, 3) := by decide +kernel
theorem dX9_overflowShare_8 : decode cX9_overflowShare 8 = .ok (.iconst 1, 1) := by decide +kernel
theorem dX9_overflowShare_9 : decode cX9_overflowShare 9 = .ok (.goto 4, 3) := by decide +kernel
theorem dX9_overflowShare_12 : decode cX9_overflowShare 12 = .ok (.iconst 0, 1) := by decide +kernel
theorem dX9_overflowShare_13 : decode cX9_overflowShare 13 = .ok (.invokevirtual 94, 3) := by decide +kernel
theorem dX9_overflowShare_16 : decode cX9_overflowShare 16 = .ok (.ifCond .eq 17, 3) := by decide +kernel
theorem dX9_overflowShare_19 : decode cX9_overflowShare 19 = .ok (.aload_n 0, 1) := by decide +kernel
theorem dX9_overflowShare_20 : decode cX9_overflowShare 20 = .ok (.getfield 153, 3) := by decide +kernel
theorem dX9_overflowShare_23 : decode cX9_overflowShare 23 = .ok (.i2f, 1) := by decide +kernel
theorem dX9_overflowShare_24 : decode cX9_overflowShare 24 = .ok (.aload_n 0, 1) := by decide +kernel
theorem dX9_overflowShare_25 : decode cX9_overflowShare 25 = .ok (.getfield 129, 3) := by decide +kernel
theorem dX9_overflowShare_28 : decode cX9_overflowShare 28 = .ok (.i2f, 1) := by decide +kernel
theorem dX9_overflowShare_29 : decode cX9_overflowShare 29 = .ok (.fdiv, 1) := by decide +kernel
theorem dX9_overflowShare_30 : decode cX9_overflowShare 30 = .ok (.goto 4, 3) := by decide +kernel
theorem dX9_overflowShare_33 : decode cX9_overflowShare 33 = .ok (.fconst 0, 1) := by decide +kernel
theorem dX9_overflowShare_34 : decode cX9_overflowShare 34 = .ok (.freturn, 1) := by decide +kernel
theorem dX9_isOnce_0 : decode cX9_isOnce 0 = .ok (.aload_n 0, 1) := by decide +kernel
theorem dX9_isOnce_1 : decode cX9_isOnce 1 = .ok (.iconst 0, 1) := by decide +kernel
theorem dX9_isOnce_2 : decode cX9_isOnce 2 = .ok (.putfield 81, 3) := by decide +kernel
theorem dX9_isOnce_5 : decode cX9_isOnce 5 = .ok (.iconst 1, 1) := by decide +kernel
theorem dX9_isOnce_6 : decode cX9_isOnce 6 = .ok (.ireturn, 1) := by decide +kernel
theorem dJx00060_init_a7421_0 : decode cJx00060_init_a7421 0 = .ok (.aload_n 0, 1) := by decide +kernel
theorem dJx00060_init_a7421_1 : decode cJx00060_init_a7421 1 = .ok (.aload_n 1, 1) := by decide +kernel
theorem dJx00060_init_a7421_2 : decode cJx00060_init_a7421 2 = .ok (.invokespecial 7, 3) := by decide +kernel
theorem dJx00060_init_a7421_5 : decode cJx00060_init_a7421 5 = .ok (.return_, 1) := by decide +kernel
theorem dJ9_max_7cf53_0 : decode cJ9_max_7cf53 0 = .ok (.iload_n 0, 1) := by decide +kernel
theorem dJ9_max_7cf53_1 : decode cJ9_max_7cf53 1 = .ok (.iload_n 1, 1) := by decide +kernel
theorem dJ9_max_7cf53_2 : decode cJ9_max_7cf53 2 = .ok (.if_icmp .lt 7, 3) := by decide +kernel
theorem dJ9_max_7cf53_5 : decode cJ9_max_7cf53 5 = .ok (.iload_n 0, 1) := by decide +kernel
theorem dJ9_max_7cf53_6 : decode cJ9_max_7cf53 6 = .ok (.goto 4, 3) := by decide +kernel
theorem dJ9_max_7cf53_9 : decode cJ9_max_7cf53 9 = .ok (.iload_n 1, 1) := by decide +kernel
theorem dJ9_max_7cf53_10 : decode cJ9_max_7cf53 10 = .ok (.ireturn, 1) := by decide +kernel
theorem dJ9_min_7cf53_0 : decode cJ9_min_7cf53 0 = .ok (.iload_n 0, 1) := by decide +kernel
theorem dJ9_min_7cf53_1 : decode cJ9_min_7cf53 1 = .ok (.iload_n 1, 1) := by decide +kernel
theorem dJ9_min_7cf53_2 : decode cJ9_min_7cf53 2 = .ok (.if_icmp .gt 7, 3) := by decide +kernel
theorem dJ9_min_7cf53_5 : decode cJ9_min_7cf53 5 = .ok (.iload_n 0, 1) := by decide +kernel
theorem dJ9_min_7cf53_6 : decode cJ9_min_7cf53 6 = .ok (.goto 4, 3) := by decide +kernel
theorem dJ9_min_7cf53_9 : decode cJ9_min_7cf53 9 = .ok (.iload_n 1, 1) := by decide +kernel
theorem dJ9_min_7cf53_10 : decode cJ9_min_7cf53 10 = .ok (.ireturn, 1) := by decide +kernel
theorem dL_setLoop_0 : decode cL_setLoop 0 = .ok (.aload_n 2, 1) := by decide +kernel
theorem dL_setLoop_1 : decode cL_setLoop 1 = .ok (.iconst 0, 1) := by decide +kernel
theorem dL_setLoop_2 : decode cL_setLoop 2 = .ok (.aload_n 0, 1) := by decide +kernel
theorem dL_setLoop_3 : decode cL_setLoop 3 = .ok (.iload_n 1, 1) := by decide +kernel
theorem dL_setLoop_4 : decode cL_setLoop 4 = .ok (.invokevirtual 7, 3) := by decide +kernel
theorem dL_setLoop_7 : decode cL_setLoop 7 = .ok (.i2l, 1) := by decide +kernel
theorem dL_setLoop_8 : decode cL_setLoop 8 = .ok (.lastore, 1) := by decide +kernel
theorem dL_setLoop_9 : decode cL_setLoop 9 = .ok (.goto 9, 3) := by decide +kernel
theorem dL_setLoop_12 : decode cL_setLoop 12 = .ok (.astore_n 3, 1) := by decide +kernel
theorem dL_setLoop_13 : decode cL_setLoop 13 = .ok (.iconst 1, 1) := by decide +kernel
theorem dL_setLoop_14 : decode cL_setLoop 14 = .ok (.ireturn, 1) := by decide +kernel
theorem dL_setLoop_15 : decode cL_setLoop 15 = .ok (.astore_n 3, 1) := by decide +kernel
theorem dL_setLoop_16 : decode cL_setLoop 16 = .ok (.iconst 2, 1) := by decide +kernel
theorem dL_setLoop_17 : decode cL_setLoop 17 = .ok (.ireturn, 1) := by decide +kernel
theorem dL_setLoop_18 : decode cL_setLoop 18 = .ok (.iconst 0, 1) := by decide +kernel
theorem dL_setLoop_19 : decode cL_setLoop 19 = .ok (.ireturn, 1) := by decide +kernel
theorem dL_addChute_0 : decode cL_addChute 0 = .ok (.aload_n 3, 1) := by decide +kernel
theorem dL_addChute_1 : decode cL_addChute 1 = .ok (.iconst 0, 1) := by decide +kernel
theorem dL_addChute_2 : decode cL_addChute 2 = .ok (.aload_n 0, 1) := by decide +kernel
theorem dL_addChute_3 : decode cL_addChute 3 = .ok (.iload_n 1, 1) := by decide +kernel
theorem dL_addChute_4 : decode cL_addChute 4 = .ok (.iload_n 2, 1) := by decide +kernel
theorem dL_addChute_5 : decode cL_addChute 5 = .ok (.invokevirtual 17, 3) := by decide +kernel
theorem dL_addChute_8 : decode cL_addChute 8 = .ok (.i2l, 1) := by decide +kernel
theorem dL_addChute_9 : decode cL_addChute 9 = .ok (.lastore, 1) := by decide +kernel
theorem dL_addChute_10 : decode cL_addChute 10 = .ok (.goto 15, 3) := by decide +kernel
theorem dL_addChute_13 : decode cL_addChute 13 = .ok (.astore 4, 2) := by decide +kernel
theorem dL_addChute_15 : decode cL_addChute 15 = .ok (.iconst 1, 1) := by decide +kernel
theorem dL_addChute_16 : decode cL_addChute 16 = .ok (.ireturn, 1) := by decide +kernel
theorem dL_addChute_17 : decode cL_addChute 17 = .ok (.astore 4, 2) := by decide +kernel
theorem dL_addChute_19 : decode cL_addChute 19 = .ok (.iconst 2, 1) := by decide +kernel
theorem dL_addChute_20 : decode cL_addChute 20 = .ok (.ireturn, 1) := by decide +kernel
theorem dL_addChute_21 : decode cL_addChute 21 = .ok (.astore 4, 2) := by decide +kernel
theorem dL_addChute_23 : decode cL_addChute 23 = .ok (.iconst 3, 1) := by decide +kernel
theorem dL_addChute_24 : decode cL_addChute 24 = .ok (.ireturn, 1) := by decide +kernel
theorem dL_addChute_25 : decode cL_addChute 25 = .ok (.iconst 0, 1) := by decide +kernel
theorem dL_addChute_26 : decode cL_addChute 26 = .ok (.ireturn, 1) := by decide +kernel
theorem dL_setCapacity_0 : decode cL_setCapacity 0 = .ok (.aload_n 3, 1) := by decide +kernel
theorem dL_setCapacity_1 : decode cL_setCapacity 1 = .ok (.iconst 0, 1) := by decide +kernel
theorem dL_setCapacity_2 : decode cL_setCapacity 2 = .ok (.aload_n 0, 1) := by decide +kernel
theorem dL_setCapacity_3 : decode cL_setCapacity 3 = .ok (.iload_n 1, 1) := by decide +kernel
theorem dL_setCapacity_4 : decode cL_setCapacity 4 = .ok (.iload_n 2, 1) := by decide +kernel
theorem dL_setCapacity_5 : decode cL_setCapacity 5 = .ok (.invokevirtual 23, 3) := by decide +kernel
theorem dL_setCapacity_8 : decode cL_setCapacity 8 = .ok (.i2l, 1) := by decide +kernel
theorem dL_setCapacity_9 : decode cL_setCapacity 9 = .ok (.lastore, 1) := by decide +kernel
theorem dL_setCapacity_10 : decode cL_setCapacity 10 = .ok (.goto 15, 3) := by decide +kernel
theorem dL_setCapacity_13 : decode cL_setCapacity 13 = .ok (.astore 4, 2) := by decide +kernel
theorem dL_setCapacity_15 : decode cL_setCapacity 15 = .ok (.iconst 1, 1) := by decide +kernel
theorem dL_setCapacity_16 : decode cL_setCapacity 16 = .ok (.ireturn, 1) := by decide +kernel
theorem dL_setCapacity_17 : decode cL_setCapacity 17 = .ok (.astore 4, 2) := by decide +kernel
theorem dL_setCapacity_19 : decode cL_setCapacity 19 = .ok (.iconst 2, 1) := by decide +kernel
theorem dL_setCapacity_20 : decode cL_setCapacity 20 = .ok (.ireturn, 1) := by decide +kernel
theorem dL_setCapacity_21 : decode cL_setCapacity 21 = .ok (.astore 4, 2) := by decide +kernel
theorem dL_setCapacity_23 : decode cL_setCapacity 23 = .ok (.iconst 3, 1) := by decide +kernel
theorem dL_setCapacity_24 : decode cL_setCapacity 24 = .ok (.ireturn, 1) := by decide +kernel
theorem dL_setCapacity_25 : decode cL_setCapacity 25 = .ok (.iconst 0, 1) := by decide +kernel
theorem dL_setCapacity_26 : decode cL_setCapacity 26 = .ok (.ireturn, 1) := by decide +kernel
theorem dL_setLimit_0 : decode cL_setLimit 0 = .ok (.aload_n 2, 1) := by decide +kernel
theorem dL_setLimit_1 : decode cL_setLimit 1 = .ok (.iconst 0, 1) := by decide +kernel
theorem dL_setLimit_2 : decode cL_setLimit 2 = .ok (.aload_n 0, 1) := by decide +kernel
theorem dL_setLimit_3 : decode cL_setLimit 3 = .ok (.iload_n 1, 1) := by decide +kernel
theorem dL_setLimit_4 : decode cL_setLimit 4 = .ok (.invokevirtual 28, 3) := by decide +kernel
theorem dL_setLimit_7 : decode cL_setLimit 7 = .ok (.i2l, 1) := by decide +kernel
theorem dL_setLimit_8 : decode cL_setLimit 8 = .ok (.lastore, 1) := by decide +kernel
theorem dL_setLimit_9 : decode cL_setLimit 9 = .ok (.goto 6, 3) := by decide +kernel
theorem dL_setLimit_12 : decode cL_setLimit 12 = .ok (.astore_n 3, 1) := by decide +kernel
theorem dL_setLimit_13 : decode cL_setLimit 13 = .ok (.iconst 1, 1) := by decide +kernel
theorem dL_setLimit_14 : decode cL_setLimit 14 = .ok (.ireturn, 1) := by decide +kernel
theorem dL_setLimit_15 : decode cL_setLimit 15 = .ok (.iconst 0, 1) := by decide +kernel
theorem dL_setLimit_16 : decode cL_setLimit 16 = .ok (.ireturn, 1) := by decide +kernel
theorem dL_jam_0 : decode cL_jam 0 = .ok (.aload_n 2, 1) := by decide +kernel
theorem dL_jam_1 : decode cL_jam 1 = .ok (.iconst 0, 1) := by decide +kernel
theorem dL_jam_2 : decode cL_jam 2 = .ok (.aload_n 0, 1) := by decide +kernel
theorem dL_jam_3 : decode cL_jam 3 = .ok (.iload_n 1, 1) := by decide +kernel
theorem dL_jam_4 : decode cL_jam 4 = .ok (.invokevirtual 31, 3) := by decide +kernel
theorem dL_jam_7 : decode cL_jam 7 = .ok (.i2l, 1) := by decide +kernel
theorem dL_jam_8 : decode cL_jam 8 = .ok (.lastore, 1) := by decide +kernel
theorem dL_jam_9 : decode cL_jam 9 = .ok (.goto 9, 3) := by decide +kernel
theorem dL_jam_12 : decode cL_jam 12 = .ok (.astore_n 3, 1) := by decide +kernel
theorem dL_jam_13 : decode cL_jam 13 = .ok (.iconst 1, 1) := by decide +kernel
theorem dL_jam_14 : decode cL_jam 14 = .ok (.ireturn, 1) := by decide +kernel
theorem dL_jam_15 : decode cL_jam 15 = .ok (.astore_n 3, 1) := by decide +kernel
theorem dL_jam_16 : decode cL_jam 16 = .ok (.iconst 2, 1) := by decide +kernel
theorem dL_jam_17 : decode cL_jam 17 = .ok (.ireturn, 1) := by decide +kernel
theorem dL_jam_18 : decode cL_jam 18 = .ok (.iconst 0, 1) := by decide +kernel
theorem dL_jam_19 : decode cL_jam 19 = .ok (.ireturn, 1) := by decide +kernel
theorem dL_free_0 : decode cL_free 0 = .ok (.aload_n 2, 1) := by decide +kernel
theorem dL_free_1 : decode cL_free 1 = .ok (.iconst 0, 1) := by decide +kernel
theorem dL_free_2 : decode cL_free 2 = .ok (.aload_n 0, 1) := by decide +kernel
theorem dL_free_3 : decode cL_free 3 = .ok (.iload_n 1, 1) := by decide +kernel
theorem dL_free_4 : decode cL_free 4 = .ok (.invokevirtual 36, 3) := by decide +kernel
theorem dL_free_7 : decode cL_free 7 = .ok (.i2l, 1) := by decide +kernel
theorem dL_free_8 : decode cL_free 8 = .ok (.lastore, 1) := by decide +kernel
theorem dL_free_9 : decode cL_free 9 = .ok (.goto 9, 3) := by decide +kernel
theorem dL_free_12 : decode cL_free 12 = .ok (.astore_n 3, 1) := by decide +kernel
theorem dL_free_13 : decode cL_free 13 = .ok (.iconst 1, 1) := by decide +kernel
theorem dL_free_14 : decode cL_free 14 = .ok (.ireturn, 1) := by decide +kernel
theorem dL_free_15 : decode cL_free 15 = .ok (.astore_n 3, 1) := by decide +kernel
theorem dL_free_16 : decode cL_free 16 = .ok (.iconst 2, 1) := by decide +kernel
theorem dL_free_17 : decode cL_free 17 = .ok (.ireturn, 1) := by decide +kernel
theorem dL_free_18 : decode cL_free 18 = .ok (.iconst 0, 1) := by decide +kernel
theorem dL_free_19 : decode cL_free 19 = .ok (.ireturn, 1) := by decide +kernel
theorem dL_stationAt_0 : decode cL_stationAt 0 = .ok (.aload_n 2, 1) := by decide +kernel
theorem dL_stationAt_1 : decode cL_stationAt 1 = .ok (.iconst 0, 1) := by decide +kernel
theorem dL_stationAt_2 : decode cL_stationAt 2 = .ok (.aload_n 0, 1) := by decide +kernel
theorem dL_stationAt_3 : decode cL_stationAt 3 = .ok (.iload_n 1, 1) := by decide +kernel
theorem dL_stationAt_4 : decode cL_stationAt 4 = .ok (.invokevirtual 39, 3) := by decide +kernel
theorem dL_stationAt_7 : decode cL_stationAt 7 = .ok (.i2l, 1) := by decide +kernel
theorem dL_stationAt_8 : decode cL_stationAt 8 = .ok (.lastore, 1) := by decide +kernel
theorem dL_stationAt_9 : decode cL_stationAt 9 = .ok (.goto 6, 3) := by decide +kernel
theorem dL_stationAt_12 : decode cL_stationAt 12 = .ok (.astore_n 3, 1) := by decide +kernel
theorem dL_stationAt_13 : decode cL_stationAt 13 = .ok (.iconst 1, 1) := by decide +kernel
theorem dL_stationAt_14 : decode cL_stationAt 14 = .ok (.ireturn, 1) := by decide +kernel
theorem dL_stationAt_15 : decode cL_stationAt 15 = .ok (.iconst 0, 1) := by decide +kernel
theorem dL_stationAt_16 : decode cL_stationAt 16 = .ok (.ireturn, 1) := by decide +kernel
theorem dL_arrive_0 : decode cL_arrive 0 = .ok (.aload_n 3, 1) := by decide +kernel
theorem dL_arrive_1 : decode cL_arrive 1 = .ok (.iconst 0, 1) := by decide +kernel
theorem dL_arrive_2 : decode cL_arrive 2 = .ok (.aload_n 0, 1) := by decide +kernel
theorem dL_arrive_3 : decode cL_arrive 3 = .ok (.iload_n 1, 1) := by decide +kernel
theorem dL_arrive_4 : decode cL_arrive 4 = .ok (.iload_n 2, 1) := by decide +kernel
theorem dL_arrive_5 : decode cL_arrive 5 = .ok (.invokevirtual 43, 3) := by decide +kernel
theorem dL_arrive_8 : decode cL_arrive 8 = .ok (.i2l, 1) := by decide +kernel
theorem dL_arrive_9 : decode cL_arrive 9 = .ok (.lastore, 1) := by decide +kernel
theorem dL_arrive_10 : decode cL_arrive 10 = .ok (.goto 11, 3) := by decide +kernel
theorem dL_arrive_13 : decode cL_arrive 13 = .ok (.astore 4, 2) := by decide +kernel
theorem dL_arrive_15 : decode cL_arrive 15 = .ok (.iconst 1, 1) := by decide +kernel
theorem dL_arrive_16 : decode cL_arrive 16 = .ok (.ireturn, 1) := by decide +kernel
theorem dL_arrive_17 : decode cL_arrive 17 = .ok (.astore 4, 2) := by decide +kernel
theorem dL_arrive_19 : decode cL_arrive 19 = .ok (.iconst 2, 1) := by decide +kernel
theorem dL_arrive_20 : decode cL_arrive 20 = .ok (.ireturn, 1) := by decide +kernel
theorem dL_arrive_21 : decode cL_arrive 21 = .ok (.iconst 0, 1) := by decide +kernel
theorem dL_arrive_22 : decode cL_arrive 22 = .ok (.ireturn, 1) := by decide +kernel
theorem dL_pass_0 : decode cL_pass 0 = .ok (.aload_n 2, 1) := by decide +kernel
theorem dL_pass_1 : decode cL_pass 1 = .ok (.iconst 0, 1) := by decide +kernel
theorem dL_pass_2 : decode cL_pass 2 = .ok (.aload_n 0, 1) := by decide +kernel
theorem dL_pass_3 : decode cL_pass 3 = .ok (.iload_n 1, 1) := by decide +kernel
theorem dL_pass_4 : decode cL_pass 4 = .ok (.invokevirtual 46, 3) := by decide +kernel
theorem dL_pass_7 : decode cL_pass 7 = .ok (.i2l, 1) := by decide +kernel
theorem dL_pass_8 : decode cL_pass 8 = .ok (.lastore, 1) := by decide +kernel
theorem dL_pass_9 : decode cL_pass 9 = .ok (.goto 6, 3) := by decide +kernel
theorem dL_pass_12 : decode cL_pass 12 = .ok (.astore_n 3, 1) := by decide +kernel
theorem dL_pass_13 : decode cL_pass 13 = .ok (.iconst 1, 1) := by decide +kernel
theorem dL_pass_14 : decode cL_pass 14 = .ok (.ireturn, 1) := by decide +kernel
theorem dL_pass_15 : decode cL_pass 15 = .ok (.iconst 0, 1) := by decide +kernel
theorem dL_pass_16 : decode cL_pass 16 = .ok (.ireturn, 1) := by decide +kernel
theorem dL_stateOf_0 : decode cL_stateOf 0 = .ok (.aload_n 2, 1) := by decide +kernel
theorem dL_stateOf_1 : decode cL_stateOf 1 = .ok (.iconst 0, 1) := by decide +kernel
theorem dL_stateOf_2 : decode cL_stateOf 2 = .ok (.aload_n 0, 1) := by decide +kernel
theorem dL_stateOf_3 : decode cL_stateOf 3 = .ok (.iload_n 1, 1) := by decide +kernel
theorem dL_stateOf_4 : decode cL_stateOf 4 = .ok (.invokevirtual 49, 3) := by decide +kernel
theorem dL_stateOf_7 : decode cL_stateOf 7 = .ok (.i2l, 1) := by decide +kernel
theorem dL_stateOf_8 : decode cL_stateOf 8 = .ok (.lastore, 1) := by decide +kernel
theorem dL_stateOf_9 : decode cL_stateOf 9 = .ok (.goto 6, 3) := by decide +kernel
theorem dL_stateOf_12 : decode cL_stateOf 12 = .ok (.astore_n 3, 1) := by decide +kernel
theorem dL_stateOf_13 : decode cL_stateOf 13 = .ok (.iconst 1, 1) := by decide +kernel
theorem dL_stateOf_14 : decode cL_stateOf 14 = .ok (.ireturn, 1) := by decide +kernel
theorem dL_stateOf_15 : decode cL_stateOf 15 = .ok (.iconst 0, 1) := by decide +kernel
theorem dL_stateOf_16 : decode cL_stateOf 16 = .ok (.ireturn, 1) := by decide +kernel
theorem dL_positionOf_0 : decode cL_positionOf 0 = .ok (.aload_n 2, 1) := by decide +kernel
theorem dL_positionOf_1 : decode cL_positionOf 1 = .ok (.iconst 0, 1) := by decide +kernel
theorem dL_positionOf_2 : decode cL_positionOf 2 = .ok (.aload_n 0, 1) := by decide +kernel
theorem dL_positionOf_3 : decode cL_positionOf 3 = .ok (.iload_n 1, 1) := by decide +kernel
theorem dL_positionOf_4 : decode cL_positionOf 4 = .ok (.invokevirtual 52, 3) := by decide +kernel
theorem dL_positionOf_7 : decode cL_positionOf 7 = .ok (.i2l, 1) := by decide +kernel
theorem dL_positionOf_8 : decode cL_positionOf 8 = .ok (.lastore, 1) := by decide +kernel
theorem dL_positionOf_9 : decode cL_positionOf 9 = .ok (.goto 9, 3) := by decide +kernel
theorem dL_positionOf_12 : decode cL_positionOf 12 = .ok (.astore_n 3, 1) := by decide +kernel
theorem dL_positionOf_13 : decode cL_positionOf 13 = .ok (.iconst 1, 1) := by decide +kernel
theorem dL_positionOf_14 : decode cL_positionOf 14 = .ok (.ireturn, 1) := by decide +kernel
theorem dL_positionOf_15 : decode cL_positionOf 15 = .ok (.astore_n 3, 1) := by decide +kernel
theorem dL_positionOf_16 : decode cL_positionOf 16 = .ok (.iconst 2, 1) := by decide +kernel
theorem dL_positionOf_17 : decode cL_positionOf 17 = .ok (.ireturn, 1) := by decide +kernel
theorem dL_positionOf_18 : decode cL_positionOf 18 = .ok (.iconst 0, 1) := by decide +kernel
theorem dL_positionOf_19 : decode cL_positionOf 19 = .ok (.ireturn, 1) := by decide +kernel
theorem dL_roundsOf_0 : decode cL_roundsOf 0 = .ok (.aload_n 2, 1) := by decide +kernel
theorem dL_roundsOf_1 : decode cL_roundsOf 1 = .ok (.iconst 0, 1) := by decide +kernel
theorem dL_roundsOf_2 : decode cL_roundsOf 2 = .ok (.aload_n 0, 1) := by decide +kernel
theorem dL_roundsOf_3 : decode cL_roundsOf 3 = .ok (.iload_n 1, 1) := by decide +kernel
theorem dL_roundsOf_4 : decode cL_roundsOf 4 = .ok (.invokevirtual 55, 3) := by decide +kernel
theorem dL_roundsOf_7 : decode cL_roundsOf 7 = .ok (.i2l, 1) := by decide +kernel
theorem dL_roundsOf_8 : decode cL_roundsOf 8 = .ok (.lastore, 1) := by decide +kernel
theorem dL_roundsOf_9 : decode cL_roundsOf 9 = .ok (.goto 9, 3) := by decide +kernel
theorem dL_roundsOf_12 : decode cL_roundsOf 12 = .ok (.astore_n 3, 1) := by decide +kernel
theorem dL_roundsOf_13 : decode cL_roundsOf 13 = .ok (.iconst 1, 1) := by decide +kernel
theorem dL_roundsOf_14 : decode cL_roundsOf 14 = .ok (.ireturn, 1) := by decide +kernel
theorem dL_roundsOf_15 : decode cL_roundsOf 15 = .ok (.astore_n 3, 1) := by decide +kernel
theorem dL_roundsOf_16 : decode cL_roundsOf 16 = .ok (.iconst 2, 1) := by decide +kernel
theorem dL_roundsOf_17 : decode cL_roundsOf 17 = .ok (.ireturn, 1) := by decide +kernel
theorem dL_roundsOf_18 : decode cL_roundsOf 18 = .ok (.iconst 0, 1) := by decide +kernel
theorem dL_roundsOf_19 : decode cL_roundsOf 19 = .ok (.ireturn, 1) := by decide +kernel
theorem dL_trayAt_0 : decode cL_trayAt 0 = .ok (.aload_n 2, 1) := by decide +kernel
theorem dL_trayAt_1 : decode cL_trayAt 1 = .ok (.iconst 0, 1) := by decide +kernel
theorem dL_trayAt_2 : decode cL_trayAt 2 = .ok (.aload_n 0, 1) := by decide +kernel
theorem dL_trayAt_3 : decode cL_trayAt 3 = .ok (.iload_n 1, 1) := by decide +kernel
theorem dL_trayAt_4 : decode cL_trayAt 4 = .ok (.invokevirtual 58, 3) := by decide +kernel
theorem dL_trayAt_7 : decode cL_trayAt 7 = .ok (.i2l, 1) := by decide +kernel
theorem dL_trayAt_8 : decode cL_trayAt 8 = .ok (.lastore, 1) := by decide +kernel
theorem dL_trayAt_9 : decode cL_trayAt 9 = .ok (.goto 9, 3) := by decide +kernel
theorem dL_trayAt_12 : decode cL_trayAt 12 = .ok (.astore_n 3, 1) := by decide +kernel
theorem dL_trayAt_13 : decode cL_trayAt 13 = .ok (.iconst 1, 1) := by decide +kernel
theorem dL_trayAt_14 : decode cL_trayAt 14 = .ok (.ireturn, 1) := by decide +kernel
theorem dL_trayAt_15 : decode cL_trayAt 15 = .ok (.astore_n 3, 1) := by decide +kernel
theorem dL_trayAt_16 : decode cL_trayAt 16 = .ok (.iconst 2, 1) := by decide +kernel
theorem dL_trayAt_17 : decode cL_trayAt 17 = .ok (.ireturn, 1) := by decide +kernel
theorem dL_trayAt_18 : decode cL_trayAt 18 = .ok (.iconst 0, 1) := by decide +kernel
theorem dL_trayAt_19 : decode cL_trayAt 19 = .ok (.ireturn, 1) := by decide +kernel
theorem dL_leavingAhead_0 : decode cL_leavingAhead 0 = .ok (.aload_n 2, 1) := by decide +kernel
theorem dL_leavingAhead_1 : decode cL_leavingAhead 1 = .ok (.iconst 0, 1) := by decide +kernel
theorem dL_leavingAhead_2 : decode cL_leavingAhead 2 = .ok (.aload_n 0, 1) := by decide +kernel
theorem dL_leavingAhead_3 : decode cL_leavingAhead 3 = .ok (.iload_n 1, 1) := by decide +kernel
theorem dL_leavingAhead_4 : decode cL_leavingAhead 4 = .ok (.invokevirtual 61, 3) := by decide +kernel
theorem dL_leavingAhead_7 : decode cL_leavingAhead 7 = .ok (.i2l, 1) := by decide +kernel
theorem dL_leavingAhead_8 : decode cL_leavingAhead 8 = .ok (.lastore, 1) := by decide +kernel
theorem dL_leavingAhead_9 : decode cL_leavingAhead 9 = .ok (.goto 6, 3) := by decide +kernel
theorem dL_leavingAhead_12 : decode cL_leavingAhead 12 = .ok (.astore_n 3, 1) := by decide +kernel
theorem dL_leavingAhead_13 : decode cL_leavingAhead 13 = .ok (.iconst 1, 1) := by decide +kernel
theorem dL_leavingAhead_14 : decode cL_leavingAhead 14 = .ok (.ireturn, 1) := by decide +kernel
theorem dL_leavingAhead_15 : decode cL_leavingAhead 15 = .ok (.iconst 0, 1) := by decide +kernel
theorem dL_leavingAhead_16 : decode cL_leavingAhead 16 = .ok (.ireturn, 1) := by decide +kernel
theorem dL_leavingByTrays_0 : decode cL_leavingByTrays 0 = .ok (.aload_n 2, 1) := by decide +kernel
theorem dL_leavingByTrays_1 : decode cL_leavingByTrays 1 = .ok (.iconst 0, 1) := by decide +kernel
theorem dL_leavingByTrays_2 : decode cL_leavingByTrays 2 = .ok (.aload_n 0, 1) := by decide +kernel
theorem dL_leavingByTrays_3 : decode cL_leavingByTrays 3 = .ok (.iload_n 1, 1) := by decide +kernel
theorem dL_leavingByTrays_4 : decode cL_leavingByTrays 4 = .ok (.invokevirtual 64, 3) := by decide +kernel
theorem dL_leavingByTrays_7 : decode cL_leavingByTrays 7 = .ok (.i2l, 1) := by decide +kernel
theorem dL_leavingByTrays_8 : decode cL_leavingByTrays 8 = .ok (.lastore, 1) := by decide +kernel
theorem dL_leavingByTrays_9 : decode cL_leavingByTrays 9 = .ok (.goto 6, 3) := by decide +kernel
theorem dL_leavingByTrays_12 : decode cL_leavingByTrays 12 = .ok (.astore_n 3, 1) := by decide +kernel
theorem dL_leavingByTrays_13 : decode cL_leavingByTrays 13 = .ok (.iconst 1, 1) := by decide +kernel
theorem dL_leavingByTrays_14 : decode cL_leavingByTrays 14 = .ok (.ireturn, 1) := by decide +kernel
theorem dL_leavingByTrays_15 : decode cL_leavingByTrays 15 = .ok (.iconst 0, 1) := by decide +kernel
theorem dL_leavingByTrays_16 : decode cL_leavingByTrays 16 = .ok (.ireturn, 1) := by decide +kernel
theorem dL_startWave_0 : decode cL_startWave 0 = .ok (.aload_n 1, 1) := by decide +kernel
theorem dL_startWave_1 : decode cL_startWave 1 = .ok (.iconst 0, 1) := by decide +kernel
theorem dL_startWave_2 : decode cL_startWave 2 = .ok (.aload_n 0, 1) := by decide +kernel
theorem dL_startWave_3 : decode cL_startWave 3 = .ok (.invokevirtual 67, 3) := by decide +kernel
theorem dL_startWave_6 : decode cL_startWave 6 = .ok (.i2l, 1) := by decide +kernel
theorem dL_startWave_7 : decode cL_startWave 7 = .ok (.lastore, 1) := by decide +kernel
theorem dL_startWave_8 : decode cL_startWave 8 = .ok (.goto 6, 3) := by decide +kernel
theorem dL_startWave_11 : decode cL_startWave 11 = .ok (.astore_n 2, 1) := by decide +kernel
theorem dL_startWave_12 : decode cL_startWave 12 = .ok (.iconst 1, 1) := by decide +kernel
theorem dL_startWave_13 : decode cL_startWave 13 = .ok (.ireturn, 1) := by decide +kernel
theorem dL_startWave_14 : decode cL_startWave 14 = .ok (.iconst 0, 1) := by decide +kernel
theorem dL_startWave_15 : decode cL_startWave 15 = .ok (.ireturn, 1) := by decide +kernel
theorem dL_assign_0 : decode cL_assign 0 = .ok (.aload_n 3, 1) := by decide +kernel
theorem dL_assign_1 : decode cL_assign 1 = .ok (.iconst 0, 1) := by decide +kernel
theorem dL_assign_2 : decode cL_assign 2 = .ok (.aload_n 0, 1) := by decide +kernel
theorem dL_assign_3 : decode cL_assign 3 = .ok (.iload_n 1, 1) := by decide +kernel
theorem dL_assign_4 : decode cL_assign 4 = .ok (.iload_n 2, 1) := by decide +kernel
theorem dL_assign_5 : decode cL_assign 5 = .ok (.invokevirtual 71, 3) := by decide +kernel
theorem dL_assign_8 : decode cL_assign 8 = .ok (.i2l, 1) := by decide +kernel
theorem dL_assign_9 : decode cL_assign 9 = .ok (.lastore, 1) := by decide +kernel
theorem dL_assign_10 : decode cL_assign 10 = .ok (.goto 11, 3) := by decide +kernel
theorem dL_assign_13 : decode cL_assign 13 = .ok (.astore 4, 2) := by decide +kernel
theorem dL_assign_15 : decode cL_assign 15 = .ok (.iconst 1, 1) := by decide +kernel
theorem dL_assign_16 : decode cL_assign 16 = .ok (.ireturn, 1) := by decide +kernel
theorem dL_assign_17 : decode cL_assign 17 = .ok (.astore 4, 2) := by decide +kernel
theorem dL_assign_19 : decode cL_assign 19 = .ok (.iconst 2, 1) := by decide +kernel
theorem dL_assign_20 : decode cL_assign 20 = .ok (.ireturn, 1) := by decide +kernel
theorem dL_assign_21 : decode cL_assign 21 = .ok (.iconst 0, 1) := by decide +kernel
theorem dL_assign_22 : decode cL_assign 22 = .ok (.ireturn, 1) := by decide +kernel
theorem dL_unassign_0 : decode cL_unassign 0 = .ok (.aload_n 2, 1) := by decide +kernel
theorem dL_unassign_1 : decode cL_unassign 1 = .ok (.iconst 0, 1) := by decide +kernel
theorem dL_unassign_2 : decode cL_unassign 2 = .ok (.aload_n 0, 1) := by decide +kernel
theorem dL_unassign_3 : decode cL_unassign 3 = .ok (.iload_n 1, 1) := by decide +kernel
theorem dL_unassign_4 : decode cL_unassign 4 = .ok (.invokevirtual 74, 3) := by decide +kernel
theorem dL_unassign_7 : decode cL_unassign 7 = .ok (.i2l, 1) := by decide +kernel
theorem dL_unassign_8 : decode cL_unassign 8 = .ok (.lastore, 1) := by decide +kernel
theorem dL_unassign_9 : decode cL_unassign 9 = .ok (.goto 9, 3) := by decide +kernel
theorem dL_unassign_12 : decode cL_unassign 12 = .ok (.astore_n 3, 1) := by decide +kernel
theorem dL_unassign_13 : decode cL_unassign 13 = .ok (.iconst 1, 1) := by decide +kernel
theorem dL_unassign_14 : decode cL_unassign 14 = .ok (.ireturn, 1) := by decide +kernel
theorem dL_unassign_15 : decode cL_unassign 15 = .ok (.astore_n 3, 1) := by decide +kernel
theorem dL_unassign_16 : decode cL_unassign 16 = .ok (.iconst 2, 1) := by decide +kernel
theorem dL_unassign_17 : decode cL_unassign 17 = .ok (.ireturn, 1) := by decide +kernel
theorem dL_unassign_18 : decode cL_unassign 18 = .ok (.iconst 0, 1) := by decide +kernel
theorem dL_unassign_19 : decode cL_unassign 19 = .ok (.ireturn, 1) := by decide +kernel
theorem dL_chuteFor_0 : decode cL_chuteFor 0 = .ok (.aload_n 2, 1) := by decide +kernel
theorem dL_chuteFor_1 : decode cL_chuteFor 1 = .ok (.iconst 0, 1) := by decide +kernel
theorem dL_chuteFor_2 : decode cL_chuteFor 2 = .ok (.aload_n 0, 1) := by decide +kernel
theorem dL_chuteFor_3 : decode cL_chuteFor 3 = .ok (.iload_n 1, 1) := by decide +kernel
theorem dL_chuteFor_4 : decode cL_chuteFor 4 = .ok (.invokevirtual 77, 3) := by decide +kernel
theorem dL_chuteFor_7 : decode cL_chuteFor 7 = .ok (.i2l, 1) := by decide +kernel
theorem dL_chuteFor_8 : decode cL_chuteFor 8 = .ok (.lastore, 1) := by decide +kernel
theorem dL_chuteFor_9 : decode cL_chuteFor 9 = .ok (.goto 9, 3) := by decide +kernel
theorem dL_chuteFor_12 : decode cL_chuteFor 12 = .ok (.astore_n 3, 1) := by decide +kernel
theorem dL_chuteFor_13 : decode cL_chuteFor 13 = .ok (.iconst 1, 1) := by decide +kernel
theorem dL_chuteFor_14 : decode cL_chuteFor 14 = .ok (.ireturn, 1) := by decide +kernel
theorem dL_chuteFor_15 : decode cL_chuteFor 15 = .ok (.astore_n 3, 1) := by decide +kernel
theorem dL_chuteFor_16 : decode cL_chuteFor 16 = .ok (.iconst 2, 1) := by decide +kernel
theorem dL_chuteFor_17 : decode cL_chuteFor 17 = .ok (.ireturn, 1) := by decide +kernel
theorem dL_chuteFor_18 : decode cL_chuteFor 18 = .ok (.iconst 0, 1) := by decide +kernel
theorem dL_chuteFor_19 : decode cL_chuteFor 19 = .ok (.ireturn, 1) := by decide +kernel
theorem dL_load_0 : decode cL_load 0 = .ok (.aload_n 2, 1) := by decide +kernel
theorem dL_load_1 : decode cL_load 1 = .ok (.iconst 0, 1) := by decide +kernel
theorem dL_load_2 : decode cL_load 2 = .ok (.aload_n 0, 1) := by decide +kernel
theorem dL_load_3 : decode cL_load 3 = .ok (.iload_n 1, 1) := by decide +kernel
theorem dL_load_4 : decode cL_load 4 = .ok (.invokevirtual 80, 3) := by decide +kernel
theorem dL_load_7 : decode cL_load 7 = .ok (.i2l, 1) := by decide +kernel
theorem dL_load_8 : decode cL_load 8 = .ok (.lastore, 1) := by decide +kernel
theorem dL_load_9 : decode cL_load 9 = .ok (.goto 6, 3) := by decide +kernel
theorem dL_load_12 : decode cL_load 12 = .ok (.astore_n 3, 1) := by decide +kernel
theorem dL_load_13 : decode cL_load 13 = .ok (.iconst 1, 1) := by decide +kernel
theorem dL_load_14 : decode cL_load 14 = .ok (.ireturn, 1) := by decide +kernel
theorem dL_load_15 : decode cL_load 15 = .ok (.iconst 0, 1) := by decide +kernel
theorem dL_load_16 : decode cL_load 16 = .ok (.ireturn, 1) := by decide +kernel
theorem dL_inChute_0 : decode cL_inChute 0 = .ok (.aload_n 2, 1) := by decide +kernel
theorem dL_inChute_1 : decode cL_inChute 1 = .ok (.iconst 0, 1) := by decide +kernel
theorem dL_inChute_2 : decode cL_inChute 2 = .ok (.aload_n 0, 1) := by decide +kernel
theorem dL_inChute_3 : decode cL_inChute 3 = .ok (.iload_n 1, 1) := by decide +kernel
theorem dL_inChute_4 : decode cL_inChute 4 = .ok (.invokevirtual 83, 3) := by decide +kernel
theorem dL_inChute_7 : decode cL_inChute 7 = .ok (.i2l, 1) := by decide +kernel
theorem dL_inChute_8 : decode cL_inChute 8 = .ok (.lastore, 1) := by decide +kernel
theorem dL_inChute_9 : decode cL_inChute 9 = .ok (.goto 6, 3) := by decide +kernel
theorem dL_inChute_12 : decode cL_inChute 12 = .ok (.astore_n 3, 1) := by decide +kernel
theorem dL_inChute_13 : decode cL_inChute 13 = .ok (.iconst 1, 1) := by decide +kernel
theorem dL_inChute_14 : decode cL_inChute 14 = .ok (.ireturn, 1) := by decide +kernel
theorem dL_inChute_15 : decode cL_inChute 15 = .ok (.iconst 0, 1) := by decide +kernel
theorem dL_inChute_16 : decode cL_inChute 16 = .ok (.ireturn, 1) := by decide +kernel
theorem dL_seal_0 : decode cL_seal 0 = .ok (.aload_n 2, 1) := by decide +kernel
theorem dL_seal_1 : decode cL_seal 1 = .ok (.iconst 0, 1) := by decide +kernel
theorem dL_seal_2 : decode cL_seal 2 = .ok (.aload_n 0, 1) := by decide +kernel
theorem dL_seal_3 : decode cL_seal 3 = .ok (.iload_n 1, 1) := by decide +kernel
theorem dL_seal_4 : decode cL_seal 4 = .ok (.invokevirtual 86, 3) := by decide +kernel
theorem dL_seal_7 : decode cL_seal 7 = .ok (.i2l, 1) := by decide +kernel
theorem dL_seal_8 : decode cL_seal 8 = .ok (.lastore, 1) := by decide +kernel
theorem dL_seal_9 : decode cL_seal 9 = .ok (.goto 6, 3) := by decide +kernel
theorem dL_seal_12 : decode cL_seal 12 = .ok (.astore_n 3, 1) := by decide +kernel
theorem dL_seal_13 : decode cL_seal 13 = .ok (.iconst 1, 1) := by decide +kernel
theorem dL_seal_14 : decode cL_seal 14 = .ok (.ireturn, 1) := by decide +kernel
theorem dL_seal_15 : decode cL_seal 15 = .ok (.iconst 0, 1) := by decide +kernel
theorem dL_seal_16 : decode cL_seal 16 = .ok (.ireturn, 1) := by decide +kernel
theorem dL_sealByParcels_0 : decode cL_sealByParcels 0 = .ok (.aload_n 2, 1) := by decide +kernel
theorem dL_sealByParcels_1 : decode cL_sealByParcels 1 = .ok (.iconst 0, 1) := by decide +kernel
theorem dL_sealByParcels_2 : decode cL_sealByParcels 2 = .ok (.aload_n 0, 1) := by decide +kernel
theorem dL_sealByParcels_3 : decode cL_sealByParcels 3 = .ok (.iload_n 1, 1) := by decide +kernel
theorem dL_sealByParcels_4 : decode cL_sealByParcels 4 = .ok (.invokevirtual 89, 3) := by decide +kernel
theorem dL_sealByParcels_7 : decode cL_sealByParcels 7 = .ok (.i2l, 1) := by decide +kernel
theorem dL_sealByParcels_8 : decode cL_sealByParcels 8 = .ok (.lastore, 1) := by decide +kernel
theorem dL_sealByParcels_9 : decode cL_sealByParcels 9 = .ok (.goto 6, 3) := by decide +kernel
theorem dL_sealByParcels_12 : decode cL_sealByParcels 12 = .ok (.astore_n 3, 1) := by decide +kernel
theorem dL_sealByParcels_13 : decode cL_sealByParcels 13 = .ok (.iconst 1, 1) := by decide +kernel
theorem dL_sealByParcels_14 : decode cL_sealByParcels 14 = .ok (.ireturn, 1) := by decide +kernel
theorem dL_sealByParcels_15 : decode cL_sealByParcels 15 = .ok (.iconst 0, 1) := by decide +kernel
theorem dL_sealByParcels_16 : decode cL_sealByParcels 16 = .ok (.ireturn, 1) := by decide +kernel
theorem dL_dispatch_0 : decode cL_dispatch 0 = .ok (.aload_n 2, 1) := by decide +kernel
theorem dL_dispatch_1 : decode cL_dispatch 1 = .ok (.iconst 0, 1) := by decide +kernel
theorem dL_dispatch_2 : decode cL_dispatch 2 = .ok (.aload_n 0, 1) := by decide +kernel
theorem dL_dispatch_3 : decode cL_dispatch 3 = .ok (.iload_n 1, 1) := by decide +kernel
theorem dL_dispatch_4 : decode cL_dispatch 4 = .ok (.invokevirtual 92, 3) := by decide +kernel
theorem dL_dispatch_7 : decode cL_dispatch 7 = .ok (.i2l, 1) := by decide +kernel
theorem dL_dispatch_8 : decode cL_dispatch 8 = .ok (.lastore, 1) := by decide +kernel
theorem dL_dispatch_9 : decode cL_dispatch 9 = .ok (.goto 9, 3) := by decide +kernel
theorem dL_dispatch_12 : decode cL_dispatch 12 = .ok (.astore_n 3, 1) := by decide +kernel
theorem dL_dispatch_13 : decode cL_dispatch 13 = .ok (.iconst 1, 1) := by decide +kernel
theorem dL_dispatch_14 : decode cL_dispatch 14 = .ok (.ireturn, 1) := by decide +kernel
theorem dL_dispatch_15 : decode cL_dispatch 15 = .ok (.astore_n 3, 1) := by decide +kernel
theorem dL_dispatch_16 : decode cL_dispatch 16 = .ok (.iconst 2, 1) := by decide +kernel
theorem dL_dispatch_17 : decode cL_dispatch 17 = .ok (.ireturn, 1) := by decide +kernel
theorem dL_dispatch_18 : decode cL_dispatch 18 = .ok (.iconst 0, 1) := by decide +kernel
theorem dL_dispatch_19 : decode cL_dispatch 19 = .ok (.ireturn, 1) := by decide +kernel
theorem dL_sealOfTruck_0 : decode cL_sealOfTruck 0 = .ok (.aload_n 2, 1) := by decide +kernel
theorem dL_sealOfTruck_1 : decode cL_sealOfTruck 1 = .ok (.iconst 0, 1) := by decide +kernel
theorem dL_sealOfTruck_2 : decode cL_sealOfTruck 2 = .ok (.aload_n 0, 1) := by decide +kernel
theorem dL_sealOfTruck_3 : decode cL_sealOfTruck 3 = .ok (.iload_n 1, 1) := by decide +kernel
theorem dL_sealOfTruck_4 : decode cL_sealOfTruck 4 = .ok (.invokevirtual 95, 3) := by decide +kernel
theorem dL_sealOfTruck_7 : decode cL_sealOfTruck 7 = .ok (.i2l, 1) := by decide +kernel
theorem dL_sealOfTruck_8 : decode cL_sealOfTruck 8 = .ok (.lastore, 1) := by decide +kernel
theorem dL_sealOfTruck_9 : decode cL_sealOfTruck 9 = .ok (.goto 6, 3) := by decide +kernel
theorem dL_sealOfTruck_12 : decode cL_sealOfTruck 12 = .ok (.astore_n 3, 1) := by decide +kernel
theorem dL_sealOfTruck_13 : decode cL_sealOfTruck 13 = .ok (.iconst 1, 1) := by decide +kernel
theorem dL_sealOfTruck_14 : decode cL_sealOfTruck 14 = .ok (.ireturn, 1) := by decide +kernel
theorem dL_sealOfTruck_15 : decode cL_sealOfTruck 15 = .ok (.iconst 0, 1) := by decide +kernel
theorem dL_sealOfTruck_16 : decode cL_sealOfTruck 16 = .ok (.ireturn, 1) := by decide +kernel
theorem dL_parcelIn_0 : decode cL_parcelIn 0 = .ok (.aload_n 3, 1) := by decide +kernel
theorem dL_parcelIn_1 : decode cL_parcelIn 1 = .ok (.iconst 0, 1) := by decide +kernel
theorem dL_parcelIn_2 : decode cL_parcelIn 2 = .ok (.aload_n 0, 1) := by decide +kernel
theorem dL_parcelIn_3 : decode cL_parcelIn 3 = .ok (.iload_n 1, 1) := by decide +kernel
theorem dL_parcelIn_4 : decode cL_parcelIn 4 = .ok (.iload_n 2, 1) := by decide +kernel
theorem dL_parcelIn_5 : decode cL_parcelIn 5 = .ok (.invokevirtual 98, 3) := by decide +kernel
theorem dL_parcelIn_8 : decode cL_parcelIn 8 = .ok (.i2l, 1) := by decide +kernel
theorem dL_parcelIn_9 : decode cL_parcelIn 9 = .ok (.lastore, 1) := by decide +kernel
theorem dL_parcelIn_10 : decode cL_parcelIn 10 = .ok (.goto 11, 3) := by decide +kernel
theorem dL_parcelIn_13 : decode cL_parcelIn 13 = .ok (.astore 4, 2) := by decide +kernel
theorem dL_parcelIn_15 : decode cL_parcelIn 15 = .ok (.iconst 1, 1) := by decide +kernel
theorem dL_parcelIn_16 : decode cL_parcelIn 16 = .ok (.ireturn, 1) := by decide +kernel
theorem dL_parcelIn_17 : decode cL_parcelIn 17 = .ok (.astore 4, 2) := by decide +kernel
theorem dL_parcelIn_19 : decode cL_parcelIn 19 = .ok (.iconst 2, 1) := by decide +kernel
theorem dL_parcelIn_20 : decode cL_parcelIn 20 = .ok (.ireturn, 1) := by decide +kernel
theorem dL_parcelIn_21 : decode cL_parcelIn 21 = .ok (.iconst 0, 1) := by decide +kernel
theorem dL_parcelIn_22 : decode cL_parcelIn 22 = .ok (.ireturn, 1) := by decide +kernel
theorem dL_truckOf_0 : decode cL_truckOf 0 = .ok (.aload_n 2, 1) := by decide +kernel
theorem dL_truckOf_1 : decode cL_truckOf 1 = .ok (.iconst 0, 1) := by decide +kernel
theorem dL_truckOf_2 : decode cL_truckOf 2 = .ok (.aload_n 0, 1) := by decide +kernel
theorem dL_truckOf_3 : decode cL_truckOf 3 = .ok (.iload_n 1, 1) := by decide +kernel
theorem dL_truckOf_4 : decode cL_truckOf 4 = .ok (.invokevirtual 101, 3) := by decide +kernel
theorem dL_truckOf_7 : decode cL_truckOf 7 = .ok (.i2l, 1) := by decide +kernel
theorem dL_truckOf_8 : decode cL_truckOf 8 = .ok (.lastore, 1) := by decide +kernel
theorem dL_truckOf_9 : decode cL_truckOf 9 = .ok (.goto 9, 3) := by decide +kernel
theorem dL_truckOf_12 : decode cL_truckOf 12 = .ok (.astore_n 3, 1) := by decide +kernel
theorem dL_truckOf_13 : decode cL_truckOf 13 = .ok (.iconst 1, 1) := by decide +kernel
theorem dL_truckOf_14 : decode cL_truckOf 14 = .ok (.ireturn, 1) := by decide +kernel
theorem dL_truckOf_15 : decode cL_truckOf 15 = .ok (.astore_n 3, 1) := by decide +kernel
theorem dL_truckOf_16 : decode cL_truckOf 16 = .ok (.iconst 2, 1) := by decide +kernel
theorem dL_truckOf_17 : decode cL_truckOf 17 = .ok (.ireturn, 1) := by decide +kernel
theorem dL_truckOf_18 : decode cL_truckOf 18 = .ok (.iconst 0, 1) := by decide +kernel
theorem dL_truckOf_19 : decode cL_truckOf 19 = .ok (.ireturn, 1) := by decide +kernel
theorem dL_meanRounds_0 : decode cL_meanRounds 0 = .ok (.aload_n 1, 1) := by decide +kernel
theorem dL_meanRounds_1 : decode cL_meanRounds 1 = .ok (.iconst 0, 1) := by decide +kernel
theorem dL_meanRounds_2 : decode cL_meanRounds 2 = .ok (.aload_n 0, 1) := by decide +kernel
theorem dL_meanRounds_3 : decode cL_meanRounds 3 = .ok (.invokevirtual 104, 3) := by decide +kernel
theorem dL_meanRounds_6 : decode cL_meanRounds 6 = .ok (.dastore, 1) := by decide +kernel
theorem dL_meanRounds_7 : decode cL_meanRounds 7 = .ok (.goto 6, 3) := by decide +kernel
theorem dL_meanRounds_10 : decode cL_meanRounds 10 = .ok (.astore_n 2, 1) := by decide +kernel
theorem dL_meanRounds_11 : decode cL_meanRounds 11 = .ok (.iconst 1, 1) := by decide +kernel
theorem dL_meanRounds_12 : decode cL_meanRounds 12 = .ok (.ireturn, 1) := by decide +kernel
theorem dL_meanRounds_13 : decode cL_meanRounds 13 = .ok (.iconst 0, 1) := by decide +kernel
theorem dL_meanRounds_14 : decode cL_meanRounds 14 = .ok (.ireturn, 1) := by decide +kernel
theorem dL_overflowShare_0 : decode cL_overflowShare 0 = .ok (.aload_n 1, 1) := by decide +kernel
theorem dL_overflowShare_1 : decode cL_overflowShare 1 = .ok (.iconst 0, 1) := by decide +kernel
theorem dL_overflowShare_2 : decode cL_overflowShare 2 = .ok (.aload_n 0, 1) := by decide +kernel
theorem dL_overflowShare_3 : decode cL_overflowShare 3 = .ok (.invokevirtual 110, 3) := by decide +kernel
theorem dL_overflowShare_6 : decode cL_overflowShare 6 = .ok (.f2d, 1) := by decide +kernel
theorem dL_overflowShare_7 : decode cL_overflowShare 7 = .ok (.dastore, 1) := by decide +kernel
theorem dL_overflowShare_8 : decode cL_overflowShare 8 = .ok (.goto 6, 3) := by decide +kernel
theorem dL_overflowShare_11 : decode cL_overflowShare 11 = .ok (.astore_n 2, 1) := by decide +kernel
theorem dL_overflowShare_12 : decode cL_overflowShare 12 = .ok (.iconst 1, 1) := by decide +kernel
theorem dL_overflowShare_13 : decode cL_overflowShare 13 = .ok (.ireturn, 1) := by decide +kernel
theorem dL_overflowShare_14 : decode cL_overflowShare 14 = .ok (.iconst 0, 1) := by decide +kernel
theorem dL_overflowShare_15 : decode cL_overflowShare 15 = .ok (.ireturn, 1) := by decide +kernel
theorem dL_law_0 : decode cL_law 0 = .ok (.new 8, 3) := by decide +kernel
theorem dL_law_3 : decode cL_law 3 = .ok (.dup, 1) := by decide +kernel
theorem dL_law_4 : decode cL_law 4 = .ok (.invokespecial 114, 3) := by decide +kernel
theorem dL_law_7 : decode cL_law 7 = .ok (.astore_n 1, 1) := by decide +kernel
theorem dL_law_8 : decode cL_law 8 = .ok (.new 115, 3) := by decide +kernel
theorem dL_law_11 : decode cL_law 11 = .ok (.dup, 1) := by decide +kernel
theorem dL_law_12 : decode cL_law 12 = .ok (.invokespecial 117, 3) := by decide +kernel
theorem dL_law_15 : decode cL_law 15 = .ok (.astore_n 2, 1) := by decide +kernel
theorem dL_law_16 : decode cL_law 16 = .ok (.iconst 1, 1) := by decide +kernel
theorem dL_law_17 : decode cL_law 17 = .ok (.newarray .long, 2) := by decide +kernel
theorem dL_law_19 : decode cL_law 19 = .ok (.astore_n 3, 1) := by decide +kernel
theorem dL_law_20 : decode cL_law 20 = .ok (.iconst 1, 1) := by decide +kernel
theorem dL_law_21 : decode cL_law 21 = .ok (.newarray .double, 2) := by decide +kernel
theorem dL_law_23 : decode cL_law 23 = .ok (.astore 4, 2) := by decide +kernel
theorem dL_law_25 : decode cL_law 25 = .ok (.iconst 0, 1) := by decide +kernel
theorem dL_law_26 : decode cL_law 26 = .ok (.istore 5, 2) := by decide +kernel
theorem dL_law_28 : decode cL_law 28 = .ok (.iload 5, 2) := by decide +kernel
theorem dL_law_30 : decode cL_law 30 = .ok (.aload_n 0, 1) := by decide +kernel
theorem dL_law_31 : decode cL_law 31 = .ok (.arraylength, 1) := by decide +kernel
theorem dL_law_32 : decode cL_law 32 = .ok (.iconst 3, 1) := by decide +kernel
theorem dL_law_33 : decode cL_law 33 = .ok (.isub, 1) := by decide +kernel
theorem dL_law_34 : decode cL_law 34 = .ok (.if_icmp .gt 1960, 3) := by decide +kernel
theorem dL_law_37 : decode cL_law 37 = .ok (.aload_n 0, 1) := by decide +kernel
theorem dL_law_38 : decode cL_law 38 = .ok (.iload 5, 2) := by decide +kernel
theorem dL_law_40 : decode cL_law 40 = .ok (.iaload, 1) := by decide +kernel
theorem dL_law_41 : decode cL_law 41 = .ok (.bipush 63, 2) := by decide +kernel
theorem dL_law_43 : decode cL_law 43 = .ok (.iand, 1) := by decide +kernel
theorem dL_law_44 : decode cL_law 44 = .ok (.tableswitch 1944 0 35 #[160, 216, 284, 352, 408, 464, 520, 576, 644, 700, 714, 770, 826, 882, 938, 951, 964, 977, 1033, 1089, 1133, 1201, 1257, 1313, 1369, 1425, 1481, 1537, 1593, 1606, 1662, 1730, 1786, 1800, 1865, 1931], 160) := by decide +kernel
theorem dL_law_204 : decode cL_law 204 = .ok (.aload_n 1, 1) := by decide +kernel
theorem dL_law_205 : decode cL_law 205 = .ok (.aload_n 0, 1) := by decide +kernel
theorem dL_law_206 : decode cL_law 206 = .ok (.iload 5, 2) := by decide +kernel
theorem dL_law_208 : decode cL_law 208 = .ok (.iconst 1, 1) := by decide +kernel
theorem dL_law_209 : decode cL_law 209 = .ok (.iadd, 1) := by decide +kernel
theorem dL_law_210 : decode cL_law 210 = .ok (.iaload, 1) := by decide +kernel
theorem dL_law_211 : decode cL_law 211 = .ok (.aload_n 3, 1) := by decide +kernel
theorem dL_law_212 : decode cL_law 212 = .ok (.invokestatic 118, 3) := by decide +kernel
theorem dL_law_215 : decode cL_law 215 = .ok (.istore 6, 2) := by decide +kernel
theorem dL_law_217 : decode cL_law 217 = .ok (.aload_n 2, 1) := by decide +kernel
theorem dL_law_218 : decode cL_law 218 = .ok (.aload_n 0, 1) := by decide +kernel
theorem dL_law_219 : decode cL_law 219 = .ok (.iload 5, 2) := by decide +kernel
theorem dL_law_221 : decode cL_law 221 = .ok (.iconst 1, 1) := by decide +kernel
theorem dL_law_222 : decode cL_law 222 = .ok (.iadd, 1) := by decide +kernel
theorem dL_law_223 : decode cL_law 223 = .ok (.iaload, 1) := by decide +kernel
theorem dL_law_224 : decode cL_law 224 = .ok (.invokevirtual 123, 3) := by decide +kernel
theorem dL_law_227 : decode cL_law 227 = .ok (.istore 7, 2) := by decide +kernel
theorem dL_law_229 : decode cL_law 229 = .ok (.aload_n 2, 1) := by decide +kernel
theorem dL_law_230 : decode cL_law 230 = .ok (.invokevirtual 124, 3) := by decide +kernel
theorem dL_law_233 : decode cL_law 233 = .ok (.iload 6, 2) := by decide +kernel
theorem dL_law_235 : decode cL_law 235 = .ok (.if_icmp .eq 5, 3) := by decide +kernel
theorem dL_law_238 : decode cL_law 238 = .ok (.iconst 0, 1) := by decide +kernel
theorem dL_law_239 : decode cL_law 239 = .ok (.ireturn, 1) := by decide +kernel
theorem dL_law_240 : decode cL_law 240 = .ok (.iload 6, 2) := by decide +kernel
theorem dL_law_242 : decode cL_law 242 = .ok (.ifCond .ne 15, 3) := by decide +kernel
theorem dL_law_245 : decode cL_law 245 = .ok (.aload_n 3, 1) := by decide +kernel
theorem dL_law_246 : decode cL_law 246 = .ok (.iconst 0, 1) := by decide +kernel
theorem dL_law_247 : decode cL_law 247 = .ok (.laload, 1) := by decide +kernel
theorem dL_law_248 : decode cL_law 248 = .ok (.iload 7, 2) := by decide +kernel
theorem dL_law_250 : decode cL_law 250 = .ok (.i2l, 1) := by decide +kernel
theorem dL_law_251 : decode cL_law 251 = .ok (.lcmp, 1) := by decide +kernel
theorem dL_law_252 : decode cL_law 252 = .ok (.ifCond .eq 5, 3) := by decide +kernel
theorem dL_law_255 : decode cL_law 255 = .ok (.iconst 0, 1) := by decide +kernel
theorem dL_law_256 : decode cL_law 256 = .ok (.ireturn, 1) := by decide +kernel
theorem dL_law_257 : decode cL_law 257 = .ok (.goto 1731, 3) := by decide +kernel
theorem dL_law_260 : decode cL_law 260 = .ok (.aload_n 1, 1) := by decide +kernel
theorem dL_law_261 : decode cL_law 261 = .ok (.aload_n 0, 1) := by decide +kernel
theorem dL_law_262 : decode cL_law 262 = .ok (.iload 5, 2) := by decide +kernel
theorem dL_law_264 : decode cL_law 264 = .ok (.iconst 1, 1) := by decide +kernel
theorem dL_law_265 : decode cL_law 265 = .ok (.iadd, 1) := by decide +kernel
theorem dL_law_266 : decode cL_law 266 = .ok (.iaload, 1) := by decide +kernel
theorem dL_law_267 : decode cL_law 267 = .ok (.aload_n 0, 1) := by decide +kernel
theorem dL_law_268 : decode cL_law 268 = .ok (.iload 5, 2) := by decide +kernel
theorem dL_law_270 : decode cL_law 270 = .ok (.iconst 2, 1) := by decide +kernel
theorem dL_law_271 : decode cL_law 271 = .ok (.iadd, 1) := by decide +kernel
theorem dL_law_272 : decode cL_law 272 = .ok (.iaload, 1) := by decide +kernel
theorem dL_law_273 : decode cL_law 273 = .ok (.aload_n 3, 1) := by decide +kernel
theorem dL_law_274 : decode cL_law 274 = .ok (.invokestatic 127, 3) := by decide +kernel
theorem dL_law_277 : decode cL_law 277 = .ok (.istore 6, 2) := by decide +kernel
theorem dL_law_279 : decode cL_law 279 = .ok (.aload_n 2, 1) := by decide +kernel
theorem dL_law_280 : decode cL_law 280 = .ok (.aload_n 0, 1) := by decide +kernel
theorem dL_law_281 : decode cL_law 281 = .ok (.iload 5, 2) := by decide +kernel
theorem dL_law_283 : decode cL_law 283 = .ok (.iconst 1, 1) := by decide +kernel
theorem dL_law_284 : decode cL_law 284 = .ok (.iadd, 1) := by decide +kernel
theorem dL_law_285 : decode cL_law 285 = .ok (.iaload, 1) := by decide +kernel
theorem dL_law_286 : decode cL_law 286 = .ok (.aload_n 0, 1) := by decide +kernel
theorem dL_law_287 : decode cL_law 287 = .ok (.iload 5, 2) := by decide +kernel
theorem dL_law_289 : decode cL_law 289 = .ok (.iconst 2, 1) := by decide +kernel
theorem dL_law_290 : decode cL_law 290 = .ok (.iadd, 1) := by decide +kernel
theorem dL_law_291 : decode cL_law 291 = .ok (.iaload, 1) := by decide +kernel
theorem dL_law_292 : decode cL_law 292 = .ok (.invokevirtual 130, 3) := by decide +kernel
theorem dL_law_295 : decode cL_law 295 = .ok (.istore 7, 2) := by decide +kernel
theorem dL_law_297 : decode cL_law 297 = .ok (.aload_n 2, 1) := by decide +kernel
theorem dL_law_298 : decode cL_law 298 = .ok (.invokevirtual 124, 3) := by decide +kernel
theorem dL_law_301 : decode cL_law 301 = .ok (.iload 6, 2) := by decide +kernel
theorem dL_law_303 : decode cL_law 303 = .ok (.if_icmp .eq 5, 3) := by decide +kernel
theorem dL_law_306 : decode cL_law 306 = .ok (.iconst 0, 1) := by decide +kernel
theorem dL_law_307 : decode cL_law 307 = .ok (.ireturn, 1) := by decide +kernel
theorem dL_law_308 : decode cL_law 308 = .ok (.iload 6, 2) := by decide +kernel
theorem dL_law_310 : decode cL_law 310 = .ok (.ifCond .ne 15, 3) := by decide +kernel
theorem dL_law_313 : decode cL_law 313 = .ok (.aload_n 3, 1) := by decide +kernel
theorem dL_law_314 : decode cL_law 314 = .ok (.iconst 0, 1) := by decide +kernel
theorem dL_law_315 : decode cL_law 315 = .ok (.laload, 1) := by decide +kernel
theorem dL_law_316 : decode cL_law 316 = .ok (.iload 7, 2) := by decide +kernel
theorem dL_law_318 : decode cL_law 318 = .ok (.i2l, 1) := by decide +kernel
theorem dL_law_319 : decode cL_law 319 = .ok (.lcmp, 1) := by decide +kernel
theorem dL_law_320 : decode cL_law 320 = .ok (.ifCond .eq 5, 3) := by decide +kernel
theorem dL_law_323 : decode cL_law 323 = .ok (.iconst 0, 1) := by decide +kernel
theorem dL_law_324 : decode cL_law 324 = .ok (.ireturn, 1) := by decide +kernel
theorem dL_law_325 : decode cL_law 325 = .ok (.goto 1663, 3) := by decide +kernel
theorem dL_law_328 : decode cL_law 328 = .ok (.aload_n 1, 1) := by decide +kernel
theorem dL_law_329 : decode cL_law 329 = .ok (.aload_n 0, 1) := by decide +kernel
theorem dL_law_330 : decode cL_law 330 = .ok (.iload 5, 2) := by decide +kernel
theorem dL_law_332 : decode cL_law 332 = .ok (.iconst 1, 1) := by decide +kernel
theorem dL_law_333 : decode cL_law 333 = .ok (.iadd, 1) := by decide +kernel
theorem dL_law_334 : decode cL_law 334 = .ok (.iaload, 1) := by decide +kernel
theorem dL_law_335 : decode cL_law 335 = .ok (.aload_n 0, 1) := by decide +kernel
theorem dL_law_336 : decode cL_law 336 = .ok (.iload 5, 2) := by decide +kernel
end
section
theorem dL_law_338 : decode cL_law 338 = .ok (.iconst 2, 1) := by decide +kernel
theorem dL_law_339 : decode cL_law 339 = .ok (.iadd, 1) := by decide +kernel
theorem dL_law_340 : decode cL_law 340 = .ok (.iaload, 1) := by decide +kernel
theorem dL_law_341 : decode cL_law 341 = .ok (.aload_n 3, 1) := by decide +kernel
theorem dL_law_342 : decode cL_law 342 = .ok (.invokestatic 131, 3) := by decide +kernel
theorem dL_law_345 : decode cL_law 345 = .ok (.istore 6, 2) := by decide +kernel
theorem dL_law_347 : decode cL_law 347 = .ok (.aload_n 2, 1) := by decide +kernel
theorem dL_law_348 : decode cL_law 348 = .ok (.aload_n 0, 1) := by decide +kernel
theorem dL_law_349 : decode cL_law 349 = .ok (.iload 5, 2) := by decide +kernel
theorem dL_law_351 : decode cL_law 351 = .ok (.iconst 1, 1) := by decide +kernel
theorem dL_law_352 : decode cL_law 352 = .ok (.iadd, 1) := by decide +kernel
theorem dL_law_353 : decode cL_law 353 = .ok (.iaload, 1) := by decide +kernel
theorem dL_law_354 : decode cL_law 354 = .ok (.aload_n 0, 1) := by decide +kernel
theorem dL_law_355 : decode cL_law 355 = .ok (.iload 5, 2) := by decide +kernel
theorem dL_law_357 : decode cL_law 357 = .ok (.iconst 2, 1) := by decide +kernel
theorem dL_law_358 : decode cL_law 358 = .ok (.iadd, 1) := by decide +kernel
theorem dL_law_359 : decode cL_law 359 = .ok (.iaload, 1) := by decide +kernel
theorem dL_law_360 : decode cL_law 360 = .ok (.invokevirtual 133, 3) := by decide +kernel
theorem dL_law_363 : decode cL_law 363 = .ok (.istore 7, 2) := by decide +kernel
theorem dL_law_365 : decode cL_law 365 = .ok (.aload_n 2, 1) := by decide +kernel
theorem dL_law_366 : decode cL_law 366 = .ok (.invokevirtual 124, 3) := by decide +kernel
theorem dL_law_369 : decode cL_law 369 = .ok (.iload 6, 2) := by decide +kernel
theorem dL_law_371 : decode cL_law 371 = .ok (.if_icmp .eq 5, 3) := by decide +kernel
theorem dL_law_374 : decode cL_law 374 = .ok (.iconst 0, 1) := by decide +kernel
theorem dL_law_375 : decode cL_law 375 = .ok (.ireturn, 1) := by decide +kernel
theorem dL_law_376 : decode cL_law 376 = .ok (.iload 6, 2) := by decide +kernel
theorem dL_law_378 : decode cL_law 378 = .ok (.ifCond .ne 15, 3) := by decide +kernel
theorem dL_law_381 : decode cL_law 381 = .ok (.aload_n 3, 1) := by decide +kernel
theorem dL_law_382 : decode cL_law 382 = .ok (.iconst 0, 1) := by decide +kernel
theorem dL_law_383 : decode cL_law 383 = .ok (.laload, 1) := by decide +kernel
theorem dL_law_384 : decode cL_law 384 = .ok (.iload 7, 2) := by decide +kernel
theorem dL_law_386 : decode cL_law 386 = .ok (.i2l, 1) := by decide +kernel
theorem dL_law_387 : decode cL_law 387 = .ok (.lcmp, 1) := by decide +kernel
theorem dL_law_388 : decode cL_law 388 = .ok (.ifCond .eq 5, 3) := by decide +kernel
theorem dL_law_391 : decode cL_law 391 = .ok (.iconst 0, 1) := by decide +kernel
theorem dL_law_392 : decode cL_law 392 = .ok (.ireturn, 1) := by decide +kernel
theorem dL_law_393 : decode cL_law 393 = .ok (.goto 1595, 3) := by decide +kernel
theorem dL_law_396 : decode cL_law 396 = .ok (.aload_n 1, 1) := by decide +kernel
theorem dL_law_397 : decode cL_law 397 = .ok (.aload_n 0, 1) := by decide +kernel
theorem dL_law_398 : decode cL_law 398 = .ok (.iload 5, 2) := by decide +kernel
theorem dL_law_400 : decode cL_law 400 = .ok (.iconst 1, 1) := by decide +kernel
theorem dL_law_401 : decode cL_law 401 = .ok (.iadd, 1) := by decide +kernel
theorem dL_law_402 : decode cL_law 402 = .ok (.iaload, 1) := by decide +kernel
theorem dL_law_403 : decode cL_law 403 = .ok (.aload_n 3, 1) := by decide +kernel
theorem dL_law_404 : decode cL_law 404 = .ok (.invokestatic 134, 3) := by decide +kernel
theorem dL_law_407 : decode cL_law 407 = .ok (.istore 6, 2) := by decide +kernel
theorem dL_law_409 : decode cL_law 409 = .ok (.aload_n 2, 1) := by decide +kernel
theorem dL_law_410 : decode cL_law 410 = .ok (.aload_n 0, 1) := by decide +kernel
theorem dL_law_411 : decode cL_law 411 = .ok (.iload 5, 2) := by decide +kernel
theorem dL_law_413 : decode cL_law 413 = .ok (.iconst 1, 1) := by decide +kernel
theorem dL_law_414 : decode cL_law 414 = .ok (.iadd, 1) := by decide +kernel
theorem dL_law_415 : decode cL_law 415 = .ok (.iaload, 1) := by decide +kernel
theorem dL_law_416 : decode cL_law 416 = .ok (.invokevirtual 136, 3) := by decide +kernel
theorem dL_law_419 : decode cL_law 419 = .ok (.istore 7, 2) := by decide +kernel
theorem dL_law_421 : decode cL_law 421 = .ok (.aload_n 2, 1) := by decide +kernel
theorem dL_law_422 : decode cL_law 422 = .ok (.invokevirtual 124, 3) := by decide +kernel
theorem dL_law_425 : decode cL_law 425 = .ok (.iload 6, 2) := by decide +kernel
theorem dL_law_427 : decode cL_law 427 = .ok (.if_icmp .eq 5, 3) := by decide +kernel
theorem dL_law_430 : decode cL_law 430 = .ok (.iconst 0, 1) := by decide +kernel
theorem dL_law_431 : decode cL_law 431 = .ok (.ireturn, 1) := by decide +kernel
theorem dL_law_432 : decode cL_law 432 = .ok (.iload 6, 2) := by decide +kernel
theorem dL_law_434 : decode cL_law 434 = .ok (.ifCond .ne 15, 3) := by decide +kernel
theorem dL_law_437 : decode cL_law 437 = .ok (.aload_n 3, 1) := by decide +kernel
theorem dL_law_438 : decode cL_law 438 = .ok (.iconst 0, 1) := by decide +kernel
theorem dL_law_439 : decode cL_law 439 = .ok (.laload, 1) := by decide +kernel
theorem dL_law_440 : decode cL_law 440 = .ok (.iload 7, 2) := by decide +kernel
theorem dL_law_442 : decode cL_law 442 = .ok (.i2l, 1) := by decide +kernel
theorem dL_law_443 : decode cL_law 443 = .ok (.lcmp, 1) := by decide +kernel
theorem dL_law_444 : decode cL_law 444 = .ok (.ifCond .eq 5, 3) := by decide +kernel
theorem dL_law_447 : decode cL_law 447 = .ok (.iconst 0, 1) := by decide +kernel
theorem dL_law_448 : decode cL_law 448 = .ok (.ireturn, 1) := by decide +kernel
theorem dL_law_449 : decode cL_law 449 = .ok (.goto 1539, 3) := by decide +kernel
theorem dL_law_452 : decode cL_law 452 = .ok (.aload_n 1, 1) := by decide +kernel
theorem dL_law_453 : decode cL_law 453 = .ok (.aload_n 0, 1) := by decide +kernel
theorem dL_law_454 : decode cL_law 454 = .ok (.iload 5, 2) := by decide +kernel
theorem dL_law_456 : decode cL_law 456 = .ok (.iconst 1, 1) := by decide +kernel
theorem dL_law_457 : decode cL_law 457 = .ok (.iadd, 1) := by decide +kernel
theorem dL_law_458 : decode cL_law 458 = .ok (.iaload, 1) := by decide +kernel
theorem dL_law_459 : decode cL_law 459 = .ok (.aload_n 3, 1) := by decide +kernel
theorem dL_law_460 : decode cL_law 460 = .ok (.invokestatic 137, 3) := by decide +kernel
theorem dL_law_463 : decode cL_law 463 = .ok (.istore 6, 2) := by decide +kernel
theorem dL_law_465 : decode cL_law 465 = .ok (.aload_n 2, 1) := by decide +kernel
theorem dL_law_466 : decode cL_law 466 = .ok (.aload_n 0, 1) := by decide +kernel
theorem dL_law_467 : decode cL_law 467 = .ok (.iload 5, 2) := by decide +kernel
theorem dL_law_469 : decode cL_law 469 = .ok (.iconst 1, 1) := by decide +kernel
theorem dL_law_470 : decode cL_law 470 = .ok (.iadd, 1) := by decide +kernel
theorem dL_law_471 : decode cL_law 471 = .ok (.iaload, 1) := by decide +kernel
theorem dL_law_472 : decode cL_law 472 = .ok (.invokevirtual 139, 3) := by decide +kernel
theorem dL_law_475 : decode cL_law 475 = .ok (.istore 7, 2) := by decide +kernel
theorem dL_law_477 : decode cL_law 477 = .ok (.aload_n 2, 1) := by decide +kernel
theorem dL_law_478 : decode cL_law 478 = .ok (.invokevirtual 124, 3) := by decide +kernel
theorem dL_law_481 : decode cL_law 481 = .ok (.iload 6, 2) := by decide +kernel
theorem dL_law_483 : decode cL_law 483 = .ok (.if_icmp .eq 5, 3) := by decide +kernel
theorem dL_law_486 : decode cL_law 486 = .ok (.iconst 0, 1) := by decide +kernel
theorem dL_law_487 : decode cL_law 487 = .ok (.ireturn, 1) := by decide +kernel
theorem dL_law_488 : decode cL_law 488 = .ok (.iload 6, 2) := by decide +kernel
theorem dL_law_490 : decode cL_law 490 = .ok (.ifCond .ne 15, 3) := by decide +kernel
theorem dL_law_493 : decode cL_law 493 = .ok (.aload_n 3, 1) := by decide +kernel
theorem dL_law_494 : decode cL_law 494 = .ok (.iconst 0, 1) := by decide +kernel
theorem dL_law_495 : decode cL_law 495 = .ok (.laload, 1) := by decide +kernel
theorem dL_law_496 : decode cL_law 496 = .ok (.iload 7, 2) := by decide +kernel
theorem dL_law_498 : decode cL_law 498 = .ok (.i2l, 1) := by decide +kernel
theorem dL_law_499 : decode cL_law 499 = .ok (.lcmp, 1) := by decide +kernel
theorem dL_law_500 : decode cL_law 500 = .ok (.ifCond .eq 5, 3) := by decide +kernel
theorem dL_law_503 : decode cL_law 503 = .ok (.iconst 0, 1) := by decide +kernel
theorem dL_law_504 : decode cL_law 504 = .ok (.ireturn, 1) := by decide +kernel
theorem dL_law_505 : decode cL_law 505 = .ok (.goto 1483, 3) := by decide +kernel
theorem dL_law_508 : decode cL_law 508 = .ok (.aload_n 1, 1) := by decide +kernel
theorem dL_law_509 : decode cL_law 509 = .ok (.aload_n 0, 1) := by decide +kernel
theorem dL_law_510 : decode cL_law 510 = .ok (.iload 5, 2) := by decide +kernel
theorem dL_law_512 : decode cL_law 512 = .ok (.iconst 1, 1) := by decide +kernel
theorem dL_law_513 : decode cL_law 513 = .ok (.iadd, 1) := by decide +kernel
theorem dL_law_514 : decode cL_law 514 = .ok (.iaload, 1) := by decide +kernel
theorem dL_law_515 : decode cL_law 515 = .ok (.aload_n 3, 1) := by decide +kernel
theorem dL_law_516 : decode cL_law 516 = .ok (.invokestatic 140, 3) := by decide +kernel
theorem dL_law_519 : decode cL_law 519 = .ok (.istore 6, 2) := by decide +kernel
theorem dL_law_521 : decode cL_law 521 = .ok (.aload_n 2, 1) := by decide +kernel
theorem dL_law_522 : decode cL_law 522 = .ok (.aload_n 0, 1) := by decide +kernel
theorem dL_law_523 : decode cL_law 523 = .ok (.iload 5, 2) := by decide +kernel
theorem dL_law_525 : decode cL_law 525 = .ok (.iconst 1, 1) := by decide +kernel
theorem dL_law_526 : decode cL_law 526 = .ok (.iadd, 1) := by decide +kernel
theorem dL_law_527 : decode cL_law 527 = .ok (.iaload, 1) := by decide +kernel
theorem dL_law_528 : decode cL_law 528 = .ok (.invokevirtual 142, 3) := by decide +kernel
theorem dL_law_531 : decode cL_law 531 = .ok (.istore 7, 2) := by decide +kernel
theorem dL_law_533 : decode cL_law 533 = .ok (.aload_n 2, 1) := by decide +kernel
theorem dL_law_534 : decode cL_law 534 = .ok (.invokevirtual 124, 3) := by decide +kernel
theorem dL_law_537 : decode cL_law 537 = .ok (.iload 6, 2) := by decide +kernel
theorem dL_law_539 : decode cL_law 539 = .ok (.if_icmp .eq 5, 3) := by decide +kernel
theorem dL_law_542 : decode cL_law 542 = .ok (.iconst 0, 1) := by decide +kernel
theorem dL_law_543 : decode cL_law 543 = .ok (.ireturn, 1) := by decide +kernel
theorem dL_law_544 : decode cL_law 544 = .ok (.iload 6, 2) := by decide +kernel
theorem dL_law_546 : decode cL_law 546 = .ok (.ifCond .ne 15, 3) := by decide +kernel
theorem dL_law_549 : decode cL_law 549 = .ok (.aload_n 3, 1) := by decide +kernel
theorem dL_law_550 : decode cL_law 550 = .ok (.iconst 0, 1) := by decide +kernel
theorem dL_law_551 : decode cL_law 551 = .ok (.laload, 1) := by decide +kernel
theorem dL_law_552 : decode cL_law 552 = .ok (.iload 7, 2) := by decide +kernel
theorem dL_law_554 : decode cL_law 554 = .ok (.i2l, 1) := by decide +kernel
theorem dL_law_555 : decode cL_law 555 = .ok (.lcmp, 1) := by decide +kernel
theorem dL_law_556 : decode cL_law 556 = .ok (.ifCond .eq 5, 3) := by decide +kernel
theorem dL_law_559 : decode cL_law 559 = .ok (.iconst 0, 1) := by decide +kernel
theorem dL_law_560 : decode cL_law 560 = .ok (.ireturn, 1) := by decide +kernel
theorem dL_law_561 : decode cL_law 561 = .ok (.goto 1427, 3) := by decide +kernel
theorem dL_law_564 : decode cL_law 564 = .ok (.aload_n 1, 1) := by decide +kernel
theorem dL_law_565 : decode cL_law 565 = .ok (.aload_n 0, 1) := by decide +kernel
theorem dL_law_566 : decode cL_law 566 = .ok (.iload 5, 2) := by decide +kernel
theorem dL_law_568 : decode cL_law 568 = .ok (.iconst 1, 1) := by decide +kernel
theorem dL_law_569 : decode cL_law 569 = .ok (.iadd, 1) := by decide +kernel
theorem dL_law_570 : decode cL_law 570 = .ok (.iaload, 1) := by decide +kernel
theorem dL_law_571 : decode cL_law 571 = .ok (.aload_n 3, 1) := by decide +kernel
theorem dL_law_572 : decode cL_law 572 = .ok (.invokestatic 143, 3) := by decide +kernel
theorem dL_law_575 : decode cL_law 575 = .ok (.istore 6, 2) := by decide +kernel
theorem dL_law_577 : decode cL_law 577 = .ok (.aload_n 2, 1) := by decide +kernel
theorem dL_law_578 : decode cL_law 578 = .ok (.aload_n 0, 1) := by decide +kernel
theorem dL_law_579 : decode cL_law 579 = .ok (.iload 5, 2) := by decide +kernel
theorem dL_law_581 : decode cL_law 581 = .ok (.iconst 1, 1) := by decide +kernel
theorem dL_law_582 : decode cL_law 582 = .ok (.iadd, 1) := by decide +kernel
theorem dL_law_583 : decode cL_law 583 = .ok (.iaload, 1) := by decide +kernel
theorem dL_law_584 : decode cL_law 584 = .ok (.invokevirtual 145, 3) := by decide +kernel
theorem dL_law_587 : decode cL_law 587 = .ok (.istore 7, 2) := by decide +kernel
theorem dL_law_589 : decode cL_law 589 = .ok (.aload_n 2, 1) := by decide +kernel
theorem dL_law_590 : decode cL_law 590 = .ok (.invokevirtual 124, 3) := by decide +kernel
theorem dL_law_593 : decode cL_law 593 = .ok (.iload 6, 2) := by decide +kernel
theorem dL_law_595 : decode cL_law 595 = .ok (.if_icmp .eq 5, 3) := by decide +kernel
theorem dL_law_598 : decode cL_law 598 = .ok (.iconst 0, 1) := by decide +kernel
theorem dL_law_599 : decode cL_law 599 = .ok (.ireturn, 1) := by decide +kernel
theorem dL_law_600 : decode cL_law 600 = .ok (.iload 6, 2) := by decide +kernel
theorem dL_law_602 : decode cL_law 602 = .ok (.ifCond .ne 15, 3) := by decide +kernel
theorem dL_law_605 : decode cL_law 605 = .ok (.aload_n 3, 1) := by decide +kernel
theorem dL_law_606 : decode cL_law 606 = .ok (.iconst 0, 1) := by decide +kernel
theorem dL_law_607 : decode cL_law 607 = .ok (.laload, 1) := by decide +kernel
theorem dL_law_608 : decode cL_law 608 = .ok (.iload 7, 2) := by decide +kernel
theorem dL_law_610 : decode cL_law 610 = .ok (.i2l, 1) := by decide +kernel
theorem dL_law_611 : decode cL_law 611 = .ok (.lcmp, 1) := by decide +kernel
theorem dL_law_612 : decode cL_law 612 = .ok (.ifCond .eq 5, 3) := by decide +kernel
theorem dL_law_615 : decode cL_law 615 = .ok (.iconst 0, 1) := by decide +kernel
theorem dL_law_616 : decode cL_law 616 = .ok (.ireturn, 1) := by decide +kernel
theorem dL_law_617 : decode cL_law 617 = .ok (.goto 1371, 3) := by decide +kernel
theorem dL_law_620 : decode cL_law 620 = .ok (.aload_n 1, 1) := by decide +kernel
theorem dL_law_621 : decode cL_law 621 = .ok (.aload_n 0, 1) := by decide +kernel
theorem dL_law_622 : decode cL_law 622 = .ok (.iload 5, 2) := by decide +kernel
theorem dL_law_624 : decode cL_law 624 = .ok (.iconst 1, 1) := by decide +kernel
theorem dL_law_625 : decode cL_law 625 = .ok (.iadd, 1) := by decide +kernel
theorem dL_law_626 : decode cL_law 626 = .ok (.iaload, 1) := by decide +kernel
theorem dL_law_627 : decode cL_law 627 = .ok (.aload_n 0, 1) := by decide +kernel
theorem dL_law_628 : decode cL_law 628 = .ok (.iload 5, 2) := by decide +kernel
theorem dL_law_630 : decode cL_law 630 = .ok (.iconst 2, 1) := by decide +kernel
theorem dL_law_631 : decode cL_law 631 = .ok (.iadd, 1) := by decide +kernel
theorem dL_law_632 : decode cL_law 632 = .ok (.iaload, 1) := by decide +kernel
theorem dL_law_633 : decode cL_law 633 = .ok (.aload_n 3, 1) := by decide +kernel
theorem dL_law_634 : decode cL_law 634 = .ok (.invokestatic 146, 3) := by decide +kernel
theorem dL_law_637 : decode cL_law 637 = .ok (.istore 6, 2) := by decide +kernel
theorem dL_law_639 : decode cL_law 639 = .ok (.aload_n 2, 1) := by decide +kernel
theorem dL_law_640 : decode cL_law 640 = .ok (.aload_n 0, 1) := by decide +kernel
theorem dL_law_641 : decode cL_law 641 = .ok (.iload 5, 2) := by decide +kernel
theorem dL_law_643 : decode cL_law 643 = .ok (.iconst 1, 1) := by decide +kernel
theorem dL_law_644 : decode cL_law 644 = .ok (.iadd, 1) := by decide +kernel
theorem dL_law_645 : decode cL_law 645 = .ok (.iaload, 1) := by decide +kernel
theorem dL_law_646 : decode cL_law 646 = .ok (.aload_n 0, 1) := by decide +kernel
theorem dL_law_647 : decode cL_law 647 = .ok (.iload 5, 2) := by decide +kernel
theorem dL_law_649 : decode cL_law 649 = .ok (.iconst 2, 1) := by decide +kernel
theorem dL_law_650 : decode cL_law 650 = .ok (.iadd, 1) := by decide +kernel
theorem dL_law_651 : decode cL_law 651 = .ok (.iaload, 1) := by decide +kernel
theorem dL_law_652 : decode cL_law 652 = .ok (.invokevirtual 148, 3) := by decide +kernel
theorem dL_law_655 : decode cL_law 655 = .ok (.istore 7, 2) := by decide +kernel
theorem dL_law_657 : decode cL_law 657 = .ok (.aload_n 2, 1) := by decide +kernel
theorem dL_law_658 : decode cL_law 658 = .ok (.invokevirtual 124, 3) := by decide +kernel
theorem dL_law_661 : decode cL_law 661 = .ok (.iload 6, 2) := by decide +kernel
theorem dL_law_663 : decode cL_law 663 = .ok (.if_icmp .eq 5, 3) := by decide +kernel
theorem dL_law_666 : decode cL_law 666 = .ok (.iconst 0, 1) := by decide +kernel
theorem dL_law_667 : decode cL_law 667 = .ok (.ireturn, 1) := by decide +kernel
theorem dL_law_668 : decode cL_law 668 = .ok (.iload 6, 2) := by decide +kernel
theorem dL_law_670 : decode cL_law 670 = .ok (.ifCond .ne 15, 3) := by decide +kernel
theorem dL_law_673 : decode cL_law 673 = .ok (.aload_n 3, 1) := by decide +kernel
theorem dL_law_674 : decode cL_law 674 = .ok (.iconst 0, 1) := by decide +kernel
theorem dL_law_675 : decode cL_law 675 = .ok (.laload, 1) := by decide +kernel
theorem dL_law_676 : decode cL_law 676 = .ok (.iload 7, 2) := by decide +kernel
theorem dL_law_678 : decode cL_law 678 = .ok (.i2l, 1) := by decide +kernel
theorem dL_law_679 : decode cL_law 679 = .ok (.lcmp, 1) := by decide +kernel
theorem dL_law_680 : decode cL_law 680 = .ok (.ifCond .eq 5, 3) := by decide +kernel
theorem dL_law_683 : decode cL_law 683 = .ok (.iconst 0, 1) := by decide +kernel
theorem dL_law_684 : decode cL_law 684 = .ok (.ireturn, 1) := by decide +kernel
theorem dL_law_685 : decode cL_law 685 = .ok (.goto 1303, 3) := by decide +kernel
theorem dL_law_688 : decode cL_law 688 = .ok (.aload_n 1, 1) := by decide +kernel
theorem dL_law_689 : decode cL_law 689 = .ok (.aload_n 0, 1) := by decide +kernel
theorem dL_law_690 : decode cL_law 690 = .ok (.iload 5, 2) := by decide +kernel
theorem dL_law_692 : decode cL_law 692 = .ok (.iconst 1, 1) := by decide +kernel
theorem dL_law_693 : decode cL_law 693 = .ok (.iadd, 1) := by decide +kernel
theorem dL_law_694 : decode cL_law 694 = .ok (.iaload, 1) := by decide +kernel
theorem dL_law_695 : decode cL_law 695 = .ok (.aload_n 3, 1) := by decide +kernel
theorem dL_law_696 : decode cL_law 696 = .ok (.invokestatic 149, 3) := by decide +kernel
theorem dL_law_699 : decode cL_law 699 = .ok (.istore 6, 2) := by decide +kernel
theorem dL_law_701 : decode cL_law 701 = .ok (.aload_n 2, 1) := by decide +kernel
theorem dL_law_702 : decode cL_law 702 = .ok (.aload_n 0, 1) := by decide +kernel
theorem dL_law_703 : decode cL_law 703 = .ok (.iload 5, 2) := by decide +kernel
theorem dL_law_705 : decode cL_law 705 = .ok (.iconst 1, 1) := by decide +kernel
theorem dL_law_706 : decode cL_law 706 = .ok (.iadd, 1) := by decide +kernel
theorem dL_law_707 : decode cL_law 707 = .ok (.iaload, 1) := by decide +kernel
theorem dL_law_708 : decode cL_law 708 = .ok (.invokevirtual 151, 3) := by decide +kernel
theorem dL_law_711 : decode cL_law 711 = .ok (.istore 7, 2) := by decide +kernel
theorem dL_law_713 : decode cL_law 713 = .ok (.aload_n 2, 1) := by decide +kernel
theorem dL_law_714 : decode cL_law 714 = .ok (.invokevirtual 124, 3) := by decide +kernel
theorem dL_law_717 : decode cL_law 717 = .ok (.iload 6, 2) := by decide +kernel
theorem dL_law_719 : decode cL_law 719 = .ok (.if_icmp .eq 5, 3) := by decide +kernel
theorem dL_law_722 : decode cL_law 722 = .ok (.iconst 0, 1) := by decide +kernel
theorem dL_law_723 : decode cL_law 723 = .ok (.ireturn, 1) := by decide +kernel
theorem dL_law_724 : decode cL_law 724 = .ok (.iload 6, 2) := by decide +kernel
theorem dL_law_726 : decode cL_law 726 = .ok (.ifCond .ne 15, 3) := by decide +kernel
theorem dL_law_729 : decode cL_law 729 = .ok (.aload_n 3, 1) := by decide +kernel
theorem dL_law_730 : decode cL_law 730 = .ok (.iconst 0, 1) := by decide +kernel
theorem dL_law_731 : decode cL_law 731 = .ok (.laload, 1) := by decide +kernel
theorem dL_law_732 : decode cL_law 732 = .ok (.iload 7, 2) := by decide +kernel
theorem dL_law_734 : decode cL_law 734 = .ok (.i2l, 1) := by decide +kernel
theorem dL_law_735 : decode cL_law 735 = .ok (.lcmp, 1) := by decide +kernel
theorem dL_law_736 : decode cL_law 736 = .ok (.ifCond .eq 5, 3) := by decide +kernel
theorem dL_law_739 : decode cL_law 739 = .ok (.iconst 0, 1) := by decide +kernel
theorem dL_law_740 : decode cL_law 740 = .ok (.ireturn, 1) := by decide +kernel
theorem dL_law_741 : decode cL_law 741 = .ok (.goto 1247, 3) := by decide +kernel
theorem dL_law_744 : decode cL_law 744 = .ok (.aload_n 1, 1) := by decide +kernel
theorem dL_law_745 : decode cL_law 745 = .ok (.invokevirtual 152, 3) := by decide +kernel
theorem dL_law_748 : decode cL_law 748 = .ok (.aload_n 2, 1) := by decide +kernel
theorem dL_law_749 : decode cL_law 749 = .ok (.invokevirtual 156, 3) := by decide +kernel
theorem dL_law_752 : decode cL_law 752 = .ok (.lcmp, 1) := by decide +kernel
theorem dL_law_753 : decode cL_law 753 = .ok (.ifCond .eq 1235, 3) := by decide +kernel
theorem dL_law_756 : decode cL_law 756 = .ok (.iconst 0, 1) := by decide +kernel
theorem dL_law_757 : decode cL_law 757 = .ok (.ireturn, 1) := by decide +kernel
theorem dL_law_758 : decode cL_law 758 = .ok (.aload_n 1, 1) := by decide +kernel
theorem dL_law_759 : decode cL_law 759 = .ok (.aload_n 0, 1) := by decide +kernel
theorem dL_law_760 : decode cL_law 760 = .ok (.iload 5, 2) := by decide +kernel
theorem dL_law_762 : decode cL_law 762 = .ok (.iconst 1, 1) := by decide +kernel
theorem dL_law_763 : decode cL_law 763 = .ok (.iadd, 1) := by decide +kernel
theorem dL_law_764 : decode cL_law 764 = .ok (.iaload, 1) := by decide +kernel
theorem dL_law_765 : decode cL_law 765 = .ok (.aload_n 3, 1) := by decide +kernel
theorem dL_law_766 : decode cL_law 766 = .ok (.invokestatic 157, 3) := by decide +kernel
theorem dL_law_769 : decode cL_law 769 = .ok (.istore 6, 2) := by decide +kernel
theorem dL_law_771 : decode cL_law 771 = .ok (.aload_n 2, 1) := by decide +kernel
theorem dL_law_772 : decode cL_law 772 = .ok (.aload_n 0, 1) := by decide +kernel
theorem dL_law_773 : decode cL_law 773 = .ok (.iload 5, 2) := by decide +kernel
theorem dL_law_775 : decode cL_law 775 = .ok (.iconst 1, 1) := by decide +kernel
theorem dL_law_776 : decode cL_law 776 = .ok (.iadd, 1) := by decide +kernel
theorem dL_law_777 : decode cL_law 777 = .ok (.iaload, 1) := by decide +kernel
theorem dL_law_778 : decode cL_law 778 = .ok (.invokevirtual 159, 3) := by decide +kernel
theorem dL_law_781 : decode cL_law 781 = .ok (.istore 7, 2) := by decide +kernel
theorem dL_law_783 : decode cL_law 783 = .ok (.aload_n 2, 1) := by decide +kernel
theorem dL_law_784 : decode cL_law 784 = .ok (.invokevirtual 124, 3) := by decide +kernel
theorem dL_law_787 : decode cL_law 787 = .ok (.iload 6, 2) := by decide +kernel
theorem dL_law_789 : decode cL_law 789 = .ok (.if_icmp .eq 5, 3) := by decide +kernel
theorem dL_law_792 : decode cL_law 792 = .ok (.iconst 0, 1) := by decide +kernel
theorem dL_law_793 : decode cL_law 793 = .ok (.ireturn, 1) := by decide +kernel
theorem dL_law_794 : decode cL_law 794 = .ok (.iload 6, 2) := by decide +kernel
theorem dL_law_796 : decode cL_law 796 = .ok (.ifCond .ne 15, 3) := by decide +kernel
theorem dL_law_799 : decode cL_law 799 = .ok (.aload_n 3, 1) := by decide +kernel
theorem dL_law_800 : decode cL_law 800 = .ok (.iconst 0, 1) := by decide +kernel
theorem dL_law_801 : decode cL_law 801 = .ok (.laload, 1) := by decide +kernel
theorem dL_law_802 : decode cL_law 802 = .ok (.iload 7, 2) := by decide +kernel
theorem dL_law_804 : decode cL_law 804 = .ok (.i2l, 1) := by decide +kernel
theorem dL_law_805 : decode cL_law 805 = .ok (.lcmp, 1) := by decide +kernel
theorem dL_law_806 : decode cL_law 806 = .ok (.ifCond .eq 5, 3) := by decide +kernel
theorem dL_law_809 : decode cL_law 809 = .ok (.iconst 0, 1) := by decide +kernel
theorem dL_law_810 : decode cL_law 810 = .ok (.ireturn, 1) := by decide +kernel
theorem dL_law_811 : decode cL_law 811 = .ok (.goto 1177, 3) := by decide +kernel
theorem dL_law_814 : decode cL_law 814 = .ok (.aload_n 1, 1) := by decide +kernel
theorem dL_law_815 : decode cL_law 815 = .ok (.aload_n 0, 1) := by decide +kernel
theorem dL_law_816 : decode cL_law 816 = .ok (.iload 5, 2) := by decide +kernel
theorem dL_law_818 : decode cL_law 818 = .ok (.iconst 1, 1) := by decide +kernel
theorem dL_law_819 : decode cL_law 819 = .ok (.iadd, 1) := by decide +kernel
theorem dL_law_820 : decode cL_law 820 = .ok (.iaload, 1) := by decide +kernel
theorem dL_law_821 : decode cL_law 821 = .ok (.aload_n 3, 1) := by decide +kernel
theorem dL_law_822 : decode cL_law 822 = .ok (.invokestatic 160, 3) := by decide +kernel
theorem dL_law_825 : decode cL_law 825 = .ok (.istore 6, 2) := by decide +kernel
theorem dL_law_827 : decode cL_law 827 = .ok (.aload_n 2, 1) := by decide +kernel
theorem dL_law_828 : decode cL_law 828 = .ok (.aload_n 0, 1) := by decide +kernel
theorem dL_law_829 : decode cL_law 829 = .ok (.iload 5, 2) := by decide +kernel
theorem dL_law_831 : decode cL_law 831 = .ok (.iconst 1, 1) := by decide +kernel
theorem dL_law_832 : decode cL_law 832 = .ok (.iadd, 1) := by decide +kernel
theorem dL_law_833 : decode cL_law 833 = .ok (.iaload, 1) := by decide +kernel
theorem dL_law_834 : decode cL_law 834 = .ok (.invokevirtual 162, 3) := by decide +kernel
theorem dL_law_837 : decode cL_law 837 = .ok (.istore 7, 2) := by decide +kernel
theorem dL_law_839 : decode cL_law 839 = .ok (.aload_n 2, 1) := by decide +kernel
theorem dL_law_840 : decode cL_law 840 = .ok (.invokevirtual 124, 3) := by decide +kernel
theorem dL_law_843 : decode cL_law 843 = .ok (.iload 6, 2) := by decide +kernel
theorem dL_law_845 : decode cL_law 845 = .ok (.if_icmp .eq 5, 3) := by decide +kernel
theorem dL_law_848 : decode cL_law 848 = .ok (.iconst 0, 1) := by decide +kernel
theorem dL_law_849 : decode cL_law 849 = .ok (.ireturn, 1) := by decide +kernel
theorem dL_law_850 : decode cL_law 850 = .ok (.iload 6, 2) := by decide +kernel
theorem dL_law_852 : decode cL_law 852 = .ok (.ifCond .ne 15, 3) := by decide +kernel
theorem dL_law_855 : decode cL_law 855 = .ok (.aload_n 3, 1) := by decide +kernel
theorem dL_law_856 : decode cL_law 856 = .ok (.iconst 0, 1) := by decide +kernel
theorem dL_law_857 : decode cL_law 857 = .ok (.laload, 1) := by decide +kernel
theorem dL_law_858 : decode cL_law 858 = .ok (.iload 7, 2) := by decide +kernel
theorem dL_law_860 : decode cL_law 860 = .ok (.i2l, 1) := by decide +kernel
theorem dL_law_861 : decode cL_law 861 = .ok (.lcmp, 1) := by decide +kernel
theorem dL_law_862 : decode cL_law 862 = .ok (.ifCond .eq 5, 3) := by decide +kernel
theorem dL_law_865 : decode cL_law 865 = .ok (.iconst 0, 1) := by decide +kernel
theorem dL_law_866 : decode cL_law 866 = .ok (.ireturn, 1) := by decide +kernel
theorem dL_law_867 : decode cL_law 867 = .ok (.goto 1121, 3) := by decide +kernel
theorem dL_law_870 : decode cL_law 870 = .ok (.aload_n 1, 1) := by decide +kernel
theorem dL_law_871 : decode cL_law 871 = .ok (.aload_n 0, 1) := by decide +kernel
theorem dL_law_872 : decode cL_law 872 = .ok (.iload 5, 2) := by decide +kernel
theorem dL_law_874 : decode cL_law 874 = .ok (.iconst 1, 1) := by decide +kernel
theorem dL_law_875 : decode cL_law 875 = .ok (.iadd, 1) := by decide +kernel
theorem dL_law_876 : decode cL_law 876 = .ok (.iaload, 1) := by decide +kernel
theorem dL_law_877 : decode cL_law 877 = .ok (.aload_n 3, 1) := by decide +kernel
theorem dL_law_878 : decode cL_law 878 = .ok (.invokestatic 163, 3) := by decide +kernel
theorem dL_law_881 : decode cL_law 881 = .ok (.istore 6, 2) := by decide +kernel
theorem dL_law_883 : decode cL_law 883 = .ok (.aload_n 2, 1) := by decide +kernel
theorem dL_law_884 : decode cL_law 884 = .ok (.aload_n 0, 1) := by decide +kernel
theorem dL_law_885 : decode cL_law 885 = .ok (.iload 5, 2) := by decide +kernel
theorem dL_law_887 : decode cL_law 887 = .ok (.iconst 1, 1) := by decide +kernel
theorem dL_law_888 : decode cL_law 888 = .ok (.iadd, 1) := by decide +kernel
theorem dL_law_889 : decode cL_law 889 = .ok (.iaload, 1) := by decide +kernel
theorem dL_law_890 : decode cL_law 890 = .ok (.invokevirtual 165, 3) := by decide +kernel
theorem dL_law_893 : decode cL_law 893 = .ok (.istore 7, 2) := by decide +kernel
theorem dL_law_895 : decode cL_law 895 = .ok (.aload_n 2, 1) := by decide +kernel
theorem dL_law_896 : decode cL_law 896 = .ok (.invokevirtual 124, 3) := by decide +kernel
theorem dL_law_899 : decode cL_law 899 = .ok (.iload 6, 2) := by decide +kernel
theorem dL_law_901 : decode cL_law 901 = .ok (.if_icmp .eq 5, 3) := by decide +kernel
theorem dL_law_904 : decode cL_law 904 = .ok (.iconst 0, 1) := by decide +kernel
theorem dL_law_905 : decode cL_law 905 = .ok (.ireturn, 1) := by decide +kernel
theorem dL_law_906 : decode cL_law 906 = .ok (.iload 6, 2) := by decide +kernel
theorem dL_law_908 : decode cL_law 908 = .ok (.ifCond .ne 15, 3) := by decide +kernel
theorem dL_law_911 : decode cL_law 911 = .ok (.aload_n 3, 1) := by decide +kernel
theorem dL_law_912 : decode cL_law 912 = .ok (.iconst 0, 1) := by decide +kernel
theorem dL_law_913 : decode cL_law 913 = .ok (.laload, 1) := by decide +kernel
theorem dL_law_914 : decode cL_law 914 = .ok (.iload 7, 2) := by decide +kernel
theorem dL_law_916 : decode cL_law 916 = .ok (.i2l, 1) := by decide +kernel
theorem dL_law_917 : decode cL_law 917 = .ok (.lcmp, 1) := by decide +kernel
theorem dL_law_918 : decode cL_law 918 = .ok (.ifCond .eq 5, 3) := by decide +kernel
theorem dL_law_921 : decode cL_law 921 = .ok (.iconst 0, 1) := by decide +kernel
theorem dL_law_922 : decode cL_law 922 = .ok (.ireturn, 1) := by decide +kernel
theorem dL_law_923 : decode cL_law 923 = .ok (.goto 1065, 3) := by decide +kernel
theorem dL_law_926 : decode cL_law 926 = .ok (.aload_n 1, 1) := by decide +kernel
theorem dL_law_927 : decode cL_law 927 = .ok (.aload_n 0, 1) := by decide +kernel
theorem dL_law_928 : decode cL_law 928 = .ok (.iload 5, 2) := by decide +kernel
theorem dL_law_930 : decode cL_law 930 = .ok (.iconst 1, 1) := by decide +kernel
theorem dL_law_931 : decode cL_law 931 = .ok (.iadd, 1) := by decide +kernel
theorem dL_law_932 : decode cL_law 932 = .ok (.iaload, 1) := by decide +kernel
theorem dL_law_933 : decode cL_law 933 = .ok (.aload_n 3, 1) := by decide +kernel
theorem dL_law_934 : decode cL_law 934 = .ok (.invokestatic 166, 3) := by decide +kernel
theorem dL_law_937 : decode cL_law 937 = .ok (.istore 6, 2) := by decide +kernel
theorem dL_law_939 : decode cL_law 939 = .ok (.aload_n 2, 1) := by decide +kernel
theorem dL_law_940 : decode cL_law 940 = .ok (.aload_n 0, 1) := by decide +kernel
theorem dL_law_941 : decode cL_law 941 = .ok (.iload 5, 2) := by decide +kernel
theorem dL_law_943 : decode cL_law 943 = .ok (.iconst 1, 1) := by decide +kernel
theorem dL_law_944 : decode cL_law 944 = .ok (.iadd, 1) := by decide +kernel
theorem dL_law_945 : decode cL_law 945 = .ok (.iaload, 1) := by decide +kernel
theorem dL_law_946 : decode cL_law 946 = .ok (.invokevirtual 168, 3) := by decide +kernel
theorem dL_law_949 : decode cL_law 949 = .ok (.istore 7, 2) := by decide +kernel
theorem dL_law_951 : decode cL_law 951 = .ok (.aload_n 2, 1) := by decide +kernel
theorem dL_law_952 : decode cL_law 952 = .ok (.invokevirtual 124, 3) := by decide +kernel
theorem dL_law_955 : decode cL_law 955 = .ok (.iload 6, 2) := by decide +kernel
theorem dL_law_957 : decode cL_law 957 = .ok (.if_icmp .eq 5, 3) := by decide +kernel
theorem dL_law_960 : decode cL_law 960 = .ok (.iconst 0, 1) := by decide +kernel
theorem dL_law_961 : decode cL_law 961 = .ok (.ireturn, 1) := by decide +kernel
theorem dL_law_962 : decode cL_law 962 = .ok (.iload 6, 2) := by decide +kernel
theorem dL_law_964 : decode cL_law 964 = .ok (.ifCond .ne 15, 3) := by decide +kernel
theorem dL_law_967 : decode cL_law 967 = .ok (.aload_n 3, 1) := by decide +kernel
theorem dL_law_968 : decode cL_law 968 = .ok (.iconst 0, 1) := by decide +kernel
theorem dL_law_969 : decode cL_law 969 = .ok (.laload, 1) := by decide +kernel
theorem dL_law_970 : decode cL_law 970 = .ok (.iload 7, 2) := by decide +kernel
theorem dL_law_972 : decode cL_law 972 = .ok (.i2l, 1) := by decide +kernel
theorem dL_law_973 : decode cL_law 973 = .ok (.lcmp, 1) := by decide +kernel
theorem dL_law_974 : decode cL_law 974 = .ok (.ifCond .eq 5, 3) := by decide +kernel
theorem dL_law_977 : decode cL_law 977 = .ok (.iconst 0, 1) := by decide +kernel
theorem dL_law_978 : decode cL_law 978 = .ok (.ireturn, 1) := by decide +kernel
theorem dL_law_979 : decode cL_law 979 = .ok (.goto 1009, 3) := by decide +kernel
theorem dL_law_982 : decode cL_law 982 = .ok (.aload_n 1, 1) := by decide +kernel
theorem dL_law_983 : decode cL_law 983 = .ok (.invokevirtual 169, 3) := by decide +kernel
theorem dL_law_986 : decode cL_law 986 = .ok (.aload_n 2, 1) := by decide +kernel
theorem dL_law_987 : decode cL_law 987 = .ok (.invokevirtual 172, 3) := by decide +kernel
theorem dL_law_990 : decode cL_law 990 = .ok (.if_icmp .eq 998, 3) := by decide +kernel
theorem dL_law_993 : decode cL_law 993 = .ok (.iconst 0, 1) := by decide +kernel
theorem dL_law_994 : decode cL_law 994 = .ok (.ireturn, 1) := by decide +kernel
theorem dL_law_995 : decode cL_law 995 = .ok (.aload_n 1, 1) := by decide +kernel
theorem dL_law_996 : decode cL_law 996 = .ok (.invokevirtual 173, 3) := by decide +kernel
theorem dL_law_999 : decode cL_law 999 = .ok (.aload_n 2, 1) := by decide +kernel
theorem dL_law_1000 : decode cL_law 1000 = .ok (.invokevirtual 176, 3) := by decide +kernel
theorem dL_law_1003 : decode cL_law 1003 = .ok (.if_icmp .eq 985, 3) := by decide +kernel
theorem dL_law_1006 : decode cL_law 1006 = .ok (.iconst 0, 1) := by decide +kernel
theorem dL_law_1007 : decode cL_law 1007 = .ok (.ireturn, 1) := by decide +kernel
theorem dL_law_1008 : decode cL_law 1008 = .ok (.aload_n 1, 1) := by decide +kernel
theorem dL_law_1009 : decode cL_law 1009 = .ok (.invokevirtual 177, 3) := by decide +kernel
theorem dL_law_1012 : decode cL_law 1012 = .ok (.aload_n 2, 1) := by decide +kernel
theorem dL_law_1013 : decode cL_law 1013 = .ok (.invokevirtual 180, 3) := by decide +kernel
theorem dL_law_1016 : decode cL_law 1016 = .ok (.if_icmp .eq 972, 3) := by decide +kernel
theorem dL_law_1019 : decode cL_law 1019 = .ok (.iconst 0, 1) := by decide +kernel
theorem dL_law_1020 : decode cL_law 1020 = .ok (.ireturn, 1) := by decide +kernel
theorem dL_law_1021 : decode cL_law 1021 = .ok (.aload_n 1, 1) := by decide +kernel
theorem dL_law_1022 : decode cL_law 1022 = .ok (.aload_n 0, 1) := by decide +kernel
theorem dL_law_1023 : decode cL_law 1023 = .ok (.iload 5, 2) := by decide +kernel
theorem dL_law_1025 : decode cL_law 1025 = .ok (.iconst 1, 1) := by decide +kernel
theorem dL_law_1026 : decode cL_law 1026 = .ok (.iadd, 1) := by decide +kernel
theorem dL_law_1027 : decode cL_law 1027 = .ok (.iaload, 1) := by decide +kernel
theorem dL_law_1028 : decode cL_law 1028 = .ok (.aload_n 3, 1) := by decide +kernel
theorem dL_law_1029 : decode cL_law 1029 = .ok (.invokestatic 181, 3) := by decide +kernel
theorem dL_law_1032 : decode cL_law 1032 = .ok (.istore 6, 2) := by decide +kernel
theorem dL_law_1034 : decode cL_law 1034 = .ok (.aload_n 2, 1) := by decide +kernel
theorem dL_law_1035 : decode cL_law 1035 = .ok (.aload_n 0, 1) := by decide +kernel
theorem dL_law_1036 : decode cL_law 1036 = .ok (.iload 5, 2) := by decide +kernel
theorem dL_law_1038 : decode cL_law 1038 = .ok (.iconst 1, 1) := by decide +kernel
theorem dL_law_1039 : decode cL_law 1039 = .ok (.iadd, 1) := by decide +kernel
theorem dL_law_1040 : decode cL_law 1040 = .ok (.iaload, 1) := by decide +kernel
theorem dL_law_1041 : decode cL_law 1041 = .ok (.invokevirtual 183, 3) := by decide +kernel
theorem dL_law_1044 : decode cL_law 1044 = .ok (.istore 7, 2) := by decide +kernel
theorem dL_law_1046 : decode cL_law 1046 = .ok (.aload_n 2, 1) := by decide +kernel
theorem dL_law_1047 : decode cL_law 1047 = .ok (.invokevirtual 124, 3) := by decide +kernel
theorem dL_law_1050 : decode cL_law 1050 = .ok (.iload 6, 2) := by decide +kernel
theorem dL_law_1052 : decode cL_law 1052 = .ok (.if_icmp .eq 5, 3) := by decide +kernel
theorem dL_law_1055 : decode cL_law 1055 = .ok (.iconst 0, 1) := by decide +kernel
theorem dL_law_1056 : decode cL_law 1056 = .ok (.ireturn, 1) := by decide +kernel
theorem dL_law_1057 : decode cL_law 1057 = .ok (.iload 6, 2) := by decide +kernel
theorem dL_law_1059 : decode cL_law 1059 = .ok (.ifCond .ne 15, 3) := by decide +kernel
theorem dL_law_1062 : decode cL_law 1062 = .ok (.aload_n 3, 1) := by decide +kernel
theorem dL_law_1063 : decode cL_law 1063 = .ok (.iconst 0, 1) := by decide +kernel
theorem dL_law_1064 : decode cL_law 1064 = .ok (.laload, 1) := by decide +kernel
theorem dL_law_1065 : decode cL_law 1065 = .ok (.iload 7, 2) := by decide +kernel
theorem dL_law_1067 : decode cL_law 1067 = .ok (.i2l, 1) := by decide +kernel
theorem dL_law_1068 : decode cL_law 1068 = .ok (.lcmp, 1) := by decide +kernel
theorem dL_law_1069 : decode cL_law 1069 = .ok (.ifCond .eq 5, 3) := by decide +kernel
theorem dL_law_1072 : decode cL_law 1072 = .ok (.iconst 0, 1) := by decide +kernel
theorem dL_law_1073 : decode cL_law 1073 = .ok (.ireturn, 1) := by decide +kernel
theorem dL_law_1074 : decode cL_law 1074 = .ok (.goto 914, 3) := by decide +kernel
theorem dL_law_1077 : decode cL_law 1077 = .ok (.aload_n 1, 1) := by decide +kernel
theorem dL_law_1078 : decode cL_law 1078 = .ok (.aload_n 0, 1) := by decide +kernel
theorem dL_law_1079 : decode cL_law 1079 = .ok (.iload 5, 2) := by decide +kernel
theorem dL_law_1081 : decode cL_law 1081 = .ok (.iconst 1, 1) := by decide +kernel
theorem dL_law_1082 : decode cL_law 1082 = .ok (.iadd, 1) := by decide +kernel
theorem dL_law_1083 : decode cL_law 1083 = .ok (.iaload, 1) := by decide +kernel
theorem dL_law_1084 : decode cL_law 1084 = .ok (.aload_n 3, 1) := by decide +kernel
theorem dL_law_1085 : decode cL_law 1085 = .ok (.invokestatic 184, 3) := by decide +kernel
theorem dL_law_1088 : decode cL_law 1088 = .ok (.istore 6, 2) := by decide +kernel
theorem dL_law_1090 : decode cL_law 1090 = .ok (.aload_n 2, 1) := by decide +kernel
theorem dL_law_1091 : decode cL_law 1091 = .ok (.aload_n 0, 1) := by decide +kernel
theorem dL_law_1092 : decode cL_law 1092 = .ok (.iload 5, 2) := by decide +kernel
theorem dL_law_1094 : decode cL_law 1094 = .ok (.iconst 1, 1) := by decide +kernel
theorem dL_law_1095 : decode cL_law 1095 = .ok (.iadd, 1) := by decide +kernel
theorem dL_law_1096 : decode cL_law 1096 = .ok (.iaload, 1) := by decide +kernel
theorem dL_law_1097 : decode cL_law 1097 = .ok (.invokevirtual 186, 3) := by decide +kernel
theorem dL_law_1100 : decode cL_law 1100 = .ok (.istore 7, 2) := by decide +kernel
theorem dL_law_1102 : decode cL_law 1102 = .ok (.aload_n 2, 1) := by decide +kernel
theorem dL_law_1103 : decode cL_law 1103 = .ok (.invokevirtual 124, 3) := by decide +kernel
theorem dL_law_1106 : decode cL_law 1106 = .ok (.iload 6, 2) := by decide +kernel
theorem dL_law_1108 : decode cL_law 1108 = .ok (.if_icmp .eq 5, 3) := by decide +kernel
theorem dL_law_1111 : decode cL_law 1111 = .ok (.iconst 0, 1) := by decide +kernel
theorem dL_law_1112 : decode cL_law 1112 = .ok (.ireturn, 1) := by decide +kernel
theorem dL_law_1113 : decode cL_law 1113 = .ok (.iload 6, 2) := by decide +kernel
theorem dL_law_1115 : decode cL_law 1115 = .ok (.ifCond .ne 15, 3) := by decide +kernel
theorem dL_law_1118 : decode cL_law 1118 = .ok (.aload_n 3, 1) := by decide +kernel
theorem dL_law_1119 : decode cL_law 1119 = .ok (.iconst 0, 1) := by decide +kernel
theorem dL_law_1120 : decode cL_law 1120 = .ok (.laload, 1) := by decide +kernel
theorem dL_law_1121 : decode cL_law 1121 = .ok (.iload 7, 2) := by decide +kernel
theorem dL_law_1123 : decode cL_law 1123 = .ok (.i2l, 1) := by decide +kernel
theorem dL_law_1124 : decode cL_law 1124 = .ok (.lcmp, 1) := by decide +kernel
theorem dL_law_1125 : decode cL_law 1125 = .ok (.ifCond .eq 5, 3) := by decide +kernel
theorem dL_law_1128 : decode cL_law 1128 = .ok (.iconst 0, 1) := by decide +kernel
theorem dL_law_1129 : decode cL_law 1129 = .ok (.ireturn, 1) := by decide +kernel
theorem dL_law_1130 : decode cL_law 1130 = .ok (.goto 858, 3) := by decide +kernel
theorem dL_law_1133 : decode cL_law 1133 = .ok (.aload_n 1, 1) := by decide +kernel
theorem dL_law_1134 : decode cL_law 1134 = .ok (.aload_n 3, 1) := by decide +kernel
theorem dL_law_1135 : decode cL_law 1135 = .ok (.invokestatic 187, 3) := by decide +kernel
theorem dL_law_1138 : decode cL_law 1138 = .ok (.istore 6, 2) := by decide +kernel
theorem dL_law_1140 : decode cL_law 1140 = .ok (.aload_n 2, 1) := by decide +kernel
theorem dL_law_1141 : decode cL_law 1141 = .ok (.invokevirtual 190, 3) := by decide +kernel
theorem dL_law_1144 : decode cL_law 1144 = .ok (.istore 7, 2) := by decide +kernel
theorem dL_law_1146 : decode cL_law 1146 = .ok (.aload_n 2, 1) := by decide +kernel
theorem dL_law_1147 : decode cL_law 1147 = .ok (.invokevirtual 124, 3) := by decide +kernel
theorem dL_law_1150 : decode cL_law 1150 = .ok (.iload 6, 2) := by decide +kernel
theorem dL_law_1152 : decode cL_law 1152 = .ok (.if_icmp .eq 5, 3) := by decide +kernel
theorem dL_law_1155 : decode cL_law 1155 = .ok (.iconst 0, 1) := by decide +kernel
theorem dL_law_1156 : decode cL_law 1156 = .ok (.ireturn, 1) := by decide +kernel
theorem dL_law_1157 : decode cL_law 1157 = .ok (.iload 6, 2) := by decide +kernel
theorem dL_law_1159 : decode cL_law 1159 = .ok (.ifCond .ne 15, 3) := by decide +kernel
theorem dL_law_1162 : decode cL_law 1162 = .ok (.aload_n 3, 1) := by decide +kernel
theorem dL_law_1163 : decode cL_law 1163 = .ok (.iconst 0, 1) := by decide +kernel
theorem dL_law_1164 : decode cL_law 1164 = .ok (.laload, 1) := by decide +kernel
theorem dL_law_1165 : decode cL_law 1165 = .ok (.iload 7, 2) := by decide +kernel
theorem dL_law_1167 : decode cL_law 1167 = .ok (.i2l, 1) := by decide +kernel
theorem dL_law_1168 : decode cL_law 1168 = .ok (.lcmp, 1) := by decide +kernel
theorem dL_law_1169 : decode cL_law 1169 = .ok (.ifCond .eq 5, 3) := by decide +kernel
theorem dL_law_1172 : decode cL_law 1172 = .ok (.iconst 0, 1) := by decide +kernel
theorem dL_law_1173 : decode cL_law 1173 = .ok (.ireturn, 1) := by decide +kernel
theorem dL_law_1174 : decode cL_law 1174 = .ok (.goto 814, 3) := by decide +kernel
theorem dL_law_1177 : decode cL_law 1177 = .ok (.aload_n 1, 1) := by decide +kernel
theorem dL_law_1178 : decode cL_law 1178 = .ok (.aload_n 0, 1) := by decide +kernel
theorem dL_law_1179 : decode cL_law 1179 = .ok (.iload 5, 2) := by decide +kernel
theorem dL_law_1181 : decode cL_law 1181 = .ok (.iconst 1, 1) := by decide +kernel
theorem dL_law_1182 : decode cL_law 1182 = .ok (.iadd, 1) := by decide +kernel
theorem dL_law_1183 : decode cL_law 1183 = .ok (.iaload, 1) := by decide +kernel
theorem dL_law_1184 : decode cL_law 1184 = .ok (.aload_n 0, 1) := by decide +kernel
theorem dL_law_1185 : decode cL_law 1185 = .ok (.iload 5, 2) := by decide +kernel
theorem dL_law_1187 : decode cL_law 1187 = .ok (.iconst 2, 1) := by decide +kernel
theorem dL_law_1188 : decode cL_law 1188 = .ok (.iadd, 1) := by decide +kernel
theorem dL_law_1189 : decode cL_law 1189 = .ok (.iaload, 1) := by decide +kernel
theorem dL_law_1190 : decode cL_law 1190 = .ok (.aload_n 3, 1) := by decide +kernel
theorem dL_law_1191 : decode cL_law 1191 = .ok (.invokestatic 191, 3) := by decide +kernel
theorem dL_law_1194 : decode cL_law 1194 = .ok (.istore 6, 2) := by decide +kernel
theorem dL_law_1196 : decode cL_law 1196 = .ok (.aload_n 2, 1) := by decide +kernel
theorem dL_law_1197 : decode cL_law 1197 = .ok (.aload_n 0, 1) := by decide +kernel
theorem dL_law_1198 : decode cL_law 1198 = .ok (.iload 5, 2) := by decide +kernel
theorem dL_law_1200 : decode cL_law 1200 = .ok (.iconst 1, 1) := by decide +kernel
theorem dL_law_1201 : decode cL_law 1201 = .ok (.iadd, 1) := by decide +kernel
theorem dL_law_1202 : decode cL_law 1202 = .ok (.iaload, 1) := by decide +kernel
theorem dL_law_1203 : decode cL_law 1203 = .ok (.aload_n 0, 1) := by decide +kernel
theorem dL_law_1204 : decode cL_law 1204 = .ok (.iload 5, 2) := by decide +kernel
theorem dL_law_1206 : decode cL_law 1206 = .ok (.iconst 2, 1) := by decide +kernel
theorem dL_law_1207 : decode cL_law 1207 = .ok (.iadd, 1) := by decide +kernel
theorem dL_law_1208 : decode cL_law 1208 = .ok (.iaload, 1) := by decide +kernel
theorem dL_law_1209 : decode cL_law 1209 = .ok (.invokevirtual 193, 3) := by decide +kernel
theorem dL_law_1212 : decode cL_law 1212 = .ok (.istore 7, 2) := by decide +kernel
theorem dL_law_1214 : decode cL_law 1214 = .ok (.aload_n 2, 1) := by decide +kernel
theorem dL_law_1215 : decode cL_law 1215 = .ok (.invokevirtual 124, 3) := by decide +kernel
theorem dL_law_1218 : decode cL_law 1218 = .ok (.iload 6, 2) := by decide +kernel
theorem dL_law_1220 : decode cL_law 1220 = .ok (.if_icmp .eq 5, 3) := by decide +kernel
theorem dL_law_1223 : decode cL_law 1223 = .ok (.iconst 0, 1) := by decide +kernel
theorem dL_law_1224 : decode cL_law 1224 = .ok (.ireturn, 1) := by decide +kernel
theorem dL_law_1225 : decode cL_law 1225 = .ok (.iload 6, 2) := by decide +kernel
theorem dL_law_1227 : decode cL_law 1227 = .ok (.ifCond .ne 15, 3) := by decide +kernel
theorem dL_law_1230 : decode cL_law 1230 = .ok (.aload_n 3, 1) := by decide +kernel
theorem dL_law_1231 : decode cL_law 1231 = .ok (.iconst 0, 1) := by decide +kernel
theorem dL_law_1232 : decode cL_law 1232 = .ok (.laload, 1) := by decide +kernel
theorem dL_law_1233 : decode cL_law 1233 = .ok (.iload 7, 2) := by decide +kernel
theorem dL_law_1235 : decode cL_law 1235 = .ok (.i2l, 1) := by decide +kernel
theorem dL_law_1236 : decode cL_law 1236 = .ok (.lcmp, 1) := by decide +kernel
theorem dL_law_1237 : decode cL_law 1237 = .ok (.ifCond .eq 5, 3) := by decide +kernel
theorem dL_law_1240 : decode cL_law 1240 = .ok (.iconst 0, 1) := by decide +kernel
theorem dL_law_1241 : decode cL_law 1241 = .ok (.ireturn, 1) := by decide +kernel
theorem dL_law_1242 : decode cL_law 1242 = .ok (.goto 746, 3) := by decide +kernel
theorem dL_law_1245 : decode cL_law 1245 = .ok (.aload_n 1, 1) := by decide +kernel
theorem dL_law_1246 : decode cL_law 1246 = .ok (.aload_n 0, 1) := by decide +kernel
theorem dL_law_1247 : decode cL_law 1247 = .ok (.iload 5, 2) := by decide +kernel
theorem dL_law_1249 : decode cL_law 1249 = .ok (.iconst 1, 1) := by decide +kernel
theorem dL_law_1250 : decode cL_law 1250 = .ok (.iadd, 1) := by decide +kernel
theorem dL_law_1251 : decode cL_law 1251 = .ok (.iaload, 1) := by decide +kernel
theorem dL_law_1252 : decode cL_law 1252 = .ok (.aload_n 3, 1) := by decide +kernel
theorem dL_law_1253 : decode cL_law 1253 = .ok (.invokestatic 194, 3) := by decide +kernel
theorem dL_law_1256 : decode cL_law 1256 = .ok (.istore 6, 2) := by decide +kernel
theorem dL_law_1258 : decode cL_law 1258 = .ok (.aload_n 2, 1) := by decide +kernel
theorem dL_law_1259 : decode cL_law 1259 = .ok (.aload_n 0, 1) := by decide +kernel
theorem dL_law_1260 : decode cL_law 1260 = .ok (.iload 5, 2) := by decide +kernel
theorem dL_law_1262 : decode cL_law 1262 = .ok (.iconst 1, 1) := by decide +kernel
theorem dL_law_1263 : decode cL_law 1263 = .ok (.iadd, 1) := by decide +kernel
theorem dL_law_1264 : decode cL_law 1264 = .ok (.iaload, 1) := by decide +kernel
theorem dL_law_1265 : decode cL_law 1265 = .ok (.invokevirtual 196, 3) := by decide +kernel
theorem dL_law_1268 : decode cL_law 1268 = .ok (.istore 7, 2) := by decide +kernel
theorem dL_law_1270 : decode cL_law 1270 = .ok (.aload_n 2, 1) := by decide +kernel
theorem dL_law_1271 : decode cL_law 1271 = .ok (.invokevirtual 124, 3) := by decide +kernel
theorem dL_law_1274 : decode cL_law 1274 = .ok (.iload 6, 2) := by decide +kernel
theorem dL_law_1276 : decode cL_law 1276 = .ok (.if_icmp .eq 5, 3) := by decide +kernel
theorem dL_law_1279 : decode cL_law 1279 = .ok (.iconst 0, 1) := by decide +kernel
theorem dL_law_1280 : decode cL_law 1280 = .ok (.ireturn, 1) := by decide +kernel
theorem dL_law_1281 : decode cL_law 1281 = .ok (.iload 6, 2) := by decide +kernel
theorem dL_law_1283 : decode cL_law 1283 = .ok (.ifCond .ne 15, 3) := by decide +kernel
theorem dL_law_1286 : decode cL_law 1286 = .ok (.aload_n 3, 1) := by decide +kernel
theorem dL_law_1287 : decode cL_law 1287 = .ok (.iconst 0, 1) := by decide +kernel
theorem dL_law_1288 : decode cL_law 1288 = .ok (.laload, 1) := by decide +kernel
theorem dL_law_1289 : decode cL_law 1289 = .ok (.iload 7, 2) := by decide +kernel
theorem dL_law_1291 : decode cL_law 1291 = .ok (.i2l, 1) := by decide +kernel
theorem dL_law_1292 : decode cL_law 1292 = .ok (.lcmp, 1) := by decide +kernel
theorem dL_law_1293 : decode cL_law 1293 = .ok (.ifCond .eq 5, 3) := by decide +kernel
theorem dL_law_1296 : decode cL_law 1296 = .ok (.iconst 0, 1) := by decide +kernel
theorem dL_law_1297 : decode cL_law 1297 = .ok (.ireturn, 1) := by decide +kernel
theorem dL_law_1298 : decode cL_law 1298 = .ok (.goto 690, 3) := by decide +kernel
theorem dL_law_1301 : decode cL_law 1301 = .ok (.aload_n 1, 1) := by decide +kernel
theorem dL_law_1302 : decode cL_law 1302 = .ok (.aload_n 0, 1) := by decide +kernel
theorem dL_law_1303 : decode cL_law 1303 = .ok (.iload 5, 2) := by decide +kernel
theorem dL_law_1305 : decode cL_law 1305 = .ok (.iconst 1, 1) := by decide +kernel
theorem dL_law_1306 : decode cL_law 1306 = .ok (.iadd, 1) := by decide +kernel
theorem dL_law_1307 : decode cL_law 1307 = .ok (.iaload, 1) := by decide +kernel
theorem dL_law_1308 : decode cL_law 1308 = .ok (.aload_n 3, 1) := by decide +kernel
theorem dL_law_1309 : decode cL_law 1309 = .ok (.invokestatic 197, 3) := by decide +kernel
theorem dL_law_1312 : decode cL_law 1312 = .ok (.istore 6, 2) := by decide +kernel
theorem dL_law_1314 : decode cL_law 1314 = .ok (.aload_n 2, 1) := by decide +kernel
theorem dL_law_1315 : decode cL_law 1315 = .ok (.aload_n 0, 1) := by decide +kernel
theorem dL_law_1316 : decode cL_law 1316 = .ok (.iload 5, 2) := by decide +kernel
theorem dL_law_1318 : decode cL_law 1318 = .ok (.iconst 1, 1) := by decide +kernel
theorem dL_law_1319 : decode cL_law 1319 = .ok (.iadd, 1) := by decide +kernel
theorem dL_law_1320 : decode cL_law 1320 = .ok (.iaload, 1) := by decide +kernel
theorem dL_law_1321 : decode cL_law 1321 = .ok (.invokevirtual 199, 3) := by decide +kernel
theorem dL_law_1324 : decode cL_law 1324 = .ok (.istore 7, 2) := by decide +kernel
theorem dL_law_1326 : decode cL_law 1326 = .ok (.aload_n 2, 1) := by decide +kernel
theorem dL_law_1327 : decode cL_law 1327 = .ok (.invokevirtual 124, 3) := by decide +kernel
theorem dL_law_1330 : decode cL_law 1330 = .ok (.iload 6, 2) := by decide +kernel
theorem dL_law_1332 : decode cL_law 1332 = .ok (.if_icmp .eq 5, 3) := by decide +kernel
theorem dL_law_1335 : decode cL_law 1335 = .ok (.iconst 0, 1) := by decide +kernel
theorem dL_law_1336 : decode cL_law 1336 = .ok (.ireturn, 1) := by decide +kernel
theorem dL_law_1337 : decode cL_law 1337 = .ok (.iload 6, 2) := by decide +kernel
theorem dL_law_1339 : decode cL_law 1339 = .ok (.ifCond .ne 15, 3) := by decide +kernel
theorem dL_law_1342 : decode cL_law 1342 = .ok (.aload_n 3, 1) := by decide +kernel
theorem dL_law_1343 : decode cL_law 1343 = .ok (.iconst 0, 1) := by decide +kernel
theorem dL_law_1344 : decode cL_law 1344 = .ok (.laload, 1) := by decide +kernel
theorem dL_law_1345 : decode cL_law 1345 = .ok (.iload 7, 2) := by decide +kernel
theorem dL_law_1347 : decode cL_law 1347 = .ok (.i2l, 1) := by decide +kernel
theorem dL_law_1348 : decode cL_law 1348 = .ok (.lcmp, 1) := by decide +kernel
theorem dL_law_1349 : decode cL_law 1349 = .ok (.ifCond .eq 5, 3) := by decide +kernel
theorem dL_law_1352 : decode cL_law 1352 = .ok (.iconst 0, 1) := by decide +kernel
theorem dL_law_1353 : decode cL_law 1353 = .ok (.ireturn, 1) := by decide +kernel
theorem dL_law_1354 : decode cL_law 1354 = .ok (.goto 634, 3) := by decide +kernel
theorem dL_law_1357 : decode cL_law 1357 = .ok (.aload_n 1, 1) := by decide +kernel
theorem dL_law_1358 : decode cL_law 1358 = .ok (.aload_n 0, 1) := by decide +kernel
theorem dL_law_1359 : decode cL_law 1359 = .ok (.iload 5, 2) := by decide +kernel
theorem dL_law_1361 : decode cL_law 1361 = .ok (.iconst 1, 1) := by decide +kernel
theorem dL_law_1362 : decode cL_law 1362 = .ok (.iadd, 1) := by decide +kernel
theorem dL_law_1363 : decode cL_law 1363 = .ok (.iaload, 1) := by decide +kernel
theorem dL_law_1364 : decode cL_law 1364 = .ok (.aload_n 3, 1) := by decide +kernel
theorem dL_law_1365 : decode cL_law 1365 = .ok (.invokestatic 200, 3) := by decide +kernel
theorem dL_law_1368 : decode cL_law 1368 = .ok (.istore 6, 2) := by decide +kernel
theorem dL_law_1370 : decode cL_law 1370 = .ok (.aload_n 2, 1) := by decide +kernel
theorem dL_law_1371 : decode cL_law 1371 = .ok (.aload_n 0, 1) := by decide +kernel
theorem dL_law_1372 : decode cL_law 1372 = .ok (.iload 5, 2) := by decide +kernel
theorem dL_law_1374 : decode cL_law 1374 = .ok (.iconst 1, 1) := by decide +kernel
theorem dL_law_1375 : decode cL_law 1375 = .ok (.iadd, 1) := by decide +kernel
theorem dL_law_1376 : decode cL_law 1376 = .ok (.iaload, 1) := by decide +kernel
theorem dL_law_1377 : decode cL_law 1377 = .ok (.invokevirtual 202, 3) := by decide +kernel
theorem dL_law_1380 : decode cL_law 1380 = .ok (.istore 7, 2) := by decide +kernel
theorem dL_law_1382 : decode cL_law 1382 = .ok (.aload_n 2, 1) := by decide +kernel
theorem dL_law_1383 : decode cL_law 1383 = .ok (.invokevirtual 124, 3) := by decide +kernel
theorem dL_law_1386 : decode cL_law 1386 = .ok (.iload 6, 2) := by decide +kernel
theorem dL_law_1388 : decode cL_law 1388 = .ok (.if_icmp .eq 5, 3) := by decide +kernel
theorem dL_law_1391 : decode cL_law 1391 = .ok (.iconst 0, 1) := by decide +kernel
theorem dL_law_1392 : decode cL_law 1392 = .ok (.ireturn, 1) := by decide +kernel
theorem dL_law_1393 : decode cL_law 1393 = .ok (.iload 6, 2) := by decide +kernel
theorem dL_law_1395 : decode cL_law 1395 = .ok (.ifCond .ne 15, 3) := by decide +kernel
theorem dL_law_1398 : decode cL_law 1398 = .ok (.aload_n 3, 1) := by decide +kernel
theorem dL_law_1399 : decode cL_law 1399 = .ok (.iconst 0, 1) := by decide +kernel
theorem dL_law_1400 : decode cL_law 1400 = .ok (.laload, 1) := by decide +kernel
theorem dL_law_1401 : decode cL_law 1401 = .ok (.iload 7, 2) := by decide +kernel
theorem dL_law_1403 : decode cL_law 1403 = .ok (.i2l, 1) := by decide +kernel
theorem dL_law_1404 : decode cL_law 1404 = .ok (.lcmp, 1) := by decide +kernel
theorem dL_law_1405 : decode cL_law 1405 = .ok (.ifCond .eq 5, 3) := by decide +kernel
theorem dL_law_1408 : decode cL_law 1408 = .ok (.iconst 0, 1) := by decide +kernel
theorem dL_law_1409 : decode cL_law 1409 = .ok (.ireturn, 1) := by decide +kernel
theorem dL_law_1410 : decode cL_law 1410 = .ok (.goto 578, 3) := by decide +kernel
theorem dL_law_1413 : decode cL_law 1413 = .ok (.aload_n 1, 1) := by decide +kernel
theorem dL_law_1414 : decode cL_law 1414 = .ok (.aload_n 0, 1) := by decide +kernel
theorem dL_law_1415 : decode cL_law 1415 = .ok (.iload 5, 2) := by decide +kernel
theorem dL_law_1417 : decode cL_law 1417 = .ok (.iconst 1, 1) := by decide +kernel
theorem dL_law_1418 : decode cL_law 1418 = .ok (.iadd, 1) := by decide +kernel
theorem dL_law_1419 : decode cL_law 1419 = .ok (.iaload, 1) := by decide +kernel
theorem dL_law_1420 : decode cL_law 1420 = .ok (.aload_n 3, 1) := by decide +kernel
theorem dL_law_1421 : decode cL_law 1421 = .ok (.invokestatic 203, 3) := by decide +kernel
theorem dL_law_1424 : decode cL_law 1424 = .ok (.istore 6, 2) := by decide +kernel
theorem dL_law_1426 : decode cL_law 1426 = .ok (.aload_n 2, 1) := by decide +kernel
theorem dL_law_1427 : decode cL_law 1427 = .ok (.aload_n 0, 1) := by decide +kernel
theorem dL_law_1428 : decode cL_law 1428 = .ok (.iload 5, 2) := by decide +kernel
theorem dL_law_1430 : decode cL_law 1430 = .ok (.iconst 1, 1) := by decide +kernel
theorem dL_law_1431 : decode cL_law 1431 = .ok (.iadd, 1) := by decide +kernel
theorem dL_law_1432 : decode cL_law 1432 = .ok (.iaload, 1) := by decide +kernel
theorem dL_law_1433 : decode cL_law 1433 = .ok (.invokevirtual 205, 3) := by decide +kernel
theorem dL_law_1436 : decode cL_law 1436 = .ok (.istore 7, 2) := by decide +kernel
theorem dL_law_1438 : decode cL_law 1438 = .ok (.aload_n 2, 1) := by decide +kernel
theorem dL_law_1439 : decode cL_law 1439 = .ok (.invokevirtual 124, 3) := by decide +kernel
theorem dL_law_1442 : decode cL_law 1442 = .ok (.iload 6, 2) := by decide +kernel
theorem dL_law_1444 : decode cL_law 1444 = .ok (.if_icmp .eq 5, 3) := by decide +kernel
theorem dL_law_1447 : decode cL_law 1447 = .ok (.iconst 0, 1) := by decide +kernel
theorem dL_law_1448 : decode cL_law 1448 = .ok (.ireturn, 1) := by decide +kernel
theorem dL_law_1449 : decode cL_law 1449 = .ok (.iload 6, 2) := by decide +kernel
theorem dL_law_1451 : decode cL_law 1451 = .ok (.ifCond .ne 15, 3) := by decide +kernel
theorem dL_law_1454 : decode cL_law 1454 = .ok (.aload_n 3, 1) := by decide +kernel
theorem dL_law_1455 : decode cL_law 1455 = .ok (.iconst 0, 1) := by decide +kernel
theorem dL_law_1456 : decode cL_law 1456 = .ok (.laload, 1) := by decide +kernel
theorem dL_law_1457 : decode cL_law 1457 = .ok (.iload 7, 2) := by decide +kernel
theorem dL_law_1459 : decode cL_law 1459 = .ok (.i2l, 1) := by decide +kernel
theorem dL_law_1460 : decode cL_law 1460 = .ok (.lcmp, 1) := by decide +kernel
theorem dL_law_1461 : decode cL_law 1461 = .ok (.ifCond .eq 5, 3) := by decide +kernel
theorem dL_law_1464 : decode cL_law 1464 = .ok (.iconst 0, 1) := by decide +kernel
theorem dL_law_1465 : decode cL_law 1465 = .ok (.ireturn, 1) := by decide +kernel
theorem dL_law_1466 : decode cL_law 1466 = .ok (.goto 522, 3) := by decide +kernel
theorem dL_law_1469 : decode cL_law 1469 = .ok (.aload_n 1, 1) := by decide +kernel
theorem dL_law_1470 : decode cL_law 1470 = .ok (.aload_n 0, 1) := by decide +kernel
theorem dL_law_1471 : decode cL_law 1471 = .ok (.iload 5, 2) := by decide +kernel
theorem dL_law_1473 : decode cL_law 1473 = .ok (.iconst 1, 1) := by decide +kernel
theorem dL_law_1474 : decode cL_law 1474 = .ok (.iadd, 1) := by decide +kernel
theorem dL_law_1475 : decode cL_law 1475 = .ok (.iaload, 1) := by decide +kernel
theorem dL_law_1476 : decode cL_law 1476 = .ok (.aload_n 3, 1) := by decide +kernel
theorem dL_law_1477 : decode cL_law 1477 = .ok (.invokestatic 206, 3) := by decide +kernel
theorem dL_law_1480 : decode cL_law 1480 = .ok (.istore 6, 2) := by decide +kernel
theorem dL_law_1482 : decode cL_law 1482 = .ok (.aload_n 2, 1) := by decide +kernel
theorem dL_law_1483 : decode cL_law 1483 = .ok (.aload_n 0, 1) := by decide +kernel
theorem dL_law_1484 : decode cL_law 1484 = .ok (.iload 5, 2) := by decide +kernel
theorem dL_law_1486 : decode cL_law 1486 = .ok (.iconst 1, 1) := by decide +kernel
theorem dL_law_1487 : decode cL_law 1487 = .ok (.iadd, 1) := by decide +kernel
theorem dL_law_1488 : decode cL_law 1488 = .ok (.iaload, 1) := by decide +kernel
theorem dL_law_1489 : decode cL_law 1489 = .ok (.invokevirtual 208, 3) := by decide +kernel
theorem dL_law_1492 : decode cL_law 1492 = .ok (.istore 7, 2) := by decide +kernel
theorem dL_law_1494 : decode cL_law 1494 = .ok (.aload_n 2, 1) := by decide +kernel
theorem dL_law_1495 : decode cL_law 1495 = .ok (.invokevirtual 124, 3) := by decide +kernel
theorem dL_law_1498 : decode cL_law 1498 = .ok (.iload 6, 2) := by decide +kernel
theorem dL_law_1500 : decode cL_law 1500 = .ok (.if_icmp .eq 5, 3) := by decide +kernel
theorem dL_law_1503 : decode cL_law 1503 = .ok (.iconst 0, 1) := by decide +kernel
theorem dL_law_1504 : decode cL_law 1504 = .ok (.ireturn, 1) := by decide +kernel
theorem dL_law_1505 : decode cL_law 1505 = .ok (.iload 6, 2) := by decide +kernel
theorem dL_law_1507 : decode cL_law 1507 = .ok (.ifCond .ne 15, 3) := by decide +kernel
theorem dL_law_1510 : decode cL_law 1510 = .ok (.aload_n 3, 1) := by decide +kernel
theorem dL_law_1511 : decode cL_law 1511 = .ok (.iconst 0, 1) := by decide +kernel
theorem dL_law_1512 : decode cL_law 1512 = .ok (.laload, 1) := by decide +kernel
theorem dL_law_1513 : decode cL_law 1513 = .ok (.iload 7, 2) := by decide +kernel
theorem dL_law_1515 : decode cL_law 1515 = .ok (.i2l, 1) := by decide +kernel
theorem dL_law_1516 : decode cL_law 1516 = .ok (.lcmp, 1) := by decide +kernel
theorem dL_law_1517 : decode cL_law 1517 = .ok (.ifCond .eq 5, 3) := by decide +kernel
theorem dL_law_1520 : decode cL_law 1520 = .ok (.iconst 0, 1) := by decide +kernel
theorem dL_law_1521 : decode cL_law 1521 = .ok (.ireturn, 1) := by decide +kernel
theorem dL_law_1522 : decode cL_law 1522 = .ok (.goto 466, 3) := by decide +kernel
theorem dL_law_1525 : decode cL_law 1525 = .ok (.aload_n 1, 1) := by decide +kernel
theorem dL_law_1526 : decode cL_law 1526 = .ok (.aload_n 0, 1) := by decide +kernel
theorem dL_law_1527 : decode cL_law 1527 = .ok (.iload 5, 2) := by decide +kernel
theorem dL_law_1529 : decode cL_law 1529 = .ok (.iconst 1, 1) := by decide +kernel
theorem dL_law_1530 : decode cL_law 1530 = .ok (.iadd, 1) := by decide +kernel
theorem dL_law_1531 : decode cL_law 1531 = .ok (.iaload, 1) := by decide +kernel
theorem dL_law_1532 : decode cL_law 1532 = .ok (.aload_n 3, 1) := by decide +kernel
theorem dL_law_1533 : decode cL_law 1533 = .ok (.invokestatic 209, 3) := by decide +kernel
theorem dL_law_1536 : decode cL_law 1536 = .ok (.istore 6, 2) := by decide +kernel
theorem dL_law_1538 : decode cL_law 1538 = .ok (.aload_n 2, 1) := by decide +kernel
theorem dL_law_1539 : decode cL_law 1539 = .ok (.aload_n 0, 1) := by decide +kernel
theorem dL_law_1540 : decode cL_law 1540 = .ok (.iload 5, 2) := by decide +kernel
theorem dL_law_1542 : decode cL_law 1542 = .ok (.iconst 1, 1) := by decide +kernel
theorem dL_law_1543 : decode cL_law 1543 = .ok (.iadd, 1) := by decide +kernel
theorem dL_law_1544 : decode cL_law 1544 = .ok (.iaload, 1) := by decide +kernel
theorem dL_law_1545 : decode cL_law 1545 = .ok (.invokevirtual 211, 3) := by decide +kernel
theorem dL_law_1548 : decode cL_law 1548 = .ok (.istore 7, 2) := by decide +kernel
theorem dL_law_1550 : decode cL_law 1550 = .ok (.aload_n 2, 1) := by decide +kernel
theorem dL_law_1551 : decode cL_law 1551 = .ok (.invokevirtual 124, 3) := by decide +kernel
theorem dL_law_1554 : decode cL_law 1554 = .ok (.iload 6, 2) := by decide +kernel
theorem dL_law_1556 : decode cL_law 1556 = .ok (.if_icmp .eq 5, 3) := by decide +kernel
theorem dL_law_1559 : decode cL_law 1559 = .ok (.iconst 0, 1) := by decide +kernel
theorem dL_law_1560 : decode cL_law 1560 = .ok (.ireturn, 1) := by decide +kernel
theorem dL_law_1561 : decode cL_law 1561 = .ok (.iload 6, 2) := by decide +kernel
theorem dL_law_1563 : decode cL_law 1563 = .ok (.ifCond .ne 15, 3) := by decide +kernel
theorem dL_law_1566 : decode cL_law 1566 = .ok (.aload_n 3, 1) := by decide +kernel
theorem dL_law_1567 : decode cL_law 1567 = .ok (.iconst 0, 1) := by decide +kernel
theorem dL_law_1568 : decode cL_law 1568 = .ok (.laload, 1) := by decide +kernel
theorem dL_law_1569 : decode cL_law 1569 = .ok (.iload 7, 2) := by decide +kernel
theorem dL_law_1571 : decode cL_law 1571 = .ok (.i2l, 1) := by decide +kernel
theorem dL_law_1572 : decode cL_law 1572 = .ok (.lcmp, 1) := by decide +kernel
theorem dL_law_1573 : decode cL_law 1573 = .ok (.ifCond .eq 5, 3) := by decide +kernel
theorem dL_law_1576 : decode cL_law 1576 = .ok (.iconst 0, 1) := by decide +kernel
theorem dL_law_1577 : decode cL_law 1577 = .ok (.ireturn, 1) := by decide +kernel
theorem dL_law_1578 : decode cL_law 1578 = .ok (.goto 410, 3) := by decide +kernel
theorem dL_law_1581 : decode cL_law 1581 = .ok (.aload_n 1, 1) := by decide +kernel
theorem dL_law_1582 : decode cL_law 1582 = .ok (.aload_n 0, 1) := by decide +kernel
theorem dL_law_1583 : decode cL_law 1583 = .ok (.iload 5, 2) := by decide +kernel
theorem dL_law_1585 : decode cL_law 1585 = .ok (.iconst 1, 1) := by decide +kernel
theorem dL_law_1586 : decode cL_law 1586 = .ok (.iadd, 1) := by decide +kernel
theorem dL_law_1587 : decode cL_law 1587 = .ok (.iaload, 1) := by decide +kernel
theorem dL_law_1588 : decode cL_law 1588 = .ok (.aload_n 3, 1) := by decide +kernel
theorem dL_law_1589 : decode cL_law 1589 = .ok (.invokestatic 212, 3) := by decide +kernel
theorem dL_law_1592 : decode cL_law 1592 = .ok (.istore 6, 2) := by decide +kernel
theorem dL_law_1594 : decode cL_law 1594 = .ok (.aload_n 2, 1) := by decide +kernel
theorem dL_law_1595 : decode cL_law 1595 = .ok (.aload_n 0, 1) := by decide +kernel
theorem dL_law_1596 : decode cL_law 1596 = .ok (.iload 5, 2) := by decide +kernel
theorem dL_law_1598 : decode cL_law 1598 = .ok (.iconst 1, 1) := by decide +kernel
theorem dL_law_1599 : decode cL_law 1599 = .ok (.iadd, 1) := by decide +kernel
theorem dL_law_1600 : decode cL_law 1600 = .ok (.iaload, 1) := by decide +kernel
theorem dL_law_1601 : decode cL_law 1601 = .ok (.invokevirtual 214, 3) := by decide +kernel
theorem dL_law_1604 : decode cL_law 1604 = .ok (.istore 7, 2) := by decide +kernel
theorem dL_law_1606 : decode cL_law 1606 = .ok (.aload_n 2, 1) := by decide +kernel
theorem dL_law_1607 : decode cL_law 1607 = .ok (.invokevirtual 124, 3) := by decide +kernel
theorem dL_law_1610 : decode cL_law 1610 = .ok (.iload 6, 2) := by decide +kernel
theorem dL_law_1612 : decode cL_law 1612 = .ok (.if_icmp .eq 5, 3) := by decide +kernel
theorem dL_law_1615 : decode cL_law 1615 = .ok (.iconst 0, 1) := by decide +kernel
theorem dL_law_1616 : decode cL_law 1616 = .ok (.ireturn, 1) := by decide +kernel
theorem dL_law_1617 : decode cL_law 1617 = .ok (.iload 6, 2) := by decide +kernel
theorem dL_law_1619 : decode cL_law 1619 = .ok (.ifCond .ne 15, 3) := by decide +kernel
theorem dL_law_1622 : decode cL_law 1622 = .ok (.aload_n 3, 1) := by decide +kernel
theorem dL_law_1623 : decode cL_law 1623 = .ok (.iconst 0, 1) := by decide +kernel
theorem dL_law_1624 : decode cL_law 1624 = .ok (.laload, 1) := by decide +kernel
theorem dL_law_1625 : decode cL_law 1625 = .ok (.iload 7, 2) := by decide +kernel
theorem dL_law_1627 : decode cL_law 1627 = .ok (.i2l, 1) := by decide +kernel
theorem dL_law_1628 : decode cL_law 1628 = .ok (.lcmp, 1) := by decide +kernel
theorem dL_law_1629 : decode cL_law 1629 = .ok (.ifCond .eq 5, 3) := by decide +kernel
theorem dL_law_1632 : decode cL_law 1632 = .ok (.iconst 0, 1) := by decide +kernel
theorem dL_law_1633 : decode cL_law 1633 = .ok (.ireturn, 1) := by decide +kernel
theorem dL_law_1634 : decode cL_law 1634 = .ok (.goto 354, 3) := by decide +kernel
theorem dL_law_1637 : decode cL_law 1637 = .ok (.aload_n 1, 1) := by decide +kernel
theorem dL_law_1638 : decode cL_law 1638 = .ok (.invokevirtual 215, 3) := by decide +kernel
theorem dL_law_1641 : decode cL_law 1641 = .ok (.aload_n 2, 1) := by decide +kernel
theorem dL_law_1642 : decode cL_law 1642 = .ok (.invokevirtual 218, 3) := by decide +kernel
theorem dL_law_1645 : decode cL_law 1645 = .ok (.if_icmp .eq 343, 3) := by decide +kernel
theorem dL_law_1648 : decode cL_law 1648 = .ok (.iconst 0, 1) := by decide +kernel
theorem dL_law_1649 : decode cL_law 1649 = .ok (.ireturn, 1) := by decide +kernel
theorem dL_law_1650 : decode cL_law 1650 = .ok (.aload_n 1, 1) := by decide +kernel
theorem dL_law_1651 : decode cL_law 1651 = .ok (.aload_n 0, 1) := by decide +kernel
theorem dL_law_1652 : decode cL_law 1652 = .ok (.iload 5, 2) := by decide +kernel
theorem dL_law_1654 : decode cL_law 1654 = .ok (.iconst 1, 1) := by decide +kernel
theorem dL_law_1655 : decode cL_law 1655 = .ok (.iadd, 1) := by decide +kernel
theorem dL_law_1656 : decode cL_law 1656 = .ok (.iaload, 1) := by decide +kernel
theorem dL_law_1657 : decode cL_law 1657 = .ok (.aload_n 3, 1) := by decide +kernel
theorem dL_law_1658 : decode cL_law 1658 = .ok (.invokestatic 219, 3) := by decide +kernel
theorem dL_law_1661 : decode cL_law 1661 = .ok (.istore 6, 2) := by decide +kernel
theorem dL_law_1663 : decode cL_law 1663 = .ok (.aload_n 2, 1) := by decide +kernel
theorem dL_law_1664 : decode cL_law 1664 = .ok (.aload_n 0, 1) := by decide +kernel
theorem dL_law_1665 : decode cL_law 1665 = .ok (.iload 5, 2) := by decide +kernel
theorem dL_law_1667 : decode cL_law 1667 = .ok (.iconst 1, 1) := by decide +kernel
theorem dL_law_1668 : decode cL_law 1668 = .ok (.iadd, 1) := by decide +kernel
theorem dL_law_1669 : decode cL_law 1669 = .ok (.iaload, 1) := by decide +kernel
theorem dL_law_1670 : decode cL_law 1670 = .ok (.invokevirtual 221, 3) := by decide +kernel
theorem dL_law_1673 : decode cL_law 1673 = .ok (.istore 7, 2) := by decide +kernel
theorem dL_law_1675 : decode cL_law 1675 = .ok (.aload_n 2, 1) := by decide +kernel
theorem dL_law_1676 : decode cL_law 1676 = .ok (.invokevirtual 124, 3) := by decide +kernel
theorem dL_law_1679 : decode cL_law 1679 = .ok (.iload 6, 2) := by decide +kernel
theorem dL_law_1681 : decode cL_law 1681 = .ok (.if_icmp .eq 5, 3) := by decide +kernel
theorem dL_law_1684 : decode cL_law 1684 = .ok (.iconst 0, 1) := by decide +kernel
theorem dL_law_1685 : decode cL_law 1685 = .ok (.ireturn, 1) := by decide +kernel
theorem dL_law_1686 : decode cL_law 1686 = .ok (.iload 6, 2) := by decide +kernel
theorem dL_law_1688 : decode cL_law 1688 = .ok (.ifCond .ne 15, 3) := by decide +kernel
theorem dL_law_1691 : decode cL_law 1691 = .ok (.aload_n 3, 1) := by decide +kernel
theorem dL_law_1692 : decode cL_law 1692 = .ok (.iconst 0, 1) := by decide +kernel
theorem dL_law_1693 : decode cL_law 1693 = .ok (.laload, 1) := by decide +kernel
theorem dL_law_1694 : decode cL_law 1694 = .ok (.iload 7, 2) := by decide +kernel
theorem dL_law_1696 : decode cL_law 1696 = .ok (.i2l, 1) := by decide +kernel
theorem dL_law_1697 : decode cL_law 1697 = .ok (.lcmp, 1) := by decide +kernel
theorem dL_law_1698 : decode cL_law 1698 = .ok (.ifCond .eq 5, 3) := by decide +kernel
theorem dL_law_1701 : decode cL_law 1701 = .ok (.iconst 0, 1) := by decide +kernel
theorem dL_law_1702 : decode cL_law 1702 = .ok (.ireturn, 1) := by decide +kernel
theorem dL_law_1703 : decode cL_law 1703 = .ok (.goto 285, 3) := by decide +kernel
theorem dL_law_1706 : decode cL_law 1706 = .ok (.aload_n 1, 1) := by decide +kernel
theorem dL_law_1707 : decode cL_law 1707 = .ok (.aload_n 0, 1) := by decide +kernel
theorem dL_law_1708 : decode cL_law 1708 = .ok (.iload 5, 2) := by decide +kernel
theorem dL_law_1710 : decode cL_law 1710 = .ok (.iconst 1, 1) := by decide +kernel
theorem dL_law_1711 : decode cL_law 1711 = .ok (.iadd, 1) := by decide +kernel
theorem dL_law_1712 : decode cL_law 1712 = .ok (.iaload, 1) := by decide +kernel
theorem dL_law_1713 : decode cL_law 1713 = .ok (.aload_n 0, 1) := by decide +kernel
theorem dL_law_1714 : decode cL_law 1714 = .ok (.iload 5, 2) := by decide +kernel
theorem dL_law_1716 : decode cL_law 1716 = .ok (.iconst 2, 1) := by decide +kernel
theorem dL_law_1717 : decode cL_law 1717 = .ok (.iadd, 1) := by decide +kernel
theorem dL_law_1718 : decode cL_law 1718 = .ok (.iaload, 1) := by decide +kernel
theorem dL_law_1719 : decode cL_law 1719 = .ok (.aload_n 3, 1) := by decide +kernel
theorem dL_law_1720 : decode cL_law 1720 = .ok (.invokestatic 222, 3) := by decide +kernel
theorem dL_law_1723 : decode cL_law 1723 = .ok (.istore 6, 2) := by decide +kernel
theorem dL_law_1725 : decode cL_law 1725 = .ok (.aload_n 2, 1) := by decide +kernel
theorem dL_law_1726 : decode cL_law 1726 = .ok (.aload_n 0, 1) := by decide +kernel
theorem dL_law_1727 : decode cL_law 1727 = .ok (.iload 5, 2) := by decide +kernel
theorem dL_law_1729 : decode cL_law 1729 = .ok (.iconst 1, 1) := by decide +kernel
theorem dL_law_1730 : decode cL_law 1730 = .ok (.iadd, 1) := by decide +kernel
theorem dL_law_1731 : decode cL_law 1731 = .ok (.iaload, 1) := by decide +kernel
theorem dL_law_1732 : decode cL_law 1732 = .ok (.aload_n 0, 1) := by decide +kernel
theorem dL_law_1733 : decode cL_law 1733 = .ok (.iload 5, 2) := by decide +kernel
theorem dL_law_1735 : decode cL_law 1735 = .ok (.iconst 2, 1) := by decide +kernel
theorem dL_law_1736 : decode cL_law 1736 = .ok (.iadd, 1) := by decide +kernel
theorem dL_law_1737 : decode cL_law 1737 = .ok (.iaload, 1) := by decide +kernel
theorem dL_law_1738 : decode cL_law 1738 = .ok (.invokevirtual 224, 3) := by decide +kernel
theorem dL_law_1741 : decode cL_law 1741 = .ok (.istore 7, 2) := by decide +kernel
theorem dL_law_1743 : decode cL_law 1743 = .ok (.aload_n 2, 1) := by decide +kernel
theorem dL_law_1744 : decode cL_law 1744 = .ok (.invokevirtual 124, 3) := by decide +kernel
theorem dL_law_1747 : decode cL_law 1747 = .ok (.iload 6, 2) := by decide +kernel
theorem dL_law_1749 : decode cL_law 1749 = .ok (.if_icmp .eq 5, 3) := by decide +kernel
theorem dL_law_1752 : decode cL_law 1752 = .ok (.iconst 0, 1) := by decide +kernel
theorem dL_law_1753 : decode cL_law 1753 = .ok (.ireturn, 1) := by decide +kernel
theorem dL_law_1754 : decode cL_law 1754 = .ok (.iload 6, 2) := by decide +kernel
theorem dL_law_1756 : decode cL_law 1756 = .ok (.ifCond .ne 15, 3) := by decide +kernel
theorem dL_law_1759 : decode cL_law 1759 = .ok (.aload_n 3, 1) := by decide +kernel
theorem dL_law_1760 : decode cL_law 1760 = .ok (.iconst 0, 1) := by decide +kernel
theorem dL_law_1761 : decode cL_law 1761 = .ok (.laload, 1) := by decide +kernel
theorem dL_law_1762 : decode cL_law 1762 = .ok (.iload 7, 2) := by decide +kernel
theorem dL_law_1764 : decode cL_law 1764 = .ok (.i2l, 1) := by decide +kernel
theorem dL_law_1765 : decode cL_law 1765 = .ok (.lcmp, 1) := by decide +kernel
theorem dL_law_1766 : decode cL_law 1766 = .ok (.ifCond .eq 5, 3) := by decide +kernel
theorem dL_law_1769 : decode cL_law 1769 = .ok (.iconst 0, 1) := by decide +kernel
theorem dL_law_1770 : decode cL_law 1770 = .ok (.ireturn, 1) := by decide +kernel
theorem dL_law_1771 : decode cL_law 1771 = .ok (.goto 217, 3) := by decide +kernel
theorem dL_law_1774 : decode cL_law 1774 = .ok (.aload_n 1, 1) := by decide +kernel
theorem dL_law_1775 : decode cL_law 1775 = .ok (.aload_n 0, 1) := by decide +kernel
theorem dL_law_1776 : decode cL_law 1776 = .ok (.iload 5, 2) := by decide +kernel
theorem dL_law_1778 : decode cL_law 1778 = .ok (.iconst 1, 1) := by decide +kernel
theorem dL_law_1779 : decode cL_law 1779 = .ok (.iadd, 1) := by decide +kernel
theorem dL_law_1780 : decode cL_law 1780 = .ok (.iaload, 1) := by decide +kernel
theorem dL_law_1781 : decode cL_law 1781 = .ok (.aload_n 3, 1) := by decide +kernel
theorem dL_law_1782 : decode cL_law 1782 = .ok (.invokestatic 225, 3) := by decide +kernel
theorem dL_law_1785 : decode cL_law 1785 = .ok (.istore 6, 2) := by decide +kernel
theorem dL_law_1787 : decode cL_law 1787 = .ok (.aload_n 2, 1) := by decide +kernel
theorem dL_law_1788 : decode cL_law 1788 = .ok (.aload_n 0, 1) := by decide +kernel
theorem dL_law_1789 : decode cL_law 1789 = .ok (.iload 5, 2) := by decide +kernel
theorem dL_law_1791 : decode cL_law 1791 = .ok (.iconst 1, 1) := by decide +kernel
theorem dL_law_1792 : decode cL_law 1792 = .ok (.iadd, 1) := by decide +kernel
theorem dL_law_1793 : decode cL_law 1793 = .ok (.iaload, 1) := by decide +kernel
theorem dL_law_1794 : decode cL_law 1794 = .ok (.invokevirtual 227, 3) := by decide +kernel
theorem dL_law_1797 : decode cL_law 1797 = .ok (.istore 7, 2) := by decide +kernel
theorem dL_law_1799 : decode cL_law 1799 = .ok (.aload_n 2, 1) := by decide +kernel
theorem dL_law_1800 : decode cL_law 1800 = .ok (.invokevirtual 124, 3) := by decide +kernel
theorem dL_law_1803 : decode cL_law 1803 = .ok (.iload 6, 2) := by decide +kernel
theorem dL_law_1805 : decode cL_law 1805 = .ok (.if_icmp .eq 5, 3) := by decide +kernel
theorem dL_law_1808 : decode cL_law 1808 = .ok (.iconst 0, 1) := by decide +kernel
theorem dL_law_1809 : decode cL_law 1809 = .ok (.ireturn, 1) := by decide +kernel
theorem dL_law_1810 : decode cL_law 1810 = .ok (.iload 6, 2) := by decide +kernel
theorem dL_law_1812 : decode cL_law 1812 = .ok (.ifCond .ne 15, 3) := by decide +kernel
theorem dL_law_1815 : decode cL_law 1815 = .ok (.aload_n 3, 1) := by decide +kernel
theorem dL_law_1816 : decode cL_law 1816 = .ok (.iconst 0, 1) := by decide +kernel
theorem dL_law_1817 : decode cL_law 1817 = .ok (.laload, 1) := by decide +kernel
theorem dL_law_1818 : decode cL_law 1818 = .ok (.iload 7, 2) := by decide +kernel
theorem dL_law_1820 : decode cL_law 1820 = .ok (.i2l, 1) := by decide +kernel
theorem dL_law_1821 : decode cL_law 1821 = .ok (.lcmp, 1) := by decide +kernel
theorem dL_law_1822 : decode cL_law 1822 = .ok (.ifCond .eq 5, 3) := by decide +kernel
theorem dL_law_1825 : decode cL_law 1825 = .ok (.iconst 0, 1) := by decide +kernel
theorem dL_law_1826 : decode cL_law 1826 = .ok (.ireturn, 1) := by decide +kernel
theorem dL_law_1827 : decode cL_law 1827 = .ok (.goto 161, 3) := by decide +kernel
theorem dL_law_1830 : decode cL_law 1830 = .ok (.aload_n 1, 1) := by decide +kernel
theorem dL_law_1831 : decode cL_law 1831 = .ok (.invokevirtual 228, 3) := by decide +kernel
theorem dL_law_1834 : decode cL_law 1834 = .ok (.aload_n 2, 1) := by decide +kernel
theorem dL_law_1835 : decode cL_law 1835 = .ok (.invokevirtual 231, 3) := by decide +kernel
theorem dL_law_1838 : decode cL_law 1838 = .ok (.lcmp, 1) := by decide +kernel
theorem dL_law_1839 : decode cL_law 1839 = .ok (.ifCond .eq 149, 3) := by decide +kernel
theorem dL_law_1842 : decode cL_law 1842 = .ok (.iconst 0, 1) := by decide +kernel
theorem dL_law_1843 : decode cL_law 1843 = .ok (.ireturn, 1) := by decide +kernel
theorem dL_law_1844 : decode cL_law 1844 = .ok (.aload_n 1, 1) := by decide +kernel
theorem dL_law_1845 : decode cL_law 1845 = .ok (.aload 4, 2) := by decide +kernel
theorem dL_law_1847 : decode cL_law 1847 = .ok (.invokestatic 232, 3) := by decide +kernel
theorem dL_law_1850 : decode cL_law 1850 = .ok (.istore 6, 2) := by decide +kernel
theorem dL_law_1852 : decode cL_law 1852 = .ok (.aload_n 2, 1) := by decide +kernel
theorem dL_law_1853 : decode cL_law 1853 = .ok (.invokevirtual 235, 3) := by decide +kernel
theorem dL_law_1856 : decode cL_law 1856 = .ok (.dstore 7, 2) := by decide +kernel
theorem dL_law_1858 : decode cL_law 1858 = .ok (.aload_n 2, 1) := by decide +kernel
theorem dL_law_1859 : decode cL_law 1859 = .ok (.invokevirtual 124, 3) := by decide +kernel
theorem dL_law_1862 : decode cL_law 1862 = .ok (.iload 6, 2) := by decide +kernel
theorem dL_law_1864 : decode cL_law 1864 = .ok (.if_icmp .eq 5, 3) := by decide +kernel
theorem dL_law_1867 : decode cL_law 1867 = .ok (.iconst 0, 1) := by decide +kernel
theorem dL_law_1868 : decode cL_law 1868 = .ok (.ireturn, 1) := by decide +kernel
theorem dL_law_1869 : decode cL_law 1869 = .ok (.iload 6, 2) := by decide +kernel
theorem dL_law_1871 : decode cL_law 1871 = .ok (.ifCond .ne 35, 3) := by decide +kernel
theorem dL_law_1874 : decode cL_law 1874 = .ok (.aload 4, 2) := by decide +kernel
theorem dL_law_1876 : decode cL_law 1876 = .ok (.iconst 0, 1) := by decide +kernel
theorem dL_law_1877 : decode cL_law 1877 = .ok (.daload, 1) := by decide +kernel
theorem dL_law_1878 : decode cL_law 1878 = .ok (.dload 7, 2) := by decide +kernel
theorem dL_law_1880 : decode cL_law 1880 = .ok (.dcmp .l, 1) := by decide +kernel
theorem dL_law_1881 : decode cL_law 1881 = .ok (.ifCond .eq 25, 3) := by decide +kernel
theorem dL_law_1884 : decode cL_law 1884 = .ok (.aload 4, 2) := by decide +kernel
theorem dL_law_1886 : decode cL_law 1886 = .ok (.iconst 0, 1) := by decide +kernel
theorem dL_law_1887 : decode cL_law 1887 = .ok (.daload, 1) := by decide +kernel
theorem dL_law_1888 : decode cL_law 1888 = .ok (.aload 4, 2) := by decide +kernel
theorem dL_law_1890 : decode cL_law 1890 = .ok (.iconst 0, 1) := by decide +kernel
theorem dL_law_1891 : decode cL_law 1891 = .ok (.daload, 1) := by decide +kernel
theorem dL_law_1892 : decode cL_law 1892 = .ok (.dcmp .l, 1) := by decide +kernel
theorem dL_law_1893 : decode cL_law 1893 = .ok (.ifCond .eq 11, 3) := by decide +kernel
theorem dL_law_1896 : decode cL_law 1896 = .ok (.dload 7, 2) := by decide +kernel
theorem dL_law_1898 : decode cL_law 1898 = .ok (.dload 7, 2) := by decide +kernel
theorem dL_law_1900 : decode cL_law 1900 = .ok (.dcmp .l, 1) := by decide +kernel
theorem dL_law_1901 : decode cL_law 1901 = .ok (.ifCond .ne 5, 3) := by decide +kernel
theorem dL_law_1904 : decode cL_law 1904 = .ok (.iconst 0, 1) := by decide +kernel
theorem dL_law_1905 : decode cL_law 1905 = .ok (.ireturn, 1) := by decide +kernel
theorem dL_law_1906 : decode cL_law 1906 = .ok (.goto 82, 3) := by decide +kernel
theorem dL_law_1909 : decode cL_law 1909 = .ok (.aload_n 1, 1) := by decide +kernel
theorem dL_law_1910 : decode cL_law 1910 = .ok (.aload 4, 2) := by decide +kernel
theorem dL_law_1912 : decode cL_law 1912 = .ok (.invokestatic 236, 3) := by decide +kernel
theorem dL_law_1915 : decode cL_law 1915 = .ok (.istore 6, 2) := by decide +kernel
theorem dL_law_1917 : decode cL_law 1917 = .ok (.aload_n 2, 1) := by decide +kernel
theorem dL_law_1918 : decode cL_law 1918 = .ok (.invokevirtual 238, 3) := by decide +kernel
theorem dL_law_1921 : decode cL_law 1921 = .ok (.fstore 7, 2) := by decide +kernel
theorem dL_law_1923 : decode cL_law 1923 = .ok (.aload_n 2, 1) := by decide +kernel
theorem dL_law_1924 : decode cL_law 1924 = .ok (.invokevirtual 124, 3) := by decide +kernel
theorem dL_law_1927 : decode cL_law 1927 = .ok (.iload 6, 2) := by decide +kernel
theorem dL_law_1929 : decode cL_law 1929 = .ok (.if_icmp .eq 5, 3) := by decide +kernel
theorem dL_law_1932 : decode cL_law 1932 = .ok (.iconst 0, 1) := by decide +kernel
theorem dL_law_1933 : decode cL_law 1933 = .ok (.ireturn, 1) := by decide +kernel
theorem dL_law_1934 : decode cL_law 1934 = .ok (.iload 6, 2) := by decide +kernel
theorem dL_law_1936 : decode cL_law 1936 = .ok (.ifCond .ne 36, 3) := by decide +kernel
theorem dL_law_1939 : decode cL_law 1939 = .ok (.aload 4, 2) := by decide +kernel
theorem dL_law_1941 : decode cL_law 1941 = .ok (.iconst 0, 1) := by decide +kernel
theorem dL_law_1942 : decode cL_law 1942 = .ok (.daload, 1) := by decide +kernel
theorem dL_law_1943 : decode cL_law 1943 = .ok (.fload 7, 2) := by decide +kernel
theorem dL_law_1945 : decode cL_law 1945 = .ok (.f2d, 1) := by decide +kernel
theorem dL_law_1946 : decode cL_law 1946 = .ok (.dcmp .l, 1) := by decide +kernel
theorem dL_law_1947 : decode cL_law 1947 = .ok (.ifCond .eq 25, 3) := by decide +kernel
theorem dL_law_1950 : decode cL_law 1950 = .ok (.aload 4, 2) := by decide +kernel
theorem dL_law_1952 : decode cL_law 1952 = .ok (.iconst 0, 1) := by decide +kernel
theorem dL_law_1953 : decode cL_law 1953 = .ok (.daload, 1) := by decide +kernel
theorem dL_law_1954 : decode cL_law 1954 = .ok (.aload 4, 2) := by decide +kernel
theorem dL_law_1956 : decode cL_law 1956 = .ok (.iconst 0, 1) := by decide +kernel
theorem dL_law_1957 : decode cL_law 1957 = .ok (.daload, 1) := by decide +kernel
theorem dL_law_1958 : decode cL_law 1958 = .ok (.dcmp .l, 1) := by decide +kernel
theorem dL_law_1959 : decode cL_law 1959 = .ok (.ifCond .eq 11, 3) := by decide +kernel
theorem dL_law_1962 : decode cL_law 1962 = .ok (.fload 7, 2) := by decide +kernel
theorem dL_law_1964 : decode cL_law 1964 = .ok (.fload 7, 2) := by decide +kernel
theorem dL_law_1966 : decode cL_law 1966 = .ok (.fcmp .l, 1) := by decide +kernel
theorem dL_law_1967 : decode cL_law 1967 = .ok (.ifCond .ne 5, 3) := by decide +kernel
theorem dL_law_1970 : decode cL_law 1970 = .ok (.iconst 0, 1) := by decide +kernel
theorem dL_law_1971 : decode cL_law 1971 = .ok (.ireturn, 1) := by decide +kernel
theorem dL_law_1972 : decode cL_law 1972 = .ok (.goto 16, 3) := by decide +kernel
theorem dL_law_1975 : decode cL_law 1975 = .ok (.aload_n 1, 1) := by decide +kernel
theorem dL_law_1976 : decode cL_law 1976 = .ok (.invokevirtual 239, 3) := by decide +kernel
theorem dL_law_1979 : decode cL_law 1979 = .ok (.aload_n 2, 1) := by decide +kernel
theorem dL_law_1980 : decode cL_law 1980 = .ok (.invokevirtual 243, 3) := by decide +kernel
theorem dL_law_1983 : decode cL_law 1983 = .ok (.if_icmp .eq 5, 3) := by decide +kernel
theorem dL_law_1986 : decode cL_law 1986 = .ok (.iconst 0, 1) := by decide +kernel
theorem dL_law_1987 : decode cL_law 1987 = .ok (.ireturn, 1) := by decide +kernel
theorem dL_law_1988 : decode cL_law 1988 = .ok (.iinc 5 3, 3) := by decide +kernel
theorem dL_law_1991 : decode cL_law 1991 = .ok (.goto (-1963), 3) := by decide +kernel
theorem dL_law_1994 : decode cL_law 1994 = .ok (.iconst 1, 1) := by decide +kernel
theorem dL_law_1995 : decode cL_law 1995 = .ok (.ireturn, 1) := by decide +kernel
end
section
/-! the small machine: a program's methods by number, its cells by number (1 ..; null is 0), all values whole numbers with a tag -/
abbrev fw_V : Type := Nat × Int
abbrev fw_M : Type := Int → Int → Int
abbrev fw_O : Type := fw_V × fw_M
/-- a step's outcome: on within the method; the method's end; a call (callee, arguments, the stack below them) -/
abbrev fw_A : Type := (Nat × List fw_V × List fw_V × fw_M) ⊕ (fw_O ⊕ (Nat × List fw_V × List fw_V))
def fw_w (x : Int) : Int := x.bmod 4294967296
def fw_wl (x : Int) : Int := x.bmod 18446744073709551616
def fw_u (σ : fw_M) (k j v : Int) : fw_M := fun a b => if a = k ∧ b = j then v else σ a b
/-- a new cell of n slots, all 0; row -1 holds the next cell's number, how many cells and slots were made -/
def fw_nw (σ : fw_M) (n : Int) : fw_M := fun a b => if a = σ (-1) 0 then 0 else if a = -1 then (if b = 0 then σ (-1) 0 + 1 else if b = 1 then σ (-1) 1 + 1 else if b = 2 then σ (-1) 2 + n else σ a b) else σ a b
/-- an exception's cell: counted, not numbered -/
def fw_ex (σ : fw_M) : fw_M := fun a b => if a = -1 then (if b = 1 then σ (-1) 1 + 1 else if b = 2 then σ (-1) 2 + 6 else σ a b) else σ a b
def fw_g : List fw_V → Nat → fw_V
  | [], _ => (8, 0)
  | a :: _, 0 => a
  | _ :: l, n + 1 => fw_g l n
def fw_CN : Nat → String
  | 0 => RX0
  | 1 => RX1
  | 2 => RX2
  | 3 => RX3
  | 4 => RX4
  | 5 => RX5
  | 6 => RX6
  | 7 => RX7
  | 8 => RX8
  | 9 => RX9
  | _ => RL
def fw_CT : Nat → u_T
  | 0 => TX0
  | 1 => TX1
  | 2 => TX2
  | 3 => TX3
  | 4 => TX4
  | 5 => TX5
  | 6 => TX6
  | 7 => TX7
  | 8 => TX8
  | _ => TX9
def fw_ty : Nat → Nat → FieldType
  | 0 => tyX0
  | 1 => tyX1
  | 2 => tyX2
  | 3 => tyX3
  | 4 => tyX4
  | 5 => tyX5
  | 6 => tyX6
  | 7 => tyX7
  | 8 => tyX8
  | _ => tyX9
def fw_nf : Nat → Nat
  | 0 => 4
  | 1 => 6
  | 2 => 3
  | 3 => 9
  | 4 => 10
  | 5 => 2
  | 6 => 7
  | 7 => 4
  | 8 => 9
  | 9 => 35
  | _ => 0
/-- kinds of fields: 0 int, 1 long, 2 reference, 10 boolean -/
def fw_fkT : List (List Nat) := [[2, 2, 0, 0], [0, 2, 0, 10, 0, 0], [2, 2, 0], [2, 2, 2, 2, 2, 2, 2, 2, 0], [2, 2, 2, 2, 2, 0, 0, 0, 1, 1], [2, 0], [2, 2, 0, 0, 0, 10, 10], [2, 2, 2, 2], [2, 2, 2, 2, 2, 2, 2, 2, 1], [0, 0, 2, 0, 2, 2, 2, 10, 10, 0, 0, 2, 2, 2, 2, 0, 1, 0, 0, 0, 2, 2, 2, 2, 2, 0, 2, 2, 2, 1, 2, 2, 2, 2, 2]]
def fw_fk (c j : Nat) : Nat := (fw_fkT.getD c []).getD j 0
def fw_tg (f : Nat) : Nat := if f = 10 then 0 else f
/-- what each cell is: 3 + the class's number, or 100 int[], 101 char[], 102 boolean[], 103 long[], 104 double[], 105 CrossdockSorter$Chute[] -/
def fw_kdT : List Int := [11, 7, 100, 100, 101, 100, 100, 3, 100, 100, 9, 105, 100, 10, 100, 100, 6, 3, 100, 100, 100, 100, 100, 100, 8, 100, 5, 8, 100, 100, 100, 12, 100, 100, 100, 102, 100, 100, 100, 100, 100, 100, 100, 100, 100, 100, 100, 100, 100, 100, 100, 100, 100, 103, 104]
def fw_lnT : List Int := [0, 0, 300, 300, 300, 300, 300, 0, 20, 20, 0, 6, 8, 0, 8, 6, 0, 0, 20, 20, 20, 20, 20, 6, 0, 300, 0, 0, 300, 300, 300, 0, 20, 6, 6, 6, 300, 300, 300, 300, 8, 6, 180, 6, 6, 300, 300, 300, 20, 300, 6, 6, 8, 1, 1]
def fw_kd (k : Int) : Int := if k ≤ 0 then 0 else if k ≤ 55 then fw_kdT.getD (k - 1).toNat 0 else if k % 3 = 2 then 4 else if k % 3 = 0 then 8 else 100
def fw_ln (k : Int) : Int := if k ≤ 0 then 0 else if k ≤ 55 then fw_lnT.getD (k - 1).toNat 0 else 30
def fw_xn : Nat → String
  | 0 => "java/lang/IllegalArgumentException"
  | 1 => "java/lang/IllegalStateException"
  | 2 => "java/lang/UnsupportedOperationException"
  | 3 => "java/lang/IndexOutOfBoundsException"
  | 4 => "java/util/NoSuchElementException"
  | _ => "java/lang/ArithmeticException"
/-- a method: its name, code, locals, answer, class, height, kind (0 of an object, 1 static, 2 constructor, 3 static with handlers, 4 the law), its parameters' tags, handlers (the last number: the exception) -/
abbrev fw_R : Type := MethodName × ByteArray × Nat × Option FieldType × Nat × Nat × Nat × List Nat × List (Nat × Nat × Nat × Nat × Nat)
def fw_tab0 : List fw_R := [(yL_law, cL_law, 9, (some .boolean), 10, 8, 4, [2], []),
  (yX0_init, cX0_init, 1, none, 0, 1, 2, [], []),
  (yX0_makeEmpty, cX0_makeEmpty, 3, none, 0, 0, 0, [0], []),
  (yX0_copyFrom, cX0_copyFrom, 3, none, 0, 0, 0, [2], []),
  (yX0_has, cX0_has, 2, (some (.boolean)), 0, 0, 0, [0], []),
  (yX0_slotOf, cX0_slotOf, 3, (some (.int)), 0, 1, 0, [0], []),
  (yX0_move, cX0_move, 2, none, 0, 2, 0, [], []),
  (yX0_parcelAt, cX0_parcelAt, 3, (some (.int)), 0, 2, 0, [0], []),
  (yX0_roundsAt, cX0_roundsAt, 3, (some (.int)), 0, 2, 0, [0], []),
  (yX0_positionWith, cX0_positionWith, 3, (some (.int)), 0, 3, 0, [0], []),
  (yX0_put, cX0_put, 4, none, 0, 2, 0, [0, 0], []),
  (yX0_takeFrom, cX0_takeFrom, 2, none, 0, 3, 0, [0], []),
  (yX1_init, cX1_init, 3, none, 1, 1, 2, [0, 0], []),
  (yX1_drop, cX1_drop, 2, none, 1, 1, 0, [0], []),
  (yX1_clear, cX1_clear, 1, none, 1, 0, 0, [], []),
  (yX1_keptSeal, cX1_keptSeal, 1, (some (.int)), 1, 0, 0, [], []),
  (yX1_sealOfContent, cX1_sealOfContent, 1, (some (.int)), 1, 2, 0, [], []),
  (yX2_init, cX2_init, 1, none, 2, 1, 2, [], []),
  (yX2_has, cX2_has, 2, (some (.boolean)), 2, 0, 0, [0], []),
  (yX2_take, cX2_take, 4, (some (.int)), 2, 1, 0, [2], []),
  (yX2_startOf, cX2_startOf, 2, (some (.int)), 2, 1, 0, [0], []),
  (yX2_sizeOf, cX2_sizeOf, 2, (some (.int)), 2, 2, 0, [0], []),
  (yX2_parcelAt, cX2_parcelAt, 3, (some (.int)), 2, 2, 0, [0, 0], []),
  (yX2_sealOf, cX2_sealOf, 2, (some (.int)), 2, 3, 0, [0], []),
  (yX3_init, cX3_init, 4, none, 3, 2, 2, [2, 2, 2], []),
  (yX3_byOrigin, cX3_byOrigin, 4, (some (.int)), 3, 5, 0, [0], []),
  (yX3_byTrays, cX3_byTrays, 5, (some (.int)), 3, 5, 0, [0], []),
  (yX3_begin, cX3_begin, 3, none, 3, 1, 0, [], []),
  (yX3_moveOrigin, cX3_moveOrigin, 4, (some (.int)), 3, 4, 0, [], []),
  (yX3_moveTray, cX3_moveTray, 4, (some (.int)), 3, 4, 0, [0], []),
  (yX3_loadTray, cX3_loadTray, 2, none, 3, 1, 0, [0], []),
  (yX3_chuteGets, cX3_chuteGets, 3, (some (.boolean)), 3, 3, 0, [0, 0], []),
  (yX4_init, cX4_init, 1, none, 4, 0, 2, [], []),
  (yX4_has, cX4_has, 2, (some (.boolean)), 4, 0, 0, [0], []),
  (yX4_add, cX4_add, 4, (some (.int)), 4, 0, 0, [0, 0], []),
  (yX4_loadFirst, cX4_loadFirst, 2, (some (.int)), 4, 1, 0, [], []),
  (yX4_leave, cX4_leave, 4, none, 4, 1, 0, [0, 0, 0], []),
  (yX4_enterTruck, cX4_enterTruck, 3, none, 4, 1, 0, [0, 0], []),
  (yX4_routeAt, cX4_routeAt, 2, (some (.int)), 4, 1, 0, [0], []),
  (yX4_stateAt, cX4_stateAt, 2, (some (.char)), 4, 1, 0, [0], []),
  (yX4_lastRoundsAt, cX4_lastRoundsAt, 2, (some (.int)), 4, 1, 0, [0], []),
  (yX4_truckAt, cX4_truckAt, 2, (some (.int)), 4, 1, 0, [0], []),
  (yX4_loadOf, cX4_loadOf, 5, (some (.int)), 4, 0, 0, [0], []),
  (yX5_init, cX5_init, 2, none, 5, 0, 2, [0], []),
  (yX5_at, cX5_at, 2, (some (.int)), 5, 0, 0, [0], []),
  (yX5_add, cX5_add, 2, none, 5, 0, 0, [0], []),
  (yX5_sealOf, cX5_sealOf, 6, (some (.int)), 5, 1, 0, [0, 0], []),
  (yX6_init, cX6_init, 2, none, 6, 0, 2, [], []),
  (yX6_build, cX6_build, 4, (some (.int)), 6, 2, 0, [0, 0], []),
  (yX6_chute, cX6_chute, 2, (some (.object "CrossdockSorter$Chute")), 6, 0, 0, [0], [])]
def fw_tab1 : List fw_R := [(yX6_numberAt, cX6_numberAt, 4, (some (.int)), 6, 1, 0, [0], []),
  (yX6_chuteAt, cX6_chuteAt, 2, (some (.object "CrossdockSorter$Chute")), 6, 2, 0, [0], []),
  (yX6_kindAt, cX6_kindAt, 2, (some (.char)), 6, 3, 0, [0], []),
  (yX6_isJammed, cX6_isJammed, 3, (some (.boolean)), 6, 3, 0, [0], []),
  (yX6_setJammed, cX6_setJammed, 4, none, 6, 3, 0, [0, 0], []),
  (yX6_jams, cX6_jams, 4, (some (.int)), 6, 1, 0, [], []),
  (yX6_hasChuteNotJammed, cX6_hasChuteNotJammed, 3, (some (.boolean)), 6, 1, 0, [], []),
  (yX6_chuteOfRoute, cX6_chuteOfRoute, 2, (some (.int)), 6, 1, 0, [0], []),
  (yX6_send, cX6_send, 3, none, 6, 1, 0, [0, 0], []),
  (yX6_loaderPuts, cX6_loaderPuts, 4, (some (.boolean)), 6, 0, 0, [0, 0, 0], []),
  (yX6_chuteTakes, cX6_chuteTakes, 5, (some (.boolean)), 6, 2, 0, [0, 0, 0], []),
  (yX6_overflowTakes, cX6_overflowTakes, 3, (some (.boolean)), 6, 0, 0, [0, 0], []),
  (yX6_sealsAgree, cX6_sealsAgree, 3, (some (.boolean)), 6, 3, 0, [], []),
  (yX7_init, cX7_init, 3, none, 7, 0, 2, [2, 2], []),
  (yX7_assignAnew, cX7_assignAnew, 3, (some (.int)), 7, 3, 0, [], []),
  (yX7_assignOne, cX7_assignOne, 3, (some (.int)), 7, 2, 0, [0, 0], []),
  (yX7_heaviestRoute, cX7_heaviestRoute, 4, (some (.int)), 7, 0, 0, [], []),
  (yX7_lightestChute, cX7_lightestChute, 5, (some (.int)), 7, 1, 0, [], []),
  (yX8_init, cX8_init, 1, none, 8, 3, 2, [], []),
  (yX8_setLoop, cX8_setLoop, 3, (some (.int)), 8, 1, 0, [0], []),
  (yX8_addChute, cX8_addChute, 3, (some (.int)), 8, 3, 0, [0, 0], []),
  (yX8_setCapacity, cX8_setCapacity, 5, (some (.int)), 8, 2, 0, [0, 0], []),
  (yX8_setLimit, cX8_setLimit, 3, (some (.int)), 8, 0, 0, [0], []),
  (yX8_jam, cX8_jam, 2, (some (.int)), 8, 5, 0, [0], []),
  (yX8_free, cX8_free, 2, (some (.int)), 8, 5, 0, [0], []),
  (yX8_stationAt, cX8_stationAt, 2, (some (.char)), 8, 4, 0, [0], []),
  (yX8_arrive, cX8_arrive, 3, (some (.int)), 8, 1, 0, [0, 0], []),
  (yX8_pass, cX8_pass, 4, (some (.int)), 8, 6, 0, [0], []),
  (yX8_tick, cX8_tick, 1, (some (.long)), 8, 0, 0, [], []),
  (yX8_stateOf, cX8_stateOf, 2, (some (.char)), 8, 2, 0, [0], []),
  (yX8_positionOf, cX8_positionOf, 3, (some (.int)), 8, 4, 0, [0], []),
  (yX8_roundsOf, cX8_roundsOf, 3, (some (.int)), 8, 4, 0, [0], []),
  (yX8_trayAt, cX8_trayAt, 3, (some (.int)), 8, 3, 0, [0], []),
  (yX8_waiting, cX8_waiting, 1, (some (.int)), 8, 0, 0, [], []),
  (yX8_onLoop, cX8_onLoop, 1, (some (.int)), 8, 0, 0, [], []),
  (yX8_overflowed, cX8_overflowed, 1, (some (.int)), 8, 0, 0, [], []),
  (yX8_leavingAhead, cX8_leavingAhead, 2, (some (.int)), 8, 6, 0, [0], []),
  (yX8_leavingByTrays, cX8_leavingByTrays, 2, (some (.int)), 8, 6, 0, [0], []),
  (yX8_startWave, cX8_startWave, 1, (some (.int)), 8, 4, 0, [], []),
  (yX8_assign, cX8_assign, 4, (some (.int)), 8, 2, 0, [0, 0], []),
  (yX8_unassign, cX8_unassign, 3, (some (.int)), 8, 2, 0, [0], []),
  (yX8_chuteFor, cX8_chuteFor, 3, (some (.int)), 8, 2, 0, [0], []),
  (yX8_load, cX8_load, 2, (some (.int)), 8, 2, 0, [0], []),
  (yX8_inChute, cX8_inChute, 2, (some (.int)), 8, 2, 0, [0], []),
  (yX8_seal, cX8_seal, 2, (some (.int)), 8, 2, 0, [0], []),
  (yX8_sealByParcels, cX8_sealByParcels, 2, (some (.int)), 8, 3, 0, [0], []),
  (yX8_dispatch, cX8_dispatch, 6, (some (.int)), 8, 2, 0, [0], []),
  (yX8_trucks, cX8_trucks, 1, (some (.int)), 8, 0, 0, [], []),
  (yX8_sealOfTruck, cX8_sealOfTruck, 2, (some (.int)), 8, 4, 0, [0], []),
  (yX8_parcelIn, cX8_parcelIn, 3, (some (.int)), 8, 3, 0, [0, 0], [])]
def fw_tab2 : List fw_R := [(yX8_truckOf, cX8_truckOf, 2, (some (.int)), 8, 2, 0, [0], []),
  (yX8_shipped, cX8_shipped, 1, (some (.long)), 8, 0, 0, [], []),
  (yX8_meanRounds, cX8_meanRounds, 1, (some (.double)), 8, 1, 0, [], []),
  (yX8_overflowShare, cX8_overflowShare, 1, (some (.float)), 8, 1, 0, [], []),
  (yX8_isOnce, cX8_isOnce, 1, (some (.boolean)), 8, 6, 0, [], []),
  (yX8_isCapacity, cX8_isCapacity, 1, (some (.boolean)), 8, 0, 1, [0], []),
  (yX8_isRoute, cX8_isRoute, 1, (some (.boolean)), 8, 0, 1, [0], []),
  (yX8_requireRoute, cX8_requireRoute, 1, none, 8, 1, 1, [0], []),
  (yX8_requireTicks, cX8_requireTicks, 1, none, 8, 0, 1, [0], []),
  (yX8_requirePosition, cX8_requirePosition, 2, none, 8, 1, 0, [0], []),
  (yX8_requireStation, cX8_requireStation, 2, none, 8, 4, 0, [0], []),
  (yX8_requireParcel, cX8_requireParcel, 2, none, 8, 1, 0, [0], []),
  (yX8_requireChute, cX8_requireChute, 3, (some (.object "CrossdockSorter$Chute")), 8, 1, 0, [0], []),
  (yX8_requireTruck, cX8_requireTruck, 2, none, 8, 1, 0, [0], []),
  (yX8_requireSomeLeft, cX8_requireSomeLeft, 1, none, 8, 0, 0, [], []),
  (yX8_passOneTick, cX8_passOneTick, 3, (some (.int)), 8, 5, 0, [], []),
  (yX8_dropInto, cX8_dropInto, 4, (some (.int)), 8, 4, 0, [0], []),
  (yX8_dropIntoOverflow, cX8_dropIntoOverflow, 3, (some (.int)), 8, 4, 0, [], []),
  (yX8_eachParcelIsOnce, cX8_eachParcelIsOnce, 3, (some (.boolean)), 8, 3, 0, [], []),
  (yX8_seeAll, cX8_seeAll, 3, none, 8, 1, 0, [2], []),
  (yX8_see, cX8_see, 2, none, 8, 0, 0, [0], []),
  (yX9_init, cX9_init, 2, none, 9, 0, 2, [], []),
  (yX9_thrown, cX9_thrown, 1, (some (.int)), 9, 0, 0, [], []),
  (yX9_isIn, cX9_isIn, 3, (some (.boolean)), 9, 0, 1, [0, 0, 0], []),
  (yX9_goesOn, cX9_goesOn, 2, (some (.boolean)), 9, 0, 0, [0], []),
  (yX9_isChute, cX9_isChute, 2, (some (.boolean)), 9, 1, 0, [0], []),
  (yX9_isParcel, cX9_isParcel, 2, (some (.boolean)), 9, 1, 0, [0], []),
  (yX9_isPosition, cX9_isPosition, 2, (some (.boolean)), 9, 1, 0, [0], []),
  (yX9_chuteAt, cX9_chuteAt, 3, (some (.int)), 9, 0, 0, [0], []),
  (yX9_setLoop, cX9_setLoop, 3, (some (.int)), 9, 1, 0, [0], []),
  (yX9_addChute, cX9_addChute, 4, (some (.int)), 9, 1, 0, [0, 0], []),
  (yX9_setCapacity, cX9_setCapacity, 5, (some (.int)), 9, 2, 0, [0, 0], []),
  (yX9_setLimit, cX9_setLimit, 3, (some (.int)), 9, 1, 0, [0], []),
  (yX9_isStation, cX9_isStation, 2, (some (.boolean)), 9, 1, 0, [0], []),
  (yX9_isJammedAt, cX9_isJammedAt, 2, (some (.boolean)), 9, 1, 0, [0], []),
  (yX9_sets, cX9_sets, 3, none, 9, 1, 0, [0, 0], []),
  (yX9_jams, cX9_jams, 3, (some (.int)), 9, 0, 0, [], []),
  (yX9_jam, cX9_jam, 2, (some (.int)), 9, 2, 0, [0], []),
  (yX9_free, cX9_free, 2, (some (.int)), 9, 2, 0, [0], []),
  (yX9_stationAt, cX9_stationAt, 2, (some (.char)), 9, 2, 0, [0], []),
  (yX9_moves, cX9_moves, 3, none, 9, 0, 0, [], []),
  (yX9_drops, cX9_drops, 3, (some (.boolean)), 9, 0, 0, [0], []),
  (yX9_overflows, cX9_overflows, 2, (some (.boolean)), 9, 0, 0, [], []),
  (yX9_leaves, cX9_leaves, 3, none, 9, 0, 0, [0, 0], []),
  (yX9_passesOne, cX9_passesOne, 4, (some (.int)), 9, 1, 0, [], []),
  (yX9_pass, cX9_pass, 4, (some (.int)), 9, 2, 0, [0], []),
  (yX9_looksOne, cX9_looksOne, 3, (some (.int)), 9, 1, 0, [], []),
  (yX9_leavingAhead, cX9_leavingAhead, 5, (some (.int)), 9, 2, 0, [0], []),
  (yX9_leavingByTrays, cX9_leavingByTrays, 2, (some (.int)), 9, 3, 0, [0], []),
  (yX9_arrive, cX9_arrive, 4, (some (.int)), 9, 1, 0, [0, 0], [])]
def fw_tab3 : List fw_R := [(yX9_tick, cX9_tick, 1, (some (.long)), 9, 0, 0, [], []),
  (yX9_stateOf, cX9_stateOf, 3, (some (.char)), 9, 2, 0, [0], []),
  (yX9_positionIn, cX9_positionIn, 3, (some (.int)), 9, 0, 0, [0], []),
  (yX9_positionOf, cX9_positionOf, 2, (some (.int)), 9, 2, 0, [0], []),
  (yX9_roundsOf, cX9_roundsOf, 2, (some (.int)), 9, 2, 0, [0], []),
  (yX9_trayAt, cX9_trayAt, 2, (some (.int)), 9, 2, 0, [0], []),
  (yX9_waiting, cX9_waiting, 1, (some (.int)), 9, 0, 0, [], []),
  (yX9_onLoop, cX9_onLoop, 1, (some (.int)), 9, 0, 0, [], []),
  (yX9_overflowed, cX9_overflowed, 1, (some (.int)), 9, 0, 0, [], []),
  (yX9_loadOf, cX9_loadOf, 4, (some (.int)), 9, 0, 0, [0], []),
  (yX9_isSomeFree, cX9_isSomeFree, 3, (some (.boolean)), 9, 0, 0, [], []),
  (yX9_leastChute, cX9_leastChute, 3, (some (.int)), 9, 0, 0, [], []),
  (yX9_greatestRoute, cX9_greatestRoute, 3, (some (.int)), 9, 0, 0, [], []),
  (yX9_startWave, cX9_startWave, 4, (some (.int)), 9, 1, 0, [], []),
  (yX9_isRoute, cX9_isRoute, 1, (some (.boolean)), 9, 1, 1, [0], []),
  (yX9_assign, cX9_assign, 4, (some (.int)), 9, 2, 0, [0, 0], []),
  (yX9_unassign, cX9_unassign, 3, (some (.int)), 9, 2, 0, [0], []),
  (yX9_chuteFor, cX9_chuteFor, 2, (some (.int)), 9, 2, 0, [0], []),
  (yX9_load, cX9_load, 2, (some (.int)), 9, 2, 0, [0], []),
  (yX9_inChute, cX9_inChute, 2, (some (.int)), 9, 2, 0, [0], []),
  (yX9_sealOf, cX9_sealOf, 2, (some (.int)), 9, 0, 0, [0], []),
  (yX9_seal, cX9_seal, 2, (some (.int)), 9, 2, 0, [0], []),
  (yX9_sealByParcels, cX9_sealByParcels, 2, (some (.int)), 9, 3, 0, [0], []),
  (yX9_dispatch, cX9_dispatch, 5, (some (.int)), 9, 2, 0, [0], []),
  (yX9_trucks, cX9_trucks, 1, (some (.int)), 9, 0, 0, [], []),
  (yX9_parcelAt, cX9_parcelAt, 4, (some (.int)), 9, 0, 0, [0, 0], []),
  (yX9_sealOfTruck, cX9_sealOfTruck, 5, (some (.int)), 9, 1, 0, [0], []),
  (yX9_parcelIn, cX9_parcelIn, 4, (some (.int)), 9, 1, 0, [0, 0], []),
  (yX9_truckOf, cX9_truckOf, 2, (some (.int)), 9, 2, 0, [0], []),
  (yX9_shipped, cX9_shipped, 1, (some (.long)), 9, 0, 0, [], []),
  (yX9_meanRounds, cX9_meanRounds, 1, (some (.double)), 9, 1, 0, [], []),
  (yX9_overflowShare, cX9_overflowShare, 1, (some (.float)), 9, 1, 0, [], []),
  (yX9_isOnce, cX9_isOnce, 1, (some (.boolean)), 9, 0, 0, [], []),
  (yL_setLoop, cL_setLoop, 4, (some (.int)), 10, 2, 3, [2, 0, 2], [(0, 9, 12, 13, 0), (0, 9, 15, 15, 1)]),
  (yL_addChute, cL_addChute, 5, (some (.int)), 10, 4, 3, [2, 0, 0, 2], [(0, 10, 13, 13, 0), (0, 10, 17, 21, 2), (0, 10, 21, 15, 1)]),
  (yL_setCapacity, cL_setCapacity, 5, (some (.int)), 10, 3, 3, [2, 0, 0, 2], [(0, 10, 13, 26, 3), (0, 10, 17, 13, 0), (0, 10, 21, 15, 1)]),
  (yL_setLimit, cL_setLimit, 4, (some (.int)), 10, 1, 3, [2, 0, 2], [(0, 9, 12, 13, 0)]),
  (yL_jam, cL_jam, 4, (some (.int)), 10, 6, 3, [2, 0, 2], [(0, 9, 12, 34, 4), (0, 9, 15, 15, 1)]),
  (yL_free, cL_free, 4, (some (.int)), 10, 6, 3, [2, 0, 2], [(0, 9, 12, 34, 4), (0, 9, 15, 15, 1)]),
  (yL_stationAt, cL_stationAt, 4, (some (.int)), 10, 5, 3, [2, 0, 2], [(0, 9, 12, 13, 0)]),
  (yL_arrive, cL_arrive, 5, (some (.int)), 10, 2, 3, [2, 0, 0, 2], [(0, 10, 13, 13, 0), (0, 10, 17, 15, 1)]),
  (yL_pass, cL_pass, 4, (some (.int)), 10, 7, 3, [2, 0, 2], [(0, 9, 12, 13, 0)]),
  (yL_stateOf, cL_stateOf, 4, (some (.int)), 10, 3, 3, [2, 0, 2], [(0, 9, 12, 34, 4)]),
  (yL_positionOf, cL_positionOf, 4, (some (.int)), 10, 5, 3, [2, 0, 2], [(0, 9, 12, 34, 4), (0, 9, 15, 15, 1)]),
  (yL_roundsOf, cL_roundsOf, 4, (some (.int)), 10, 5, 3, [2, 0, 2], [(0, 9, 12, 34, 4), (0, 9, 15, 15, 1)]),
  (yL_trayAt, cL_trayAt, 4, (some (.int)), 10, 4, 3, [2, 0, 2], [(0, 9, 12, 13, 0), (0, 9, 15, 34, 4)]),
  (yL_leavingAhead, cL_leavingAhead, 4, (some (.int)), 10, 7, 3, [2, 0, 2], [(0, 9, 12, 13, 0)]),
  (yL_leavingByTrays, cL_leavingByTrays, 4, (some (.int)), 10, 7, 3, [2, 0, 2], [(0, 9, 12, 13, 0)]),
  (yL_startWave, cL_startWave, 3, (some (.int)), 10, 5, 3, [2, 2], [(0, 8, 11, 15, 1)]),
  (yL_assign, cL_assign, 5, (some (.int)), 10, 3, 3, [2, 0, 0, 2], [(0, 10, 13, 13, 0), (0, 10, 17, 26, 3)])]
def fw_tab4 : List fw_R := [(yL_unassign, cL_unassign, 4, (some (.int)), 10, 3, 3, [2, 0, 2], [(0, 9, 12, 13, 0), (0, 9, 15, 15, 1)]),
  (yL_chuteFor, cL_chuteFor, 4, (some (.int)), 10, 3, 3, [2, 0, 2], [(0, 9, 12, 13, 0), (0, 9, 15, 34, 4)]),
  (yL_load, cL_load, 4, (some (.int)), 10, 3, 3, [2, 0, 2], [(0, 9, 12, 13, 0)]),
  (yL_inChute, cL_inChute, 4, (some (.int)), 10, 3, 3, [2, 0, 2], [(0, 9, 12, 26, 3)]),
  (yL_seal, cL_seal, 4, (some (.int)), 10, 3, 3, [2, 0, 2], [(0, 9, 12, 26, 3)]),
  (yL_sealByParcels, cL_sealByParcels, 4, (some (.int)), 10, 4, 3, [2, 0, 2], [(0, 9, 12, 26, 3)]),
  (yL_dispatch, cL_dispatch, 4, (some (.int)), 10, 3, 3, [2, 0, 2], [(0, 9, 12, 26, 3), (0, 9, 15, 15, 1)]),
  (yL_sealOfTruck, cL_sealOfTruck, 4, (some (.int)), 10, 5, 3, [2, 0, 2], [(0, 9, 12, 26, 3)]),
  (yL_parcelIn, cL_parcelIn, 5, (some (.int)), 10, 4, 3, [2, 0, 0, 2], [(0, 10, 13, 26, 3), (0, 10, 17, 34, 4)]),
  (yL_truckOf, cL_truckOf, 4, (some (.int)), 10, 3, 3, [2, 0, 2], [(0, 9, 12, 34, 4), (0, 9, 15, 15, 1)]),
  (yL_meanRounds, cL_meanRounds, 3, (some (.int)), 10, 2, 3, [2, 2], [(0, 7, 10, 108, 5)]),
  (yL_overflowShare, cL_overflowShare, 3, (some (.int)), 10, 2, 3, [2, 2], [(0, 8, 11, 108, 5)])]
def fw_row (k : Nat) : fw_R := (match k / 50 with
  | 0 => fw_tab0
  | 1 => fw_tab1
  | 2 => fw_tab2
  | 3 => fw_tab3
  | _ => fw_tab4).getD (k % 50) (yL_law, cL_law, 9, none, 10, 0, 4, [], [])
def fw_y (k : Nat) : MethodName := (fw_row k).1
def fw_B (k : Nat) : ByteArray := (fw_row k).2.1
def fw_mL (k : Nat) : Nat := (fw_row k).2.2.1
def fw_rt (k : Nat) : Option FieldType := (fw_row k).2.2.2.1
def fw_oc (k : Nat) : Nat := (fw_row k).2.2.2.2.1
def fw_rk (k : Nat) : Nat := (fw_row k).2.2.2.2.2.1
def fw_ki (k : Nat) : Nat := (fw_row k).2.2.2.2.2.2.1
def fw_pt (k : Nat) : List Nat := (fw_row k).2.2.2.2.2.2.2.1
def fw_hs (k : Nat) : List (Nat × Nat × Nat × Nat × Nat) := (fw_row k).2.2.2.2.2.2.2.2
def fw_t : Nat → List Cond
  | 1 => tables_1_1
  | 2 => tables_1_2
  | 3 => tables_1_3
  | 4 => tables_1_4
  | 5 => tables_1_5
  | _ => tables_1_6
/-- (class, entry, class of the field, its place, and where the tables say so) -/
def fw_frT : List (Nat × Nat × Nat × Nat × Nat × Nat) := [(0, 9, 0, 0, 1, 93), (0, 15, 0, 1, 1, 94), (0, 31, 0, 2, 1, 95), (0, 35, 0, 3, 1, 97), (1, 9, 1, 0, 3, 78), (1, 15, 1, 2, 3, 85), (1, 23, 1, 1, 3, 82), (1, 30, 1, 4, 3, 90), (1, 33, 1, 5, 3, 91), (1, 36, 5, 1, 1, 205), (2, 14, 2, 0, 1, 222), (2, 20, 2, 1, 1, 224), (2, 24, 2, 2, 1, 225), (2, 28, 5, 1, 1, 206), (3, 12, 3, 3, 1, 171), (3, 18, 3, 4, 1, 172), (3, 22, 3, 5, 1, 173), (3, 25, 3, 6, 1, 174), (3, 28, 3, 7, 1, 175), (3, 31, 3, 0, 1, 168), (3, 35, 3, 1, 1, 169), (3, 39, 3, 2, 1, 170), (3, 60, 6, 3, 1, 121), (3, 69, 4, 6, 1, 46), (3, 74, 3, 8, 1, 176), (3, 81, 1, 1, 3, 84), (3, 87, 5, 1, 1, 208), (3, 95, 4, 5, 1, 44), (3, 106, 1, 0, 3, 80), (4, 9, 4, 0, 1, 37), (4, 15, 4, 1, 1, 38), (4, 18, 4, 2, 1, 39), (4, 22, 4, 3, 1, 40), (4, 25, 4, 4, 1, 41), (4, 28, 4, 5, 1, 42), (4, 32, 4, 6, 1, 45), (4, 39, 4, 7, 1, 48), (4, 42, 4, 8, 1, 50), (4, 46, 4, 9, 1, 52), (5, 15, 5, 0, 1, 203), (5, 21, 5, 1, 1, 204), (6, 11, 6, 0, 1, 115), (6, 17, 6, 1, 1, 116), (6, 21, 6, 3, 1, 119), (6, 25, 6, 4, 1, 122), (6, 28, 6, 2, 1, 117), (6, 38, 1, 0, 3, 79), (6, 48, 6, 5, 1, 124), (6, 52, 6, 6, 1, 125), (6, 55, 1, 3, 3, 89), (6, 62, 1, 2, 3, 87), (7, 9, 7, 2, 1, 149), (7, 15, 7, 3, 1, 150), (7, 18, 7, 0, 1, 147), (7, 22, 7, 1, 1, 148), (7, 60, 1, 3, 3, 88), (8, 10, 8, 0, 1, 234), (8, 19, 8, 1, 1, 235), (8, 26, 8, 2, 1, 236), (8, 35, 8, 3, 1, 237), (8, 44, 8, 4, 1, 238), (8, 53, 8, 5, 1, 239), (8, 60, 8, 6, 2, 0), (8, 64, 8, 7, 2, 1), (8, 71, 6, 2, 1, 118), (8, 75, 4, 5, 1, 43), (8, 81, 0, 2, 1, 96), (8, 87, 6, 3, 1, 120), (8, 108, 1, 1, 3, 83), (8, 113, 5, 1, 1, 207), (8, 116, 1, 2, 3, 86), (8, 119, 6, 4, 1, 123), (8, 155, 8, 8, 2, 2), (8, 181, 4, 6, 1, 47), (8, 184, 4, 7, 1, 49), (8, 232, 2, 2, 1, 226), (8, 247, 4, 9, 1, 53), (8, 253, 4, 8, 1, 51), (8, 295, 1, 0, 3, 81), (8, 327, 2, 0, 1, 223), (9, 7, 9, 1, 5, 84), (9, 13, 9, 2, 5, 85), (9, 17, 9, 4, 5, 87), (9, 20, 9, 5, 5, 88), (9, 23, 9, 6, 5, 89), (9, 27, 9, 9, 5, 92), (9, 30, 9, 11, 5, 94), (9, 33, 9, 12, 5, 95), (9, 36, 9, 13, 5, 96), (9, 39, 9, 14, 5, 97), (9, 42, 9, 20, 5, 103), (9, 45, 9, 21, 5, 104), (9, 48, 9, 22, 5, 105), (9, 51, 9, 23, 5, 106), (9, 54, 9, 24, 5, 107), (9, 57, 9, 26, 5, 109), (9, 60, 9, 27, 5, 110), (9, 63, 9, 28, 5, 111), (9, 66, 9, 30, 5, 113), (9, 69, 9, 31, 5, 114), (9, 72, 9, 32, 5, 115), (9, 75, 9, 33, 5, 116), (9, 78, 9, 34, 5, 117), (9, 81, 9, 0, 5, 83), (9, 84, 9, 3, 5, 86), (9, 91, 9, 10, 5, 93), (9, 105, 9, 7, 5, 90), (9, 109, 9, 8, 5, 91), (9, 129, 9, 17, 5, 100), (9, 132, 9, 18, 5, 101), (9, 135, 9, 16, 5, 99), (9, 153, 9, 19, 5, 102), (9, 156, 9, 15, 5, 98), (9, 195, 9, 25, 5, 108), (9, 198, 9, 29, 5, 112)]
/-- (class, entry, callee (1000 Math.max, 1001 Math.min, 1002 Object's constructor), 1 where it is a nest mate's private one, and where the tables say so) -/
def fw_mrT : List (Nat × Nat × Nat × Nat × Nat × Nat) := [(0, 3, 1002, 0, 1, 82), (0, 18, 2, 0, 1, 83), (0, 22, 1001, 0, 1, 87), (0, 28, 1000, 0, 1, 90), (0, 38, 4, 0, 2, 66), (0, 42, 5, 0, 2, 62), (0, 46, 7, 0, 4, 79), (0, 49, 10, 0, 2, 158), (1, 3, 1002, 0, 3, 75), (1, 20, 43, 0, 3, 77), (1, 27, 45, 0, 4, 43), (1, 39, 46, 0, 2, 99), (2, 3, 1002, 0, 1, 219), (2, 11, 43, 0, 1, 221), (2, 29, 44, 0, 4, 218), (2, 33, 45, 0, 4, 219), (2, 36, 18, 0, 5, 11), (2, 40, 20, 0, 5, 7), (2, 43, 21, 0, 5, 12), (2, 46, 46, 0, 5, 16), (3, 3, 1002, 0, 1, 165), (3, 11, 1, 0, 1, 167), (3, 42, 27, 0, 2, 108), (3, 45, 3, 0, 2, 113), (3, 49, 28, 0, 2, 117), (3, 53, 7, 0, 2, 125), (3, 57, 8, 0, 2, 159), (3, 66, 29, 0, 2, 171), (3, 77, 49, 0, 2, 112), (3, 92, 6, 0, 2, 121), (3, 98, 59, 0, 2, 126), (3, 102, 10, 0, 2, 130), (3, 109, 31, 0, 2, 134), (3, 113, 11, 0, 2, 154), (3, 117, 61, 0, 2, 163), (3, 120, 30, 0, 2, 175), (3, 123, 50, 0, 2, 179), (3, 126, 38, 0, 2, 138), (3, 129, 60, 0, 2, 143), (4, 3, 1002, 0, 1, 36), (4, 35, 33, 0, 2, 142), (5, 3, 1002, 0, 1, 201), (5, 9, 1000, 0, 1, 202), (5, 25, 44, 0, 2, 103), (6, 3, 1002, 0, 1, 112), (6, 31, 12, 0, 3, 72), (6, 34, 49, 0, 2, 90), (6, 41, 50, 0, 3, 51), (6, 45, 51, 0, 3, 187), (6, 58, 106, 1, 2, 151), (6, 65, 57, 0, 2, 147), (6, 68, 15, 0, 2, 91), (6, 72, 16, 0, 2, 95), (7, 3, 1002, 0, 1, 146), (7, 26, 42, 0, 4, 127), (7, 32, 58, 0, 4, 131), (7, 38, 66, 0, 4, 135), (7, 42, 67, 0, 4, 139), (7, 45, 65, 0, 4, 145), (7, 49, 106, 1, 4, 149), (7, 56, 49, 0, 4, 144), (8, 1, 1002, 0, 1, 28), (8, 9, 32, 1, 1, 33), (8, 18, 1, 0, 1, 79), (8, 25, 47, 0, 1, 109), (8, 32, 63, 0, 1, 143), (8, 41, 24, 0, 1, 162), (8, 50, 43, 0, 1, 198), (8, 59, 17, 1, 1, 216), (8, 84, 2, 0, 3, 35), (8, 90, 105, 0, 3, 44), (8, 94, 51, 0, 3, 47), (8, 101, 48, 0, 3, 67), (8, 105, 112, 0, 3, 145), (8, 122, 110, 0, 3, 179), (8, 125, 53, 0, 3, 203), (8, 128, 54, 0, 3, 207), (8, 132, 55, 0, 3, 211), (8, 136, 109, 0, 3, 229), (8, 139, 52, 0, 3, 183), (8, 143, 106, 0, 4, 1), (8, 146, 34, 0, 4, 2), (8, 149, 108, 0, 4, 13), (8, 152, 115, 0, 4, 16), (8, 159, 111, 0, 4, 60), (8, 162, 39, 0, 4, 64), (8, 165, 9, 0, 4, 75), (8, 169, 8, 0, 4, 33), (8, 172, 40, 0, 4, 87), (8, 175, 7, 0, 2, 58), (8, 187, 25, 0, 2, 104), (8, 190, 26, 0, 2, 167), (8, 193, 56, 0, 4, 119), (8, 197, 64, 0, 4, 123), (8, 200, 107, 0, 4, 157), (8, 203, 57, 0, 4, 160), (8, 206, 58, 0, 4, 161), (8, 210, 42, 0, 4, 183), (8, 213, 15, 0, 4, 198), (8, 216, 16, 0, 4, 206), (8, 219, 19, 0, 4, 214), (8, 223, 44, 0, 2, 78), (8, 226, 37, 0, 4, 220), (8, 229, 14, 0, 4, 224), (8, 233, 113, 0, 4, 235), (8, 236, 23, 0, 5, 3), (8, 239, 21, 0, 5, 24), (8, 242, 22, 0, 5, 25), (8, 244, 41, 0, 5, 36), (8, 250, 114, 0, 5, 61), (8, 256, 118, 0, 2, 50), (8, 259, 62, 0, 2, 86), (8, 262, 4, 0, 3, 233), (8, 265, 33, 0, 2, 82), (8, 266, 49, 0, 2, 70), (8, 272, 18, 0, 4, 239), (8, 276, 6, 0, 4, 20), (8, 279, 59, 0, 4, 21), (8, 283, 35, 0, 4, 22), (8, 286, 10, 0, 4, 26), (8, 289, 116, 0, 4, 27), (8, 292, 117, 0, 4, 47), (8, 298, 38, 0, 4, 31), (8, 301, 60, 0, 4, 32), (8, 304, 36, 0, 4, 34), (8, 308, 11, 0, 4, 38), (8, 311, 13, 0, 4, 39), (8, 314, 61, 0, 4, 51), (8, 318, 45, 0, 4, 52), (8, 320, 120, 0, 2, 54), (8, 323, 119, 0, 2, 74), (9, 1, 1002, 0, 5, 82), (9, 87, 123, 0, 5, 198), (9, 94, 124, 0, 5, 201), (9, 98, 128, 0, 5, 209), (9, 102, 125, 0, 5, 217), (9, 112, 133, 0, 5, 229), (9, 115, 134, 0, 5, 233), (9, 118, 135, 0, 5, 237), (9, 122, 136, 0, 6, 1), (9, 126, 127, 0, 6, 13), (9, 139, 140, 0, 6, 25), (9, 142, 141, 0, 6, 29), (9, 145, 143, 0, 6, 33), (9, 149, 142, 0, 6, 37), (9, 159, 144, 0, 6, 21), (9, 162, 146, 0, 6, 45), (9, 165, 147, 0, 6, 53), (9, 168, 126, 0, 6, 66), (9, 171, 152, 0, 6, 74), (9, 174, 160, 0, 6, 102), (9, 177, 159, 0, 6, 106), (9, 180, 162, 0, 6, 110), (9, 183, 161, 0, 6, 114), (9, 186, 164, 0, 6, 122), (9, 189, 170, 0, 6, 145), (9, 192, 171, 0, 6, 153), (9, 201, 175, 0, 6, 166), (10, 7, 69, 0, 2, 188), (10, 17, 70, 0, 3, 40), (10, 23, 71, 0, 3, 141), (10, 28, 72, 0, 3, 167), (10, 31, 73, 0, 3, 175), (10, 36, 74, 0, 3, 218), (10, 39, 75, 0, 3, 225), (10, 43, 76, 0, 3, 237), (10, 46, 77, 0, 4, 9), (10, 49, 79, 0, 4, 56), (10, 52, 80, 0, 4, 71), (10, 55, 81, 0, 4, 83), (10, 58, 82, 0, 4, 94), (10, 61, 86, 0, 4, 101), (10, 64, 87, 0, 4, 108), (10, 67, 88, 0, 4, 115), (10, 71, 89, 0, 4, 153), (10, 74, 90, 0, 4, 165), (10, 77, 91, 0, 4, 172), (10, 80, 92, 0, 4, 179), (10, 83, 93, 0, 4, 187), (10, 86, 94, 0, 4, 194), (10, 89, 95, 0, 4, 202), (10, 92, 96, 0, 4, 210), (10, 95, 98, 0, 4, 231), (10, 98, 99, 0, 5, 20), (10, 101, 100, 0, 5, 32), (10, 104, 102, 0, 5, 57), (10, 110, 103, 0, 5, 73), (10, 114, 68, 0, 1, 25), (10, 117, 121, 0, 5, 79), (10, 118, 183, 0, 2, 183), (10, 123, 129, 0, 5, 194), (10, 124, 122, 0, 5, 190), (10, 127, 184, 0, 3, 36), (10, 130, 130, 0, 5, 205), (10, 131, 185, 0, 3, 105), (10, 133, 131, 0, 5, 213), (10, 134, 186, 0, 3, 164), (10, 136, 132, 0, 5, 221), (10, 137, 187, 0, 3, 171), (10, 139, 137, 0, 5, 225), (10, 140, 188, 0, 3, 215), (10, 142, 138, 0, 6, 5), (10, 143, 189, 0, 3, 222), (10, 145, 139, 0, 6, 9), (10, 146, 190, 0, 3, 234), (10, 148, 149, 0, 6, 54), (10, 149, 191, 0, 4, 6), (10, 151, 145, 0, 6, 17), (10, 152, 78, 0, 2, 22), (10, 156, 150, 0, 6, 58), (10, 157, 192, 0, 4, 53), (10, 159, 151, 0, 6, 62), (10, 160, 193, 0, 4, 68), (10, 162, 153, 0, 6, 70), (10, 163, 194, 0, 4, 80), (10, 165, 154, 0, 6, 78), (10, 166, 195, 0, 4, 91), (10, 168, 155, 0, 6, 82), (10, 169, 83, 0, 2, 26), (10, 172, 156, 0, 6, 86), (10, 173, 84, 0, 2, 30), (10, 176, 157, 0, 6, 90), (10, 177, 85, 0, 2, 34), (10, 180, 158, 0, 6, 94), (10, 181, 196, 0, 4, 98), (10, 183, 147, 0, 6, 41), (10, 184, 197, 0, 4, 105), (10, 186, 148, 0, 6, 49), (10, 187, 198, 0, 4, 112), (10, 190, 163, 0, 6, 98), (10, 191, 199, 0, 4, 150), (10, 193, 165, 0, 6, 118), (10, 194, 200, 0, 4, 162), (10, 196, 166, 0, 6, 125), (10, 197, 201, 0, 4, 169), (10, 199, 167, 0, 6, 129), (10, 200, 202, 0, 4, 176), (10, 202, 168, 0, 6, 133), (10, 203, 203, 0, 4, 184), (10, 205, 169, 0, 6, 137), (10, 206, 204, 0, 4, 191), (10, 208, 171, 0, 6, 141), (10, 209, 205, 0, 4, 199), (10, 211, 172, 0, 6, 149), (10, 212, 206, 0, 4, 207), (10, 214, 173, 0, 6, 154), (10, 215, 97, 0, 2, 38), (10, 218, 174, 0, 6, 158), (10, 219, 207, 0, 4, 228), (10, 221, 176, 0, 6, 162), (10, 222, 208, 0, 5, 17), (10, 224, 177, 0, 6, 170), (10, 225, 209, 0, 5, 29), (10, 227, 178, 0, 6, 174), (10, 228, 101, 0, 2, 42), (10, 231, 179, 0, 6, 178), (10, 232, 210, 0, 5, 40), (10, 235, 180, 0, 6, 182), (10, 236, 211, 0, 5, 70), (10, 238, 181, 0, 6, 186), (10, 239, 104, 0, 2, 46), (10, 243, 182, 0, 6, 190)]
def fw_crT : List (Nat × Nat × Nat × Nat × Nat) := [(1, 18, 5, 3, 76), (2, 9, 5, 1, 220), (3, 9, 0, 1, 166), (6, 9, 1, 1, 113), (8, 7, 4, 1, 31), (8, 16, 0, 1, 77), (8, 23, 6, 1, 107), (8, 30, 7, 1, 141), (8, 39, 3, 1, 160), (8, 48, 5, 1, 196), (8, 57, 2, 1, 214), (10, 8, 8, 1, 23), (10, 115, 9, 5, 77)]
/-- (entry of an exception's class in CrossdockSorter, entry of its constructor, its number, and where the tables say so) -/
def fw_xrT : List (Nat × Nat × Nat × Nat × Nat) := [(68, 70, 0, 2, 192), (78, 80, 1, 3, 20), (98, 100, 2, 3, 52), (178, 180, 4, 3, 188), (269, 271, 3, 3, 149), (273, 275, 5, 5, 65)]
def fw_fr (o i : Nat) : Option (Nat × Nat) := (fw_frT.find? (fun q => q.1 == o && q.2.1 == i)).map (fun q => (q.2.2.1, q.2.2.2.1))
def fw_mr (o i : Nat) : Option (Nat × Nat) := (fw_mrT.find? (fun q => q.1 == o && q.2.1 == i)).map (fun q => (q.2.2.1, q.2.2.2.1))
def fw_cal (o i : Nat) : Nat := ((fw_mr o i).map Prod.fst).getD 0
def fw_cr (o i : Nat) : Option Nat := (fw_crT.find? (fun q => q.1 == o && q.2.1 == i)).map (fun q => q.2.2.1)
def fw_xr (i : Nat) : Option (Nat × Nat) := (fw_xrT.find? (fun q => q.1 == i)).map (fun q => (q.2.1, q.2.2.1))
def fw_dec (k pc : Nat) : Option (Instr × Nat) := match decode (fw_B k) pc with
  | .ok r => some r
  | .error _ => none
theorem fw_de {k pc : Nat} {bb : ByteArray} {r : Instr × Nat} (hB : fw_B k = bb) (h : decode bb pc = .ok r) : fw_dec k pc = some r := by
  unfold fw_dec; rw [hB, h]
theorem fw_de' {k pc : Nat} {r : Instr × Nat} (h : fw_dec k pc = some r) : decode (fw_B k) pc = .ok r := by
  unfold fw_dec at h; split at h
  · rename_i x hx; rw [hx]; exact congrArg _ (Option.some.inj h)
  · cases h
/-- the handler of method k for the exception x thrown at pc -/
def fw_hd (k pc x : Nat) : Option Nat := ((fw_hs k).find? (fun h => h.2.2.2.2 == x && (decide (h.1 ≤ pc) && decide (pc < h.2.1)))).map (fun h => h.2.2.1)
def fw_nx (pc : Nat) (ll st : List fw_V) (σ : fw_M) : Option fw_A := some (.inl (pc, ll, st, σ))
def fw_fi (v : fw_V) (σ : fw_M) : Option fw_A := some (.inr (.inl (v, σ)))
def fw_tgt (pc : Nat) (off : Int) : Nat := ((pc : Int) + off).toNat
/-- a store to a local (a double there, or just below, is left to the law) -/
def fw_so (k : Nat) (ll : List fw_V) (i : Nat) : Bool := decide (i < fw_mL k) && (decide (k ≠ 0) || decide (i = 0) || decide ((fw_g ll (i - 1)).1 ≠ 3))
def fw_br (pc : Nat) (off : Int) (c : Prop) [Decidable c] (ll st : List fw_V) (σ : fw_M) : Option fw_A := if c then fw_nx (fw_tgt pc off) ll st σ else fw_nx (pc + 3) ll st σ
def fw_ifc (c : ClassFile.Cond) (x y : Int) : Bool := match c with
  | .eq => decide (x = y)
  | .ne => decide (x ≠ y)
  | .lt => decide (x < y)
  | .ge => decide (y ≤ x)
  | .gt => decide (y < x)
  | .le => decide (x ≤ y)
def fw_ak (t : ArrayType) : Int := match t with
  | .int => 100
  | .char => 101
  | .boolean => 102
  | .long => 103
  | .double => 104
  | _ => 99
def fw_ca (k cal : Nat) (rcv : Bool) (st : List fw_V) : Option fw_A :=
  let n := (fw_pt cal).length
  let as := (st.take n).reverse
  let r0 := st.drop n
  if as.map Prod.fst = fw_pt cal ∧ fw_rk cal < fw_rk k ∧ cal < 212 ∧ cal ≠ 0 then
    if rcv then match r0 with
      | (2, r) :: rest => if fw_kd r = (fw_oc cal : Int) + 3 ∧ rest.length ≤ 4 then some (.inr (.inr (cal, (2, r) :: as, rest))) else none
      | _ => none
    else if r0.length ≤ 4 then some (.inr (.inr (cal, as, r0))) else none
  else none
/-- an answer that fits what the method says it answers -/
def fw_ri (k : Nat) (x : Int) : Bool := match fw_rt k with
  | some .int => true
  | some .boolean => decide (x = 0 ∨ x = 1)
  | some .char => decide (0 ≤ x ∧ x < 65536)
  | _ => false
def fw_dd (x : Int) : UInt64 := UInt64.ofNat x.toNat
def fw_ff (x : Int) : UInt32 := UInt32.ofNat x.toNat
def fw_n64 (r : UInt64) : Bool := decide (r &&& 0x7fffffffffffffff ≤ 0x7ff0000000000000)
def fw_n32 (r : UInt32) : Bool := decide (r &&& 0x7fffffff ≤ 0x7f800000)
def fw_si (k pc : Nat) (ll st : List fw_V) (σ : fw_M) (i : Instr) : Option fw_A := match i with
  | .iconst n => fw_nx (pc + 1) ll ((0, (Int32.ofInt n).toInt) :: st) σ
  | .bipush n => fw_nx (pc + 2) ll ((0, (Int8.ofInt n).toInt32.toInt) :: st) σ
  | .sipush n => fw_nx (pc + 3) ll ((0, (Int16.ofInt n).toInt32.toInt) :: st) σ
  | .lconst n => fw_nx (pc + 1) ll ((1, (Int64.ofNat (n : Nat)).toInt) :: st) σ
  | .fconst n => if n = 0 then fw_nx (pc + 1) ll ((4, (FP.fconst0.toNat : Int)) :: st) σ else none
  | .dconst n => if n = 0 then fw_nx (pc + 1) ll ((3, (FP.dconst0.toNat : Int)) :: st) σ else none
  | .aconst_null => fw_nx (pc + 1) ll ((2, 0) :: st) σ
  | .ldc n => if fw_oc k = 7 ∧ n = 55 then fw_nx (pc + 2) ll ((0, 2147483647) :: st) σ else none
  | .iload_n n => if (fw_g ll n).1 = 0 then fw_nx (pc + 1) ll (fw_g ll n :: st) σ else none
  | .iload n => if (fw_g ll n).1 = 0 then fw_nx (pc + 2) ll (fw_g ll n :: st) σ else none
  | .aload_n n => if (fw_g ll n).1 = 2 ∨ (fw_g ll n).1 = 6 then fw_nx (pc + 1) ll (fw_g ll n :: st) σ else none
  | .aload n => if (fw_g ll n).1 = 2 ∨ (fw_g ll n).1 = 6 then fw_nx (pc + 2) ll (fw_g ll n :: st) σ else none
  | .dload n => if (fw_g ll n).1 = 3 then fw_nx (pc + 2) ll (fw_g ll n :: st) σ else none
  | .fload n => if (fw_g ll n).1 = 4 then fw_nx (pc + 2) ll (fw_g ll n :: st) σ else none
  | .istore_n n => match st with
    | (0, x) :: r => if fw_so k ll n then fw_nx (pc + 1) (ll.set n (0, x)) r σ else none
    | _ => none
  | .istore n => match st with
    | (0, x) :: r => if fw_so k ll n then fw_nx (pc + 2) (ll.set n (0, x)) r σ else none
    | _ => none
  | .astore_n n => match st with
    | (2, x) :: r => if fw_so k ll n then fw_nx (pc + 1) (ll.set n (2, x)) r σ else none
    | (7, x) :: r => if fw_so k ll n then fw_nx (pc + 1) (ll.set n (7, x)) r σ else none
    | _ => none
  | .astore n => match st with
    | (2, x) :: r => if fw_so k ll n then fw_nx (pc + 2) (ll.set n (2, x)) r σ else none
    | (7, x) :: r => if fw_so k ll n then fw_nx (pc + 2) (ll.set n (7, x)) r σ else none
    | _ => none
  | .fstore n => match st with
    | (4, x) :: r => if fw_so k ll n then fw_nx (pc + 2) (ll.set n (4, x)) r σ else none
    | _ => none
  | .dstore n => match st with
    | (3, x) :: r => if fw_so k ll n ∧ k = 0 ∧ n + 1 < fw_mL k then fw_nx (pc + 2) ((ll.set n (3, x)).set (n + 1) (8, 0)) r σ else none
    | _ => none
  | .iinc n c => if (fw_g ll n).1 = 0 ∧ fw_so k ll n then fw_nx (pc + 3) (ll.set n (0, fw_w ((fw_g ll n).2 + c))) st σ else none
  | .iadd => match st with
    | (0, y) :: (0, x) :: r => fw_nx (pc + 1) ll ((0, fw_w (x + y)) :: r) σ
    | _ => none
  | .isub => match st with
    | (0, y) :: (0, x) :: r => fw_nx (pc + 1) ll ((0, fw_w (x - y)) :: r) σ
    | _ => none
  | .imul => match st with
    | (0, y) :: (0, x) :: r => fw_nx (pc + 1) ll ((0, fw_w (x * y)) :: r) σ
    | _ => none
  | .irem => match st with
    | (0, y) :: (0, x) :: r => if 0 ≤ x ∧ 0 < y then fw_nx (pc + 1) ll ((0, x % y) :: r) σ else none
    | _ => none
  | .iand => match st with
    | (0, y) :: (0, x) :: r => if y = 63 then fw_nx (pc + 1) ll ((0, x % 64) :: r) σ else none
    | _ => none
  | .ladd => match st with
    | (1, y) :: (1, x) :: r => fw_nx (pc + 1) ll ((1, fw_wl (x + y)) :: r) σ
    | _ => none
  | .lcmp => match st with
    | (1, y) :: (1, x) :: r => fw_nx (pc + 1) ll ((0, if y < x then 1 else if x = y then 0 else -1) :: r) σ
    | _ => none
  | .i2l => match st with
    | (0, x) :: r => fw_nx (pc + 1) ll ((1, x) :: r) σ
    | _ => none
  | .i2d => match st with
    | (0, x) :: r => fw_nx (pc + 1) ll ((3, ((FP.i2d (Int32.ofInt x)).toNat : Int)) :: r) σ
    | _ => none
  | .i2f => match st with
    | (0, x) :: r => fw_nx (pc + 1) ll ((4, ((FP.i2f (Int32.ofInt x)).toNat : Int)) :: r) σ
    | _ => none
  | .l2d => match st with
    | (1, x) :: r => fw_nx (pc + 1) ll ((3, ((FP.l2d (Int64.ofInt x)).toNat : Int)) :: r) σ
    | _ => none
  | .f2d => match st with
    | (4, x) :: r => if fw_n64 (FP.f2d (fw_ff x)) then fw_nx (pc + 1) ll ((3, ((FP.f2d (fw_ff x)).toNat : Int)) :: r) σ else none
    | _ => none
  | .ddiv => match st with
    | (3, y) :: (3, x) :: r => if fw_n64 (FP.ddiv (fw_dd x) (fw_dd y)) then fw_nx (pc + 1) ll ((3, ((FP.ddiv (fw_dd x) (fw_dd y)).toNat : Int)) :: r) σ else none
    | _ => none
  | .fdiv => match st with
    | (4, y) :: (4, x) :: r => if fw_n32 (FP.fdiv (fw_ff x) (fw_ff y)) then fw_nx (pc + 1) ll ((4, ((FP.fdiv (fw_ff x) (fw_ff y)).toNat : Int)) :: r) σ else none
    | _ => none
  | .dcmp op => match st with
    | (3, y) :: (3, x) :: r => fw_nx (pc + 1) ll ((0, (Op.cmpValue (FP.dcmp (fw_dd x) (fw_dd y)) op).toInt) :: r) σ
    | _ => none
  | .fcmp op => match st with
    | (4, y) :: (4, x) :: r => fw_nx (pc + 1) ll ((0, (Op.cmpValue (FP.fcmp (fw_ff x) (fw_ff y)) op).toInt) :: r) σ
    | _ => none
  | .dup => match st with
    | (t, x) :: r => if t = 0 ∨ t = 2 then fw_nx (pc + 1) ll ((t, x) :: (t, x) :: r) σ else none
    | _ => none
  | .dup2 => match st with
    | (0, x) :: (2, y) :: r => fw_nx (pc + 1) ll ((0, x) :: (2, y) :: (0, x) :: (2, y) :: r) σ
    | _ => none
  | .pop => match st with
    | (t, _) :: r => if t = 0 ∨ t = 2 then fw_nx (pc + 1) ll r σ else none
    | _ => none
  | .goto off => if 0 ≤ (pc : Int) + off then fw_nx (fw_tgt pc off) ll st σ else none
  | .ifCond c off => match st with
    | (0, x) :: r => if 0 ≤ (pc : Int) + off then fw_br pc off (fw_ifc c x 0 = true) ll r σ else none
    | _ => none
  | .if_icmp c off => match st with
    | (0, y) :: (0, x) :: r => if 0 ≤ (pc : Int) + off then fw_br pc off (fw_ifc c x y = true) ll r σ else none
    | _ => none
  | .ifnull off => match st with
    | (2, x) :: r => if 0 ≤ (pc : Int) + off then fw_br pc off (x = 0) ll r σ else none
    | _ => none
  | .ifnonnull off => match st with
    | (2, x) :: r => if 0 ≤ (pc : Int) + off then fw_br pc off (x ≠ 0) ll r σ else none
    | _ => none
  | .tableswitch d lo hi offs => match st with
    | (0, x) :: r => if x < lo ∨ hi < x then (if 0 ≤ (pc : Int) + d then fw_nx (fw_tgt pc d) ll r σ else none) else match offs[(x - lo).toNat]? with
      | some off => if 0 ≤ (pc : Int) + off then fw_nx (fw_tgt pc off) ll r σ else none
      | none => none
    | _ => none
  | .iaload => match st with
    | (0, i) :: (2, a) :: r => if fw_kd a = 100 ∧ 0 ≤ i ∧ i < fw_ln a then fw_nx (pc + 1) ll ((0, σ a i) :: r) σ else none
    | (0, i) :: (6, _) :: r => if k = 0 ∧ 0 ≤ i ∧ i < σ (-3) 0 then fw_nx (pc + 1) ll ((0, σ (-2) i) :: r) σ else none
    | _ => none
  | .caload => match st with
    | (0, i) :: (2, a) :: r => if fw_kd a = 101 ∧ 0 ≤ i ∧ i < fw_ln a then fw_nx (pc + 1) ll ((0, σ a i) :: r) σ else none
    | _ => none
  | .baload => match st with
    | (0, i) :: (2, a) :: r => if fw_kd a = 102 ∧ 0 ≤ i ∧ i < fw_ln a then fw_nx (pc + 1) ll ((0, σ a i) :: r) σ else none
    | _ => none
  | .laload => match st with
    | (0, i) :: (2, a) :: r => if fw_kd a = 103 ∧ 0 ≤ i ∧ i < fw_ln a then fw_nx (pc + 1) ll ((1, σ a i) :: r) σ else none
    | _ => none
  | .daload => match st with
    | (0, i) :: (2, a) :: r => if fw_kd a = 104 ∧ 0 ≤ i ∧ i < fw_ln a then fw_nx (pc + 1) ll ((3, σ a i) :: r) σ else none
    | _ => none
  | .aaload => match st with
    | (0, i) :: (2, a) :: r => if fw_kd a = 105 ∧ 0 ≤ i ∧ i < fw_ln a then fw_nx (pc + 1) ll ((2, σ a i) :: r) σ else none
    | _ => none
  | .iastore => match st with
    | (0, v) :: (0, i) :: (2, a) :: r => if fw_kd a = 100 ∧ 0 ≤ i ∧ i < fw_ln a then fw_nx (pc + 1) ll r (fw_u σ a i v) else none
    | _ => none
  | .castore => match st with
    | (0, v) :: (0, i) :: (2, a) :: r => if fw_kd a = 101 ∧ 0 ≤ i ∧ i < fw_ln a ∧ 0 ≤ v ∧ v < 65536 then fw_nx (pc + 1) ll r (fw_u σ a i v) else none
    | _ => none
  | .bastore => match st with
    | (0, v) :: (0, i) :: (2, a) :: r => if fw_kd a = 102 ∧ 0 ≤ i ∧ i < fw_ln a ∧ (v = 0 ∨ v = 1) then fw_nx (pc + 1) ll r (fw_u σ a i v) else none
    | _ => none
  | .lastore => match st with
    | (1, v) :: (0, i) :: (2, a) :: r => if fw_kd a = 103 ∧ 0 ≤ i ∧ i < fw_ln a then fw_nx (pc + 1) ll r (fw_u σ a i v) else none
    | _ => none
  | .dastore => match st with
    | (3, v) :: (0, i) :: (2, a) :: r => if fw_kd a = 104 ∧ 0 ≤ i ∧ i < fw_ln a then fw_nx (pc + 1) ll r (fw_u σ a i v) else none
    | _ => none
  | .aastore => match st with
    | (2, v) :: (0, i) :: (2, a) :: r => if fw_kd a = 105 ∧ fw_kd v = 4 ∧ 0 ≤ i ∧ i < fw_ln a then fw_nx (pc + 1) ll r (fw_u σ a i v) else none
    | _ => none
  | .arraylength => match st with
    | (2, a) :: r => if 100 ≤ fw_kd a then fw_nx (pc + 1) ll ((0, fw_ln a) :: r) σ else none
    | (6, _) :: r => if k = 0 ∧ σ (-3) 0 < 2147483648 then fw_nx (pc + 1) ll ((0, σ (-3) 0) :: r) σ else none
    | _ => none
  | .getfield n => match st with
    | (2, a) :: r => match fw_fr (fw_oc k) n with
      | some (c, j) => if fw_kd a = (c : Int) + 3 then fw_nx (pc + 3) ll ((fw_tg (fw_fk c j), σ a (j : Int)) :: r) σ else none
      | none => none
    | _ => none
  | .putfield n => match st with
    | (t, v) :: (2, a) :: r => match fw_fr (fw_oc k) n with
      | some (c, j) => if fw_kd a = (c : Int) + 3 ∧ t = fw_tg (fw_fk c j) ∧ (fw_fk c j = 10 → v = 0 ∨ v = 1) ∧ ((fw_CT c j).2.2.2 = true → fw_ki k = 2 ∧ fw_oc k = c) then fw_nx (pc + 3) ll r (fw_u σ a (j : Int) v) else none
      | none => none
    | _ => none
  | .new n => match fw_cr (fw_oc k) n with
    | some c => if fw_kd (σ (-1) 0) = (c : Int) + 3 then fw_nx (pc + 3) ll ((2, σ (-1) 0) :: st) (fw_nw σ (fw_nf c)) else none
    | none => match fw_xr n with
      | some (ic, x) => if fw_oc k = 8 ∧ fw_hs k = [] ∧ st = [] ∧ fw_dec k (pc + 3) = some (.dup, 1) ∧ fw_dec k (pc + 4) = some (.invokespecial ic, 3) ∧ fw_dec k (pc + 7) = some (.athrow, 1) then fw_fi (9, (x : Int)) (fw_ex σ) else none
      | none => none
  | .newarray t => match st with
    | (0, n) :: r => if 0 ≤ n ∧ n ≤ 300 ∧ fw_kd (σ (-1) 0) = fw_ak t ∧ fw_ln (σ (-1) 0) = n then fw_nx (pc + 2) ll ((2, σ (-1) 0) :: r) (fw_nw σ n) else none
    | _ => none
  | .anewarray m => match st with
    | (0, n) :: r => if fw_oc k = 6 ∧ m = 9 ∧ 0 ≤ n ∧ n ≤ 300 ∧ fw_kd (σ (-1) 0) = 105 ∧ fw_ln (σ (-1) 0) = n then fw_nx (pc + 3) ll ((2, σ (-1) 0) :: r) (fw_nw σ n) else none
    | _ => none
  | .invokevirtual n => match fw_mr (fw_oc k) n with
    | some (cal, 0) => if fw_ki cal = 0 then fw_ca k cal true st else none
    | _ => none
  | .invokespecial n => match fw_mr (fw_oc k) n with
    | some (1002, 0) => match st with
      | (2, x) :: r => if x ≠ 0 ∧ r.length ≤ 4 then fw_nx (pc + 3) ll r σ else none
      | _ => none
    | some (cal, _) => if fw_ki cal = 2 then fw_ca k cal true st else none
    | none => none
  | .invokestatic n => match fw_mr (fw_oc k) n with
    | some (1000, 0) => match st with
      | (0, y) :: (0, x) :: r => if r.length ≤ 4 then fw_nx (pc + 3) ll ((0, if x < y then y else x) :: r) σ else none
      | _ => none
    | some (1001, 0) => match st with
      | (0, y) :: (0, x) :: r => if r.length ≤ 4 then fw_nx (pc + 3) ll ((0, if y < x then y else x) :: r) σ else none
      | _ => none
    | some (cal, _) => if fw_ki cal = 1 ∨ fw_ki cal = 3 then fw_ca k cal false st else none
    | none => none
  | .ireturn => match st with
    | [(0, x)] => if fw_ri k x then fw_fi (0, x) σ else none
    | _ => none
  | .lreturn => match st with
    | [(1, x)] => if fw_rt k = some .long then fw_fi (1, x) σ else none
    | _ => none
  | .dreturn => match st with
    | [(3, x)] => if fw_rt k = some .double then fw_fi (3, x) σ else none
    | _ => none
  | .freturn => match st with
    | [(4, x)] => if fw_rt k = some .float then fw_fi (4, x) σ else none
    | _ => none
  | .areturn => match st with
    | [(2, x)] => if fw_rt k = some (.object RX1) then fw_fi (2, x) σ else none
    | _ => none
  | .return_ => if fw_rt k = none ∧ st = [] then fw_fi (5, 0) σ else none
  | _ => none
def fw_s1 (k pc : Nat) (ll st : List fw_V) (σ : fw_M) : Option fw_A := match fw_dec k pc with
  | some (i, _) => fw_si k pc ll st σ i
  | none => none
/-- behind a call -/
def fw_af (k pc : Nat) (ll rest : List fw_V) (o : fw_O) : Option ((Nat × List fw_V × List fw_V × fw_M) ⊕ fw_O) :=
  if o.1.1 = 9 then match fw_hd k pc o.1.2.toNat with
    | some h => some (.inl (h, ll, [(7, 0)], o.2))
    | none => if k ≠ 0 ∧ fw_hs k = [] then some (.inr o) else none
  else if o.1.1 = 5 then some (.inl (pc + 3, ll, rest, o.2)) else some (.inl (pc + 3, ll, o.1 :: rest, o.2))
def fw_en (k : Nat) (as : List fw_V) : List fw_V := as ++ List.replicate (fw_mL k - as.length) (8, 0)
/-- n steps at most -/
def fw_ev : Nat → Nat → Nat → List fw_V → List fw_V → fw_M → Option fw_O
  | 0, _, _, _, _, _ => none
  | n + 1, k, pc, ll, st, σ => match fw_s1 k pc ll st σ with
    | none => none
    | some (.inl (pc', ll', st', σ')) => fw_ev n k pc' ll' st' σ'
    | some (.inr (.inl o)) => some o
    | some (.inr (.inr (c, as, rest))) => match fw_ev n c 0 (fw_en c as) [] σ with
      | none => none
      | some o => match fw_af k pc ll rest o with
        | none => none
        | some (.inl (pc', ll', st', σ')) => fw_ev n k pc' ll' st' σ'
        | some (.inr o') => some o'
end
section
def fw_ws : List Cond := lw_tbl.filter goodWord
theorem fw_t_tbl (j : Nat) : ∀ w ∈ fw_t j, w ∈ lw_tbl := by
  intro w h
  refine List.mem_append_right _ ?_
  unfold tables_1
  match j, h with
  | 1, h => exact List.mem_append_left _ h
  | 2, h => exact List.mem_append_right _ (List.mem_append_left _ h)
  | 3, h => exact List.mem_append_right _ (List.mem_append_right _ (List.mem_append_left _ h))
  | 4, h => exact List.mem_append_right _ (List.mem_append_right _ (List.mem_append_right _ (List.mem_append_left _ h)))
  | 5, h => exact List.mem_append_right _ (List.mem_append_right _ (List.mem_append_right _ (List.mem_append_right _ (List.mem_append_left _ h))))
  | 0, h => exact List.mem_append_right _ (List.mem_append_right _ (List.mem_append_right _ (List.mem_append_right _ (List.mem_append_right _ h))))
  | n + 6, h => exact List.mem_append_right _ (List.mem_append_right _ (List.mem_append_right _ (List.mem_append_right _ (List.mem_append_right _ h))))
theorem fw_tw (j i : Nat) {w : Cond} (h : (fw_t j)[i]? = some w) : w ∈ lw_tbl := fw_t_tbl j w (List.mem_of_getElem? h)
theorem fw_wd (j i : Nat) {w : Cond} (h : (fw_t j)[i]? = some w) (g : goodWord w = true) : w ∈ fw_ws := List.mem_filter.mpr ⟨fw_tw j i h, g⟩
theorem fw_ws_good : ∀ w ∈ fw_ws, (w.onTables && w.keeps) = true ∨ ∃ ty, w = .arrayClass ty := fun w h => good_of_word (List.mem_filter.mp h).2
theorem fw_ws_tbl : ∀ w ∈ fw_ws, w ∈ lw_tbl := fun w h => (List.mem_filter.mp h).1
theorem fw_goodIn {ws : List Cond} (h : ∀ w ∈ ws, w ∈ fw_ws) : GoodIn fw_ws ws := fun w hw => ⟨h w hw, fw_ws_good w (h w hw)⟩
theorem fw_u0 : ∀ w ∈ u_ws (fw_CN 0) (fw_CT 0) (fw_nf 0), w ∈ fw_ws := by
  intro w h
  obtain ⟨k, hk, rfl⟩ := List.mem_map.mp h
  have hk := List.mem_range.mp hk
  match k, hk with
  | 0, _ => exact fw_wd 1 98 rfl rfl
  | 1, _ => exact fw_wd 1 100 rfl rfl
  | 2, _ => exact fw_wd 1 102 rfl rfl
  | 3, _ => exact fw_wd 1 104 rfl rfl
  | n + 4, hk => exact absurd hk (by show ¬ (n + 4 < 4); omega)
theorem fw_u1 : ∀ w ∈ u_ws (fw_CN 1) (fw_CT 1) (fw_nf 1), w ∈ fw_ws := by
  intro w h
  obtain ⟨k, hk, rfl⟩ := List.mem_map.mp h
  have hk := List.mem_range.mp hk
  match k, hk with
  | 0, _ => exact fw_wd 3 92 rfl rfl
  | 1, _ => exact fw_wd 3 94 rfl rfl
  | 2, _ => exact fw_wd 3 96 rfl rfl
  | 3, _ => exact fw_wd 3 98 rfl rfl
  | 4, _ => exact fw_wd 3 100 rfl rfl
  | 5, _ => exact fw_wd 3 102 rfl rfl
  | n + 6, hk => exact absurd hk (by show ¬ (n + 6 < 6); omega)
theorem fw_u2 : ∀ w ∈ u_ws (fw_CN 2) (fw_CT 2) (fw_nf 2), w ∈ fw_ws := by
  intro w h
  obtain ⟨k, hk, rfl⟩ := List.mem_map.mp h
  have hk := List.mem_range.mp hk
  match k, hk with
  | 0, _ => exact fw_wd 1 227 rfl rfl
  | 1, _ => exact fw_wd 1 229 rfl rfl
  | 2, _ => exact fw_wd 1 231 rfl rfl
  | n + 3, hk => exact absurd hk (by show ¬ (n + 3 < 3); omega)
theorem fw_u3 : ∀ w ∈ u_ws (fw_CN 3) (fw_CT 3) (fw_nf 3), w ∈ fw_ws := by
  intro w h
  obtain ⟨k, hk, rfl⟩ := List.mem_map.mp h
  have hk := List.mem_range.mp hk
  match k, hk with
  | 0, _ => exact fw_wd 1 177 rfl rfl
  | 1, _ => exact fw_wd 1 179 rfl rfl
  | 2, _ => exact fw_wd 1 181 rfl rfl
  | 3, _ => exact fw_wd 1 183 rfl rfl
  | 4, _ => exact fw_wd 1 185 rfl rfl
  | 5, _ => exact fw_wd 1 187 rfl rfl
  | 6, _ => exact fw_wd 1 189 rfl rfl
  | 7, _ => exact fw_wd 1 191 rfl rfl
  | 8, _ => exact fw_wd 1 193 rfl rfl
  | n + 9, hk => exact absurd hk (by show ¬ (n + 9 < 9); omega)
theorem fw_u4 : ∀ w ∈ u_ws (fw_CN 4) (fw_CT 4) (fw_nf 4), w ∈ fw_ws := by
  intro w h
  obtain ⟨k, hk, rfl⟩ := List.mem_map.mp h
  have hk := List.mem_range.mp hk
  match k, hk with
  | 0, _ => exact fw_wd 1 54 rfl rfl
  | 1, _ => exact fw_wd 1 56 rfl rfl
  | 2, _ => exact fw_wd 1 58 rfl rfl
  | 3, _ => exact fw_wd 1 60 rfl rfl
  | 4, _ => exact fw_wd 1 62 rfl rfl
  | 5, _ => exact fw_wd 1 64 rfl rfl
  | 6, _ => exact fw_wd 1 66 rfl rfl
  | 7, _ => exact fw_wd 1 68 rfl rfl
  | 8, _ => exact fw_wd 1 70 rfl rfl
  | 9, _ => exact fw_wd 1 72 rfl rfl
  | n + 10, hk => exact absurd hk (by show ¬ (n + 10 < 10); omega)
theorem fw_u5 : ∀ w ∈ u_ws (fw_CN 5) (fw_CT 5) (fw_nf 5), w ∈ fw_ws := by
  intro w h
  obtain ⟨k, hk, rfl⟩ := List.mem_map.mp h
  have hk := List.mem_range.mp hk
  match k, hk with
  | 0, _ => exact fw_wd 1 209 rfl rfl
  | 1, _ => exact fw_wd 1 211 rfl rfl
  | n + 2, hk => exact absurd hk (by show ¬ (n + 2 < 2); omega)
theorem fw_u6 : ∀ w ∈ u_ws (fw_CN 6) (fw_CT 6) (fw_nf 6), w ∈ fw_ws := by
  intro w h
  obtain ⟨k, hk, rfl⟩ := List.mem_map.mp h
  have hk := List.mem_range.mp hk
  match k, hk with
  | 0, _ => exact fw_wd 1 126 rfl rfl
  | 1, _ => exact fw_wd 1 128 rfl rfl
  | 2, _ => exact fw_wd 1 130 rfl rfl
  | 3, _ => exact fw_wd 1 132 rfl rfl
  | 4, _ => exact fw_wd 1 134 rfl rfl
  | 5, _ => exact fw_wd 1 136 rfl rfl
  | 6, _ => exact fw_wd 1 138 rfl rfl
  | n + 7, hk => exact absurd hk (by show ¬ (n + 7 < 7); omega)
theorem fw_u7 : ∀ w ∈ u_ws (fw_CN 7) (fw_CT 7) (fw_nf 7), w ∈ fw_ws := by
  intro w h
  obtain ⟨k, hk, rfl⟩ := List.mem_map.mp h
  have hk := List.mem_range.mp hk
  match k, hk with
  | 0, _ => exact fw_wd 1 151 rfl rfl
  | 1, _ => exact fw_wd 1 153 rfl rfl
  | 2, _ => exact fw_wd 1 155 rfl rfl
  | 3, _ => exact fw_wd 1 157 rfl rfl
  | n + 4, hk => exact absurd hk (by show ¬ (n + 4 < 4); omega)
theorem fw_u8 : ∀ w ∈ u_ws (fw_CN 8) (fw_CT 8) (fw_nf 8), w ∈ fw_ws := by
  intro w h
  obtain ⟨k, hk, rfl⟩ := List.mem_map.mp h
  have hk := List.mem_range.mp hk
  match k, hk with
  | 0, _ => exact fw_wd 2 3 rfl rfl
  | 1, _ => exact fw_wd 2 5 rfl rfl
  | 2, _ => exact fw_wd 2 7 rfl rfl
  | 3, _ => exact fw_wd 2 9 rfl rfl
  | 4, _ => exact fw_wd 2 11 rfl rfl
  | 5, _ => exact fw_wd 2 13 rfl rfl
  | 6, _ => exact fw_wd 2 15 rfl rfl
  | 7, _ => exact fw_wd 2 17 rfl rfl
  | 8, _ => exact fw_wd 2 19 rfl rfl
  | n + 9, hk => exact absurd hk (by show ¬ (n + 9 < 9); omega)
theorem fw_u9 : ∀ w ∈ u_ws (fw_CN 9) (fw_CT 9) (fw_nf 9), w ∈ fw_ws := by
  intro w h
  obtain ⟨k, hk, rfl⟩ := List.mem_map.mp h
  have hk := List.mem_range.mp hk
  match k, hk with
  | 0, _ => exact fw_wd 5 118 rfl rfl
  | 1, _ => exact fw_wd 5 120 rfl rfl
  | 2, _ => exact fw_wd 5 122 rfl rfl
  | 3, _ => exact fw_wd 5 124 rfl rfl
  | 4, _ => exact fw_wd 5 126 rfl rfl
  | 5, _ => exact fw_wd 5 128 rfl rfl
  | 6, _ => exact fw_wd 5 130 rfl rfl
  | 7, _ => exact fw_wd 5 132 rfl rfl
  | 8, _ => exact fw_wd 5 134 rfl rfl
  | 9, _ => exact fw_wd 5 136 rfl rfl
  | 10, _ => exact fw_wd 5 138 rfl rfl
  | 11, _ => exact fw_wd 5 140 rfl rfl
  | 12, _ => exact fw_wd 5 142 rfl rfl
  | 13, _ => exact fw_wd 5 144 rfl rfl
  | 14, _ => exact fw_wd 5 146 rfl rfl
  | 15, _ => exact fw_wd 5 148 rfl rfl
  | 16, _ => exact fw_wd 5 150 rfl rfl
  | 17, _ => exact fw_wd 5 152 rfl rfl
  | 18, _ => exact fw_wd 5 154 rfl rfl
  | 19, _ => exact fw_wd 5 156 rfl rfl
  | 20, _ => exact fw_wd 5 158 rfl rfl
  | 21, _ => exact fw_wd 5 160 rfl rfl
  | 22, _ => exact fw_wd 5 162 rfl rfl
  | 23, _ => exact fw_wd 5 164 rfl rfl
  | 24, _ => exact fw_wd 5 166 rfl rfl
  | 25, _ => exact fw_wd 5 168 rfl rfl
  | 26, _ => exact fw_wd 5 170 rfl rfl
  | 27, _ => exact fw_wd 5 172 rfl rfl
  | 28, _ => exact fw_wd 5 174 rfl rfl
  | 29, _ => exact fw_wd 5 176 rfl rfl
  | 30, _ => exact fw_wd 5 178 rfl rfl
  | 31, _ => exact fw_wd 5 180 rfl rfl
  | 32, _ => exact fw_wd 5 182 rfl rfl
  | 33, _ => exact fw_wd 5 184 rfl rfl
  | 34, _ => exact fw_wd 5 186 rfl rfl
  | n + 35, hk => exact absurd hk (by show ¬ (n + 35 < 35); omega)
theorem fw_uw (c : Nat) (h : c < 10) : ∀ w ∈ u_ws (fw_CN c) (fw_CT c) (fw_nf c), w ∈ fw_ws := by
  match c, h with
  | 0, _ => exact fw_u0
  | 1, _ => exact fw_u1
  | 2, _ => exact fw_u2
  | 3, _ => exact fw_u3
  | 4, _ => exact fw_u4
  | 5, _ => exact fw_u5
  | 6, _ => exact fw_u6
  | 7, _ => exact fw_u7
  | 8, _ => exact fw_u8
  | 9, _ => exact fw_u9
  | n + 10, h => exact absurd h (by omega)
theorem fw_cl (c : Nat) (h : c < 10) : vwCl[c + 2]? = some (fw_CN c, fw_CT c, fw_nf c) := by
  match c, h with
  | 0, _ => rfl
  | 1, _ => rfl
  | 2, _ => rfl
  | 3, _ => rfl
  | 4, _ => rfl
  | 5, _ => rfl
  | 6, _ => rfl
  | 7, _ => rfl
  | 8, _ => rfl
  | 9, _ => rfl
  | n + 10, h => exact absurd h (by omega)
theorem fw_tyok (c : Nat) (h : c < 10) : ∀ k, k < fw_nf c → parseFieldDescriptor (fw_CT c k).2.2.1 = some (fw_ty c k) := by
  match c, h with
  | 0, _ => exact tyX0_ok
  | 1, _ => exact tyX1_ok
  | 2, _ => exact tyX2_ok
  | 3, _ => exact tyX3_ok
  | 4, _ => exact tyX4_ok
  | 5, _ => exact tyX5_ok
  | 6, _ => exact tyX6_ok
  | 7, _ => exact tyX7_ok
  | 8, _ => exact tyX8_ok
  | 9, _ => exact tyX9_ok
  | n + 10, h => exact absurd h (by omega)
theorem fw_nmok (c : Nat) (h : c < 10) : ∀ a, a < fw_nf c → ∀ b, b < fw_nf c → a ≠ b → (fw_CT c a).2.1 ≠ (fw_CT c b).2.1 := by
  match c, h with
  | 0, _ => exact nmX0
  | 1, _ => exact nmX1
  | 2, _ => exact nmX2
  | 3, _ => exact nmX3
  | 4, _ => exact nmX4
  | 5, _ => exact nmX5
  | 6, _ => exact nmX6
  | 7, _ => exact nmX7
  | 8, _ => exact nmX8
  | 9, _ => exact nmX9
  | n + 10, h => exact absurd h (by omega)
theorem fw_ini (c : Nat) (h : c < 11) : Cond.initialized (fw_CN c) ∈ fw_ws := by
  match c, h with
  | 0, _ => exact fw_wd 1 3 rfl rfl
  | 1, _ => exact fw_wd 1 17 rfl rfl
  | 2, _ => exact fw_wd 1 9 rfl rfl
  | 3, _ => exact fw_wd 1 7 rfl rfl
  | 4, _ => exact fw_wd 1 2 rfl rfl
  | 5, _ => exact fw_wd 1 8 rfl rfl
  | 6, _ => exact fw_wd 1 5 rfl rfl
  | 7, _ => exact fw_wd 1 6 rfl rfl
  | 8, _ => exact fw_wd 1 1 rfl rfl
  | 9, _ => exact fw_wd 1 10 rfl rfl
  | 10, _ => exact fw_wd 1 0 rfl rfl
  | n + 11, h => exact absurd h (by omega)
theorem fw_fr_ok : ∀ q ∈ fw_frT, (fw_t q.2.2.2.2.1)[q.2.2.2.2.2]? = some (.fieldLink (fw_CN q.1) q.2.1 (fw_CN q.2.2.1) (fw_CT q.2.2.1 q.2.2.2.1).2.1 (fw_CT q.2.2.1 q.2.2.2.1).2.2.1) ∧ q.2.2.2.1 < fw_nf q.2.2.1 ∧ q.2.2.1 < 10 ∧ (fw_CT q.2.2.1 q.2.2.2.1).1 = fw_CN q.2.2.1 := by decide +kernel
theorem fw_cr_ok : ∀ q ∈ fw_crT, (fw_t q.2.2.2.1)[q.2.2.2.2]? = some (.classLink (fw_CN q.1) q.2.1 (fw_CN q.2.2.1)) ∧ q.2.2.1 < 10 := by decide +kernel
theorem fw_xr_ok : ∀ q ∈ fw_xrT, (fw_t q.2.2.2.1)[q.2.2.2.2]? = some (.classLink (fw_CN 8) q.1 (fw_xn q.2.2.1)) ∧ q.2.2.1 < 6 := by decide +kernel
theorem fw_mr_ok : ∀ q ∈ fw_mrT, q.2.2.1 < 212 → q.2.2.2.1 = 0 → (fw_t q.2.2.2.2.1)[q.2.2.2.2.2]? = some (.methodLink (fw_CN q.1) q.2.1 (fw_y q.2.2.1)) := by decide +kernel
theorem fw_mr_lt : ∀ q ∈ fw_mrT, (q.2.2.1 < 212 ∨ 1000 ≤ q.2.2.1) ∧ q.2.2.2.1 < 2 := by decide +kernel
theorem fw_ins (c : Nat) (h : c < 10) : Cond.instantiable (fw_CN c) (fw_nf c) ∈ fw_ws := by
  match c, h with
  | 0, _ => exact fw_wd 1 78 rfl rfl
  | 1, _ => exact fw_wd 3 71 rfl rfl
  | 2, _ => exact fw_wd 1 215 rfl rfl
  | 3, _ => exact fw_wd 1 161 rfl rfl
  | 4, _ => exact fw_wd 1 32 rfl rfl
  | 5, _ => exact fw_wd 1 197 rfl rfl
  | 6, _ => exact fw_wd 1 108 rfl rfl
  | 7, _ => exact fw_wd 1 142 rfl rfl
  | 8, _ => exact fw_wd 1 24 rfl rfl
  | 9, _ => exact fw_wd 5 78 rfl rfl
  | n + 10, h => exact absurd h (by omega)
set_option maxRecDepth 20000 in
theorem fw_c1 : (fw_t 1)[81]? = some (.code (fw_y 1) (fw_B 1) (fw_mL 1) (fw_rt 1)) := rfl
set_option maxRecDepth 20000 in
theorem fw_c2 : (fw_t 1)[86]? = some (.code (fw_y 2) (fw_B 2) (fw_mL 2) (fw_rt 2)) := rfl
set_option maxRecDepth 20000 in
theorem fw_c3 : (fw_t 2)[116]? = some (.code (fw_y 3) (fw_B 3) (fw_mL 3) (fw_rt 3)) := rfl
set_option maxRecDepth 20000 in
theorem fw_c4 : (fw_t 2)[69]? = some (.code (fw_y 4) (fw_B 4) (fw_mL 4) (fw_rt 4)) := rfl
set_option maxRecDepth 20000 in
theorem fw_c5 : (fw_t 2)[65]? = some (.code (fw_y 5) (fw_B 5) (fw_mL 5) (fw_rt 5)) := rfl
set_option maxRecDepth 20000 in
theorem fw_c6 : (fw_t 2)[124]? = some (.code (fw_y 6) (fw_B 6) (fw_mL 6) (fw_rt 6)) := rfl
set_option maxRecDepth 20000 in
theorem fw_c7 : (fw_t 2)[61]? = some (.code (fw_y 7) (fw_B 7) (fw_mL 7) (fw_rt 7)) := rfl
set_option maxRecDepth 20000 in
theorem fw_c8 : (fw_t 2)[162]? = some (.code (fw_y 8) (fw_B 8) (fw_mL 8) (fw_rt 8)) := rfl
set_option maxRecDepth 20000 in
theorem fw_c9 : (fw_t 4)[78]? = some (.code (fw_y 9) (fw_B 9) (fw_mL 9) (fw_rt 9)) := rfl
set_option maxRecDepth 20000 in
theorem fw_c10 : (fw_t 2)[133]? = some (.code (fw_y 10) (fw_B 10) (fw_mL 10) (fw_rt 10)) := rfl
set_option maxRecDepth 20000 in
theorem fw_c11 : (fw_t 2)[157]? = some (.code (fw_y 11) (fw_B 11) (fw_mL 11) (fw_rt 11)) := rfl
set_option maxRecDepth 20000 in
theorem fw_c12 : (fw_t 3)[74]? = some (.code (fw_y 12) (fw_B 12) (fw_mL 12) (fw_rt 12)) := rfl
set_option maxRecDepth 20000 in
theorem fw_c13 : (fw_t 4)[42]? = some (.code (fw_y 13) (fw_B 13) (fw_mL 13) (fw_rt 13)) := rfl
set_option maxRecDepth 20000 in
theorem fw_c14 : (fw_t 4)[227]? = some (.code (fw_y 14) (fw_B 14) (fw_mL 14) (fw_rt 14)) := rfl
set_option maxRecDepth 20000 in
theorem fw_c15 : (fw_t 2)[94]? = some (.code (fw_y 15) (fw_B 15) (fw_mL 15) (fw_rt 15)) := rfl
set_option maxRecDepth 20000 in
theorem fw_c16 : (fw_t 2)[98]? = some (.code (fw_y 16) (fw_B 16) (fw_mL 16) (fw_rt 16)) := rfl
set_option maxRecDepth 20000 in
theorem fw_c17 : (fw_t 1)[218]? = some (.code (fw_y 17) (fw_B 17) (fw_mL 17) (fw_rt 17)) := rfl
set_option maxRecDepth 20000 in
theorem fw_c18 : (fw_t 5)[2]? = some (.code (fw_y 18) (fw_B 18) (fw_mL 18) (fw_rt 18)) := rfl
set_option maxRecDepth 20000 in
theorem fw_c19 : (fw_t 4)[217]? = some (.code (fw_y 19) (fw_B 19) (fw_mL 19) (fw_rt 19)) := rfl
set_option maxRecDepth 20000 in
theorem fw_c20 : (fw_t 5)[10]? = some (.code (fw_y 20) (fw_B 20) (fw_mL 20) (fw_rt 20)) := rfl
set_option maxRecDepth 20000 in
theorem fw_c21 : (fw_t 5)[15]? = some (.code (fw_y 21) (fw_B 21) (fw_mL 21) (fw_rt 21)) := rfl
set_option maxRecDepth 20000 in
theorem fw_c22 : (fw_t 5)[28]? = some (.code (fw_y 22) (fw_B 22) (fw_mL 22) (fw_rt 22)) := rfl
set_option maxRecDepth 20000 in
theorem fw_c23 : (fw_t 5)[6]? = some (.code (fw_y 23) (fw_B 23) (fw_mL 23) (fw_rt 23)) := rfl
set_option maxRecDepth 20000 in
theorem fw_c24 : (fw_t 1)[164]? = some (.code (fw_y 24) (fw_B 24) (fw_mL 24) (fw_rt 24)) := rfl
set_option maxRecDepth 20000 in
theorem fw_c25 : (fw_t 2)[107]? = some (.code (fw_y 25) (fw_B 25) (fw_mL 25) (fw_rt 25)) := rfl
set_option maxRecDepth 20000 in
theorem fw_c26 : (fw_t 2)[170]? = some (.code (fw_y 26) (fw_B 26) (fw_mL 26) (fw_rt 26)) := rfl
set_option maxRecDepth 20000 in
theorem fw_c27 : (fw_t 2)[111]? = some (.code (fw_y 27) (fw_B 27) (fw_mL 27) (fw_rt 27)) := rfl
set_option maxRecDepth 20000 in
theorem fw_c28 : (fw_t 2)[120]? = some (.code (fw_y 28) (fw_B 28) (fw_mL 28) (fw_rt 28)) := rfl
set_option maxRecDepth 20000 in
theorem fw_c29 : (fw_t 2)[174]? = some (.code (fw_y 29) (fw_B 29) (fw_mL 29) (fw_rt 29)) := rfl
set_option maxRecDepth 20000 in
theorem fw_c30 : (fw_t 2)[178]? = some (.code (fw_y 30) (fw_B 30) (fw_mL 30) (fw_rt 30)) := rfl
set_option maxRecDepth 20000 in
theorem fw_c31 : (fw_t 2)[137]? = some (.code (fw_y 31) (fw_B 31) (fw_mL 31) (fw_rt 31)) := rfl
set_option maxRecDepth 20000 in
theorem fw_c32 : (fw_t 1)[35]? = some (.code (fw_y 32) (fw_B 32) (fw_mL 32) (fw_rt 32)) := rfl
set_option maxRecDepth 20000 in
theorem fw_c33 : (fw_t 2)[85]? = some (.code (fw_y 33) (fw_B 33) (fw_mL 33) (fw_rt 33)) := rfl
set_option maxRecDepth 20000 in
theorem fw_c34 : (fw_t 4)[5]? = some (.code (fw_y 34) (fw_B 34) (fw_mL 34) (fw_rt 34)) := rfl
set_option maxRecDepth 20000 in
theorem fw_c35 : (fw_t 4)[25]? = some (.code (fw_y 35) (fw_B 35) (fw_mL 35) (fw_rt 35)) := rfl
set_option maxRecDepth 20000 in
theorem fw_c36 : (fw_t 4)[37]? = some (.code (fw_y 36) (fw_B 36) (fw_mL 36) (fw_rt 36)) := rfl
set_option maxRecDepth 20000 in
theorem fw_c37 : (fw_t 4)[223]? = some (.code (fw_y 37) (fw_B 37) (fw_mL 37) (fw_rt 37)) := rfl
set_option maxRecDepth 20000 in
theorem fw_c38 : (fw_t 2)[141]? = some (.code (fw_y 38) (fw_B 38) (fw_mL 38) (fw_rt 38)) := rfl
set_option maxRecDepth 20000 in
theorem fw_c39 : (fw_t 4)[67]? = some (.code (fw_y 39) (fw_B 39) (fw_mL 39) (fw_rt 39)) := rfl
set_option maxRecDepth 20000 in
theorem fw_c40 : (fw_t 4)[90]? = some (.code (fw_y 40) (fw_B 40) (fw_mL 40) (fw_rt 40)) := rfl
set_option maxRecDepth 20000 in
theorem fw_c41 : (fw_t 5)[39]? = some (.code (fw_y 41) (fw_B 41) (fw_mL 41) (fw_rt 41)) := rfl
set_option maxRecDepth 20000 in
theorem fw_c42 : (fw_t 4)[130]? = some (.code (fw_y 42) (fw_B 42) (fw_mL 42) (fw_rt 42)) := rfl
set_option maxRecDepth 20000 in
theorem fw_c43 : (fw_t 1)[200]? = some (.code (fw_y 43) (fw_B 43) (fw_mL 43) (fw_rt 43)) := rfl
set_option maxRecDepth 20000 in
theorem fw_c44 : (fw_t 2)[81]? = some (.code (fw_y 44) (fw_B 44) (fw_mL 44) (fw_rt 44)) := rfl
set_option maxRecDepth 20000 in
theorem fw_c45 : (fw_t 4)[46]? = some (.code (fw_y 45) (fw_B 45) (fw_mL 45) (fw_rt 45)) := rfl
set_option maxRecDepth 20000 in
theorem fw_c46 : (fw_t 2)[102]? = some (.code (fw_y 46) (fw_B 46) (fw_mL 46) (fw_rt 46)) := rfl
set_option maxRecDepth 20000 in
theorem fw_c47 : (fw_t 1)[111]? = some (.code (fw_y 47) (fw_B 47) (fw_mL 47) (fw_rt 47)) := rfl
set_option maxRecDepth 20000 in
theorem fw_c48 : (fw_t 3)[70]? = some (.code (fw_y 48) (fw_B 48) (fw_mL 48) (fw_rt 48)) := rfl
set_option maxRecDepth 20000 in
theorem fw_c49 : (fw_t 2)[73]? = some (.code (fw_y 49) (fw_B 49) (fw_mL 49) (fw_rt 49)) := rfl
set_option maxRecDepth 20000 in
theorem fw_c50 : (fw_t 2)[182]? = some (.code (fw_y 50) (fw_B 50) (fw_mL 50) (fw_rt 50)) := rfl
set_option maxRecDepth 20000 in
theorem fw_c51 : (fw_t 3)[50]? = some (.code (fw_y 51) (fw_B 51) (fw_mL 51) (fw_rt 51)) := rfl
set_option maxRecDepth 20000 in
theorem fw_c52 : (fw_t 3)[186]? = some (.code (fw_y 52) (fw_B 52) (fw_mL 52) (fw_rt 52)) := rfl
set_option maxRecDepth 20000 in
theorem fw_c53 : (fw_t 3)[206]? = some (.code (fw_y 53) (fw_B 53) (fw_mL 53) (fw_rt 53)) := rfl
set_option maxRecDepth 20000 in
theorem fw_c54 : (fw_t 3)[210]? = some (.code (fw_y 54) (fw_B 54) (fw_mL 54) (fw_rt 54)) := rfl
set_option maxRecDepth 20000 in
theorem fw_c55 : (fw_t 3)[214]? = some (.code (fw_y 55) (fw_B 55) (fw_mL 55) (fw_rt 55)) := rfl
set_option maxRecDepth 20000 in
theorem fw_c56 : (fw_t 4)[122]? = some (.code (fw_y 56) (fw_B 56) (fw_mL 56) (fw_rt 56)) := rfl
set_option maxRecDepth 20000 in
theorem fw_c57 : (fw_t 2)[150]? = some (.code (fw_y 57) (fw_B 57) (fw_mL 57) (fw_rt 57)) := rfl
set_option maxRecDepth 20000 in
theorem fw_c58 : (fw_t 4)[134]? = some (.code (fw_y 58) (fw_B 58) (fw_mL 58) (fw_rt 58)) := rfl
set_option maxRecDepth 20000 in
theorem fw_c59 : (fw_t 2)[129]? = some (.code (fw_y 59) (fw_B 59) (fw_mL 59) (fw_rt 59)) := rfl
set_option maxRecDepth 20000 in
theorem fw_c60 : (fw_t 2)[146]? = some (.code (fw_y 60) (fw_B 60) (fw_mL 60) (fw_rt 60)) := rfl
set_option maxRecDepth 20000 in
theorem fw_c61 : (fw_t 2)[166]? = some (.code (fw_y 61) (fw_B 61) (fw_mL 61) (fw_rt 61)) := rfl
set_option maxRecDepth 20000 in
theorem fw_c62 : (fw_t 2)[89]? = some (.code (fw_y 62) (fw_B 62) (fw_mL 62) (fw_rt 62)) := rfl
set_option maxRecDepth 20000 in
theorem fw_c63 : (fw_t 1)[145]? = some (.code (fw_y 63) (fw_B 63) (fw_mL 63) (fw_rt 63)) := rfl
set_option maxRecDepth 20000 in
theorem fw_c64 : (fw_t 4)[126]? = some (.code (fw_y 64) (fw_B 64) (fw_mL 64) (fw_rt 64)) := rfl
set_option maxRecDepth 20000 in
theorem fw_c65 : (fw_t 4)[148]? = some (.code (fw_y 65) (fw_B 65) (fw_mL 65) (fw_rt 65)) := rfl
set_option maxRecDepth 20000 in
theorem fw_c66 : (fw_t 4)[138]? = some (.code (fw_y 66) (fw_B 66) (fw_mL 66) (fw_rt 66)) := rfl
set_option maxRecDepth 20000 in
theorem fw_c67 : (fw_t 4)[142]? = some (.code (fw_y 67) (fw_B 67) (fw_mL 67) (fw_rt 67)) := rfl
set_option maxRecDepth 20000 in
theorem fw_c68 : (fw_t 1)[27]? = some (.code (fw_y 68) (fw_B 68) (fw_mL 68) (fw_rt 68)) := rfl
set_option maxRecDepth 20000 in
theorem fw_c69 : (fw_t 2)[191]? = some (.code (fw_y 69) (fw_B 69) (fw_mL 69) (fw_rt 69)) := rfl
set_option maxRecDepth 20000 in
theorem fw_c70 : (fw_t 3)[43]? = some (.code (fw_y 70) (fw_B 70) (fw_mL 70) (fw_rt 70)) := rfl
set_option maxRecDepth 20000 in
theorem fw_c71 : (fw_t 3)[144]? = some (.code (fw_y 71) (fw_B 71) (fw_mL 71) (fw_rt 71)) := rfl
set_option maxRecDepth 20000 in
theorem fw_c72 : (fw_t 3)[170]? = some (.code (fw_y 72) (fw_B 72) (fw_mL 72) (fw_rt 72)) := rfl
set_option maxRecDepth 20000 in
theorem fw_c73 : (fw_t 3)[178]? = some (.code (fw_y 73) (fw_B 73) (fw_mL 73) (fw_rt 73)) := rfl
set_option maxRecDepth 20000 in
theorem fw_c74 : (fw_t 3)[221]? = some (.code (fw_y 74) (fw_B 74) (fw_mL 74) (fw_rt 74)) := rfl
set_option maxRecDepth 20000 in
theorem fw_c75 : (fw_t 3)[228]? = some (.code (fw_y 75) (fw_B 75) (fw_mL 75) (fw_rt 75)) := rfl
set_option maxRecDepth 20000 in
theorem fw_c76 : (fw_t 4)[0]? = some (.code (fw_y 76) (fw_B 76) (fw_mL 76) (fw_rt 76)) := rfl
set_option maxRecDepth 20000 in
theorem fw_c77 : (fw_t 4)[12]? = some (.code (fw_y 77) (fw_B 77) (fw_mL 77) (fw_rt 77)) := rfl
set_option maxRecDepth 20000 in
theorem fw_c78 : (fw_t 2)[25]? = some (.code (fw_y 78) (fw_B 78) (fw_mL 78) (fw_rt 78)) := rfl
set_option maxRecDepth 20000 in
theorem fw_c79 : (fw_t 4)[59]? = some (.code (fw_y 79) (fw_B 79) (fw_mL 79) (fw_rt 79)) := rfl
set_option maxRecDepth 20000 in
theorem fw_c80 : (fw_t 4)[74]? = some (.code (fw_y 80) (fw_B 80) (fw_mL 80) (fw_rt 80)) := rfl
set_option maxRecDepth 20000 in
theorem fw_c81 : (fw_t 4)[86]? = some (.code (fw_y 81) (fw_B 81) (fw_mL 81) (fw_rt 81)) := rfl
set_option maxRecDepth 20000 in
theorem fw_c82 : (fw_t 4)[97]? = some (.code (fw_y 82) (fw_B 82) (fw_mL 82) (fw_rt 82)) := rfl
set_option maxRecDepth 20000 in
theorem fw_c83 : (fw_t 2)[29]? = some (.code (fw_y 83) (fw_B 83) (fw_mL 83) (fw_rt 83)) := rfl
set_option maxRecDepth 20000 in
theorem fw_c84 : (fw_t 2)[33]? = some (.code (fw_y 84) (fw_B 84) (fw_mL 84) (fw_rt 84)) := rfl
set_option maxRecDepth 20000 in
theorem fw_c85 : (fw_t 2)[37]? = some (.code (fw_y 85) (fw_B 85) (fw_mL 85) (fw_rt 85)) := rfl
set_option maxRecDepth 20000 in
theorem fw_c86 : (fw_t 4)[104]? = some (.code (fw_y 86) (fw_B 86) (fw_mL 86) (fw_rt 86)) := rfl
set_option maxRecDepth 20000 in
theorem fw_c87 : (fw_t 4)[111]? = some (.code (fw_y 87) (fw_B 87) (fw_mL 87) (fw_rt 87)) := rfl
set_option maxRecDepth 20000 in
theorem fw_c88 : (fw_t 4)[118]? = some (.code (fw_y 88) (fw_B 88) (fw_mL 88) (fw_rt 88)) := rfl
set_option maxRecDepth 20000 in
theorem fw_c89 : (fw_t 4)[156]? = some (.code (fw_y 89) (fw_B 89) (fw_mL 89) (fw_rt 89)) := rfl
set_option maxRecDepth 20000 in
theorem fw_c90 : (fw_t 4)[168]? = some (.code (fw_y 90) (fw_B 90) (fw_mL 90) (fw_rt 90)) := rfl
set_option maxRecDepth 20000 in
theorem fw_c91 : (fw_t 4)[175]? = some (.code (fw_y 91) (fw_B 91) (fw_mL 91) (fw_rt 91)) := rfl
set_option maxRecDepth 20000 in
theorem fw_c92 : (fw_t 4)[182]? = some (.code (fw_y 92) (fw_B 92) (fw_mL 92) (fw_rt 92)) := rfl
set_option maxRecDepth 20000 in
theorem fw_c93 : (fw_t 4)[190]? = some (.code (fw_y 93) (fw_B 93) (fw_mL 93) (fw_rt 93)) := rfl
set_option maxRecDepth 20000 in
theorem fw_c94 : (fw_t 4)[197]? = some (.code (fw_y 94) (fw_B 94) (fw_mL 94) (fw_rt 94)) := rfl
set_option maxRecDepth 20000 in
theorem fw_c95 : (fw_t 4)[205]? = some (.code (fw_y 95) (fw_B 95) (fw_mL 95) (fw_rt 95)) := rfl
set_option maxRecDepth 20000 in
theorem fw_c96 : (fw_t 4)[213]? = some (.code (fw_y 96) (fw_B 96) (fw_mL 96) (fw_rt 96)) := rfl
set_option maxRecDepth 20000 in
theorem fw_c97 : (fw_t 2)[41]? = some (.code (fw_y 97) (fw_B 97) (fw_mL 97) (fw_rt 97)) := rfl
set_option maxRecDepth 20000 in
theorem fw_c98 : (fw_t 4)[234]? = some (.code (fw_y 98) (fw_B 98) (fw_mL 98) (fw_rt 98)) := rfl
set_option maxRecDepth 20000 in
theorem fw_c99 : (fw_t 5)[23]? = some (.code (fw_y 99) (fw_B 99) (fw_mL 99) (fw_rt 99)) := rfl
set_option maxRecDepth 20000 in
theorem fw_c100 : (fw_t 5)[35]? = some (.code (fw_y 100) (fw_B 100) (fw_mL 100) (fw_rt 100)) := rfl
set_option maxRecDepth 20000 in
theorem fw_c101 : (fw_t 2)[45]? = some (.code (fw_y 101) (fw_B 101) (fw_mL 101) (fw_rt 101)) := rfl
set_option maxRecDepth 20000 in
theorem fw_c102 : (fw_t 5)[60]? = some (.code (fw_y 102) (fw_B 102) (fw_mL 102) (fw_rt 102)) := rfl
set_option maxRecDepth 20000 in
theorem fw_c103 : (fw_t 5)[76]? = some (.code (fw_y 103) (fw_B 103) (fw_mL 103) (fw_rt 103)) := rfl
set_option maxRecDepth 20000 in
theorem fw_c104 : (fw_t 2)[49]? = some (.code (fw_y 104) (fw_B 104) (fw_mL 104) (fw_rt 104)) := rfl
set_option maxRecDepth 20000 in
theorem fw_c105 : (fw_t 3)[46]? = some (.code (fw_y 105) (fw_B 105) (fw_mL 105) (fw_rt 105)) := rfl
set_option maxRecDepth 20000 in
theorem fw_c106 : (fw_t 2)[153]? = some (.code (fw_y 106) (fw_B 106) (fw_mL 106) (fw_rt 106)) := rfl
set_option maxRecDepth 20000 in
theorem fw_c107 : (fw_t 4)[159]? = some (.code (fw_y 107) (fw_B 107) (fw_mL 107) (fw_rt 107)) := rfl
set_option maxRecDepth 20000 in
theorem fw_c108 : (fw_t 4)[15]? = some (.code (fw_y 108) (fw_B 108) (fw_mL 108) (fw_rt 108)) := rfl
set_option maxRecDepth 20000 in
theorem fw_c109 : (fw_t 3)[232]? = some (.code (fw_y 109) (fw_B 109) (fw_mL 109) (fw_rt 109)) := rfl
set_option maxRecDepth 20000 in
theorem fw_c110 : (fw_t 3)[182]? = some (.code (fw_y 110) (fw_B 110) (fw_mL 110) (fw_rt 110)) := rfl
set_option maxRecDepth 20000 in
theorem fw_c111 : (fw_t 4)[63]? = some (.code (fw_y 111) (fw_B 111) (fw_mL 111) (fw_rt 111)) := rfl
set_option maxRecDepth 20000 in
theorem fw_c112 : (fw_t 3)[148]? = some (.code (fw_y 112) (fw_B 112) (fw_mL 112) (fw_rt 112)) := rfl
set_option maxRecDepth 20000 in
theorem fw_c113 : (fw_t 4)[238]? = some (.code (fw_y 113) (fw_B 113) (fw_mL 113) (fw_rt 113)) := rfl
set_option maxRecDepth 20000 in
theorem fw_c114 : (fw_t 5)[64]? = some (.code (fw_y 114) (fw_B 114) (fw_mL 114) (fw_rt 114)) := rfl
set_option maxRecDepth 20000 in
theorem fw_c115 : (fw_t 4)[19]? = some (.code (fw_y 115) (fw_B 115) (fw_mL 115) (fw_rt 115)) := rfl
set_option maxRecDepth 20000 in
theorem fw_c116 : (fw_t 4)[30]? = some (.code (fw_y 116) (fw_B 116) (fw_mL 116) (fw_rt 116)) := rfl
set_option maxRecDepth 20000 in
theorem fw_c117 : (fw_t 4)[50]? = some (.code (fw_y 117) (fw_B 117) (fw_mL 117) (fw_rt 117)) := rfl
set_option maxRecDepth 20000 in
theorem fw_c118 : (fw_t 2)[53]? = some (.code (fw_y 118) (fw_B 118) (fw_mL 118) (fw_rt 118)) := rfl
set_option maxRecDepth 20000 in
theorem fw_c119 : (fw_t 2)[77]? = some (.code (fw_y 119) (fw_B 119) (fw_mL 119) (fw_rt 119)) := rfl
set_option maxRecDepth 20000 in
theorem fw_c120 : (fw_t 2)[57]? = some (.code (fw_y 120) (fw_B 120) (fw_mL 120) (fw_rt 120)) := rfl
set_option maxRecDepth 20000 in
theorem fw_c121 : (fw_t 5)[81]? = some (.code (fw_y 121) (fw_B 121) (fw_mL 121) (fw_rt 121)) := rfl
set_option maxRecDepth 20000 in
theorem fw_c122 : (fw_t 5)[193]? = some (.code (fw_y 122) (fw_B 122) (fw_mL 122) (fw_rt 122)) := rfl
set_option maxRecDepth 20000 in
theorem fw_c123 : (fw_t 5)[200]? = some (.code (fw_y 123) (fw_B 123) (fw_mL 123) (fw_rt 123)) := rfl
set_option maxRecDepth 20000 in
theorem fw_c124 : (fw_t 5)[204]? = some (.code (fw_y 124) (fw_B 124) (fw_mL 124) (fw_rt 124)) := rfl
set_option maxRecDepth 20000 in
theorem fw_c125 : (fw_t 5)[220]? = some (.code (fw_y 125) (fw_B 125) (fw_mL 125) (fw_rt 125)) := rfl
set_option maxRecDepth 20000 in
theorem fw_c126 : (fw_t 6)[69]? = some (.code (fw_y 126) (fw_B 126) (fw_mL 126) (fw_rt 126)) := rfl
set_option maxRecDepth 20000 in
theorem fw_c127 : (fw_t 6)[16]? = some (.code (fw_y 127) (fw_B 127) (fw_mL 127) (fw_rt 127)) := rfl
set_option maxRecDepth 20000 in
theorem fw_c128 : (fw_t 5)[212]? = some (.code (fw_y 128) (fw_B 128) (fw_mL 128) (fw_rt 128)) := rfl
set_option maxRecDepth 20000 in
theorem fw_c129 : (fw_t 5)[197]? = some (.code (fw_y 129) (fw_B 129) (fw_mL 129) (fw_rt 129)) := rfl
set_option maxRecDepth 20000 in
theorem fw_c130 : (fw_t 5)[208]? = some (.code (fw_y 130) (fw_B 130) (fw_mL 130) (fw_rt 130)) := rfl
set_option maxRecDepth 20000 in
theorem fw_c131 : (fw_t 5)[216]? = some (.code (fw_y 131) (fw_B 131) (fw_mL 131) (fw_rt 131)) := rfl
set_option maxRecDepth 20000 in
theorem fw_c132 : (fw_t 5)[224]? = some (.code (fw_y 132) (fw_B 132) (fw_mL 132) (fw_rt 132)) := rfl
set_option maxRecDepth 20000 in
theorem fw_c133 : (fw_t 5)[232]? = some (.code (fw_y 133) (fw_B 133) (fw_mL 133) (fw_rt 133)) := rfl
set_option maxRecDepth 20000 in
theorem fw_c134 : (fw_t 5)[236]? = some (.code (fw_y 134) (fw_B 134) (fw_mL 134) (fw_rt 134)) := rfl
set_option maxRecDepth 20000 in
theorem fw_c135 : (fw_t 6)[0]? = some (.code (fw_y 135) (fw_B 135) (fw_mL 135) (fw_rt 135)) := rfl
set_option maxRecDepth 20000 in
theorem fw_c136 : (fw_t 6)[4]? = some (.code (fw_y 136) (fw_B 136) (fw_mL 136) (fw_rt 136)) := rfl
set_option maxRecDepth 20000 in
theorem fw_c137 : (fw_t 5)[228]? = some (.code (fw_y 137) (fw_B 137) (fw_mL 137) (fw_rt 137)) := rfl
set_option maxRecDepth 20000 in
theorem fw_c138 : (fw_t 6)[8]? = some (.code (fw_y 138) (fw_B 138) (fw_mL 138) (fw_rt 138)) := rfl
set_option maxRecDepth 20000 in
theorem fw_c139 : (fw_t 6)[12]? = some (.code (fw_y 139) (fw_B 139) (fw_mL 139) (fw_rt 139)) := rfl
set_option maxRecDepth 20000 in
theorem fw_c140 : (fw_t 6)[28]? = some (.code (fw_y 140) (fw_B 140) (fw_mL 140) (fw_rt 140)) := rfl
set_option maxRecDepth 20000 in
theorem fw_c141 : (fw_t 6)[32]? = some (.code (fw_y 141) (fw_B 141) (fw_mL 141) (fw_rt 141)) := rfl
set_option maxRecDepth 20000 in
theorem fw_c142 : (fw_t 6)[40]? = some (.code (fw_y 142) (fw_B 142) (fw_mL 142) (fw_rt 142)) := rfl
set_option maxRecDepth 20000 in
theorem fw_c143 : (fw_t 6)[36]? = some (.code (fw_y 143) (fw_B 143) (fw_mL 143) (fw_rt 143)) := rfl
set_option maxRecDepth 20000 in
theorem fw_c144 : (fw_t 6)[24]? = some (.code (fw_y 144) (fw_B 144) (fw_mL 144) (fw_rt 144)) := rfl
set_option maxRecDepth 20000 in
theorem fw_c145 : (fw_t 6)[20]? = some (.code (fw_y 145) (fw_B 145) (fw_mL 145) (fw_rt 145)) := rfl
set_option maxRecDepth 20000 in
theorem fw_c146 : (fw_t 6)[48]? = some (.code (fw_y 146) (fw_B 146) (fw_mL 146) (fw_rt 146)) := rfl
set_option maxRecDepth 20000 in
theorem fw_c147 : (fw_t 6)[44]? = some (.code (fw_y 147) (fw_B 147) (fw_mL 147) (fw_rt 147)) := rfl
set_option maxRecDepth 20000 in
theorem fw_c148 : (fw_t 6)[52]? = some (.code (fw_y 148) (fw_B 148) (fw_mL 148) (fw_rt 148)) := rfl
set_option maxRecDepth 20000 in
theorem fw_c149 : (fw_t 6)[57]? = some (.code (fw_y 149) (fw_B 149) (fw_mL 149) (fw_rt 149)) := rfl
set_option maxRecDepth 20000 in
theorem fw_c150 : (fw_t 6)[61]? = some (.code (fw_y 150) (fw_B 150) (fw_mL 150) (fw_rt 150)) := rfl
set_option maxRecDepth 20000 in
theorem fw_c151 : (fw_t 6)[65]? = some (.code (fw_y 151) (fw_B 151) (fw_mL 151) (fw_rt 151)) := rfl
set_option maxRecDepth 20000 in
theorem fw_c152 : (fw_t 6)[77]? = some (.code (fw_y 152) (fw_B 152) (fw_mL 152) (fw_rt 152)) := rfl
set_option maxRecDepth 20000 in
theorem fw_c153 : (fw_t 6)[73]? = some (.code (fw_y 153) (fw_B 153) (fw_mL 153) (fw_rt 153)) := rfl
set_option maxRecDepth 20000 in
theorem fw_c154 : (fw_t 6)[81]? = some (.code (fw_y 154) (fw_B 154) (fw_mL 154) (fw_rt 154)) := rfl
set_option maxRecDepth 20000 in
theorem fw_c155 : (fw_t 6)[85]? = some (.code (fw_y 155) (fw_B 155) (fw_mL 155) (fw_rt 155)) := rfl
set_option maxRecDepth 20000 in
theorem fw_c156 : (fw_t 6)[89]? = some (.code (fw_y 156) (fw_B 156) (fw_mL 156) (fw_rt 156)) := rfl
set_option maxRecDepth 20000 in
theorem fw_c157 : (fw_t 6)[93]? = some (.code (fw_y 157) (fw_B 157) (fw_mL 157) (fw_rt 157)) := rfl
set_option maxRecDepth 20000 in
theorem fw_c158 : (fw_t 6)[97]? = some (.code (fw_y 158) (fw_B 158) (fw_mL 158) (fw_rt 158)) := rfl
set_option maxRecDepth 20000 in
theorem fw_c159 : (fw_t 6)[109]? = some (.code (fw_y 159) (fw_B 159) (fw_mL 159) (fw_rt 159)) := rfl
set_option maxRecDepth 20000 in
theorem fw_c160 : (fw_t 6)[105]? = some (.code (fw_y 160) (fw_B 160) (fw_mL 160) (fw_rt 160)) := rfl
set_option maxRecDepth 20000 in
theorem fw_c161 : (fw_t 6)[117]? = some (.code (fw_y 161) (fw_B 161) (fw_mL 161) (fw_rt 161)) := rfl
set_option maxRecDepth 20000 in
theorem fw_c162 : (fw_t 6)[113]? = some (.code (fw_y 162) (fw_B 162) (fw_mL 162) (fw_rt 162)) := rfl
set_option maxRecDepth 20000 in
theorem fw_c163 : (fw_t 6)[101]? = some (.code (fw_y 163) (fw_B 163) (fw_mL 163) (fw_rt 163)) := rfl
set_option maxRecDepth 20000 in
theorem fw_c164 : (fw_t 6)[124]? = some (.code (fw_y 164) (fw_B 164) (fw_mL 164) (fw_rt 164)) := rfl
set_option maxRecDepth 20000 in
theorem fw_c165 : (fw_t 6)[121]? = some (.code (fw_y 165) (fw_B 165) (fw_mL 165) (fw_rt 165)) := rfl
set_option maxRecDepth 20000 in
theorem fw_c166 : (fw_t 6)[128]? = some (.code (fw_y 166) (fw_B 166) (fw_mL 166) (fw_rt 166)) := rfl
set_option maxRecDepth 20000 in
theorem fw_c167 : (fw_t 6)[132]? = some (.code (fw_y 167) (fw_B 167) (fw_mL 167) (fw_rt 167)) := rfl
set_option maxRecDepth 20000 in
theorem fw_c168 : (fw_t 6)[136]? = some (.code (fw_y 168) (fw_B 168) (fw_mL 168) (fw_rt 168)) := rfl
set_option maxRecDepth 20000 in
theorem fw_c169 : (fw_t 6)[140]? = some (.code (fw_y 169) (fw_B 169) (fw_mL 169) (fw_rt 169)) := rfl
set_option maxRecDepth 20000 in
theorem fw_c170 : (fw_t 6)[148]? = some (.code (fw_y 170) (fw_B 170) (fw_mL 170) (fw_rt 170)) := rfl
set_option maxRecDepth 20000 in
theorem fw_c171 : (fw_t 6)[144]? = some (.code (fw_y 171) (fw_B 171) (fw_mL 171) (fw_rt 171)) := rfl
set_option maxRecDepth 20000 in
theorem fw_c172 : (fw_t 6)[152]? = some (.code (fw_y 172) (fw_B 172) (fw_mL 172) (fw_rt 172)) := rfl
set_option maxRecDepth 20000 in
theorem fw_c173 : (fw_t 6)[157]? = some (.code (fw_y 173) (fw_B 173) (fw_mL 173) (fw_rt 173)) := rfl
set_option maxRecDepth 20000 in
theorem fw_c174 : (fw_t 6)[161]? = some (.code (fw_y 174) (fw_B 174) (fw_mL 174) (fw_rt 174)) := rfl
set_option maxRecDepth 20000 in
theorem fw_c175 : (fw_t 6)[169]? = some (.code (fw_y 175) (fw_B 175) (fw_mL 175) (fw_rt 175)) := rfl
set_option maxRecDepth 20000 in
theorem fw_c176 : (fw_t 6)[165]? = some (.code (fw_y 176) (fw_B 176) (fw_mL 176) (fw_rt 176)) := rfl
set_option maxRecDepth 20000 in
theorem fw_c177 : (fw_t 6)[173]? = some (.code (fw_y 177) (fw_B 177) (fw_mL 177) (fw_rt 177)) := rfl
set_option maxRecDepth 20000 in
theorem fw_c178 : (fw_t 6)[177]? = some (.code (fw_y 178) (fw_B 178) (fw_mL 178) (fw_rt 178)) := rfl
set_option maxRecDepth 20000 in
theorem fw_c179 : (fw_t 6)[181]? = some (.code (fw_y 179) (fw_B 179) (fw_mL 179) (fw_rt 179)) := rfl
set_option maxRecDepth 20000 in
theorem fw_c180 : (fw_t 6)[185]? = some (.code (fw_y 180) (fw_B 180) (fw_mL 180) (fw_rt 180)) := rfl
set_option maxRecDepth 20000 in
theorem fw_c181 : (fw_t 6)[189]? = some (.code (fw_y 181) (fw_B 181) (fw_mL 181) (fw_rt 181)) := rfl
set_option maxRecDepth 20000 in
theorem fw_c182 : (fw_t 6)[193]? = some (.code (fw_y 182) (fw_B 182) (fw_mL 182) (fw_rt 182)) := rfl
set_option maxRecDepth 20000 in
theorem fw_c183 : (fw_t 2)[185]? = some (.codeWith (fw_y 183) (fw_B 183) (fw_mL 183) (fw_rt 183) ((fw_hs 183).map (fun h => (h.1, h.2.1, h.2.2.1, h.2.2.2.1)))) := rfl
set_option maxRecDepth 20000 in
theorem fw_c184 : (fw_t 3)[38]? = some (.codeWith (fw_y 184) (fw_B 184) (fw_mL 184) (fw_rt 184) ((fw_hs 184).map (fun h => (h.1, h.2.1, h.2.2.1, h.2.2.2.1)))) := rfl
set_option maxRecDepth 20000 in
theorem fw_c185 : (fw_t 3)[107]? = some (.codeWith (fw_y 185) (fw_B 185) (fw_mL 185) (fw_rt 185) ((fw_hs 185).map (fun h => (h.1, h.2.1, h.2.2.1, h.2.2.2.1)))) := rfl
set_option maxRecDepth 20000 in
theorem fw_c186 : (fw_t 3)[166]? = some (.codeWith (fw_y 186) (fw_B 186) (fw_mL 186) (fw_rt 186) ((fw_hs 186).map (fun h => (h.1, h.2.1, h.2.2.1, h.2.2.2.1)))) := rfl
set_option maxRecDepth 20000 in
theorem fw_c187 : (fw_t 3)[173]? = some (.codeWith (fw_y 187) (fw_B 187) (fw_mL 187) (fw_rt 187) ((fw_hs 187).map (fun h => (h.1, h.2.1, h.2.2.1, h.2.2.2.1)))) := rfl
set_option maxRecDepth 20000 in
theorem fw_c188 : (fw_t 3)[217]? = some (.codeWith (fw_y 188) (fw_B 188) (fw_mL 188) (fw_rt 188) ((fw_hs 188).map (fun h => (h.1, h.2.1, h.2.2.1, h.2.2.2.1)))) := rfl
set_option maxRecDepth 20000 in
theorem fw_c189 : (fw_t 3)[224]? = some (.codeWith (fw_y 189) (fw_B 189) (fw_mL 189) (fw_rt 189) ((fw_hs 189).map (fun h => (h.1, h.2.1, h.2.2.1, h.2.2.2.1)))) := rfl
set_option maxRecDepth 20000 in
theorem fw_c190 : (fw_t 3)[236]? = some (.codeWith (fw_y 190) (fw_B 190) (fw_mL 190) (fw_rt 190) ((fw_hs 190).map (fun h => (h.1, h.2.1, h.2.2.1, h.2.2.2.1)))) := rfl
set_option maxRecDepth 20000 in
theorem fw_c191 : (fw_t 4)[8]? = some (.codeWith (fw_y 191) (fw_B 191) (fw_mL 191) (fw_rt 191) ((fw_hs 191).map (fun h => (h.1, h.2.1, h.2.2.1, h.2.2.2.1)))) := rfl
set_option maxRecDepth 20000 in
theorem fw_c192 : (fw_t 4)[55]? = some (.codeWith (fw_y 192) (fw_B 192) (fw_mL 192) (fw_rt 192) ((fw_hs 192).map (fun h => (h.1, h.2.1, h.2.2.1, h.2.2.2.1)))) := rfl
set_option maxRecDepth 20000 in
theorem fw_c193 : (fw_t 4)[70]? = some (.codeWith (fw_y 193) (fw_B 193) (fw_mL 193) (fw_rt 193) ((fw_hs 193).map (fun h => (h.1, h.2.1, h.2.2.1, h.2.2.2.1)))) := rfl
set_option maxRecDepth 20000 in
theorem fw_c194 : (fw_t 4)[82]? = some (.codeWith (fw_y 194) (fw_B 194) (fw_mL 194) (fw_rt 194) ((fw_hs 194).map (fun h => (h.1, h.2.1, h.2.2.1, h.2.2.2.1)))) := rfl
set_option maxRecDepth 20000 in
theorem fw_c195 : (fw_t 4)[93]? = some (.codeWith (fw_y 195) (fw_B 195) (fw_mL 195) (fw_rt 195) ((fw_hs 195).map (fun h => (h.1, h.2.1, h.2.2.1, h.2.2.2.1)))) := rfl
set_option maxRecDepth 20000 in
theorem fw_c196 : (fw_t 4)[100]? = some (.codeWith (fw_y 196) (fw_B 196) (fw_mL 196) (fw_rt 196) ((fw_hs 196).map (fun h => (h.1, h.2.1, h.2.2.1, h.2.2.2.1)))) := rfl
set_option maxRecDepth 20000 in
theorem fw_c197 : (fw_t 4)[107]? = some (.codeWith (fw_y 197) (fw_B 197) (fw_mL 197) (fw_rt 197) ((fw_hs 197).map (fun h => (h.1, h.2.1, h.2.2.1, h.2.2.2.1)))) := rfl
set_option maxRecDepth 20000 in
theorem fw_c198 : (fw_t 4)[114]? = some (.codeWith (fw_y 198) (fw_B 198) (fw_mL 198) (fw_rt 198) ((fw_hs 198).map (fun h => (h.1, h.2.1, h.2.2.1, h.2.2.2.1)))) := rfl
set_option maxRecDepth 20000 in
theorem fw_c199 : (fw_t 4)[152]? = some (.codeWith (fw_y 199) (fw_B 199) (fw_mL 199) (fw_rt 199) ((fw_hs 199).map (fun h => (h.1, h.2.1, h.2.2.1, h.2.2.2.1)))) := rfl
set_option maxRecDepth 20000 in
theorem fw_c200 : (fw_t 4)[164]? = some (.codeWith (fw_y 200) (fw_B 200) (fw_mL 200) (fw_rt 200) ((fw_hs 200).map (fun h => (h.1, h.2.1, h.2.2.1, h.2.2.2.1)))) := rfl
set_option maxRecDepth 20000 in
theorem fw_c201 : (fw_t 4)[171]? = some (.codeWith (fw_y 201) (fw_B 201) (fw_mL 201) (fw_rt 201) ((fw_hs 201).map (fun h => (h.1, h.2.1, h.2.2.1, h.2.2.2.1)))) := rfl
set_option maxRecDepth 20000 in
theorem fw_c202 : (fw_t 4)[178]? = some (.codeWith (fw_y 202) (fw_B 202) (fw_mL 202) (fw_rt 202) ((fw_hs 202).map (fun h => (h.1, h.2.1, h.2.2.1, h.2.2.2.1)))) := rfl
set_option maxRecDepth 20000 in
theorem fw_c203 : (fw_t 4)[186]? = some (.codeWith (fw_y 203) (fw_B 203) (fw_mL 203) (fw_rt 203) ((fw_hs 203).map (fun h => (h.1, h.2.1, h.2.2.1, h.2.2.2.1)))) := rfl
set_option maxRecDepth 20000 in
theorem fw_c204 : (fw_t 4)[193]? = some (.codeWith (fw_y 204) (fw_B 204) (fw_mL 204) (fw_rt 204) ((fw_hs 204).map (fun h => (h.1, h.2.1, h.2.2.1, h.2.2.2.1)))) := rfl
set_option maxRecDepth 20000 in
theorem fw_c205 : (fw_t 4)[201]? = some (.codeWith (fw_y 205) (fw_B 205) (fw_mL 205) (fw_rt 205) ((fw_hs 205).map (fun h => (h.1, h.2.1, h.2.2.1, h.2.2.2.1)))) := rfl
set_option maxRecDepth 20000 in
theorem fw_c206 : (fw_t 4)[209]? = some (.codeWith (fw_y 206) (fw_B 206) (fw_mL 206) (fw_rt 206) ((fw_hs 206).map (fun h => (h.1, h.2.1, h.2.2.1, h.2.2.2.1)))) := rfl
set_option maxRecDepth 20000 in
theorem fw_c207 : (fw_t 4)[230]? = some (.codeWith (fw_y 207) (fw_B 207) (fw_mL 207) (fw_rt 207) ((fw_hs 207).map (fun h => (h.1, h.2.1, h.2.2.1, h.2.2.2.1)))) := rfl
set_option maxRecDepth 20000 in
theorem fw_c208 : (fw_t 5)[19]? = some (.codeWith (fw_y 208) (fw_B 208) (fw_mL 208) (fw_rt 208) ((fw_hs 208).map (fun h => (h.1, h.2.1, h.2.2.1, h.2.2.2.1)))) := rfl
set_option maxRecDepth 20000 in
theorem fw_c209 : (fw_t 5)[31]? = some (.codeWith (fw_y 209) (fw_B 209) (fw_mL 209) (fw_rt 209) ((fw_hs 209).map (fun h => (h.1, h.2.1, h.2.2.1, h.2.2.2.1)))) := rfl
set_option maxRecDepth 20000 in
theorem fw_c210 : (fw_t 5)[42]? = some (.codeWith (fw_y 210) (fw_B 210) (fw_mL 210) (fw_rt 210) ((fw_hs 210).map (fun h => (h.1, h.2.1, h.2.2.1, h.2.2.2.1)))) := rfl
set_option maxRecDepth 20000 in
theorem fw_c211 : (fw_t 5)[72]? = some (.codeWith (fw_y 211) (fw_B 211) (fw_mL 211) (fw_rt 211) ((fw_hs 211).map (fun h => (h.1, h.2.1, h.2.2.1, h.2.2.2.1)))) := rfl
def fw_cw (k : Nat) : Cond := if fw_ki k = 3 then .codeWith (fw_y k) (fw_B k) (fw_mL k) (fw_rt k) ((fw_hs k).map (fun h => (h.1, h.2.1, h.2.2.1, h.2.2.2.1))) else .code (fw_y k) (fw_B k) (fw_mL k) (fw_rt k)
theorem fw_cwa0 (k : Nat) (h : k < 53) (h0 : 0 < k + 0) : fw_cw (k + 0) ∈ fw_ws := by
  match k, h, h0 with
  | 0, _, h0 => exact absurd h0 (by decide)
  | 1, _, _ => exact fw_wd 1 81 fw_c1 rfl
  | 2, _, _ => exact fw_wd 1 86 fw_c2 rfl
  | 3, _, _ => exact fw_wd 2 116 fw_c3 rfl
  | 4, _, _ => exact fw_wd 2 69 fw_c4 rfl
  | 5, _, _ => exact fw_wd 2 65 fw_c5 rfl
  | 6, _, _ => exact fw_wd 2 124 fw_c6 rfl
  | 7, _, _ => exact fw_wd 2 61 fw_c7 rfl
  | 8, _, _ => exact fw_wd 2 162 fw_c8 rfl
  | 9, _, _ => exact fw_wd 4 78 fw_c9 rfl
  | 10, _, _ => exact fw_wd 2 133 fw_c10 rfl
  | 11, _, _ => exact fw_wd 2 157 fw_c11 rfl
  | 12, _, _ => exact fw_wd 3 74 fw_c12 rfl
  | 13, _, _ => exact fw_wd 4 42 fw_c13 rfl
  | 14, _, _ => exact fw_wd 4 227 fw_c14 rfl
  | 15, _, _ => exact fw_wd 2 94 fw_c15 rfl
  | 16, _, _ => exact fw_wd 2 98 fw_c16 rfl
  | 17, _, _ => exact fw_wd 1 218 fw_c17 rfl
  | 18, _, _ => exact fw_wd 5 2 fw_c18 rfl
  | 19, _, _ => exact fw_wd 4 217 fw_c19 rfl
  | 20, _, _ => exact fw_wd 5 10 fw_c20 rfl
  | 21, _, _ => exact fw_wd 5 15 fw_c21 rfl
  | 22, _, _ => exact fw_wd 5 28 fw_c22 rfl
  | 23, _, _ => exact fw_wd 5 6 fw_c23 rfl
  | 24, _, _ => exact fw_wd 1 164 fw_c24 rfl
  | 25, _, _ => exact fw_wd 2 107 fw_c25 rfl
  | 26, _, _ => exact fw_wd 2 170 fw_c26 rfl
  | 27, _, _ => exact fw_wd 2 111 fw_c27 rfl
  | 28, _, _ => exact fw_wd 2 120 fw_c28 rfl
  | 29, _, _ => exact fw_wd 2 174 fw_c29 rfl
  | 30, _, _ => exact fw_wd 2 178 fw_c30 rfl
  | 31, _, _ => exact fw_wd 2 137 fw_c31 rfl
  | 32, _, _ => exact fw_wd 1 35 fw_c32 rfl
  | 33, _, _ => exact fw_wd 2 85 fw_c33 rfl
  | 34, _, _ => exact fw_wd 4 5 fw_c34 rfl
  | 35, _, _ => exact fw_wd 4 25 fw_c35 rfl
  | 36, _, _ => exact fw_wd 4 37 fw_c36 rfl
  | 37, _, _ => exact fw_wd 4 223 fw_c37 rfl
  | 38, _, _ => exact fw_wd 2 141 fw_c38 rfl
  | 39, _, _ => exact fw_wd 4 67 fw_c39 rfl
  | 40, _, _ => exact fw_wd 4 90 fw_c40 rfl
  | 41, _, _ => exact fw_wd 5 39 fw_c41 rfl
  | 42, _, _ => exact fw_wd 4 130 fw_c42 rfl
  | 43, _, _ => exact fw_wd 1 200 fw_c43 rfl
  | 44, _, _ => exact fw_wd 2 81 fw_c44 rfl
  | 45, _, _ => exact fw_wd 4 46 fw_c45 rfl
  | 46, _, _ => exact fw_wd 2 102 fw_c46 rfl
  | 47, _, _ => exact fw_wd 1 111 fw_c47 rfl
  | 48, _, _ => exact fw_wd 3 70 fw_c48 rfl
  | 49, _, _ => exact fw_wd 2 73 fw_c49 rfl
  | 50, _, _ => exact fw_wd 2 182 fw_c50 rfl
  | 51, _, _ => exact fw_wd 3 50 fw_c51 rfl
  | 52, _, _ => exact fw_wd 3 186 fw_c52 rfl
  | n + 53, h, _ => exact absurd h (by omega)
theorem fw_cwa53 (k : Nat) (h : k < 53) (h0 : 0 < k + 53) : fw_cw (k + 53) ∈ fw_ws := by
  match k, h, h0 with
  | 0, _, _ => exact fw_wd 3 206 fw_c53 rfl
  | 1, _, _ => exact fw_wd 3 210 fw_c54 rfl
  | 2, _, _ => exact fw_wd 3 214 fw_c55 rfl
  | 3, _, _ => exact fw_wd 4 122 fw_c56 rfl
  | 4, _, _ => exact fw_wd 2 150 fw_c57 rfl
  | 5, _, _ => exact fw_wd 4 134 fw_c58 rfl
  | 6, _, _ => exact fw_wd 2 129 fw_c59 rfl
  | 7, _, _ => exact fw_wd 2 146 fw_c60 rfl
  | 8, _, _ => exact fw_wd 2 166 fw_c61 rfl
  | 9, _, _ => exact fw_wd 2 89 fw_c62 rfl
  | 10, _, _ => exact fw_wd 1 145 fw_c63 rfl
  | 11, _, _ => exact fw_wd 4 126 fw_c64 rfl
  | 12, _, _ => exact fw_wd 4 148 fw_c65 rfl
  | 13, _, _ => exact fw_wd 4 138 fw_c66 rfl
  | 14, _, _ => exact fw_wd 4 142 fw_c67 rfl
  | 15, _, _ => exact fw_wd 1 27 fw_c68 rfl
  | 16, _, _ => exact fw_wd 2 191 fw_c69 rfl
  | 17, _, _ => exact fw_wd 3 43 fw_c70 rfl
  | 18, _, _ => exact fw_wd 3 144 fw_c71 rfl
  | 19, _, _ => exact fw_wd 3 170 fw_c72 rfl
  | 20, _, _ => exact fw_wd 3 178 fw_c73 rfl
  | 21, _, _ => exact fw_wd 3 221 fw_c74 rfl
  | 22, _, _ => exact fw_wd 3 228 fw_c75 rfl
  | 23, _, _ => exact fw_wd 4 0 fw_c76 rfl
  | 24, _, _ => exact fw_wd 4 12 fw_c77 rfl
  | 25, _, _ => exact fw_wd 2 25 fw_c78 rfl
  | 26, _, _ => exact fw_wd 4 59 fw_c79 rfl
  | 27, _, _ => exact fw_wd 4 74 fw_c80 rfl
  | 28, _, _ => exact fw_wd 4 86 fw_c81 rfl
  | 29, _, _ => exact fw_wd 4 97 fw_c82 rfl
  | 30, _, _ => exact fw_wd 2 29 fw_c83 rfl
  | 31, _, _ => exact fw_wd 2 33 fw_c84 rfl
  | 32, _, _ => exact fw_wd 2 37 fw_c85 rfl
  | 33, _, _ => exact fw_wd 4 104 fw_c86 rfl
  | 34, _, _ => exact fw_wd 4 111 fw_c87 rfl
  | 35, _, _ => exact fw_wd 4 118 fw_c88 rfl
  | 36, _, _ => exact fw_wd 4 156 fw_c89 rfl
  | 37, _, _ => exact fw_wd 4 168 fw_c90 rfl
  | 38, _, _ => exact fw_wd 4 175 fw_c91 rfl
  | 39, _, _ => exact fw_wd 4 182 fw_c92 rfl
  | 40, _, _ => exact fw_wd 4 190 fw_c93 rfl
  | 41, _, _ => exact fw_wd 4 197 fw_c94 rfl
  | 42, _, _ => exact fw_wd 4 205 fw_c95 rfl
  | 43, _, _ => exact fw_wd 4 213 fw_c96 rfl
  | 44, _, _ => exact fw_wd 2 41 fw_c97 rfl
  | 45, _, _ => exact fw_wd 4 234 fw_c98 rfl
  | 46, _, _ => exact fw_wd 5 23 fw_c99 rfl
  | 47, _, _ => exact fw_wd 5 35 fw_c100 rfl
  | 48, _, _ => exact fw_wd 2 45 fw_c101 rfl
  | 49, _, _ => exact fw_wd 5 60 fw_c102 rfl
  | 50, _, _ => exact fw_wd 5 76 fw_c103 rfl
  | 51, _, _ => exact fw_wd 2 49 fw_c104 rfl
  | 52, _, _ => exact fw_wd 3 46 fw_c105 rfl
  | n + 53, h, _ => exact absurd h (by omega)
theorem fw_cwa106 (k : Nat) (h : k < 53) (h0 : 0 < k + 106) : fw_cw (k + 106) ∈ fw_ws := by
  match k, h, h0 with
  | 0, _, _ => exact fw_wd 2 153 fw_c106 rfl
  | 1, _, _ => exact fw_wd 4 159 fw_c107 rfl
  | 2, _, _ => exact fw_wd 4 15 fw_c108 rfl
  | 3, _, _ => exact fw_wd 3 232 fw_c109 rfl
  | 4, _, _ => exact fw_wd 3 182 fw_c110 rfl
  | 5, _, _ => exact fw_wd 4 63 fw_c111 rfl
  | 6, _, _ => exact fw_wd 3 148 fw_c112 rfl
  | 7, _, _ => exact fw_wd 4 238 fw_c113 rfl
  | 8, _, _ => exact fw_wd 5 64 fw_c114 rfl
  | 9, _, _ => exact fw_wd 4 19 fw_c115 rfl
  | 10, _, _ => exact fw_wd 4 30 fw_c116 rfl
  | 11, _, _ => exact fw_wd 4 50 fw_c117 rfl
  | 12, _, _ => exact fw_wd 2 53 fw_c118 rfl
  | 13, _, _ => exact fw_wd 2 77 fw_c119 rfl
  | 14, _, _ => exact fw_wd 2 57 fw_c120 rfl
  | 15, _, _ => exact fw_wd 5 81 fw_c121 rfl
  | 16, _, _ => exact fw_wd 5 193 fw_c122 rfl
  | 17, _, _ => exact fw_wd 5 200 fw_c123 rfl
  | 18, _, _ => exact fw_wd 5 204 fw_c124 rfl
  | 19, _, _ => exact fw_wd 5 220 fw_c125 rfl
  | 20, _, _ => exact fw_wd 6 69 fw_c126 rfl
  | 21, _, _ => exact fw_wd 6 16 fw_c127 rfl
  | 22, _, _ => exact fw_wd 5 212 fw_c128 rfl
  | 23, _, _ => exact fw_wd 5 197 fw_c129 rfl
  | 24, _, _ => exact fw_wd 5 208 fw_c130 rfl
  | 25, _, _ => exact fw_wd 5 216 fw_c131 rfl
  | 26, _, _ => exact fw_wd 5 224 fw_c132 rfl
  | 27, _, _ => exact fw_wd 5 232 fw_c133 rfl
  | 28, _, _ => exact fw_wd 5 236 fw_c134 rfl
  | 29, _, _ => exact fw_wd 6 0 fw_c135 rfl
  | 30, _, _ => exact fw_wd 6 4 fw_c136 rfl
  | 31, _, _ => exact fw_wd 5 228 fw_c137 rfl
  | 32, _, _ => exact fw_wd 6 8 fw_c138 rfl
  | 33, _, _ => exact fw_wd 6 12 fw_c139 rfl
  | 34, _, _ => exact fw_wd 6 28 fw_c140 rfl
  | 35, _, _ => exact fw_wd 6 32 fw_c141 rfl
  | 36, _, _ => exact fw_wd 6 40 fw_c142 rfl
  | 37, _, _ => exact fw_wd 6 36 fw_c143 rfl
  | 38, _, _ => exact fw_wd 6 24 fw_c144 rfl
  | 39, _, _ => exact fw_wd 6 20 fw_c145 rfl
  | 40, _, _ => exact fw_wd 6 48 fw_c146 rfl
  | 41, _, _ => exact fw_wd 6 44 fw_c147 rfl
  | 42, _, _ => exact fw_wd 6 52 fw_c148 rfl
  | 43, _, _ => exact fw_wd 6 57 fw_c149 rfl
  | 44, _, _ => exact fw_wd 6 61 fw_c150 rfl
  | 45, _, _ => exact fw_wd 6 65 fw_c151 rfl
  | 46, _, _ => exact fw_wd 6 77 fw_c152 rfl
  | 47, _, _ => exact fw_wd 6 73 fw_c153 rfl
  | 48, _, _ => exact fw_wd 6 81 fw_c154 rfl
  | 49, _, _ => exact fw_wd 6 85 fw_c155 rfl
  | 50, _, _ => exact fw_wd 6 89 fw_c156 rfl
  | 51, _, _ => exact fw_wd 6 93 fw_c157 rfl
  | 52, _, _ => exact fw_wd 6 97 fw_c158 rfl
  | n + 53, h, _ => exact absurd h (by omega)
theorem fw_cwa159 (k : Nat) (h : k < 53) (h0 : 0 < k + 159) : fw_cw (k + 159) ∈ fw_ws := by
  match k, h, h0 with
  | 0, _, _ => exact fw_wd 6 109 fw_c159 rfl
  | 1, _, _ => exact fw_wd 6 105 fw_c160 rfl
  | 2, _, _ => exact fw_wd 6 117 fw_c161 rfl
  | 3, _, _ => exact fw_wd 6 113 fw_c162 rfl
  | 4, _, _ => exact fw_wd 6 101 fw_c163 rfl
  | 5, _, _ => exact fw_wd 6 124 fw_c164 rfl
  | 6, _, _ => exact fw_wd 6 121 fw_c165 rfl
  | 7, _, _ => exact fw_wd 6 128 fw_c166 rfl
  | 8, _, _ => exact fw_wd 6 132 fw_c167 rfl
  | 9, _, _ => exact fw_wd 6 136 fw_c168 rfl
  | 10, _, _ => exact fw_wd 6 140 fw_c169 rfl
  | 11, _, _ => exact fw_wd 6 148 fw_c170 rfl
  | 12, _, _ => exact fw_wd 6 144 fw_c171 rfl
  | 13, _, _ => exact fw_wd 6 152 fw_c172 rfl
  | 14, _, _ => exact fw_wd 6 157 fw_c173 rfl
  | 15, _, _ => exact fw_wd 6 161 fw_c174 rfl
  | 16, _, _ => exact fw_wd 6 169 fw_c175 rfl
  | 17, _, _ => exact fw_wd 6 165 fw_c176 rfl
  | 18, _, _ => exact fw_wd 6 173 fw_c177 rfl
  | 19, _, _ => exact fw_wd 6 177 fw_c178 rfl
  | 20, _, _ => exact fw_wd 6 181 fw_c179 rfl
  | 21, _, _ => exact fw_wd 6 185 fw_c180 rfl
  | 22, _, _ => exact fw_wd 6 189 fw_c181 rfl
  | 23, _, _ => exact fw_wd 6 193 fw_c182 rfl
  | 24, _, _ => exact fw_wd 2 185 fw_c183 rfl
  | 25, _, _ => exact fw_wd 3 38 fw_c184 rfl
  | 26, _, _ => exact fw_wd 3 107 fw_c185 rfl
  | 27, _, _ => exact fw_wd 3 166 fw_c186 rfl
  | 28, _, _ => exact fw_wd 3 173 fw_c187 rfl
  | 29, _, _ => exact fw_wd 3 217 fw_c188 rfl
  | 30, _, _ => exact fw_wd 3 224 fw_c189 rfl
  | 31, _, _ => exact fw_wd 3 236 fw_c190 rfl
  | 32, _, _ => exact fw_wd 4 8 fw_c191 rfl
  | 33, _, _ => exact fw_wd 4 55 fw_c192 rfl
  | 34, _, _ => exact fw_wd 4 70 fw_c193 rfl
  | 35, _, _ => exact fw_wd 4 82 fw_c194 rfl
  | 36, _, _ => exact fw_wd 4 93 fw_c195 rfl
  | 37, _, _ => exact fw_wd 4 100 fw_c196 rfl
  | 38, _, _ => exact fw_wd 4 107 fw_c197 rfl
  | 39, _, _ => exact fw_wd 4 114 fw_c198 rfl
  | 40, _, _ => exact fw_wd 4 152 fw_c199 rfl
  | 41, _, _ => exact fw_wd 4 164 fw_c200 rfl
  | 42, _, _ => exact fw_wd 4 171 fw_c201 rfl
  | 43, _, _ => exact fw_wd 4 178 fw_c202 rfl
  | 44, _, _ => exact fw_wd 4 186 fw_c203 rfl
  | 45, _, _ => exact fw_wd 4 193 fw_c204 rfl
  | 46, _, _ => exact fw_wd 4 201 fw_c205 rfl
  | 47, _, _ => exact fw_wd 4 209 fw_c206 rfl
  | 48, _, _ => exact fw_wd 4 230 fw_c207 rfl
  | 49, _, _ => exact fw_wd 5 19 fw_c208 rfl
  | 50, _, _ => exact fw_wd 5 31 fw_c209 rfl
  | 51, _, _ => exact fw_wd 5 42 fw_c210 rfl
  | 52, _, _ => exact fw_wd 5 72 fw_c211 rfl
  | n + 53, h, _ => exact absurd h (by omega)
theorem fw_cwi (k : Nat) (h : k < 212) (h0 : 0 < k) : fw_cw k ∈ fw_ws := by
  rcases Nat.lt_or_ge k 53 with q | q
  · exact fw_cwa0 k q h0
  · rcases Nat.lt_or_ge k 106 with q2 | q2
    · obtain ⟨j, rfl⟩ : ∃ j, k = j + 53 := ⟨k - 53, by omega⟩
      exact fw_cwa53 j (by omega) (by omega)
    · rcases Nat.lt_or_ge k 159 with q3 | q3
      · obtain ⟨j, rfl⟩ : ∃ j, k = j + 106 := ⟨k - 106, by omega⟩
        exact fw_cwa106 j (by omega) (by omega)
      · obtain ⟨j, rfl⟩ : ∃ j, k = j + 159 := ⟨k - 159, by omega⟩
        exact fw_cwa159 j (by omega) (by omega)
def fw_iT : List (Nat × Nat) := [(0, 0), (1, 80), (1, 84), (2, 114), (2, 67), (2, 63), (2, 122), (2, 59), (2, 160), (4, 76), (2, 131), (2, 155), (3, 73), (4, 40), (4, 225), (2, 92), (2, 96), (1, 217), (5, 0), (4, 215), (5, 8), (5, 13), (5, 26), (5, 4), (1, 163), (2, 105), (2, 168), (2, 109), (2, 118), (2, 172), (2, 176), (2, 135), (1, 34), (2, 83), (4, 3), (4, 23), (4, 35), (4, 221), (2, 139), (4, 65), (4, 88), (5, 37), (4, 128), (1, 199), (2, 79), (4, 44), (2, 100), (1, 110), (3, 68), (2, 71), (2, 180), (3, 48), (3, 184), (3, 204), (3, 208), (3, 212), (4, 120), (2, 148), (4, 132), (2, 127), (2, 144), (2, 164), (2, 87), (1, 144), (4, 124), (4, 146), (4, 136), (4, 140), (1, 26), (2, 189), (3, 41), (3, 142), (3, 168), (3, 176), (3, 219), (3, 226), (3, 238), (4, 10), (2, 23), (4, 57), (4, 72), (4, 84), (4, 95), (2, 27), (2, 31), (2, 35), (4, 102), (4, 109), (4, 116), (4, 154), (4, 166), (4, 173), (4, 180), (4, 188), (4, 195), (4, 203), (4, 211), (2, 39), (4, 232), (5, 21), (5, 33), (2, 43), (5, 58), (5, 74), (2, 47), (3, 45), (2, 152), (4, 158), (4, 14), (3, 231), (3, 181), (4, 62), (3, 147), (4, 237), (5, 63), (4, 18), (4, 29), (4, 49), (2, 52), (2, 76), (2, 56), (5, 80), (5, 191), (5, 199), (5, 203), (5, 219), (6, 68), (6, 15), (5, 211), (5, 195), (5, 206), (5, 214), (5, 222), (5, 231), (5, 235), (5, 239), (6, 3), (5, 226), (6, 6), (6, 10), (6, 27), (6, 31), (6, 39), (6, 35), (6, 23), (6, 18), (6, 47), (6, 42), (6, 50), (6, 55), (6, 59), (6, 63), (6, 76), (6, 71), (6, 79), (6, 83), (6, 87), (6, 91), (6, 95), (6, 108), (6, 104), (6, 116), (6, 112), (6, 99), (6, 123), (6, 119), (6, 126), (6, 130), (6, 134), (6, 138), (6, 147), (6, 142), (6, 150), (6, 155), (6, 159), (6, 168), (6, 163), (6, 171), (6, 175), (6, 179), (6, 183), (6, 187), (6, 191), (2, 184), (3, 37), (3, 106), (3, 165), (3, 172), (3, 216), (3, 223), (3, 235), (4, 7), (4, 54), (4, 69), (4, 81), (4, 92), (4, 99), (4, 106), (4, 113), (4, 151), (4, 163), (4, 170), (4, 177), (4, 185), (4, 192), (4, 200), (4, 208), (4, 229), (5, 18), (5, 30), (5, 41), (5, 71)]
def fw_sT : List (Nat × Nat) := [(0, 0), (0, 0), (1, 85), (2, 115), (2, 68), (2, 64), (2, 123), (2, 60), (2, 161), (4, 77), (2, 132), (2, 156), (0, 0), (4, 41), (4, 226), (2, 93), (2, 97), (0, 0), (5, 1), (4, 216), (5, 9), (5, 14), (5, 27), (5, 5), (0, 0), (2, 106), (2, 169), (2, 110), (2, 119), (2, 173), (2, 177), (2, 136), (0, 0), (2, 84), (4, 4), (4, 24), (4, 36), (4, 222), (2, 140), (4, 66), (4, 89), (5, 38), (4, 129), (0, 0), (2, 80), (4, 45), (2, 101), (0, 0), (3, 69), (2, 72), (2, 181), (3, 49), (3, 185), (3, 205), (3, 209), (3, 213), (4, 121), (2, 149), (4, 133), (2, 128), (2, 145), (2, 165), (2, 88), (0, 0), (4, 125), (4, 147), (4, 137), (4, 141), (0, 0), (2, 190), (3, 42), (3, 143), (3, 169), (3, 177), (3, 220), (3, 227), (3, 239), (4, 11), (2, 24), (4, 58), (4, 73), (4, 85), (4, 96), (2, 28), (2, 32), (2, 36), (4, 103), (4, 110), (4, 117), (4, 155), (4, 167), (4, 174), (4, 181), (4, 189), (4, 196), (4, 204), (4, 212), (2, 40), (4, 233), (5, 22), (5, 34), (2, 44), (5, 59), (5, 75), (2, 48), (0, 0), (0, 0), (0, 0), (0, 0), (7, 6), (7, 5), (7, 10), (7, 4), (7, 11), (7, 12), (7, 7), (7, 8), (7, 9), (7, 0), (7, 2), (7, 1), (0, 0), (5, 192), (0, 0), (7, 13), (7, 15), (7, 27), (7, 20), (7, 14), (5, 196), (5, 207), (5, 215), (5, 223), (7, 16), (7, 17), (7, 18), (7, 19), (5, 227), (6, 7), (6, 11), (7, 22), (7, 23), (7, 25), (7, 24), (7, 21), (6, 19), (7, 26), (6, 43), (6, 51), (6, 56), (6, 60), (6, 64), (7, 28), (6, 72), (6, 80), (6, 84), (6, 88), (6, 92), (6, 96), (7, 30), (7, 29), (7, 32), (7, 31), (6, 100), (0, 0), (6, 120), (6, 127), (6, 131), (6, 135), (6, 139), (7, 33), (6, 143), (6, 151), (6, 156), (6, 160), (7, 34), (6, 164), (6, 172), (6, 176), (6, 180), (6, 184), (6, 188), (6, 192), (0, 0), (0, 0), (0, 0), (0, 0), (0, 0), (0, 0), (0, 0), (0, 0), (0, 0), (0, 0), (0, 0), (0, 0), (0, 0), (0, 0), (0, 0), (0, 0), (0, 0), (0, 0), (0, 0), (0, 0), (0, 0), (0, 0), (0, 0), (0, 0), (0, 0), (0, 0), (0, 0), (0, 0), (0, 0)]
def fw_tt (j : Nat) : List Cond := if j = 7 then k2_sels lw_privs else fw_t j
theorem fw_tt_tbl (j : Nat) : ∀ w ∈ fw_tt j, w ∈ lw_tbl := by
  intro w h
  unfold fw_tt at h
  split at h
  · exact List.mem_append_left _ h
  · exact fw_t_tbl j w h
theorem fw_in_ok : ∀ k ∈ List.range 212, 0 < k → (fw_ki k = 0 ∨ fw_ki k = 2) → (fw_t (fw_iT.getD k (0, 0)).1)[(fw_iT.getD k (0, 0)).2]? = some (.instanceMethod (fw_y k)) := by decide +kernel
theorem fw_st_ok : ∀ k ∈ List.range 212, 0 < k → (fw_ki k = 1 ∨ fw_ki k = 3) → (fw_t (fw_iT.getD k (0, 0)).1)[(fw_iT.getD k (0, 0)).2]? = some (.static (fw_y k)) := by decide +kernel
theorem fw_se_ok : ∀ k ∈ List.range 212, 0 < k → fw_ki k = 0 → (fw_tt (fw_sT.getD k (0, 0)).1)[(fw_sT.getD k (0, 0)).2]? = some (.selects (fw_CN (fw_oc k)) (fw_y k) (fw_y k)) := by decide +kernel
theorem fw_y_ok : ∀ k ∈ List.range 212, (fw_y k).cls = fw_CN (fw_oc k) ∧ fw_oc k < 11 ∧ (fw_y k).cls ≠ "java/lang/invoke/MethodHandle" ∧ (fw_y k).cls ≠ "java/lang/invoke/VarHandle" ∧ (parseMethodDescriptor (fw_y k).desc).map (fun d => d.parameters.length) = some (fw_pt k).length ∧ plainName (fw_y k).cls = true ∧ (fw_ki k = 2 → (fw_y k).name = "<init>" ∧ fw_rt k = none) ∧ (fw_hs k = [] ↔ fw_ki k ≠ 3) := by decide +kernel
theorem fw_in {k : Nat} (h : k < 212) (h0 : 0 < k) (hk : fw_ki k = 0 ∨ fw_ki k = 2) : Cond.instanceMethod (fw_y k) ∈ fw_ws := fw_wd _ _ (fw_in_ok k (List.mem_range.mpr h) h0 hk) rfl
theorem fw_stt {k : Nat} (h : k < 212) (h0 : 0 < k) (hk : fw_ki k = 1 ∨ fw_ki k = 3) : Cond.static (fw_y k) ∈ fw_ws := fw_wd _ _ (fw_st_ok k (List.mem_range.mpr h) h0 hk) rfl
theorem fw_sel {k : Nat} (h : k < 212) (h0 : 0 < k) (hk : fw_ki k = 0) : Cond.selects (fw_CN (fw_oc k)) (fw_y k) (fw_y k) ∈ fw_ws := List.mem_filter.mpr ⟨fw_tt_tbl _ _ (List.mem_of_getElem? (fw_se_ok k (List.mem_range.mpr h) h0 hk)), rfl⟩
theorem fw_xini (x : Nat) (h : x < 6) : Cond.initialized (fw_xn x) ∈ fw_ws := by
  match x, h with
  | 0, _ => exact fw_wd 1 14 rfl rfl
  | 1, _ => exact fw_wd 1 15 rfl rfl
  | 2, _ => exact fw_wd 1 16 rfl rfl
  | 3, _ => exact fw_wd 1 18 rfl rfl
  | 4, _ => exact fw_wd 1 21 rfl rfl
  | 5, _ => exact fw_wd 1 22 rfl rfl
  | n + 6, h => exact absurd h (by omega)
theorem fw_xfit (x : Nat) (h : x < 6) : Bundle.fit (fw_xn x) = true ∧ True := by
  match x, h with
  | 0, _ => exact ⟨by decide +kernel, trivial⟩
  | 1, _ => exact ⟨by decide +kernel, trivial⟩
  | 2, _ => exact ⟨by decide +kernel, trivial⟩
  | 3, _ => exact ⟨by decide +kernel, trivial⟩
  | 4, _ => exact ⟨by decide +kernel, trivial⟩
  | 5, _ => exact ⟨by decide +kernel, trivial⟩
  | n + 6, h => exact absurd h (by omega)
end
section
/-! what the small machine's cells, locals and stack say of the real one's -/
def fw_al (ws : va_W) : List Nat := ws.map Prod.fst
def fw_vr (al : List Nat) (b : Nat) (av : fw_V) (v : Value) : Prop := match av.1 with
  | 0 => ∃ z : Int32, v = .int z ∧ av.2 = z.toInt
  | 1 => ∃ z : Int64, v = .long z ∧ av.2 = z.toInt
  | 2 => (av.2 = 0 ∧ v = .null) ∨ ∃ (i a : Nat), al[i]? = some a ∧ av.2 = (i : Int) + 1 ∧ v = .ref a
  | 3 => ∃ z : UInt64, v = .double z ∧ av.2 = (z.toNat : Int)
  | 4 => ∃ z : UInt32, v = .float z ∧ av.2 = (z.toNat : Int)
  | 6 => v = .ref b
  | 7 => ∃ a : Nat, v = .ref a
  | _ => False
def fw_St (al : List Nat) (b : Nat) : List fw_V → List Value → Prop
  | [], [] => True
  | a :: as, v :: vs => fw_vr al b a v ∧ fw_St al b as vs
  | _, _ => False
def fw_L (k : Nat) (al : List Nat) (b : Nat) (ls : Array Slot) (ll : List fw_V) : Prop :=
  ∃ l : List (Nat × Value), lv_has ls (fw_mL k) l ∧ ll.length = fw_mL k ∧ (∀ (i : Nat) (av : fw_V), ll[i]? = some av → av.1 ≠ 8 → ∃ v, (i, v) ∈ l ∧ fw_vr al b av v) ∧
    (∀ q ∈ l, q.2.category = 2 → ∃ av : fw_V, ll[q.1]? = some av ∧ av.1 = 3) ∧ (∀ av ∈ ll, av.1 ≠ 1) ∧ (k ≠ 0 → ∀ av ∈ ll, av.1 ≠ 3)
theorem fw_vr_mono {al al' : List Nat} {b : Nat} {av : fw_V} {v : Value} (h : al <+: al') (hc : fw_vr al b av v) : fw_vr al' b av v := by
  obtain ⟨t, x⟩ := av
  unfold fw_vr at hc ⊢
  split at hc
  · exact hc
  · exact hc
  · rcases hc with hc | ⟨i, a, h1, h2⟩
    · exact Or.inl hc
    · obtain ⟨r, rfl⟩ := h
      exact Or.inr ⟨i, a, by rw [List.getElem?_append_left (List.getElem?_eq_some_iff.mp h1).1]; exact h1, h2⟩
  · exact hc
  · exact hc
  · exact hc
  · exact hc
  · exact hc
theorem fw_St_mono {al al' : List Nat} {b : Nat} (h : al <+: al') : ∀ {st : List fw_V} {cst : List Value}, fw_St al b st cst → fw_St al' b st cst
  | [], [], _ => trivial
  | _ :: _, _ :: _, hs => ⟨fw_vr_mono h hs.1, fw_St_mono h hs.2⟩
theorem fw_L_mono {k : Nat} {al al' : List Nat} {b : Nat} {ls : Array Slot} {ll : List fw_V} (h : al <+: al') (hL : fw_L k al b ls ll) : fw_L k al' b ls ll := by
  obtain ⟨l, h1, h2, h3, h4⟩ := hL
  refine ⟨l, h1, h2, fun i av hi ha => ?_, h4⟩
  obtain ⟨v, hv, hc⟩ := h3 i av hi ha
  exact ⟨v, hv, fw_vr_mono h hc⟩
theorem fw_St_cons {al : List Nat} {b : Nat} {a : fw_V} {st : List fw_V} {cst : List Value} (h : fw_St al b (a :: st) cst) : ∃ v vs, cst = v :: vs ∧ fw_vr al b a v ∧ fw_St al b st vs := by
  cases cst with
  | nil => exact h.elim
  | cons v vs => exact ⟨v, vs, rfl, h.1, h.2⟩
theorem fw_St_nil {al : List Nat} {b : Nat} {cst : List Value} (h : fw_St al b [] cst) : cst = [] := by
  cases cst with
  | nil => rfl
  | cons v vs => exact h.elim
theorem fw_St_len {al : List Nat} {b : Nat} : ∀ {st : List fw_V} {cst : List Value}, fw_St al b st cst → cst.length = st.length
  | [], [], _ => rfl
  | _ :: _, _ :: _, h => congrArg (· + 1) (fw_St_len h.2)
theorem fw_St_cat {al : List Nat} {b : Nat} : ∀ {st : List fw_V} {cst : List Value}, fw_St al b st cst → (cst.map fun v => v.category).sum ≤ 2 * st.length
  | [], [], _ => Nat.le_refl _
  | _ :: st, v :: cst, h => by
    have h1 := fw_St_cat h.2
    have h2 := lv_cat v
    simp only [List.map_cons, List.sum_cons, List.length_cons]
    omega
theorem fw_St_app {al : List Nat} {b : Nat} : ∀ {s1 s2 : List fw_V} {c : List Value}, fw_St al b (s1 ++ s2) c → ∃ c1 c2, c = c1 ++ c2 ∧ fw_St al b s1 c1 ∧ fw_St al b s2 c2
  | [], s2, c, h => ⟨[], c, rfl, trivial, h⟩
  | a :: s1, s2, c, h => by
    obtain ⟨v, vs, rfl, h1, h2⟩ := fw_St_cons h
    obtain ⟨c1, c2, rfl, h3, h4⟩ := fw_St_app h2
    exact ⟨v :: c1, c2, rfl, ⟨h1, h3⟩, h4⟩
theorem fw_St_snoc {al : List Nat} {b : Nat} : ∀ {s1 : List fw_V} {c1 : List Value} {a : fw_V} {v : Value}, fw_St al b s1 c1 → fw_vr al b a v → fw_St al b (s1 ++ [a]) (c1 ++ [v])
  | [], [], _, _, _, h => ⟨h, trivial⟩
  | _ :: _, _ :: _, _, _, h, h2 => ⟨h.1, fw_St_snoc h.2 h2⟩
theorem fw_St_rev {al : List Nat} {b : Nat} : ∀ {s1 : List fw_V} {c1 : List Value}, fw_St al b s1 c1 → fw_St al b s1.reverse c1.reverse
  | [], [], _ => trivial
  | a :: s1, v :: c1, h => by
    rw [List.reverse_cons, List.reverse_cons]
    exact fw_St_snoc (fw_St_rev h.2) h.1
theorem fw_St_at {al : List Nat} {b : Nat} : ∀ {s1 : List fw_V} {c1 : List Value} {i : Nat} {a : fw_V}, fw_St al b s1 c1 → s1[i]? = some a → ∃ v, c1[i]? = some v ∧ fw_vr al b a v
  | [], [], _, _, _, h => by simp at h
  | x :: s1, v :: c1, 0, a, h, hi => by
    rw [List.getElem?_cons_zero] at hi
    cases hi
    exact ⟨v, rfl, h.1⟩
  | x :: s1, v :: c1, i + 1, a, h, hi => by
    rw [List.getElem?_cons_succ] at hi
    exact fw_St_at (i := i) h.2 hi
theorem fw_g_at : ∀ (ll : List fw_V) (i : Nat), (fw_g ll i).1 ≠ 8 → ll[i]? = some (fw_g ll i)
  | [], _, h => absurd rfl h
  | _ :: _, 0, _ => rfl
  | _ :: l, i + 1, h => by rw [List.getElem?_cons_succ]; exact fw_g_at l i h
theorem fw_at_g : ∀ {ll : List fw_V} {i : Nat} {av : fw_V}, ll[i]? = some av → fw_g ll i = av
  | [], _, _, h => by simp at h
  | _ :: _, 0, _, h => by rw [List.getElem?_cons_zero] at h; exact Option.some.inj h
  | _ :: l, i + 1, _, h => by rw [List.getElem?_cons_succ] at h; exact fw_at_g (ll := l) (i := i) h
/-- a local that is known -/
theorem fw_L_at {k : Nat} {al : List Nat} {b : Nat} {ls : Array Slot} {ll : List fw_V} {i : Nat} (hL : fw_L k al b ls ll) (h : (fw_g ll i).1 ≠ 8) : ∃ v, ls[i]? = some (.val v) ∧ fw_vr al b (fw_g ll i) v := by
  obtain ⟨l, h1, h2, h3, h4⟩ := hL
  obtain ⟨v, hv, hc⟩ := h3 i _ (fw_g_at ll i h) h
  exact ⟨v, h1.2.2 (i, v) hv, hc⟩
theorem fw_cat {al : List Nat} {b : Nat} {av : fw_V} {v : Value} (h : fw_vr al b av v) (h1 : av.1 ≠ 1) (h3 : av.1 ≠ 3) : v.category = 1 := by
  obtain ⟨t, x⟩ := av
  unfold fw_vr at h
  split at h
  · obtain ⟨z, rfl, -⟩ := h; rfl
  · rename_i ht; exact absurd ht h1
  · rcases h with ⟨-, rfl⟩ | ⟨i, a, -, -, rfl⟩ <;> rfl
  · rename_i ht; exact absurd ht h3
  · obtain ⟨z, rfl, -⟩ := h; rfl
  · cases h; rfl
  · obtain ⟨z, rfl⟩ := h; rfl
  · exact h.elim
theorem fw_cat2 {al : List Nat} {b : Nat} {av : fw_V} {v : Value} (h : fw_vr al b av v) (hc : v.category = 2) : av.1 = 1 ∨ av.1 = 3 := by
  rcases Nat.decEq av.1 1 with h1 | h1
  · rcases Nat.decEq av.1 3 with h3 | h3
    · have := fw_cat h h1 h3
      omega
    · exact Or.inr h3
  · exact Or.inl h1
/-- a store of one slot -/
theorem fw_L_set {k : Nat} {al : List Nat} {b : Nat} {ls' : Array Slot} {ll : List fw_V} {i : Nat} {av : fw_V} {v : Value} {l : List (Nat × Value)} (hl : ll.length = fw_mL k) (h3 : ∀ (i : Nat) (av : fw_V), ll[i]? = some av → av.1 ≠ 8 → ∃ v, (i, v) ∈ l ∧ fw_vr al b av v)
    (h4 : ∀ q ∈ l, q.2.category = 2 → ∃ av : fw_V, ll[q.1]? = some av ∧ av.1 = 3) (h5 : ∀ av ∈ ll, av.1 ≠ 1) (h6 : k ≠ 0 → ∀ av ∈ ll, av.1 ≠ 3)
    (hs : fw_so k ll i = true) (hc : fw_vr al b av v) (ha1 : av.1 ≠ 1) (ha3 : av.1 ≠ 3)
    (h : lv_has ls' (fw_mL k) ((i, v) :: l.filter (fun q => !(q.1 == i) && !(q.1 + 1 == i && q.2.category == 2)))) : fw_L k al b ls' (ll.set i av) := by
  simp only [fw_so, Bool.and_eq_true, decide_eq_true_eq, Bool.or_eq_true] at hs
  have hcat := fw_cat hc ha1 ha3
  refine ⟨_, h, by rw [List.length_set]; exact hl, fun j aw hj hw => ?_, fun q hq hq2 => ?_, fun aw haw => ?_, fun hk aw haw => ?_⟩
  · by_cases hji : j = i
    · subst hji
      rw [List.getElem?_set_self (by omega)] at hj
      cases hj
      exact ⟨v, List.mem_cons_self, hc⟩
    · rw [List.getElem?_set_ne (Ne.symm hji)] at hj
      obtain ⟨w, hw1, hw2⟩ := h3 j aw hj hw
      refine ⟨w, List.mem_cons_of_mem _ (List.mem_filter.mpr ⟨hw1, ?_⟩), hw2⟩
      have e1 : (j == i) = false := by simpa using hji
      by_cases hj1 : j + 1 = i
      · have hw3 : ¬ w.category = 2 := by
          intro hw3
          obtain ⟨ax, hx1, hx2⟩ := h4 _ hw1 hw3
          rcases hs.2 with (hs2 | hs2) | hs2
          · exact h6 hs2 ax (List.mem_of_getElem? hx1) hx2
          · omega
          · have e9 : i - 1 = j := by omega
            rw [e9, fw_at_g hx1] at hs2
            exact hs2 hx2
        simp [e1, hw3]
      · simp [e1, hj1]
  · rcases List.mem_cons.mp hq with rfl | hq
    · have hq2 : v.category = 2 := hq2
      omega
    · obtain ⟨hq1, hq3⟩ := List.mem_filter.mp hq
      obtain ⟨aw, hw1, hw2⟩ := h4 q hq1 hq2
      have hne : q.1 ≠ i := by
        intro hh
        simp [hh] at hq3
      exact ⟨aw, by rw [List.getElem?_set_ne (Ne.symm hne)]; exact hw1, hw2⟩
  · rcases List.mem_or_eq_of_mem_set haw with h | h
    · exact h5 aw h
    · rw [h]; exact ha1
  · rcases List.mem_or_eq_of_mem_set haw with h | h
    · exact h6 hk aw h
    · rw [h]; exact ha3

/-- what a cell holds -/
def fw_er (al : List Nat) (b : Nat) (tys : List (ClassId × FieldType)) (σ : fw_M) (k : Int) (e : va_E) : Prop := match e with
  | .inr (ci, fs) => ∃ c : Nat, ci = c + 2 ∧ c < 10 ∧ fw_kd k = (c : Int) + 3 ∧ fs.length = fw_nf c ∧ ∀ j : Nat, j < fw_nf c → ∃ v, fs[j]? = some v ∧ fw_vr al b (fw_tg (fw_fk c j), σ k (j : Int)) v
  | .inl (cA, n, .inl f) => ∃ (t0 : Nat) (ty : FieldType), tys[t0]? = some (cA, ty) ∧ ((fw_kd k = 100 ∧ ty = .int) ∨ (fw_kd k = 101 ∧ ty = .char) ∨ (fw_kd k = 102 ∧ ty = .boolean)) ∧ fw_ln k = (n : Int) ∧ n ≤ 300 ∧ ∀ j : Nat, j < n → σ k (j : Int) = (f j).toInt
  | .inl (cA, n, .inr (.inl f)) => ∃ t0 : Nat, tys[t0]? = some (cA, .long) ∧ fw_kd k = 103 ∧ fw_ln k = (n : Int) ∧ n ≤ 300 ∧ ∀ j : Nat, j < n → σ k (j : Int) = (f j).toInt
  | .inl (_, _, .inr (.inr (.inl _))) => False
  | .inl (cA, n, .inr (.inr (.inr (.inl f)))) => ∃ t0 : Nat, tys[t0]? = some (cA, .double) ∧ fw_kd k = 104 ∧ fw_ln k = (n : Int) ∧ n ≤ 300 ∧ ∀ j : Nat, j < n → σ k (j : Int) = ((f j).toNat : Int)
  | .inl (cA, n, .inr (.inr (.inr (.inr f)))) => ∃ t0 : Nat, tys[t0]? = some (cA, .object RX1) ∧ fw_kd k = 105 ∧ fw_ln k = (n : Int) ∧ n ≤ 300 ∧ ∀ j : Nat, j < n → fw_vr al b (2, σ k (j : Int)) (va_rf (f j))
theorem fw_er_mono {al al' : List Nat} {b : Nat} {tys tys' : List (ClassId × FieldType)} {σ σ' : fw_M} {k : Int} {e : va_E} (ha : al <+: al') (ht : tys <+: tys') (hs : ∀ j, σ' k j = σ k j) (h : fw_er al b tys σ k e) : fw_er al' b tys' σ' k e := by
  have ht' : ∀ {t0 : Nat} {q : ClassId × FieldType}, tys[t0]? = some q → tys'[t0]? = some q := by
    intro t0 q hq
    obtain ⟨r, rfl⟩ := ht
    rw [List.getElem?_append_left (List.getElem?_eq_some_iff.mp hq).1]
    exact hq
  match e, h with
  | .inr (ci, fs), ⟨c, h1, h2, h3, h4, h5⟩ =>
    refine ⟨c, h1, h2, h3, h4, fun j hj => ?_⟩
    obtain ⟨v, hv, hc⟩ := h5 j hj
    exact ⟨v, hv, by rw [hs]; exact fw_vr_mono ha hc⟩
  | .inl (cA, n, .inl f), ⟨t0, ty, h1, h2, h3, h4, h5⟩ => exact ⟨t0, ty, ht' h1, h2, h3, h4, fun j hj => by rw [hs]; exact h5 j hj⟩
  | .inl (cA, n, .inr (.inl f)), ⟨t0, h1, h2, h3, h4, h5⟩ => exact ⟨t0, ht' h1, h2, h3, h4, fun j hj => by rw [hs]; exact h5 j hj⟩
  | .inl (cA, n, .inr (.inr (.inr (.inl f)))), ⟨t0, h1, h2, h3, h4, h5⟩ => exact ⟨t0, ht' h1, h2, h3, h4, fun j hj => by rw [hs]; exact h5 j hj⟩
  | .inl (cA, n, .inr (.inr (.inr (.inr f)))), ⟨t0, h1, h2, h3, h4, h5⟩ => exact ⟨t0, ht' h1, h2, h3, h4, fun j hj => by rw [hs]; exact fw_vr_mono ha (h5 j hj)⟩
/-- the heap holds the small machine's cells -/
def fw_H (base b L : Nat) (xs : Nat → Int32) (D : va_G) (σ : fw_M) (tys : List (ClassId × FieldType)) (ws : va_W) (s : State) (H : Heap) : Prop :=
  va_K D vwCl tys s ∧ va_P D vwCl ws H ∧ va_D (fun q => base ≤ q) ws ∧ σ (-1) 0 = (ws.length : Int) + 1 ∧
    (∀ (k : Nat) (q : Nat × va_E), ws[k]? = some q → fw_er (fw_al ws) b tys σ ((k : Int) + 1) q.2) ∧ σ (-3) 0 = (L : Int) ∧ ∀ j : Nat, j < L → σ (-2) (j : Int) = (xs j).toInt
theorem fw_al_set {ws : va_W} {p a : Nat} {e0 e : va_E} (h : ws[p]? = some (a, e0)) : fw_al (ws.set p (a, e)) = fw_al ws := by
  unfold fw_al
  apply List.ext_getElem?
  intro i
  rw [List.getElem?_map, List.getElem?_map]
  by_cases hi : i = p
  · subst hi
    rw [List.getElem?_set_self (List.getElem?_eq_some_iff.mp h).1, h]
    rfl
  · rw [List.getElem?_set_ne (Ne.symm hi)]
theorem fw_u_ne {σ : fw_M} {k j v a c : Int} (h : a ≠ k) : fw_u σ k j v a c = σ a c := by
  unfold fw_u
  rw [if_neg (fun q => h q.1)]
theorem fw_u_nj {σ : fw_M} {k j v a c : Int} (h : c ≠ j) : fw_u σ k j v a c = σ a c := by
  unfold fw_u
  rw [if_neg (fun q => h q.2)]
theorem fw_u_s {σ : fw_M} {k j v : Int} : fw_u σ k j v k j = v := by
  unfold fw_u
  rw [if_pos ⟨rfl, rfl⟩]
theorem fw_H_set {base b L : Nat} {xs : Nat → Int32} {D : va_G} {σ : fw_M} {tys : List (ClassId × FieldType)} {ws : va_W} {s : State} {H H1 : Heap} {p a : Nat} {e0 e : va_E} {j v : Int} (h : fw_H base b L xs D σ tys ws s H) (hp : ws[p]? = some (a, e0))
    (he : fw_er (fw_al ws) b tys (fw_u σ ((p : Int) + 1) j v) ((p : Int) + 1) e) (hP : va_P D vwCl (ws.set p (a, e)) H1) (hD : va_D (fun q => base ≤ q) (ws.set p (a, e))) : fw_H base b L xs D (fw_u σ ((p : Int) + 1) j v) tys (ws.set p (a, e)) s H1 := by
  obtain ⟨h1, h2, h3, h4, h5, h6, h7⟩ := h
  refine ⟨h1, hP, hD, ?_, fun k q hk => ?_, ?_, fun i hi => ?_⟩
  · rw [fw_u_ne (by omega), List.length_set]; exact h4
  · rw [fw_al_set hp]
    by_cases hkp : k = p
    · subst hkp
      rw [List.getElem?_set_self (List.getElem?_eq_some_iff.mp hp).1] at hk
      cases hk
      exact he
    · rw [List.getElem?_set_ne (Ne.symm hkp)] at hk
      exact fw_er_mono (List.prefix_refl _) (List.prefix_refl _) (fun c => fw_u_ne (by omega)) (h5 k q hk)
  · rw [fw_u_ne (by omega)]; exact h6
  · rw [fw_u_ne (by omega)]; exact h7 i hi
theorem fw_H_push {base b L : Nat} {xs : Nat → Int32} {D : va_G} {σ : fw_M} {tys tys' : List (ClassId × FieldType)} {ws : va_W} {s : State} {H H1 : Heap} {a : Nat} {e : va_E} {n : Int} (h : fw_H base b L xs D σ tys ws s H) (ht : tys <+: tys') (hK : va_K D vwCl tys' s)
    (hP : va_P D vwCl (ws ++ [(a, e)]) H1) (hD : va_D (fun q => base ≤ q) (ws ++ [(a, e)])) (he : fw_er (fw_al (ws ++ [(a, e)])) b tys' (fun _ _ => 0) ((ws.length : Int) + 1) e) : fw_H base b L xs D (fw_nw σ n) tys' (ws ++ [(a, e)]) s H1 := by
  obtain ⟨h1, h2, h3, h4, h5, h6, h7⟩ := h
  have hal : fw_al ws <+: fw_al (ws ++ [(a, e)]) := by unfold fw_al; rw [List.map_append]; exact List.prefix_append _ _
  refine ⟨hK, hP, hD, ?_, fun k q hk => ?_, ?_, fun i hi => ?_⟩
  · unfold fw_nw
    rw [if_neg (by omega), if_pos rfl, if_pos rfl, h4, List.length_append, List.length_singleton]
    omega
  · by_cases hl : k < ws.length
    · rw [List.getElem?_append_left hl] at hk
      refine fw_er_mono hal ht (fun c => ?_) (h5 k q hk)
      unfold fw_nw
      rw [if_neg (by omega), if_neg (by omega)]
    · rw [List.getElem?_append_right (by omega)] at hk
      have hz : k - ws.length < 1 := (List.getElem?_eq_some_iff.mp hk).1
      have hk0 : k = ws.length := by omega
      subst hk0
      rw [Nat.sub_self] at hk
      cases hk
      refine fw_er_mono (List.prefix_refl _) (List.prefix_refl _) (fun c => ?_) he
      unfold fw_nw
      rw [if_pos h4.symm]
  · unfold fw_nw
    rw [if_neg (by omega), if_neg (by omega)]; exact h6
  · unfold fw_nw
    rw [if_neg (by omega), if_neg (by omega)]; exact h7 i hi
theorem fw_H_moved {base b L : Nat} {xs : Nat → Int32} {D : va_G} {σ : fw_M} {tys : List (ClassId × FieldType)} {ws : va_W} {s t : State} {H : Heap} (hvm : s.vm.Alike t.vm) (h : fw_H base b L xs D σ tys ws s H) : fw_H base b L xs D σ tys ws t H :=
  ⟨h.1.moved hvm, h.2⟩
/-- the cell that a reference names -/
theorem fw_H_at {base b L : Nat} {xs : Nat → Int32} {D : va_G} {σ : fw_M} {tys : List (ClassId × FieldType)} {ws : va_W} {s : State} {H : Heap} {x : Int} {v : Value} (h : fw_H base b L xs D σ tys ws s H) (hv : fw_vr (fw_al ws) b (2, x) v) (hx : 0 < fw_kd x) : ∃ (p a : Nat) (e : va_E), ws[p]? = some (a, e) ∧ x = (p : Int) + 1 ∧ v = .ref a ∧ fw_er (fw_al ws) b tys σ x e := by
  rcases hv with ⟨h0, -⟩ | ⟨i, a, h1, h2, h3⟩
  · have h0 : x = 0 := h0
    subst h0
    exact absurd hx (by decide)
  · have h2 : x = (i : Int) + 1 := h2
    unfold fw_al at h1
    rw [List.getElem?_map] at h1
    obtain ⟨q, hq1, hq2⟩ := Option.map_eq_some_iff.mp h1
    obtain ⟨a', e⟩ := q
    have hq2 : a' = a := hq2
    subst hq2
    exact ⟨i, a', e, hq1, h2, h3, by rw [h2]; exact h.2.2.2.2.1 i _ hq1⟩
end
section
/-! what a method's run of the small machine says of the real machine -/
def fw_nm : List String := ["java/lang/RuntimeException", "java/lang/Exception"]
/-- words of the tables that are carried along beside the good ones -/
def fw_nz : List Cond := [.castable (fw_xn 0) (fw_xn 0), .castable (fw_xn 1) (fw_xn 1), .castable (fw_xn 2) (fw_xn 2), .castable (fw_xn 3) (fw_xn 3), .castable (fw_xn 4) (fw_xn 4), .castable (fw_xn 5) (fw_xn 5),
  .declares ⟨"java/lang/RuntimeException", "<init>", "()V"⟩, .declares ⟨"java/lang/Exception", "<init>", "()V"⟩, .declares ⟨"java/lang/Throwable", "<init>", "()V"⟩,
  .methodLinkNest (fw_CN 8) 9 (fw_y (fw_cal 8 9)) (fw_CN 8), .methodLinkNest (fw_CN 8) 59 (fw_y (fw_cal 8 59)) (fw_CN 8), .methodLinkNest (fw_CN 6) 58 (fw_y (fw_cal 6 58)) (fw_CN 8), .methodLinkNest (fw_CN 7) 49 (fw_y (fw_cal 7 49)) (fw_CN 8)]
theorem fw_at_ok : ∀ q ∈ fw_xrT, ∀ w ∈ vx_at0 (fw_CN 8) q.2.1 (fw_xn q.2.2.1) fw_nm, goodWord w = true ∨ w ∈ fw_nz := by decide +kernel
theorem fw_at_tbl : ∀ q ∈ fw_xrT, ∀ w ∈ (vx_at0 (fw_CN 8) q.2.1 (fw_xn q.2.2.1) fw_nm).filter goodWord, w ∈ lw_tbl := by decide +kernel
theorem fw_at_ot : ∀ q ∈ fw_xrT, ∀ w ∈ Cond.classLink (fw_CN 8) q.1 (fw_xn q.2.2.1) :: Cond.initialized (fw_xn q.2.2.1) :: vx_at0 (fw_CN 8) q.2.1 (fw_xn q.2.2.1) fw_nm, vx_ot w = true := by decide +kernel
theorem fw_nz_tbl : ∀ w ∈ fw_nz, w ∈ lw_tbl ∧ w.onTables = true := by decide +kernel
end
section
/-- (an exception, one that it is not) -/
def fw_nc : List (Nat × Nat) := [(1, 0), (2, 0), (1, 2), (0, 3), (1, 3), (1, 4), (4, 0), (3, 0), (4, 3)]
def fw_Z (base : Nat) (s : State) (H : Heap) : Prop := vx_Zq Bundle.tN "UNASSIGNED_STACK" Bundle.steD (fun q => base ≤ q) s H ∧ vx_Zq Bundle.tN "SUPPRESSED_SENTINEL" Bundle.listD (fun q => base ≤ q) s H ∧ (∀ w ∈ fw_nz, va_Nw w s) ∧ (∀ q ∈ fw_nc, va_Nc (fw_xn q.1) (fw_xn q.2) s) ∧ va_AO RX1 s
theorem fw_nz_warm {s U : State} (hW : s.WarmedH U.vm) (h : ∀ w ∈ fw_nz, va_Nw w s) : ∀ w ∈ fw_nz, va_Nw w U := by
  intro w hw
  have h1 := h w hw
  simp only [fw_nz, List.mem_cons, List.not_mem_nil, or_false] at hw
  rcases hw with rfl | rfl | rfl | rfl | rfl | rfl | rfl | rfl | rfl | rfl | rfl | rfl | rfl
  · exact va_Nw.warmC hW h1
  · exact va_Nw.warmC hW h1
  · exact va_Nw.warmC hW h1
  · exact va_Nw.warmC hW h1
  · exact va_Nw.warmC hW h1
  · exact va_Nw.warmC hW h1
  · exact va_Nw.warmD hW h1
  · exact va_Nw.warmD hW h1
  · exact va_Nw.warmD hW h1
  · exact va_Nw.warmM hW h1
  · exact va_Nw.warmM hW h1
  · exact va_Nw.warmM hW h1
  · exact va_Nw.warmM hW h1
theorem fw_Z_go {base : Nat} {s U : State} {H : Heap} {locs : List Loc} (hW : s.WarmedH U.vm) (hS : va_S (fun q => base ≤ q) s.heap H locs) (h : fw_Z base s s.heap) : fw_Z base U H := by
  obtain ⟨h1, h2, h3, h4, h5⟩ := h
  exact ⟨vx_Zq.moved hW.alike (h1.kept hS.2.1), vx_Zq.moved hW.alike (h2.kept hS.2.1), fw_nz_warm hW h3, fun q hq => (h4 q hq).moved hW.alike, va_AO.moved hW.alike h5⟩
/-- a method at work: the machine, its code, the tables' words, the room -/
def fw_C (k base b L : Nat) (xs : Nat → Int32) (p : Program) (l : Launch) (R : Room) (s : State) (m : MethodId) (args : Array Value) (meth : Method) (c : Code) : Prop :=
  p.tables.exec = Jvm.exec ∧ c.code = fw_B k ∧ c.maxLocals = fw_mL k ∧ s.vm.findClass (fw_CN (fw_oc k)) = some m.cls ∧ (∀ w ∈ fw_ws, w.before args s = true) ∧ meth.locks = false ∧
    (k ≠ 0 → c.exceptionTable.toList = tableOf ((fw_hs k).map (fun h => (h.1, h.2.1, h.2.2.1, h.2.2.2.1)))) ∧ (fw_ki k = 2 → meth.name = "<init>") ∧ l.stackTraces = false ∧ fw_rk k + 6 ≤ R.frames ∧ 30 * fw_rk k + 100 ≤ R.locals ∧
    fw_Z base s s.heap ∧ base ≤ s.heap.size ∧ (k = 0 → va_X b L xs s s.heap ∧ b < s.heap.size ∧ b < base) ∧ meth.sig.returnType = fw_rt k ∧ k < 212
/-- the answer on the stack at a return -/
def fw_rv (k : Nat) (al : List Nat) (b : Nat) (v : fw_V) (i : Instr) (cst : List Value) : Prop :=
  (v = (5, 0) ∧ i = .return_ ∧ fw_rt k = none ∧ cst = []) ∨ (v.1 = 0 ∧ i = .ireturn ∧ fw_ri k v.2 = true ∧ ∃ z : Int32, v.2 = z.toInt ∧ cst = [.int z]) ∨ (v.1 = 1 ∧ i = .lreturn ∧ fw_rt k = some .long ∧ ∃ z : Int64, v.2 = z.toInt ∧ cst = [.long z]) ∨
  (v.1 = 2 ∧ i = .areturn ∧ fw_rt k = some (.object RX1) ∧ ∃ z : Value, fw_vr al b v z ∧ cst = [z]) ∨ (v.1 = 3 ∧ i = .dreturn ∧ fw_rt k = some .double ∧ ∃ z : UInt64, v.2 = (z.toNat : Int) ∧ cst = [.double z]) ∨ (v.1 = 4 ∧ i = .freturn ∧ fw_rt k = some .float ∧ ∃ z : UInt32, v.2 = (z.toNat : Int) ∧ cst = [.float z])
/-- what a method's ends come to: a return, a throw from a callee, a throw of its own -/
def fw_F (k base b L : Nat) (xs : Nat → Int32) (D : va_G) (p : Program) (l : Launch) (e : Env) (R : Room) (s : State) (m : MethodId) (args : Array Value) (below : List Frame) (meth : Method) (c : Code) (Q : State → Prop) (al0 : List Nat) (C0 S0 : Int) (out : fw_O) : Prop :=
  (∀ (tys : List (ClassId × FieldType)) (ws : va_W) (H : Heap) (locs : List Loc) (cells slots pc : Nat) (ls : Array Slot) (cst : List Value) (i : Instr), decode (fw_B k) pc = .ok (i, 1) → fw_H base b L xs D out.2 tys ws s H → va_S (fun q => base ≤ q) s.heap H locs → al0 <+: fw_al ws → (cells : Int) = out.2 (-1) 1 - C0 → (slots : Int) = out.2 (-1) 2 - S0 → fw_rv k (fw_al ws) b out.1 i cst →
    W p l e R s m args below meth c H locs cells slots Q (F0 m pc ls cst)) ∧
  (out.1.1 = 9 → k ≠ 0 → fw_hs k = [] → ∀ (tys : List (ClassId × FieldType)) (ws : va_W) (H : Heap) (locs : List Loc) (cells slots pc : Nat) (ls : Array Slot) (rest : List Value) (q : Addr) (ce : Cell), fw_H base b L xs D out.2 tys ws s H → va_S (fun q => base ≤ q) s.heap H locs → al0 <+: fw_al ws → (cells : Int) = out.2 (-1) 1 - C0 → (slots : Int) = out.2 (-1) 2 - S0 →
    H[q]? = some ce → ce.vm = .none → s.vm.findClass (fw_xn out.1.2.toNat) = some ce.cls → vx_W p l e R s m args below meth c H locs cells slots Q (F0 m pc ls rest) q) ∧
  (∀ (σ : fw_M) (ik ic x : Nat), out.1 = (9, (x : Int)) → out.2 = fw_ex σ → fw_oc k = 8 → fw_hs k = [] → k ≠ 0 → (∃ q ∈ fw_xrT, q.1 = ik ∧ q.2.1 = ic ∧ q.2.2.1 = x) → ∀ (tys : List (ClassId × FieldType)) (ws : va_W) (H : Heap) (locs : List Loc) (cells slots pc : Nat) (ls : Array Slot), ls.size = fw_mL k → decode (fw_B k) pc = .ok (.new ik, 3) → decode (fw_B k) (pc + 3) = .ok (.dup, 1) → decode (fw_B k) (pc + 4) = .ok (.invokespecial ic, 3) → decode (fw_B k) (pc + 7) = .ok (.athrow, 1) →
    fw_H base b L xs D σ tys ws s H → va_S (fun q => base ≤ q) s.heap H locs → al0 <+: fw_al ws → (cells : Int) = σ (-1) 1 - C0 → (slots : Int) = σ (-1) 2 - S0 → cells + 1 ≤ R.cells → slots + 6 ≤ R.slots → W p l e R s m args below meth c H locs cells slots Q (F0 m pc ls []))
/-- from here the small machine comes to out: and the real one with it -/
def fw_J (k pc : Nat) (ll st : List fw_V) (σ : fw_M) (out : fw_O) : Prop :=
  (σ (-1) 1 ≤ out.2 (-1) 1 ∧ σ (-1) 2 ≤ out.2 (-1) 2) ∧
  ∀ (base b L : Nat) (xs : Nat → Int32) (D : va_G) (p : Program) (l : Launch) (e : Env) (R : Room) (s : State) (m : MethodId) (args : Array Value) (below : List Frame) (meth : Method) (c : Code) (Q : State → Prop) (al0 : List Nat) (C0 S0 : Int),
    fw_C k base b L xs p l R s m args meth c → fw_F k base b L xs D p l e R s m args below meth c Q al0 C0 S0 out → out.2 (-1) 1 - C0 ≤ R.cells → out.2 (-1) 2 - S0 ≤ R.slots →
    ∀ (tys : List (ClassId × FieldType)) (ws : va_W) (H : Heap) (locs : List Loc) (cells slots : Nat) (ls : Array Slot) (cst : List Value), fw_H base b L xs D σ tys ws s H → va_S (fun q => base ≤ q) s.heap H locs → al0 <+: fw_al ws → (cells : Int) = σ (-1) 1 - C0 → (slots : Int) = σ (-1) 2 - S0 →
      fw_L k (fw_al ws) b ls ll → fw_St (fw_al ws) b st cst → W p l e R s m args below meth c H locs cells slots Q (F0 m pc ls cst)
/-- an instruction that may change cells, or make one -/
theorem fw_jg {k pc pc' : Nat} {ll ll' st st' : List fw_V} {σ σ' : fw_M} {out : fw_O} (hJ : fw_J k pc' ll' st' σ' out) (n1 n2 : Nat) (hm1 : σ' (-1) 1 = σ (-1) 1 + n1) (hm2 : σ' (-1) 2 = σ (-1) 2 + n2)
    (hs : ∀ (base b L : Nat) (xs : Nat → Int32) (D : va_G) (p : Program) (l : Launch) (e : Env) (R : Room) (s : State) (m : MethodId) (args : Array Value) (below : List Frame) (meth : Method) (c : Code) (Q : State → Prop), fw_C k base b L xs p l R s m args meth c →
      ∀ (tys : List (ClassId × FieldType)) (ws : va_W) (H : Heap) (locs : List Loc) (cells slots : Nat) (ls : Array Slot) (cst : List Value), fw_H base b L xs D σ tys ws s H → va_S (fun q => base ≤ q) s.heap H locs → fw_L k (fw_al ws) b ls ll → fw_St (fw_al ws) b st cst → cells + n1 ≤ R.cells → slots + n2 ≤ R.slots →
      (∀ (tys' : List (ClassId × FieldType)) (ws' : va_W) (H' : Heap) (locs' : List Loc) (ls' : Array Slot) (cst' : List Value), fw_H base b L xs D σ' tys' ws' s H' → va_S (fun q => base ≤ q) s.heap H' locs' → fw_al ws <+: fw_al ws' → fw_L k (fw_al ws') b ls' ll' → fw_St (fw_al ws') b st' cst' → W p l e R s m args below meth c H' locs' (cells + n1) (slots + n2) Q (F0 m pc' ls' cst')) →
      W p l e R s m args below meth c H locs cells slots Q (F0 m pc ls cst)) : fw_J k pc ll st σ out := by
  refine ⟨⟨by have := hJ.1.1; omega, by have := hJ.1.2; omega⟩, ?_⟩
  intro base b L xs D p l e R s m args below meth c Q al0 C0 S0 hC hF hR1 hR2 tys ws H locs cells slots ls cst hH hS hal hc1 hc2 hL hT
  refine hs base b L xs D p l e R s m args below meth c Q hC tys ws H locs cells slots ls cst hH hS hL hT (by have := hJ.1.1; omega) (by have := hJ.1.2; omega) ?_
  intro tys' ws' H' locs' ls' cst' hH' hS' hal' hL' hT'
  exact hJ.2 base b L xs D p l e R s m args below meth c Q al0 C0 S0 hC hF hR1 hR2 tys' ws' H' locs' (cells + n1) (slots + n2) ls' cst' hH' hS' (hal.trans hal') (by omega) (by omega) hL' hT'
/-- an instruction that changes no cell -/
theorem fw_jp {k pc pc' : Nat} {ll ll' st st' : List fw_V} {σ : fw_M} {out : fw_O} (hJ : fw_J k pc' ll' st' σ out)
    (hs : ∀ (base b L : Nat) (xs : Nat → Int32) (D : va_G) (p : Program) (l : Launch) (e : Env) (R : Room) (s : State) (m : MethodId) (args : Array Value) (below : List Frame) (meth : Method) (c : Code) (Q : State → Prop), fw_C k base b L xs p l R s m args meth c →
      ∀ (tys : List (ClassId × FieldType)) (ws : va_W) (H : Heap) (locs : List Loc) (cells slots : Nat) (ls : Array Slot) (cst : List Value), fw_H base b L xs D σ tys ws s H → va_S (fun q => base ≤ q) s.heap H locs → fw_L k (fw_al ws) b ls ll → fw_St (fw_al ws) b st cst → cells ≤ R.cells → slots ≤ R.slots →
      (∀ (ls' : Array Slot) (cst' : List Value), fw_L k (fw_al ws) b ls' ll' → fw_St (fw_al ws) b st' cst' → W p l e R s m args below meth c H locs cells slots Q (F0 m pc' ls' cst')) →
      W p l e R s m args below meth c H locs cells slots Q (F0 m pc ls cst)) : fw_J k pc ll st σ out :=
  fw_jg hJ 0 0 (Int.add_zero _).symm (Int.add_zero _).symm fun base b L xs D p l e R s m args below meth c Q hC tys ws H locs cells slots ls cst hH hS hL hT h1 h2 kk =>
    hs base b L xs D p l e R s m args below meth c Q hC tys ws H locs cells slots ls cst hH hS hL hT h1 h2 fun ls' cst' hL' hT' => kk tys ws H locs ls' cst' hH hS (List.prefix_refl _) hL' hT'
end
section
theorem fw_n64_ok {r : UInt64} (h : fw_n64 r = true) : vf_n64 r := by
  unfold fw_n64 at h
  unfold vf_n64
  exact of_decide_eq_true h
theorem fw_n32_ok {r : UInt32} (h : fw_n32 r = true) : vf_n32 r := by
  unfold fw_n32 at h
  unfold vf_n32
  exact of_decide_eq_true h
theorem fw_toInt_w (a c : Int32) : fw_w (a.toInt + c.toInt) = (a + c).toInt := by rw [Int32.toInt_add]; rfl
theorem fw_toInt_s (a c : Int32) : fw_w (a.toInt - c.toInt) = (a - c).toInt := by rw [Int32.toInt_sub]; rfl
theorem fw_toInt_m (a c : Int32) : fw_w (a.toInt * c.toInt) = (a * c).toInt := by rw [Int32.toInt_mul]; rfl
theorem fw_toInt_l (a c : Int64) : fw_wl (a.toInt + c.toInt) = (a + c).toInt := by rw [Int64.toInt_add]; rfl
theorem fw_dd_of (z : UInt64) : fw_dd (z.toNat : Int) = z := by simp [fw_dd]
theorem fw_ff_of (z : UInt32) : fw_ff (z.toNat : Int) = z := by simp [fw_ff]
theorem fw_tgt_ok {pc : Nat} {off : Int} (h : 0 ≤ (pc : Int) + off) : (pc : Int) + off = ((fw_tgt pc off : Nat) : Int) := by unfold fw_tgt; omega
theorem fw_rem (a d : Int32) (ha : 0 ≤ a.toInt) (hd : 0 < d.toInt) : a.toInt % d.toInt = (a - a / d * d).toInt := by
  obtain ⟨i, hi, rfl⟩ := nI_of (x := a) (by rw [Int32.lt_iff_toInt_lt]; have : (0 : Int32).toInt = 0 := rfl; omega)
  obtain ⟨j, hj, rfl⟩ := nI_of (x := d) (by rw [Int32.lt_iff_toInt_lt]; have : (0 : Int32).toInt = 0 := rfl; omega)
  rw [nI_toInt hj] at hd ⊢
  rw [nI_toInt hi, pk_rem hi (by omega) hj, nI_toInt (Nat.lt_of_le_of_lt (Nat.mod_le _ _) hi)]
  omega
theorem fw_and63 (a : Int32) : a.toInt % 64 = (a &&& 63).toInt := by
  rw [pk_and a 6 (by decide), nI_toInt (by omega)]
  have h : a.toInt = a.toBitVec.toInt := rfl
  rw [h, BitVec.toInt_eq_toNat_cond]
  split <;> omega
theorem fw_j_iadd {k pc : Nat} {ll r : List fw_V} {y x : Int} {σ : fw_M} {out : fw_O} (hd : fw_dec k pc = some (.iadd, 1)) (hJ : fw_J k (pc + 1) ll ((0, fw_w (x + y)) :: r) σ out) : fw_J k pc ll ((0, y) :: (0, x) :: r) σ out := by
  refine fw_jp hJ ?_
  intro base b L xs D p l e R s m args below meth c Q hC tys ws H locs cells slots ls cst hH hS hL hT h1 h2 kk
  obtain ⟨v0, r0, rfl, ⟨z0, rfl, e0⟩, t0⟩ := fw_St_cons hT
  clear hT; have hT := t0; clear t0
  obtain ⟨v1, r1, rfl, ⟨z1, rfl, e1⟩, t1⟩ := fw_St_cons hT
  clear hT; have hT := t1; clear t1
  refine lv_iadd hC.1 hC.2.1 (fw_de' hd) ?_
  have e0 : y = z0.toInt := e0
  have e1 : x = z1.toInt := e1
  exact kk ls _ hL ⟨⟨_, rfl, by rw [e0, e1]; exact fw_toInt_w z1 z0⟩, hT⟩
theorem fw_j_isub {k pc : Nat} {ll r : List fw_V} {y x : Int} {σ : fw_M} {out : fw_O} (hd : fw_dec k pc = some (.isub, 1)) (hJ : fw_J k (pc + 1) ll ((0, fw_w (x - y)) :: r) σ out) : fw_J k pc ll ((0, y) :: (0, x) :: r) σ out := by
  refine fw_jp hJ ?_
  intro base b L xs D p l e R s m args below meth c Q hC tys ws H locs cells slots ls cst hH hS hL hT h1 h2 kk
  obtain ⟨v0, r0, rfl, ⟨z0, rfl, e0⟩, t0⟩ := fw_St_cons hT
  clear hT; have hT := t0; clear t0
  obtain ⟨v1, r1, rfl, ⟨z1, rfl, e1⟩, t1⟩ := fw_St_cons hT
  clear hT; have hT := t1; clear t1
  refine lv_isub hC.1 hC.2.1 (fw_de' hd) ?_
  have e0 : y = z0.toInt := e0
  have e1 : x = z1.toInt := e1
  exact kk ls _ hL ⟨⟨_, rfl, by rw [e0, e1]; exact fw_toInt_s z1 z0⟩, hT⟩
theorem fw_j_imul {k pc : Nat} {ll r : List fw_V} {y x : Int} {σ : fw_M} {out : fw_O} (hd : fw_dec k pc = some (.imul, 1)) (hJ : fw_J k (pc + 1) ll ((0, fw_w (x * y)) :: r) σ out) : fw_J k pc ll ((0, y) :: (0, x) :: r) σ out := by
  refine fw_jp hJ ?_
  intro base b L xs D p l e R s m args below meth c Q hC tys ws H locs cells slots ls cst hH hS hL hT h1 h2 kk
  obtain ⟨v0, r0, rfl, ⟨z0, rfl, e0⟩, t0⟩ := fw_St_cons hT
  clear hT; have hT := t0; clear t0
  obtain ⟨v1, r1, rfl, ⟨z1, rfl, e1⟩, t1⟩ := fw_St_cons hT
  clear hT; have hT := t1; clear t1
  refine lv_imul hC.1 hC.2.1 (fw_de' hd) ?_
  have e0 : y = z0.toInt := e0
  have e1 : x = z1.toInt := e1
  exact kk ls _ hL ⟨⟨_, rfl, by rw [e0, e1]; exact fw_toInt_m z1 z0⟩, hT⟩
theorem fw_j_ladd {k pc : Nat} {ll r : List fw_V} {y x : Int} {σ : fw_M} {out : fw_O} (hd : fw_dec k pc = some (.ladd, 1)) (hJ : fw_J k (pc + 1) ll ((1, fw_wl (x + y)) :: r) σ out) : fw_J k pc ll ((1, y) :: (1, x) :: r) σ out := by
  refine fw_jp hJ ?_
  intro base b L xs D p l e R s m args below meth c Q hC tys ws H locs cells slots ls cst hH hS hL hT h1 h2 kk
  obtain ⟨v0, r0, rfl, ⟨z0, rfl, e0⟩, t0⟩ := fw_St_cons hT
  clear hT; have hT := t0; clear t0
  obtain ⟨v1, r1, rfl, ⟨z1, rfl, e1⟩, t1⟩ := fw_St_cons hT
  clear hT; have hT := t1; clear t1
  refine lv_ladd hC.1 hC.2.1 (fw_de' hd) ?_
  have e0 : y = z0.toInt := e0
  have e1 : x = z1.toInt := e1
  exact kk ls _ hL ⟨⟨_, rfl, by rw [e0, e1]; exact fw_toInt_l z1 z0⟩, hT⟩
theorem fw_j_irem {k pc : Nat} {ll r : List fw_V} {y x : Int} {σ : fw_M} {out : fw_O} (hd : fw_dec k pc = some (.irem, 1)) (hx0 : 0 ≤ x) (hy0 : 0 < y) (hJ : fw_J k (pc + 1) ll ((0, x % y) :: r) σ out) : fw_J k pc ll ((0, y) :: (0, x) :: r) σ out := by
  refine fw_jp hJ ?_
  intro base b L xs D p l e R s m args below meth c Q hC tys ws H locs cells slots ls cst hH hS hL hT h1 h2 kk
  obtain ⟨v0, r0, rfl, ⟨z0, rfl, e0⟩, t0⟩ := fw_St_cons hT
  clear hT; have hT := t0; clear t0
  obtain ⟨v1, r1, rfl, ⟨z1, rfl, e1⟩, t1⟩ := fw_St_cons hT
  clear hT; have hT := t1; clear t1
  have e0 : y = z0.toInt := e0
  have e1 : x = z1.toInt := e1
  refine lv_irem hC.1 hC.2.1 (fw_de' hd) (fun q => ?_) ?_
  · rw [q] at e0; exact absurd e0 (by have : (0 : Int32).toInt = 0 := rfl; omega)
  exact kk ls _ hL ⟨⟨_, rfl, by rw [e0, e1]; exact fw_rem z1 z0 (by omega) (by omega)⟩, hT⟩
theorem fw_j_iand {k pc : Nat} {ll r : List fw_V} {y x : Int} {σ : fw_M} {out : fw_O} (hd : fw_dec k pc = some (.iand, 1)) (hJ : fw_J k (pc + 1) ll ((0, x % 64) :: r) σ out) : fw_J k pc ll ((0, 63) :: (0, x) :: r) σ out := by
  refine fw_jp hJ ?_
  intro base b L xs D p l e R s m args below meth c Q hC tys ws H locs cells slots ls cst hH hS hL hT h1 h2 kk
  obtain ⟨v0, r0, rfl, ⟨z0, rfl, e0⟩, t0⟩ := fw_St_cons hT
  clear hT; have hT := t0; clear t0
  obtain ⟨v1, r1, rfl, ⟨z1, rfl, e1⟩, t1⟩ := fw_St_cons hT
  clear hT; have hT := t1; clear t1
  have e0 : (63 : Int) = z0.toInt := e0
  have e1 : x = z1.toInt := e1
  have e9 : z0 = 63 := Int32.toInt_inj.mp (by rw [← e0]; rfl)
  subst e9
  refine lv_iand hC.1 hC.2.1 (fw_de' hd) ?_
  exact kk ls _ hL ⟨⟨_, rfl, by rw [e1]; exact fw_and63 z1⟩, hT⟩
theorem fw_j_lcmp {k pc : Nat} {ll r : List fw_V} {y x : Int} {σ : fw_M} {out : fw_O} (hd : fw_dec k pc = some (.lcmp, 1)) (hJ : fw_J k (pc + 1) ll ((0, if y < x then 1 else if x = y then 0 else -1) :: r) σ out) : fw_J k pc ll ((1, y) :: (1, x) :: r) σ out := by
  refine fw_jp hJ ?_
  intro base b L xs D p l e R s m args below meth c Q hC tys ws H locs cells slots ls cst hH hS hL hT h1 h2 kk
  obtain ⟨v0, r0, rfl, ⟨z0, rfl, e0⟩, t0⟩ := fw_St_cons hT
  clear hT; have hT := t0; clear t0
  obtain ⟨v1, r1, rfl, ⟨z1, rfl, e1⟩, t1⟩ := fw_St_cons hT
  clear hT; have hT := t1; clear t1
  refine W.lcmp hC.1 hC.2.1 (fw_de' hd) ?_
  have e0 : y = z0.toInt := e0
  have e1 : x = z1.toInt := e1
  refine kk ls _ hL ⟨⟨_, rfl, ?_⟩, hT⟩
  show (if y < x then (1 : Int) else if x = y then 0 else -1) = _
  unfold lg_cmp
  simp only [gt_iff_lt, Int64.lt_iff_toInt_lt, ← Int64.toInt_inj, ← e0, ← e1]
  by_cases q1 : y < x
  · rw [if_pos q1, if_pos q1]; rfl
  · rw [if_neg q1, if_neg q1]
    by_cases q2 : x = y
    · rw [if_pos q2, if_pos q2]; rfl
    · rw [if_neg q2, if_neg q2]; rfl
theorem fw_j_i2l {k pc : Nat} {ll r : List fw_V} {x : Int} {σ : fw_M} {out : fw_O} (hd : fw_dec k pc = some (.i2l, 1)) (hJ : fw_J k (pc + 1) ll ((1, x) :: r) σ out) : fw_J k pc ll ((0, x) :: r) σ out := by
  refine fw_jp hJ ?_
  intro base b L xs D p l e R s m args below meth c Q hC tys ws H locs cells slots ls cst hH hS hL hT h1 h2 kk
  obtain ⟨v0, r0, rfl, ⟨z0, rfl, e0⟩, t0⟩ := fw_St_cons hT
  clear hT; have hT := t0; clear t0
  refine lv_i2l hC.1 hC.2.1 (fw_de' hd) rfl ?_
  have e0 : x = z0.toInt := e0
  exact kk ls _ hL ⟨⟨_, rfl, by rw [Int32.toInt_toInt64]; exact e0⟩, hT⟩
theorem fw_j_i2d {k pc : Nat} {ll r : List fw_V} {x : Int} {σ : fw_M} {out : fw_O} (hd : fw_dec k pc = some (.i2d, 1)) (hJ : fw_J k (pc + 1) ll ((3, ((FP.i2d (Int32.ofInt x)).toNat : Int)) :: r) σ out) : fw_J k pc ll ((0, x) :: r) σ out := by
  refine fw_jp hJ ?_
  intro base b L xs D p l e R s m args below meth c Q hC tys ws H locs cells slots ls cst hH hS hL hT h1 h2 kk
  obtain ⟨v0, r0, rfl, ⟨z0, rfl, e0⟩, t0⟩ := fw_St_cons hT
  clear hT; have hT := t0; clear t0
  refine lv_i2d hC.1 hC.2.1 (fw_de' hd) ?_
  have e0 : x = z0.toInt := e0
  exact kk ls _ hL ⟨⟨_, rfl, by rw [e0, Int32.ofInt_toInt]⟩, hT⟩
theorem fw_j_i2f {k pc : Nat} {ll r : List fw_V} {x : Int} {σ : fw_M} {out : fw_O} (hd : fw_dec k pc = some (.i2f, 1)) (hJ : fw_J k (pc + 1) ll ((4, ((FP.i2f (Int32.ofInt x)).toNat : Int)) :: r) σ out) : fw_J k pc ll ((0, x) :: r) σ out := by
  refine fw_jp hJ ?_
  intro base b L xs D p l e R s m args below meth c Q hC tys ws H locs cells slots ls cst hH hS hL hT h1 h2 kk
  obtain ⟨v0, r0, rfl, ⟨z0, rfl, e0⟩, t0⟩ := fw_St_cons hT
  clear hT; have hT := t0; clear t0
  refine lv_i2f hC.1 hC.2.1 (fw_de' hd) ?_
  have e0 : x = z0.toInt := e0
  exact kk ls _ hL ⟨⟨_, rfl, by rw [e0, Int32.ofInt_toInt]⟩, hT⟩
theorem fw_j_l2d {k pc : Nat} {ll r : List fw_V} {x : Int} {σ : fw_M} {out : fw_O} (hd : fw_dec k pc = some (.l2d, 1)) (hJ : fw_J k (pc + 1) ll ((3, ((FP.l2d (Int64.ofInt x)).toNat : Int)) :: r) σ out) : fw_J k pc ll ((1, x) :: r) σ out := by
  refine fw_jp hJ ?_
  intro base b L xs D p l e R s m args below meth c Q hC tys ws H locs cells slots ls cst hH hS hL hT h1 h2 kk
  obtain ⟨v0, r0, rfl, ⟨z0, rfl, e0⟩, t0⟩ := fw_St_cons hT
  clear hT; have hT := t0; clear t0
  refine lv_l2d hC.1 hC.2.1 (fw_de' hd) ?_
  have e0 : x = z0.toInt := e0
  exact kk ls _ hL ⟨⟨_, rfl, by rw [e0, Int64.ofInt_toInt]⟩, hT⟩
theorem fw_j_f2d {k pc : Nat} {ll r : List fw_V} {x : Int} {σ : fw_M} {out : fw_O} (hd : fw_dec k pc = some (.f2d, 1)) (hn : fw_n64 (FP.f2d (fw_ff x)) = true) (hJ : fw_J k (pc + 1) ll ((3, ((FP.f2d (fw_ff x)).toNat : Int)) :: r) σ out) : fw_J k pc ll ((4, x) :: r) σ out := by
  refine fw_jp hJ ?_
  intro base b L xs D p l e R s m args below meth c Q hC tys ws H locs cells slots ls cst hH hS hL hT h1 h2 kk
  obtain ⟨v0, r0, rfl, ⟨z0, rfl, e0⟩, t0⟩ := fw_St_cons hT
  clear hT; have hT := t0; clear t0
  have e0 : x = (z0.toNat : Int) := e0
  subst e0
  rw [fw_ff_of] at hn kk
  refine lv_f2d hC.1 hC.2.1 (fw_de' hd) (fw_n64_ok hn) ?_
  exact kk ls _ hL ⟨⟨_, rfl, rfl⟩, hT⟩
theorem fw_j_ddiv {k pc : Nat} {ll r : List fw_V} {y x : Int} {σ : fw_M} {out : fw_O} (hd : fw_dec k pc = some (.ddiv, 1)) (hn : fw_n64 (FP.ddiv (fw_dd x) (fw_dd y)) = true) (hJ : fw_J k (pc + 1) ll ((3, ((FP.ddiv (fw_dd x) (fw_dd y)).toNat : Int)) :: r) σ out) : fw_J k pc ll ((3, y) :: (3, x) :: r) σ out := by
  refine fw_jp hJ ?_
  intro base b L xs D p l e R s m args below meth c Q hC tys ws H locs cells slots ls cst hH hS hL hT h1 h2 kk
  obtain ⟨v0, r0, rfl, ⟨z0, rfl, e0⟩, t0⟩ := fw_St_cons hT
  clear hT; have hT := t0; clear t0
  obtain ⟨v1, r1, rfl, ⟨z1, rfl, e1⟩, t1⟩ := fw_St_cons hT
  clear hT; have hT := t1; clear t1
  have e0 : y = (z0.toNat : Int) := e0
  have e1 : x = (z1.toNat : Int) := e1
  subst e0
  subst e1
  rw [fw_dd_of, fw_dd_of] at hn kk
  refine lv_ddiv hC.1 hC.2.1 (fw_de' hd) (fw_n64_ok hn) ?_
  exact kk ls _ hL ⟨⟨_, rfl, rfl⟩, hT⟩
theorem fw_j_fdiv {k pc : Nat} {ll r : List fw_V} {y x : Int} {σ : fw_M} {out : fw_O} (hd : fw_dec k pc = some (.fdiv, 1)) (hn : fw_n32 (FP.fdiv (fw_ff x) (fw_ff y)) = true) (hJ : fw_J k (pc + 1) ll ((4, ((FP.fdiv (fw_ff x) (fw_ff y)).toNat : Int)) :: r) σ out) : fw_J k pc ll ((4, y) :: (4, x) :: r) σ out := by
  refine fw_jp hJ ?_
  intro base b L xs D p l e R s m args below meth c Q hC tys ws H locs cells slots ls cst hH hS hL hT h1 h2 kk
  obtain ⟨v0, r0, rfl, ⟨z0, rfl, e0⟩, t0⟩ := fw_St_cons hT
  clear hT; have hT := t0; clear t0
  obtain ⟨v1, r1, rfl, ⟨z1, rfl, e1⟩, t1⟩ := fw_St_cons hT
  clear hT; have hT := t1; clear t1
  have e0 : y = (z0.toNat : Int) := e0
  have e1 : x = (z1.toNat : Int) := e1
  subst e0
  subst e1
  rw [fw_ff_of, fw_ff_of] at hn kk
  refine lv_fdiv hC.1 hC.2.1 (fw_de' hd) (fw_n32_ok hn) ?_
  exact kk ls _ hL ⟨⟨_, rfl, rfl⟩, hT⟩
theorem fw_j_dcmp {k pc : Nat} {ll r : List fw_V} {y x : Int} {σ : fw_M} {out : fw_O} {op : CmpOp} (hd : fw_dec k pc = some (.dcmp op, 1)) (hJ : fw_J k (pc + 1) ll ((0, (Op.cmpValue (FP.dcmp (fw_dd x) (fw_dd y)) op).toInt) :: r) σ out) : fw_J k pc ll ((3, y) :: (3, x) :: r) σ out := by
  refine fw_jp hJ ?_
  intro base b L xs D p l e R s m args below meth c Q hC tys ws H locs cells slots ls cst hH hS hL hT h1 h2 kk
  obtain ⟨v0, r0, rfl, ⟨z0, rfl, e0⟩, t0⟩ := fw_St_cons hT
  clear hT; have hT := t0; clear t0
  obtain ⟨v1, r1, rfl, ⟨z1, rfl, e1⟩, t1⟩ := fw_St_cons hT
  clear hT; have hT := t1; clear t1
  have e0 : y = (z0.toNat : Int) := e0
  have e1 : x = (z1.toNat : Int) := e1
  subst e0
  subst e1
  rw [fw_dd_of, fw_dd_of] at kk
  refine lv_dcmp hC.1 hC.2.1 (fw_de' hd) ?_
  exact kk ls _ hL ⟨⟨_, rfl, rfl⟩, hT⟩
theorem fw_j_fcmp {k pc : Nat} {ll r : List fw_V} {y x : Int} {σ : fw_M} {out : fw_O} {op : CmpOp} (hd : fw_dec k pc = some (.fcmp op, 1)) (hJ : fw_J k (pc + 1) ll ((0, (Op.cmpValue (FP.fcmp (fw_ff x) (fw_ff y)) op).toInt) :: r) σ out) : fw_J k pc ll ((4, y) :: (4, x) :: r) σ out := by
  refine fw_jp hJ ?_
  intro base b L xs D p l e R s m args below meth c Q hC tys ws H locs cells slots ls cst hH hS hL hT h1 h2 kk
  obtain ⟨v0, r0, rfl, ⟨z0, rfl, e0⟩, t0⟩ := fw_St_cons hT
  clear hT; have hT := t0; clear t0
  obtain ⟨v1, r1, rfl, ⟨z1, rfl, e1⟩, t1⟩ := fw_St_cons hT
  clear hT; have hT := t1; clear t1
  have e0 : y = (z0.toNat : Int) := e0
  have e1 : x = (z1.toNat : Int) := e1
  subst e0
  subst e1
  rw [fw_ff_of, fw_ff_of] at kk
  refine lv_fcmp hC.1 hC.2.1 (fw_de' hd) ?_
  exact kk ls _ hL ⟨⟨_, rfl, rfl⟩, hT⟩
theorem fw_j_iconst {k pc : Nat} {ll st : List fw_V} {n : Int} {σ : fw_M} {out : fw_O} (hd : fw_dec k pc = some (.iconst n, 1)) (hJ : fw_J k (pc + 1) ll ((0, (Int32.ofInt n).toInt) :: st) σ out) : fw_J k pc ll st σ out := by
  refine fw_jp hJ ?_
  intro base b L xs D p l e R s m args below meth c Q hC tys ws H locs cells slots ls cst hH hS hL hT h1 h2 kk
  refine lv_iconst hC.1 hC.2.1 (fw_de' hd) rfl ?_
  exact kk ls _ hL ⟨⟨_, rfl, rfl⟩, hT⟩
theorem fw_j_bipush {k pc : Nat} {ll st : List fw_V} {n : Int} {σ : fw_M} {out : fw_O} (hd : fw_dec k pc = some (.bipush n, 2)) (hJ : fw_J k (pc + 2) ll ((0, (Int8.ofInt n).toInt32.toInt) :: st) σ out) : fw_J k pc ll st σ out := by
  refine fw_jp hJ ?_
  intro base b L xs D p l e R s m args below meth c Q hC tys ws H locs cells slots ls cst hH hS hL hT h1 h2 kk
  refine lv_bipush hC.1 hC.2.1 (fw_de' hd) rfl ?_
  exact kk ls _ hL ⟨⟨_, rfl, rfl⟩, hT⟩
theorem fw_j_sipush {k pc : Nat} {ll st : List fw_V} {n : Int} {σ : fw_M} {out : fw_O} (hd : fw_dec k pc = some (.sipush n, 3)) (hJ : fw_J k (pc + 3) ll ((0, (Int16.ofInt n).toInt32.toInt) :: st) σ out) : fw_J k pc ll st σ out := by
  refine fw_jp hJ ?_
  intro base b L xs D p l e R s m args below meth c Q hC tys ws H locs cells slots ls cst hH hS hL hT h1 h2 kk
  refine lv_sipush hC.1 hC.2.1 (fw_de' hd) rfl ?_
  exact kk ls _ hL ⟨⟨_, rfl, rfl⟩, hT⟩
theorem fw_j_lconst {k pc : Nat} {ll st : List fw_V} {n : Fin 2} {σ : fw_M} {out : fw_O} (hd : fw_dec k pc = some (.lconst n, 1)) (hJ : fw_J k (pc + 1) ll ((1, (Int64.ofNat (n : Nat)).toInt) :: st) σ out) : fw_J k pc ll st σ out := by
  refine fw_jp hJ ?_
  intro base b L xs D p l e R s m args below meth c Q hC tys ws H locs cells slots ls cst hH hS hL hT h1 h2 kk
  refine lv_lconst hC.1 hC.2.1 (fw_de' hd) rfl ?_
  exact kk ls _ hL ⟨⟨_, rfl, rfl⟩, hT⟩
theorem fw_j_fconst {k pc : Nat} {ll st : List fw_V} {σ : fw_M} {out : fw_O} (hd : fw_dec k pc = some (.fconst 0, 1)) (hJ : fw_J k (pc + 1) ll ((4, (FP.fconst0.toNat : Int)) :: st) σ out) : fw_J k pc ll st σ out := by
  refine fw_jp hJ ?_
  intro base b L xs D p l e R s m args below meth c Q hC tys ws H locs cells slots ls cst hH hS hL hT h1 h2 kk
  refine lv_fconst0 hC.1 hC.2.1 (fw_de' hd) ?_
  exact kk ls _ hL ⟨⟨_, rfl, rfl⟩, hT⟩
theorem fw_j_dconst {k pc : Nat} {ll st : List fw_V} {σ : fw_M} {out : fw_O} (hd : fw_dec k pc = some (.dconst 0, 1)) (hJ : fw_J k (pc + 1) ll ((3, (FP.dconst0.toNat : Int)) :: st) σ out) : fw_J k pc ll st σ out := by
  refine fw_jp hJ ?_
  intro base b L xs D p l e R s m args below meth c Q hC tys ws H locs cells slots ls cst hH hS hL hT h1 h2 kk
  refine lv_dconst0 hC.1 hC.2.1 (fw_de' hd) ?_
  exact kk ls _ hL ⟨⟨_, rfl, rfl⟩, hT⟩
theorem fw_j_null {k pc : Nat} {ll st : List fw_V} {σ : fw_M} {out : fw_O} (hd : fw_dec k pc = some (.aconst_null, 1)) (hJ : fw_J k (pc + 1) ll ((2, 0) :: st) σ out) : fw_J k pc ll st σ out := by
  refine fw_jp hJ ?_
  intro base b L xs D p l e R s m args below meth c Q hC tys ws H locs cells slots ls cst hH hS hL hT h1 h2 kk
  refine lv_null hC.1 hC.2.1 (fw_de' hd) ?_
  exact kk ls _ hL ⟨Or.inl ⟨rfl, rfl⟩, hT⟩
theorem fw_j_ldc {k pc : Nat} {ll st : List fw_V} {σ : fw_M} {out : fw_O} (ho : fw_oc k = 7) (hd : fw_dec k pc = some (.ldc 55, 2)) (hJ : fw_J k (pc + 2) ll ((0, 2147483647) :: st) σ out) : fw_J k pc ll st σ out := by
  refine fw_jp hJ ?_
  intro base b L xs D p l e R s m args below meth c Q hC tys ws H locs cells slots ls cst hH hS hL hT h1 h2 kk
  have hown := hC.2.2.2.1
  rw [ho] at hown
  refine lv_ldc (v := 2147483647) hC.1 hC.2.1 hown (hC.2.2.2.2.1 _ (fw_wd 4 143 rfl rfl)) (fw_de' hd) ?_
  exact kk ls _ hL ⟨⟨_, rfl, rfl⟩, hT⟩
theorem fw_j_iload_n {k pc : Nat} {ll st : List fw_V} {n : Fin 4} {σ : fw_M} {out : fw_O} (hd : fw_dec k pc = some (.iload_n n, 1)) (ht : (fw_g ll n).1 = 0) (hJ : fw_J k (pc + 1) ll (fw_g ll n :: st) σ out) : fw_J k pc ll st σ out := by
  refine fw_jp hJ ?_
  intro base b L xs D p l e R s m args below meth c Q hC tys ws H locs cells slots ls cst hH hS hL hT h1 h2 kk
  obtain ⟨v, hv, hc⟩ := fw_L_at (i := n) hL (by omega)
  have hc0 := hc
  unfold fw_vr at hc
  rw [ht] at hc
  obtain ⟨z, rfl, -⟩ := hc
  refine lv_iload_n hC.1 hC.2.1 (fw_de' hd) rfl hv ?_
  exact kk ls _ hL ⟨hc0, hT⟩
theorem fw_j_iload {k pc : Nat} {ll st : List fw_V} {n : Nat} {σ : fw_M} {out : fw_O} (hd : fw_dec k pc = some (.iload n, 2)) (ht : (fw_g ll n).1 = 0) (hJ : fw_J k (pc + 2) ll (fw_g ll n :: st) σ out) : fw_J k pc ll st σ out := by
  refine fw_jp hJ ?_
  intro base b L xs D p l e R s m args below meth c Q hC tys ws H locs cells slots ls cst hH hS hL hT h1 h2 kk
  obtain ⟨v, hv, hc⟩ := fw_L_at (i := n) hL (by omega)
  have hc0 := hc
  unfold fw_vr at hc
  rw [ht] at hc
  obtain ⟨z, rfl, -⟩ := hc
  refine lv_iload hC.1 hC.2.1 (fw_de' hd) hv ?_
  exact kk ls _ hL ⟨hc0, hT⟩
theorem fw_j_dload {k pc : Nat} {ll st : List fw_V} {n : Nat} {σ : fw_M} {out : fw_O} (hd : fw_dec k pc = some (.dload n, 2)) (ht : (fw_g ll n).1 = 3) (hJ : fw_J k (pc + 2) ll (fw_g ll n :: st) σ out) : fw_J k pc ll st σ out := by
  refine fw_jp hJ ?_
  intro base b L xs D p l e R s m args below meth c Q hC tys ws H locs cells slots ls cst hH hS hL hT h1 h2 kk
  obtain ⟨v, hv, hc⟩ := fw_L_at (i := n) hL (by omega)
  have hc0 := hc
  unfold fw_vr at hc
  rw [ht] at hc
  obtain ⟨z, rfl, -⟩ := hc
  refine lv_dload hC.1 hC.2.1 (fw_de' hd) hv ?_
  exact kk ls _ hL ⟨hc0, hT⟩
theorem fw_j_fload {k pc : Nat} {ll st : List fw_V} {n : Nat} {σ : fw_M} {out : fw_O} (hd : fw_dec k pc = some (.fload n, 2)) (ht : (fw_g ll n).1 = 4) (hJ : fw_J k (pc + 2) ll (fw_g ll n :: st) σ out) : fw_J k pc ll st σ out := by
  refine fw_jp hJ ?_
  intro base b L xs D p l e R s m args below meth c Q hC tys ws H locs cells slots ls cst hH hS hL hT h1 h2 kk
  obtain ⟨v, hv, hc⟩ := fw_L_at (i := n) hL (by omega)
  have hc0 := hc
  unfold fw_vr at hc
  rw [ht] at hc
  obtain ⟨z, rfl, -⟩ := hc
  refine lv_fload hC.1 hC.2.1 (fw_de' hd) hv ?_
  exact kk ls _ hL ⟨hc0, hT⟩
theorem fw_j_aload_n {k pc : Nat} {ll st : List fw_V} {n : Fin 4} {σ : fw_M} {out : fw_O} (hd : fw_dec k pc = some (.aload_n n, 1)) (ht : (fw_g ll n).1 = 2 ∨ (fw_g ll n).1 = 6) (hJ : fw_J k (pc + 1) ll (fw_g ll n :: st) σ out) : fw_J k pc ll st σ out := by
  refine fw_jp hJ ?_
  intro base b L xs D p l e R s m args below meth c Q hC tys ws H locs cells slots ls cst hH hS hL hT h1 h2 kk
  obtain ⟨v, hv, hc⟩ := fw_L_at (i := n) hL (by omega)
  have hc0 := hc
  unfold fw_vr at hc
  rcases ht with ht | ht
  · rw [ht] at hc
    rcases hc with ⟨-, rfl⟩ | ⟨i, a, -, -, rfl⟩
    · refine lv_aload_nN hC.1 hC.2.1 (fw_de' hd) rfl hv ?_
      exact kk ls _ hL ⟨hc0, hT⟩
    · refine lv_aload_n hC.1 hC.2.1 (fw_de' hd) rfl hv ?_
      exact kk ls _ hL ⟨hc0, hT⟩
  · rw [ht] at hc
    cases hc
    refine lv_aload_n hC.1 hC.2.1 (fw_de' hd) rfl hv ?_
    exact kk ls _ hL ⟨hc0, hT⟩
theorem fw_j_aload {k pc : Nat} {ll st : List fw_V} {n : Nat} {σ : fw_M} {out : fw_O} (hd : fw_dec k pc = some (.aload n, 2)) (ht : (fw_g ll n).1 = 2 ∨ (fw_g ll n).1 = 6) (hJ : fw_J k (pc + 2) ll (fw_g ll n :: st) σ out) : fw_J k pc ll st σ out := by
  refine fw_jp hJ ?_
  intro base b L xs D p l e R s m args below meth c Q hC tys ws H locs cells slots ls cst hH hS hL hT h1 h2 kk
  obtain ⟨v, hv, hc⟩ := fw_L_at (i := n) hL (by omega)
  have hc0 := hc
  unfold fw_vr at hc
  rcases ht with ht | ht
  · rw [ht] at hc
    rcases hc with ⟨-, rfl⟩ | ⟨i, a, -, -, rfl⟩
    · refine lv_aloadN hC.1 hC.2.1 (fw_de' hd) hv ?_
      exact kk ls _ hL ⟨hc0, hT⟩
    · refine lv_aload hC.1 hC.2.1 (fw_de' hd) hv ?_
      exact kk ls _ hL ⟨hc0, hT⟩
  · rw [ht] at hc
    cases hc
    refine lv_aload hC.1 hC.2.1 (fw_de' hd) hv ?_
    exact kk ls _ hL ⟨hc0, hT⟩
theorem fw_j_istore_n {k pc : Nat} {ll r : List fw_V} {x : Int} {n : Fin 4} {σ : fw_M} {out : fw_O} (hd : fw_dec k pc = some (.istore_n n, 1)) (hs : fw_so k ll n = true) (hJ : fw_J k (pc + 1) (ll.set n (0, x)) r σ out) : fw_J k pc ll ((0, x) :: r) σ out := by
  refine fw_jp hJ ?_
  intro base b L xs D p l e R s m args below meth c Q hC tys ws H locs cells slots ls cst hH hS hL hT h1 h2 kk
  obtain ⟨l9, g1, g2, g3, g4, g5, g6⟩ := hL
  have hn : (n : Nat) < fw_mL k := by
    simp only [fw_so, Bool.and_eq_true, decide_eq_true_eq] at hs
    exact hs.1
  obtain ⟨v, r0, rfl, hv, t9⟩ := fw_St_cons hT
  clear hT; have hT := t9; clear t9
  have hv0 := hv
  obtain ⟨z, rfl, -⟩ := hv
  refine lv_istore_n hC.1 hC.2.1 (fw_de' hd) rfl g1 hn rfl (fun ls' hl' => ?_)
  exact kk ls' _ (fw_L_set g2 g3 g4 g5 g6 hs hv0 (show (0 : Nat) ≠ 1 by decide) (show (0 : Nat) ≠ 3 by decide) hl') hT
theorem fw_j_istore {k pc : Nat} {ll r : List fw_V} {x : Int} {n : Nat} {σ : fw_M} {out : fw_O} (hd : fw_dec k pc = some (.istore n, 2)) (hs : fw_so k ll n = true) (hJ : fw_J k (pc + 2) (ll.set n (0, x)) r σ out) : fw_J k pc ll ((0, x) :: r) σ out := by
  refine fw_jp hJ ?_
  intro base b L xs D p l e R s m args below meth c Q hC tys ws H locs cells slots ls cst hH hS hL hT h1 h2 kk
  obtain ⟨l9, g1, g2, g3, g4, g5, g6⟩ := hL
  have hn : (n : Nat) < fw_mL k := by
    simp only [fw_so, Bool.and_eq_true, decide_eq_true_eq] at hs
    exact hs.1
  obtain ⟨v, r0, rfl, hv, t9⟩ := fw_St_cons hT
  clear hT; have hT := t9; clear t9
  have hv0 := hv
  obtain ⟨z, rfl, -⟩ := hv
  refine lv_istore hC.1 hC.2.1 (fw_de' hd) g1 hn rfl (fun ls' hl' => ?_)
  exact kk ls' _ (fw_L_set g2 g3 g4 g5 g6 hs hv0 (show (0 : Nat) ≠ 1 by decide) (show (0 : Nat) ≠ 3 by decide) hl') hT
theorem fw_j_astore_n {k pc : Nat} {ll r : List fw_V} {x : Int} {n : Fin 4} {σ : fw_M} {out : fw_O} (hd : fw_dec k pc = some (.astore_n n, 1)) (hs : fw_so k ll n = true) (hJ : fw_J k (pc + 1) (ll.set n (2, x)) r σ out) : fw_J k pc ll ((2, x) :: r) σ out := by
  refine fw_jp hJ ?_
  intro base b L xs D p l e R s m args below meth c Q hC tys ws H locs cells slots ls cst hH hS hL hT h1 h2 kk
  obtain ⟨l9, g1, g2, g3, g4, g5, g6⟩ := hL
  have hn : (n : Nat) < fw_mL k := by
    simp only [fw_so, Bool.and_eq_true, decide_eq_true_eq] at hs
    exact hs.1
  obtain ⟨v, r0, rfl, hv, t9⟩ := fw_St_cons hT
  clear hT; have hT := t9; clear t9
  have hv0 := hv
  rcases hv with ⟨-, rfl⟩ | ⟨i, a, -, -, rfl⟩
  · refine lv_astore_nN hC.1 hC.2.1 (fw_de' hd) rfl g1 hn rfl (fun ls' hl' => ?_)
    exact kk ls' _ (fw_L_set g2 g3 g4 g5 g6 hs hv0 (show (2 : Nat) ≠ 1 by decide) (show (2 : Nat) ≠ 3 by decide) hl') hT
  · refine lv_astore_n hC.1 hC.2.1 (fw_de' hd) rfl g1 hn rfl (fun ls' hl' => ?_)
    exact kk ls' _ (fw_L_set g2 g3 g4 g5 g6 hs hv0 (show (2 : Nat) ≠ 1 by decide) (show (2 : Nat) ≠ 3 by decide) hl') hT
theorem fw_j_astore_n7 {k pc : Nat} {ll r : List fw_V} {x : Int} {n : Fin 4} {σ : fw_M} {out : fw_O} (hd : fw_dec k pc = some (.astore_n n, 1)) (hs : fw_so k ll n = true) (hJ : fw_J k (pc + 1) (ll.set n (7, x)) r σ out) : fw_J k pc ll ((7, x) :: r) σ out := by
  refine fw_jp hJ ?_
  intro base b L xs D p l e R s m args below meth c Q hC tys ws H locs cells slots ls cst hH hS hL hT h1 h2 kk
  obtain ⟨l9, g1, g2, g3, g4, g5, g6⟩ := hL
  have hn : (n : Nat) < fw_mL k := by
    simp only [fw_so, Bool.and_eq_true, decide_eq_true_eq] at hs
    exact hs.1
  obtain ⟨v, r0, rfl, hv, t9⟩ := fw_St_cons hT
  clear hT; have hT := t9; clear t9
  have hv0 := hv
  obtain ⟨z, rfl⟩ := hv
  refine lv_astore_n hC.1 hC.2.1 (fw_de' hd) rfl g1 hn rfl (fun ls' hl' => ?_)
  exact kk ls' _ (fw_L_set g2 g3 g4 g5 g6 hs hv0 (show (7 : Nat) ≠ 1 by decide) (show (7 : Nat) ≠ 3 by decide) hl') hT
theorem fw_j_astore {k pc : Nat} {ll r : List fw_V} {x : Int} {n : Nat} {σ : fw_M} {out : fw_O} (hd : fw_dec k pc = some (.astore n, 2)) (hs : fw_so k ll n = true) (hJ : fw_J k (pc + 2) (ll.set n (2, x)) r σ out) : fw_J k pc ll ((2, x) :: r) σ out := by
  refine fw_jp hJ ?_
  intro base b L xs D p l e R s m args below meth c Q hC tys ws H locs cells slots ls cst hH hS hL hT h1 h2 kk
  obtain ⟨l9, g1, g2, g3, g4, g5, g6⟩ := hL
  have hn : (n : Nat) < fw_mL k := by
    simp only [fw_so, Bool.and_eq_true, decide_eq_true_eq] at hs
    exact hs.1
  obtain ⟨v, r0, rfl, hv, t9⟩ := fw_St_cons hT
  clear hT; have hT := t9; clear t9
  have hv0 := hv
  rcases hv with ⟨-, rfl⟩ | ⟨i, a, -, -, rfl⟩
  · refine lv_astoreN hC.1 hC.2.1 (fw_de' hd) g1 hn rfl (fun ls' hl' => ?_)
    exact kk ls' _ (fw_L_set g2 g3 g4 g5 g6 hs hv0 (show (2 : Nat) ≠ 1 by decide) (show (2 : Nat) ≠ 3 by decide) hl') hT
  · refine lv_astore hC.1 hC.2.1 (fw_de' hd) g1 hn rfl (fun ls' hl' => ?_)
    exact kk ls' _ (fw_L_set g2 g3 g4 g5 g6 hs hv0 (show (2 : Nat) ≠ 1 by decide) (show (2 : Nat) ≠ 3 by decide) hl') hT
theorem fw_j_astore7 {k pc : Nat} {ll r : List fw_V} {x : Int} {n : Nat} {σ : fw_M} {out : fw_O} (hd : fw_dec k pc = some (.astore n, 2)) (hs : fw_so k ll n = true) (hJ : fw_J k (pc + 2) (ll.set n (7, x)) r σ out) : fw_J k pc ll ((7, x) :: r) σ out := by
  refine fw_jp hJ ?_
  intro base b L xs D p l e R s m args below meth c Q hC tys ws H locs cells slots ls cst hH hS hL hT h1 h2 kk
  obtain ⟨l9, g1, g2, g3, g4, g5, g6⟩ := hL
  have hn : (n : Nat) < fw_mL k := by
    simp only [fw_so, Bool.and_eq_true, decide_eq_true_eq] at hs
    exact hs.1
  obtain ⟨v, r0, rfl, hv, t9⟩ := fw_St_cons hT
  clear hT; have hT := t9; clear t9
  have hv0 := hv
  obtain ⟨z, rfl⟩ := hv
  refine lv_astore hC.1 hC.2.1 (fw_de' hd) g1 hn rfl (fun ls' hl' => ?_)
  exact kk ls' _ (fw_L_set g2 g3 g4 g5 g6 hs hv0 (show (7 : Nat) ≠ 1 by decide) (show (7 : Nat) ≠ 3 by decide) hl') hT
theorem fw_j_fstore {k pc : Nat} {ll r : List fw_V} {x : Int} {n : Nat} {σ : fw_M} {out : fw_O} (hd : fw_dec k pc = some (.fstore n, 2)) (hs : fw_so k ll n = true) (hJ : fw_J k (pc + 2) (ll.set n (4, x)) r σ out) : fw_J k pc ll ((4, x) :: r) σ out := by
  refine fw_jp hJ ?_
  intro base b L xs D p l e R s m args below meth c Q hC tys ws H locs cells slots ls cst hH hS hL hT h1 h2 kk
  obtain ⟨l9, g1, g2, g3, g4, g5, g6⟩ := hL
  have hn : (n : Nat) < fw_mL k := by
    simp only [fw_so, Bool.and_eq_true, decide_eq_true_eq] at hs
    exact hs.1
  obtain ⟨v, r0, rfl, hv, t9⟩ := fw_St_cons hT
  clear hT; have hT := t9; clear t9
  have hv0 := hv
  obtain ⟨z, rfl, -⟩ := hv
  refine lv_fstore hC.1 hC.2.1 (fw_de' hd) g1 hn rfl (fun ls' hl' => ?_)
  exact kk ls' _ (fw_L_set g2 g3 g4 g5 g6 hs hv0 (show (4 : Nat) ≠ 1 by decide) (show (4 : Nat) ≠ 3 by decide) hl') hT
theorem fw_L_setD {al : List Nat} {b : Nat} {ls' : Array Slot} {ll : List fw_V} {i : Nat} {av : fw_V} {v : Value} {l : List (Nat × Value)} (hl : ll.length = fw_mL 0) (h3 : ∀ (i : Nat) (av : fw_V), ll[i]? = some av → av.1 ≠ 8 → ∃ v, (i, v) ∈ l ∧ fw_vr al b av v)
    (h4 : ∀ q ∈ l, q.2.category = 2 → ∃ av : fw_V, ll[q.1]? = some av ∧ av.1 = 3) (h5 : ∀ av ∈ ll, av.1 ≠ 1)
    (hs : fw_so 0 ll i = true) (hi : i + 1 < fw_mL 0) (hc : fw_vr al b av v) (ha3 : av.1 = 3)
    (h : lv_has ls' (fw_mL 0) ((i, v) :: l.filter (fun q => !(q.1 == i) && (!(q.1 == i + 1) && !(q.1 + 1 == i && q.2.category == 2))))) : fw_L 0 al b ls' ((ll.set i av).set (i + 1) (8, 0)) := by
  simp only [fw_so, Bool.and_eq_true, decide_eq_true_eq, Bool.or_eq_true] at hs
  refine ⟨_, h, by rw [List.length_set, List.length_set]; exact hl, fun j aw hj hw => ?_, fun q hq hq2 => ?_, fun aw haw => ?_, fun hk => absurd rfl hk⟩
  · by_cases hji1 : j = i + 1
    · subst hji1
      rw [List.getElem?_set_self (by rw [List.length_set]; omega)] at hj
      cases hj
      exact absurd rfl hw
    · rw [List.getElem?_set_ne (Ne.symm hji1)] at hj
      by_cases hji : j = i
      · subst hji
        rw [List.getElem?_set_self (by omega)] at hj
        cases hj
        exact ⟨v, List.mem_cons_self, hc⟩
      · rw [List.getElem?_set_ne (Ne.symm hji)] at hj
        obtain ⟨w, hw1, hw2⟩ := h3 j aw hj hw
        refine ⟨w, List.mem_cons_of_mem _ (List.mem_filter.mpr ⟨hw1, ?_⟩), hw2⟩
        have e1 : (j == i) = false := by simpa using hji
        have e2 : (j == i + 1) = false := by simpa using hji1
        by_cases hj1 : j + 1 = i
        · have hw3 : ¬ w.category = 2 := by
            intro hw3
            obtain ⟨ax, hx1, hx2⟩ := h4 _ hw1 hw3
            rcases hs.2 with (hs2 | hs2) | hs2
            · exact absurd rfl hs2
            · omega
            · have e9 : i - 1 = j := by omega
              rw [e9, fw_at_g hx1] at hs2
              exact hs2 hx2
          simp [e1, e2, hw3]
        · simp [e1, e2, hj1]
  · rcases List.mem_cons.mp hq with rfl | hq
    · refine ⟨av, ?_, ha3⟩
      show ((ll.set i av).set (i + 1) (8, 0))[i]? = some av
      rw [List.getElem?_set_ne (by omega), List.getElem?_set_self (by omega)]
    · obtain ⟨hq1, hq3⟩ := List.mem_filter.mp hq
      obtain ⟨aw, hw1, hw2⟩ := h4 q hq1 hq2
      have hne : q.1 ≠ i := by
        intro hh
        simp [hh] at hq3
      have hne1 : q.1 ≠ i + 1 := by
        intro hh
        simp [hh] at hq3
      exact ⟨aw, by rw [List.getElem?_set_ne (Ne.symm hne1), List.getElem?_set_ne (Ne.symm hne)]; exact hw1, hw2⟩
  · rcases List.mem_or_eq_of_mem_set haw with h | h
    · rcases List.mem_or_eq_of_mem_set h with h | h
      · exact h5 aw h
      · rw [h, ha3]; decide
    · rw [h]; exact (by decide : (8 : Nat) ≠ 1)
theorem fw_j_dstore {pc : Nat} {ll r : List fw_V} {x : Int} {n : Nat} {σ : fw_M} {out : fw_O} (hd : fw_dec 0 pc = some (.dstore n, 2)) (hs : fw_so 0 ll n = true) (hn : n + 1 < fw_mL 0) (hJ : fw_J 0 (pc + 2) ((ll.set n (3, x)).set (n + 1) (8, 0)) r σ out) : fw_J 0 pc ll ((3, x) :: r) σ out := by
  refine fw_jp hJ ?_
  intro base b L xs D p l e R s m args below meth c Q hC tys ws H locs cells slots ls cst hH hS hL hT h1 h2 kk
  obtain ⟨l9, g1, g2, g3, g4, g5, g6⟩ := hL
  obtain ⟨v, r0, rfl, hv, t9⟩ := fw_St_cons hT
  clear hT; have hT := t9; clear t9
  have hv0 := hv
  obtain ⟨z, rfl, -⟩ := hv
  refine lv_dstore hC.1 hC.2.1 (fw_de' hd) g1 hn rfl (fun ls' hl' => ?_)
  exact kk ls' _ (fw_L_setD g2 g3 g4 g5 hs hn hv0 rfl hl') hT
theorem fw_j_iinc {k pc : Nat} {ll st : List fw_V} {n : Nat} {c0 : Int} {σ : fw_M} {out : fw_O} (hd : fw_dec k pc = some (.iinc n c0, 3)) (ht : (fw_g ll n).1 = 0) (hs : fw_so k ll n = true) (hJ : fw_J k (pc + 3) (ll.set n (0, fw_w ((fw_g ll n).2 + c0))) st σ out) : fw_J k pc ll st σ out := by
  refine fw_jp hJ ?_
  intro base b L xs D p l e R s m args below meth c Q hC tys ws H locs cells slots ls cst hH hS hL hT h1 h2 kk
  obtain ⟨l9, g1, g2, g3, g4, g5, g6⟩ := hL
  have hn : n < fw_mL k := by
    simp only [fw_so, Bool.and_eq_true, decide_eq_true_eq] at hs
    exact hs.1
  obtain ⟨v, hv, hc⟩ := g3 n _ (fw_g_at ll n (by omega)) (by omega)
  unfold fw_vr at hc
  rw [ht] at hc
  obtain ⟨z, rfl, ez⟩ := hc
  obtain ⟨j, hj⟩ := List.getElem?_of_mem hv
  refine lv_iinc hC.1 hC.2.1 (fw_de' hd) g1 hj rfl hn rfl (fun ls' hl' => ?_)
  refine kk ls' _ (fw_L_set g2 g3 g4 g5 g6 hs ⟨_, rfl, ?_⟩ (show (0 : Nat) ≠ 1 by decide) (show (0 : Nat) ≠ 3 by decide) hl') hT
  show fw_w ((fw_g ll n).2 + c0) = _
  rw [ez, Int32.toInt_add, Int32.toInt_ofInt]
  show Int.bmod _ _ = Int.bmod (z.toInt + Int.bmod c0 4294967296) 4294967296
  rw [Int.add_bmod_bmod]
theorem fw_j_dup {k pc : Nat} {ll r : List fw_V} {t : Nat} {x : Int} {σ : fw_M} {out : fw_O} (hd : fw_dec k pc = some (.dup, 1)) (ht : t = 0 ∨ t = 2) (hJ : fw_J k (pc + 1) ll ((t, x) :: (t, x) :: r) σ out) : fw_J k pc ll ((t, x) :: r) σ out := by
  refine fw_jp hJ ?_
  intro base b L xs D p l e R s m args below meth c Q hC tys ws H locs cells slots ls cst hH hS hL hT h1 h2 kk
  obtain ⟨v, r0, rfl, hv, t9⟩ := fw_St_cons hT
  clear hT; have hT := t9; clear t9
  refine lv_dup hC.1 hC.2.1 (fw_de' hd) (fw_cat hv (by show t ≠ 1; omega) (by show t ≠ 3; omega)) ?_
  exact kk ls _ hL ⟨hv, hv, hT⟩
theorem fw_j_pop {k pc : Nat} {ll r : List fw_V} {t : Nat} {x : Int} {σ : fw_M} {out : fw_O} (hd : fw_dec k pc = some (.pop, 1)) (ht : t = 0 ∨ t = 2) (hJ : fw_J k (pc + 1) ll r σ out) : fw_J k pc ll ((t, x) :: r) σ out := by
  refine fw_jp hJ ?_
  intro base b L xs D p l e R s m args below meth c Q hC tys ws H locs cells slots ls cst hH hS hL hT h1 h2 kk
  obtain ⟨v, r0, rfl, hv, t9⟩ := fw_St_cons hT
  clear hT; have hT := t9; clear t9
  refine lv_pop hC.1 hC.2.1 (fw_de' hd) (fw_cat hv (by show t ≠ 1; omega) (by show t ≠ 3; omega)) ?_
  exact kk ls _ hL hT
theorem fw_j_dup2 {k pc : Nat} {ll r : List fw_V} {x y : Int} {σ : fw_M} {out : fw_O} (hd : fw_dec k pc = some (.dup2, 1)) (hJ : fw_J k (pc + 1) ll ((0, x) :: (2, y) :: (0, x) :: (2, y) :: r) σ out) : fw_J k pc ll ((0, x) :: (2, y) :: r) σ out := by
  refine fw_jp hJ ?_
  intro base b L xs D p l e R s m args below meth c Q hC tys ws H locs cells slots ls cst hH hS hL hT h1 h2 kk
  obtain ⟨v, r0, rfl, hv, t9⟩ := fw_St_cons hT
  clear hT; have hT := t9; clear t9
  obtain ⟨v1, r1, rfl, hv1, t9⟩ := fw_St_cons hT
  clear hT; have hT := t9; clear t9
  refine lv_dup2_11 hC.1 hC.2.1 (fw_de' hd) (fw_cat hv (show (0 : Nat) ≠ 1 by decide) (show (0 : Nat) ≠ 3 by decide)) (fw_cat hv1 (show (2 : Nat) ≠ 1 by decide) (show (2 : Nat) ≠ 3 by decide)) ?_
  exact kk ls _ hL ⟨hv, hv1, hv, hv1, hT⟩
theorem fw_j_goto {k pc : Nat} {ll st : List fw_V} {off : Int} {σ : fw_M} {out : fw_O} (hd : fw_dec k pc = some (.goto off, 3)) (h0 : 0 ≤ (pc : Int) + off) (hJ : fw_J k (fw_tgt pc off) ll st σ out) : fw_J k pc ll st σ out := by
  refine fw_jp hJ ?_
  intro base b L xs D p l e R s m args below meth c Q hC tys ws H locs cells slots ls cst hH hS hL hT h1 h2 kk
  exact lv_goto hC.1 hC.2.1 (fw_de' hd) (fw_tgt_ok h0) (kk ls _ hL hT)
theorem fw_j_icmp {k pc : Nat} {ll r : List fw_V} {x y off : Int} {cc : ClassFile.Cond} {σ : fw_M} {out : fw_O} (hd : fw_dec k pc = some (.if_icmp cc off, 3)) (h0 : 0 ≤ (pc : Int) + off) (hJ : fw_J k (if fw_ifc cc x y = true then fw_tgt pc off else pc + 3) ll r σ out) : fw_J k pc ll ((0, y) :: (0, x) :: r) σ out := by
  refine fw_jp hJ ?_
  intro base b L xs D p l e R s m args below meth c Q hC tys ws H locs cells slots ls cst hH hS hL hT h1 h2 kk
  obtain ⟨v0, r0, rfl, ⟨z0, rfl, e0⟩, t0⟩ := fw_St_cons hT
  clear hT; have hT := t0; clear t0
  obtain ⟨v1, r1, rfl, ⟨z1, rfl, e1⟩, t1⟩ := fw_St_cons hT
  clear hT; have hT := t1; clear t1
  have e0 : y = z0.toInt := e0
  have e1 : x = z1.toInt := e1
  have kk := kk ls _ hL hT
  match cc, hd, kk with
  | .eq, hd, kk =>
    refine lv_icmp_eq hC.1 hC.2.1 (fw_de' hd) (fw_tgt_ok h0) (fun q => ?_) (fun q => ?_)
    · rw [if_pos (show fw_ifc .eq x y = true from decide_eq_true (by rw [e0, e1, q]))] at kk; exact kk
    · rw [if_neg (show ¬ fw_ifc .eq x y = true from fun z => absurd (of_decide_eq_true z) (by intro z; exact q (Int32.toInt_inj.mp (by omega))))] at kk; exact kk
  | .ne, hd, kk =>
    refine lv_icmp_ne hC.1 hC.2.1 (fw_de' hd) (fw_tgt_ok h0) (fun q => ?_) (fun q => ?_)
    · rw [if_pos (show fw_ifc .ne x y = true from decide_eq_true (by intro z; exact q (Int32.toInt_inj.mp (by omega))))] at kk; exact kk
    · rw [if_neg (show ¬ fw_ifc .ne x y = true from fun z => absurd (of_decide_eq_true z) (by intro z; exact z (by rw [e0, e1, q])))] at kk; exact kk
  | .lt, hd, kk =>
    refine lv_icmp_lt hC.1 hC.2.1 (fw_de' hd) (fw_tgt_ok h0) (fun q => ?_) (fun q => ?_)
    · rw [if_pos (show fw_ifc .lt x y = true from decide_eq_true (by rw [Int32.lt_iff_toInt_lt] at q; omega))] at kk; exact kk
    · rw [if_neg (show ¬ fw_ifc .lt x y = true from fun z => absurd (of_decide_eq_true z) (by rw [Int32.lt_iff_toInt_lt] at q; omega))] at kk; exact kk
  | .ge, hd, kk =>
    refine lv_icmp_ge hC.1 hC.2.1 (fw_de' hd) (fw_tgt_ok h0) (fun q => ?_) (fun q => ?_)
    · rw [if_pos (show fw_ifc .ge x y = true from decide_eq_true (by rw [Int32.le_iff_toInt_le] at q; omega))] at kk; exact kk
    · rw [if_neg (show ¬ fw_ifc .ge x y = true from fun z => absurd (of_decide_eq_true z) (by rw [Int32.le_iff_toInt_le] at q; omega))] at kk; exact kk
  | .gt, hd, kk =>
    refine lv_icmp_gt hC.1 hC.2.1 (fw_de' hd) (fw_tgt_ok h0) (fun q => ?_) (fun q => ?_)
    · rw [if_pos (show fw_ifc .gt x y = true from decide_eq_true (by rw [Int32.lt_iff_toInt_lt] at q; omega))] at kk; exact kk
    · rw [if_neg (show ¬ fw_ifc .gt x y = true from fun z => absurd (of_decide_eq_true z) (by rw [Int32.lt_iff_toInt_lt] at q; omega))] at kk; exact kk
  | .le, hd, kk =>
    refine lv_icmp_le hC.1 hC.2.1 (fw_de' hd) (fw_tgt_ok h0) (fun q => ?_) (fun q => ?_)
    · rw [if_pos (show fw_ifc .le x y = true from decide_eq_true (by rw [Int32.le_iff_toInt_le] at q; omega))] at kk; exact kk
    · rw [if_neg (show ¬ fw_ifc .le x y = true from fun z => absurd (of_decide_eq_true z) (by rw [Int32.le_iff_toInt_le] at q; omega))] at kk; exact kk
theorem fw_j_ifc {k pc : Nat} {ll r : List fw_V} {x off : Int} {cc : ClassFile.Cond} {σ : fw_M} {out : fw_O} (hd : fw_dec k pc = some (.ifCond cc off, 3)) (h0 : 0 ≤ (pc : Int) + off) (hJ : fw_J k (if fw_ifc cc x 0 = true then fw_tgt pc off else pc + 3) ll r σ out) : fw_J k pc ll ((0, x) :: r) σ out := by
  refine fw_jp hJ ?_
  intro base b L xs D p l e R s m args below meth c Q hC tys ws H locs cells slots ls cst hH hS hL hT h1 h2 kk
  obtain ⟨v0, r0, rfl, ⟨z0, rfl, e0⟩, t0⟩ := fw_St_cons hT
  clear hT; have hT := t0; clear t0
  have e0 : x = z0.toInt := e0
  have kk := kk ls _ hL hT
  have z9 : (0 : Int32).toInt = 0 := rfl
  match cc, hd, kk with
  | .eq, hd, kk =>
    refine lv_if_eq hC.1 hC.2.1 (fw_de' hd) (fw_tgt_ok h0) (fun q => ?_) (fun q => ?_)
    · rw [if_pos (show fw_ifc .eq x 0 = true from decide_eq_true (by rw [e0, q]; rfl))] at kk; exact kk
    · rw [if_neg (show ¬ fw_ifc .eq x 0 = true from fun z => absurd (of_decide_eq_true z) (by intro z; exact q (Int32.toInt_inj.mp (by omega))))] at kk; exact kk
  | .ne, hd, kk =>
    refine lv_if_ne hC.1 hC.2.1 (fw_de' hd) (fw_tgt_ok h0) (fun q => ?_) (fun q => ?_)
    · rw [if_pos (show fw_ifc .ne x 0 = true from decide_eq_true (by intro z; exact q (Int32.toInt_inj.mp (by omega))))] at kk; exact kk
    · rw [if_neg (show ¬ fw_ifc .ne x 0 = true from fun z => absurd (of_decide_eq_true z) (by intro z; exact z (by rw [e0, q]; rfl)))] at kk; exact kk
  | .lt, hd, kk =>
    refine lv_if_lt hC.1 hC.2.1 (fw_de' hd) (fw_tgt_ok h0) (fun q => ?_) (fun q => ?_)
    · rw [if_pos (show fw_ifc .lt x 0 = true from decide_eq_true (by rw [Int32.lt_iff_toInt_lt] at q; omega))] at kk; exact kk
    · rw [if_neg (show ¬ fw_ifc .lt x 0 = true from fun z => absurd (of_decide_eq_true z) (by rw [Int32.lt_iff_toInt_lt] at q; omega))] at kk; exact kk
  | .ge, hd, kk =>
    refine lv_if_ge hC.1 hC.2.1 (fw_de' hd) (fw_tgt_ok h0) (fun q => ?_) (fun q => ?_)
    · rw [if_pos (show fw_ifc .ge x 0 = true from decide_eq_true (by rw [Int32.le_iff_toInt_le] at q; omega))] at kk; exact kk
    · rw [if_neg (show ¬ fw_ifc .ge x 0 = true from fun z => absurd (of_decide_eq_true z) (by rw [Int32.le_iff_toInt_le] at q; omega))] at kk; exact kk
  | .gt, hd, kk =>
    refine lv_if_gt hC.1 hC.2.1 (fw_de' hd) (fw_tgt_ok h0) (fun q => ?_) (fun q => ?_)
    · rw [if_pos (show fw_ifc .gt x 0 = true from decide_eq_true (by rw [Int32.lt_iff_toInt_lt] at q; omega))] at kk; exact kk
    · rw [if_neg (show ¬ fw_ifc .gt x 0 = true from fun z => absurd (of_decide_eq_true z) (by rw [Int32.lt_iff_toInt_lt] at q; omega))] at kk; exact kk
  | .le, hd, kk =>
    refine lv_if_le hC.1 hC.2.1 (fw_de' hd) (fw_tgt_ok h0) (fun q => ?_) (fun q => ?_)
    · rw [if_pos (show fw_ifc .le x 0 = true from decide_eq_true (by rw [Int32.le_iff_toInt_le] at q; omega))] at kk; exact kk
    · rw [if_neg (show ¬ fw_ifc .le x 0 = true from fun z => absurd (of_decide_eq_true z) (by rw [Int32.le_iff_toInt_le] at q; omega))] at kk; exact kk
theorem fw_j_ifnull {k pc : Nat} {ll r : List fw_V} {x off : Int} {σ : fw_M} {out : fw_O} (hd : fw_dec k pc = some (.ifnull off, 3)) (h0 : 0 ≤ (pc : Int) + off) (hJ : fw_J k (if x = 0 then fw_tgt pc off else pc + 3) ll r σ out) : fw_J k pc ll ((2, x) :: r) σ out := by
  refine fw_jp hJ ?_
  intro base b L xs D p l e R s m args below meth c Q hC tys ws H locs cells slots ls cst hH hS hL hT h1 h2 kk
  obtain ⟨v, r0, rfl, hv, t9⟩ := fw_St_cons hT
  clear hT; have hT := t9; clear t9
  have kk := kk ls _ hL hT
  rcases hv with ⟨q, rfl⟩ | ⟨i, a, -, q, rfl⟩
  · have q : x = 0 := q
    refine lv_ifnullN hC.1 hC.2.1 (fw_de' hd) (fw_tgt_ok h0) ?_
    rw [if_pos q] at kk; exact kk
  · have q : x = (i : Int) + 1 := q
    refine lv_ifnull hC.1 hC.2.1 (fw_de' hd) ?_
    rw [if_neg (by omega)] at kk; exact kk
theorem fw_j_ifnonnull {k pc : Nat} {ll r : List fw_V} {x off : Int} {σ : fw_M} {out : fw_O} (hd : fw_dec k pc = some (.ifnonnull off, 3)) (h0 : 0 ≤ (pc : Int) + off) (hJ : fw_J k (if x ≠ 0 then fw_tgt pc off else pc + 3) ll r σ out) : fw_J k pc ll ((2, x) :: r) σ out := by
  refine fw_jp hJ ?_
  intro base b L xs D p l e R s m args below meth c Q hC tys ws H locs cells slots ls cst hH hS hL hT h1 h2 kk
  obtain ⟨v, r0, rfl, hv, t9⟩ := fw_St_cons hT
  clear hT; have hT := t9; clear t9
  have kk := kk ls _ hL hT
  rcases hv with ⟨q, rfl⟩ | ⟨i, a, -, q, rfl⟩
  · have q : x = 0 := q
    refine lv_ifnonnullN hC.1 hC.2.1 (fw_de' hd) ?_
    rw [if_neg (fun z => z q)] at kk; exact kk
  · have q : x = (i : Int) + 1 := q
    refine lv_ifnonnull hC.1 hC.2.1 (fw_de' hd) (fw_tgt_ok h0) ?_
    rw [if_pos (by omega)] at kk; exact kk
theorem fw_j_tswO {k pc len : Nat} {ll r : List fw_V} {x d lo hi : Int} {offs : Array Int} {σ : fw_M} {out : fw_O} (hd : fw_dec k pc = some (.tableswitch d lo hi offs, len)) (h0 : 0 ≤ (pc : Int) + d) (hx : x < lo ∨ hi < x) (hJ : fw_J k (fw_tgt pc d) ll r σ out) : fw_J k pc ll ((0, x) :: r) σ out := by
  refine fw_jp hJ ?_
  intro base b L xs D p l e R s m args below meth c Q hC tys ws H locs cells slots ls cst hH hS hL hT h1 h2 kk
  obtain ⟨v0, r0, rfl, ⟨z0, rfl, e0⟩, t0⟩ := fw_St_cons hT
  clear hT; have hT := t0; clear t0
  have e0 : x = z0.toInt := e0
  exact lv_tableOut hC.1 hC.2.1 (fw_de' hd) (by rw [← e0]; exact hx) (fw_tgt_ok h0) (kk ls _ hL hT)
theorem fw_j_tswI {k pc len : Nat} {ll r : List fw_V} {x d lo hi off : Int} {offs : Array Int} {σ : fw_M} {out : fw_O} (hd : fw_dec k pc = some (.tableswitch d lo hi offs, len)) (h0 : 0 ≤ (pc : Int) + off) (hx : ¬ (x < lo ∨ hi < x)) (ho : offs[(x - lo).toNat]? = some off) (hJ : fw_J k (fw_tgt pc off) ll r σ out) : fw_J k pc ll ((0, x) :: r) σ out := by
  refine fw_jp hJ ?_
  intro base b L xs D p l e R s m args below meth c Q hC tys ws H locs cells slots ls cst hH hS hL hT h1 h2 kk
  obtain ⟨v0, r0, rfl, ⟨z0, rfl, e0⟩, t0⟩ := fw_St_cons hT
  clear hT; have hT := t0; clear t0
  have e0 : x = z0.toInt := e0
  exact lv_tableIn hC.1 hC.2.1 (fw_de' hd) (by rw [← e0]; omega) (by rw [← e0]; omega) (by rw [← e0]; exact ho) (fw_tgt_ok h0) (kk ls _ hL hT)
end
section
theorem fw_fr_spec {o n c j : Nat} (h : fw_fr o n = some (c, j)) : Cond.fieldLink (fw_CN o) n (fw_CN c) (fw_CT c j).2.1 (fw_CT c j).2.2.1 ∈ fw_ws ∧ j < fw_nf c ∧ c < 10 ∧ (fw_CT c j).1 = fw_CN c := by
  unfold fw_fr at h
  obtain ⟨q, hq1, hq2⟩ := Option.map_eq_some_iff.mp h
  have hm := List.mem_of_find?_eq_some hq1
  have hp := List.find?_some hq1
  simp only [Bool.and_eq_true, beq_iff_eq] at hp
  obtain ⟨g1, g2, g3, g4⟩ := fw_fr_ok q hm
  obtain ⟨hp1, hp2⟩ := hp
  have e1 : q.2.2.1 = c := congrArg Prod.fst hq2
  have e2 : q.2.2.2.1 = j := congrArg Prod.snd hq2
  rw [hp1, hp2, e1, e2] at g1
  rw [e1, e2] at g2
  rw [e1] at g3
  rw [e1, e2] at g4
  exact ⟨fw_wd _ _ g1 rfl, g2, g3, g4⟩
def fw_tk (t : FieldType) : Nat := match t with
  | .int => 0
  | .long => 1
  | .object _ => 2
  | .array _ => 2
  | .boolean => 10
  | _ => 99
theorem fw_tk_ok : ∀ c ∈ List.range 10, ∀ j ∈ List.range (fw_nf c), fw_tk (fw_ty c j) = fw_fk c j ∧ fw_tk (fw_ty c j) ≠ 99 := by decide +kernel
theorem fw_nar {ty : FieldType} {al : List Nat} {b : Nat} {x : Int} {v : Value} (h : fw_vr al b (fw_tg (fw_tk ty), x) v) (hb : fw_tk ty = 10 → x = 0 ∨ x = 1) (h9 : fw_tk ty ≠ 99) : narrow ty v = v ∧ fits ty v = true := by
  cases ty with
  | int => obtain ⟨z, rfl, -⟩ := h; exact ⟨rfl, rfl⟩
  | long => obtain ⟨z, rfl, -⟩ := h; exact ⟨rfl, rfl⟩
  | object C => rcases h with ⟨-, rfl⟩ | ⟨i, a, -, -, rfl⟩ <;> exact ⟨rfl, rfl⟩
  | array t => rcases h with ⟨-, rfl⟩ | ⟨i, a, -, -, rfl⟩ <;> exact ⟨rfl, rfl⟩
  | boolean =>
    obtain ⟨z, rfl, ez⟩ := h
    have ez : x = z.toInt := ez
    rcases hb rfl with q | q
    · have : z = 0 := Int32.toInt_inj.mp (by rw [← ez, q]; rfl)
      subst this
      exact ⟨by decide, by decide⟩
    · have : z = 1 := Int32.toInt_inj.mp (by rw [← ez, q]; rfl)
      subst this
      exact ⟨by decide, by decide⟩
  | byte => exact absurd rfl h9
  | char => exact absurd rfl h9
  | short => exact absurd rfl h9
  | float => exact absurd rfl h9
  | double => exact absurd rfl h9
theorem fw_dflt {ty : FieldType} {al : List Nat} {b : Nat} (h9 : fw_tk ty ≠ 99) : fw_vr al b (fw_tg (fw_tk ty), 0) (defaultValue ty) := by
  cases ty with
  | int => exact ⟨0, rfl, rfl⟩
  | long => exact ⟨0, rfl, rfl⟩
  | object C => exact Or.inl ⟨rfl, rfl⟩
  | array t => exact Or.inl ⟨rfl, rfl⟩
  | boolean => exact ⟨0, rfl, rfl⟩
  | byte => exact absurd rfl h9
  | char => exact absurd rfl h9
  | short => exact absurd rfl h9
  | float => exact absurd rfl h9
  | double => exact absurd rfl h9
/-- the object behind a reference of a known class -/
theorem fw_obj {al : List Nat} {b : Nat} {tys : List (ClassId × FieldType)} {σ : fw_M} {a : Int} {e : va_E} {c : Nat} (h : fw_er al b tys σ a e) (hk : fw_kd a = (c : Int) + 3) (hc : c < 10) : ∃ fs : List Value, e = .inr (c + 2, fs) ∧ fs.length = fw_nf c ∧ ∀ j : Nat, j < fw_nf c → ∃ v, fs[j]? = some v ∧ fw_vr al b (fw_tg (fw_fk c j), σ a (j : Int)) v := by
  match e, h with
  | .inr (ci, fs), ⟨c', h1, h2, h3, h4, h5⟩ =>
    have : c' = c := by omega
    subst this
    exact ⟨fs, by rw [h1], h4, h5⟩
  | .inl (cA, n, .inl f), ⟨t0, ty, g1, g2, g3⟩ => omega
  | .inl (cA, n, .inr (.inl f)), ⟨t0, g1, g2, g3⟩ => omega
  | .inl (cA, n, .inr (.inr (.inr (.inl f)))), ⟨t0, g1, g2, g3⟩ => omega
  | .inl (cA, n, .inr (.inr (.inr (.inr f)))), ⟨t0, g1, g2, g3⟩ => omega
theorem fw_kd_lt (a : Int) (h : fw_kd a ≠ 0) : 0 < a := by
  unfold fw_kd at h
  split at h
  · exact absurd rfl h
  · omega
theorem fw_clamp (z : Int32) (h : 0 ≤ z.toInt) : ((z.toNatClampNeg : Nat) : Int) = z.toInt := by
  show ((z.toInt.toNat : Nat) : Int) = z.toInt
  omega
theorem fw_j_get {k pc n c j : Nat} {ll r : List fw_V} {a : Int} {σ : fw_M} {out : fw_O} (hd : fw_dec k pc = some (.getfield n, 3)) (hf : fw_fr (fw_oc k) n = some (c, j)) (hk : fw_kd a = (c : Int) + 3) (hJ : fw_J k (pc + 3) ll ((fw_tg (fw_fk c j), σ a (j : Int)) :: r) σ out) : fw_J k pc ll ((2, a) :: r) σ out := by
  refine fw_jp hJ ?_
  intro base b L xs D p l e R s m args below meth c0 Q hC tys ws H locs cells slots ls cst hH hS hL hT h1 h2 kk
  obtain ⟨hw, hj, hc, hdecl⟩ := fw_fr_spec hf
  obtain ⟨v, r_v, rfl, hv, t9⟩ := fw_St_cons hT
  clear hT; have hT := t9; clear t9
  obtain ⟨q0, a0, ent, hp, ea, rfl, he⟩ := fw_H_at hH hv (by omega)
  obtain ⟨fs, rfl, hlen, hfs⟩ := fw_obj he hk hc
  obtain ⟨v, hv1, hv2⟩ := hfs j hj
  refine va_get (D := D) (ci := c + 2) (v := v) (C := fw_CN c) (T := fw_CT c) (N := fw_nf c) hC.1 hC.2.1 hC.2.2.2.2.1 (fw_uw c hc) hC.2.2.2.1 hH.1 hH.2.1 q0 hp (fw_cl c hc) j hj (hC.2.2.2.2.1 _ hw) (fun x hx => by rw [← hdecl]; exact hx) hv1 (fw_de' hd) ?_
  exact kk ls _ hL ⟨hv2, hT⟩
theorem fw_j_put {k pc n c j t : Nat} {ll r : List fw_V} {a v : Int} {σ : fw_M} {out : fw_O} (hd : fw_dec k pc = some (.putfield n, 3)) (hf : fw_fr (fw_oc k) n = some (c, j)) (hk : fw_kd a = (c : Int) + 3) (ht : t = fw_tg (fw_fk c j)) (hb : fw_fk c j = 10 → v = 0 ∨ v = 1)
    (hfin : (fw_CT c j).2.2.2 = true → fw_ki k = 2 ∧ fw_oc k = c) (hJ : fw_J k (pc + 3) ll r (fw_u σ a (j : Int) v) out) : fw_J k pc ll ((t, v) :: (2, a) :: r) σ out := by
  subst ht
  have ha9 := fw_kd_lt a (by omega)
  refine fw_jg hJ 0 0 (by rw [fw_u_ne (by omega)]; exact (Int.add_zero _).symm) (by rw [fw_u_ne (by omega)]; exact (Int.add_zero _).symm) ?_
  intro base b L xs D p l e R s m args below meth c0 Q hC tys ws H locs cells slots ls cst hH hS hL hT h1 h2 kk
  obtain ⟨hw, hj, hc, hdecl⟩ := fw_fr_spec hf
  obtain ⟨w, r_w, rfl, hw1, t9⟩ := fw_St_cons hT
  clear hT; have hT := t9; clear t9
  obtain ⟨v1, r_v1, rfl, hv, t9⟩ := fw_St_cons hT
  clear hT; have hT := t9; clear t9
  obtain ⟨q0, a0, ent, hp, ea, rfl, he⟩ := fw_H_at hH hv (by omega)
  obtain ⟨fs, rfl, hlen, hfs⟩ := fw_obj he hk hc
  have hal := fw_al_set (e := .inr (c + 2, fs.set j w)) hp
  obtain ⟨k1, k2⟩ := fw_tk_ok c (List.mem_range.mpr hc) j (List.mem_range.mpr hj)
  obtain ⟨n1, n2⟩ := fw_nar (ty := fw_ty c j) (v := w) (by rw [k1]; exact hw1) (by rw [k1]; exact hb) k2
  have hend : ∀ (H1 : Heap) (locs1 : List Loc), va_P D vwCl (ws.set q0 (a0, .inr (c + 2, fs.set j w))) H1 → va_D (fun q => base ≤ q) (ws.set q0 (a0, .inr (c + 2, fs.set j w))) → va_S (fun q => base ≤ q) s.heap H1 locs1 → W p l e R s m args below meth c0 H1 locs1 cells slots Q (F0 m (pc + 3) ls r_v1) := by
    intro H1 locs1 hP1 hD1 hS1
    refine kk tys _ H1 locs1 ls r_v1 ?_ hS1 (by rw [hal]; exact List.prefix_refl _) (by rw [hal]; exact hL) (by rw [hal]; exact hT)
    rw [ea]
    refine fw_H_set hH hp ⟨c, rfl, hc, by rw [← ea]; exact hk, by rw [List.length_set]; exact hlen, fun i hi => ?_⟩ hP1 hD1
    by_cases hij : i = j
    · subst hij
      refine ⟨w, List.getElem?_set_self (by omega), ?_⟩
      rw [fw_u_s]
      exact hw1
    · obtain ⟨v2, g1, g2⟩ := hfs i hi
      refine ⟨v2, by rw [List.getElem?_set_ne (Ne.symm hij)]; exact g1, ?_⟩
      rw [fw_u_nj (by omega), ← ea]
      exact g2
  cases hfn : (fw_CT c j).2.2.2 with
  | false => exact va_put (D := D) (ci := c + 2) (v := w) (ty := fw_ty c j) (C := fw_CN c) (T := fw_CT c) (N := fw_nf c) hC.1 hC.2.1 hC.2.2.2.2.1 (fw_uw c hc) (fw_ty c) (fw_tyok c hc) (fw_nmok c hc) hC.2.2.2.1 hH.1 hH.2.1 hH.2.2.1 hS q0 hp (fw_cl c hc) j hj (hC.2.2.2.2.1 _ hw) (fun x hx => by rw [← hdecl]; exact hx) hfn (fw_tyok c hc j hj) n1 n2 (by omega) (fw_de' hd) hend
  | true =>
    obtain ⟨f1, f2⟩ := hfin hfn
    exact va_putF (D := D) (ci := c + 2) (v := w) (ty := fw_ty c j) (C := fw_CN c) (T := fw_CT c) (N := fw_nf c) hC.1 hC.2.1 hC.2.2.2.2.1 (fw_uw c hc) (fw_ty c) (fw_tyok c hc) (fw_nmok c hc) hC.2.2.2.1 hH.1 hH.2.1 hH.2.2.1 hS q0 hp (fw_cl c hc) j hj (hC.2.2.2.2.1 _ hw) (fun x hx => by rw [← hdecl]; exact hx) hfn (hC.2.2.2.2.2.2.2.1 f1) (by rw [hdecl, f2]) (fw_tyok c hc j hj) n1 n2 (by omega) (fw_de' hd) hend
theorem fw_arI {al : List Nat} {b : Nat} {tys : List (ClassId × FieldType)} {σ : fw_M} {a : Int} {e : va_E} (h : fw_er al b tys σ a e) (hk : fw_kd a = 100 ∨ fw_kd a = 101 ∨ fw_kd a = 102) : ∃ (cA : ClassId) (n : Nat) (f : Nat → Int32) (t0 : Nat) (ty : FieldType), e = .inl (cA, n, .inl f) ∧ tys[t0]? = some (cA, ty) ∧ ((fw_kd a = 100 ∧ ty = .int) ∨ (fw_kd a = 101 ∧ ty = .char) ∨ (fw_kd a = 102 ∧ ty = .boolean)) ∧ fw_ln a = (n : Int) ∧ n ≤ 300 ∧ ∀ j : Nat, j < n → σ a (j : Int) = (f j).toInt := by
  match e, h with
  | .inr (ci, fs), ⟨c', h1, h2, h3, h4, h5⟩ => omega
  | .inl (cA, n, .inl f), ⟨t0, ty, g1, g2, g3⟩ => exact ⟨cA, n, f, t0, ty, rfl, g1, g2, g3⟩
  | .inl (cA, n, .inr (.inl f)), ⟨t0, g1, g2, g3⟩ => omega
  | .inl (cA, n, .inr (.inr (.inr (.inl f)))), ⟨t0, g1, g2, g3⟩ => omega
  | .inl (cA, n, .inr (.inr (.inr (.inr f)))), ⟨t0, g1, g2, g3⟩ => omega
theorem fw_arL {al : List Nat} {b : Nat} {tys : List (ClassId × FieldType)} {σ : fw_M} {a : Int} {e : va_E} (h : fw_er al b tys σ a e) (hk : fw_kd a = 103) : ∃ (cA : ClassId) (n : Nat) (f : Nat → Int64) (t0 : Nat), e = .inl (cA, n, .inr (.inl f)) ∧ tys[t0]? = some (cA, .long) ∧ fw_ln a = (n : Int) ∧ n ≤ 300 ∧ ∀ j : Nat, j < n → σ a (j : Int) = (f j).toInt := by
  match e, h with
  | .inr (ci, fs), ⟨c', h1, h2, h3, h4, h5⟩ => omega
  | .inl (cA, n, .inl f), ⟨t0, ty, g1, g2, g3⟩ => omega
  | .inl (cA, n, .inr (.inl f)), ⟨t0, g1, g2, g3⟩ => exact ⟨cA, n, f, t0, rfl, g1, g3⟩
  | .inl (cA, n, .inr (.inr (.inr (.inl f)))), ⟨t0, g1, g2, g3⟩ => omega
  | .inl (cA, n, .inr (.inr (.inr (.inr f)))), ⟨t0, g1, g2, g3⟩ => omega
theorem fw_arD {al : List Nat} {b : Nat} {tys : List (ClassId × FieldType)} {σ : fw_M} {a : Int} {e : va_E} (h : fw_er al b tys σ a e) (hk : fw_kd a = 104) : ∃ (cA : ClassId) (n : Nat) (f : Nat → UInt64) (t0 : Nat), e = .inl (cA, n, .inr (.inr (.inr (.inl f)))) ∧ tys[t0]? = some (cA, .double) ∧ fw_ln a = (n : Int) ∧ n ≤ 300 ∧ ∀ j : Nat, j < n → σ a (j : Int) = ((f j).toNat : Int) := by
  match e, h with
  | .inr (ci, fs), ⟨c', h1, h2, h3, h4, h5⟩ => omega
  | .inl (cA, n, .inl f), ⟨t0, ty, g1, g2, g3⟩ => omega
  | .inl (cA, n, .inr (.inl f)), ⟨t0, g1, g2, g3⟩ => omega
  | .inl (cA, n, .inr (.inr (.inr (.inl f)))), ⟨t0, g1, g2, g3⟩ => exact ⟨cA, n, f, t0, rfl, g1, g3⟩
  | .inl (cA, n, .inr (.inr (.inr (.inr f)))), ⟨t0, g1, g2, g3⟩ => omega
theorem fw_arQ {al : List Nat} {b : Nat} {tys : List (ClassId × FieldType)} {σ : fw_M} {a : Int} {e : va_E} (h : fw_er al b tys σ a e) (hk : fw_kd a = 105) : ∃ (cA : ClassId) (n : Nat) (f : Nat → Option Nat) (t0 : Nat), e = .inl (cA, n, .inr (.inr (.inr (.inr f)))) ∧ tys[t0]? = some (cA, .object RX1) ∧ fw_ln a = (n : Int) ∧ n ≤ 300 ∧ ∀ j : Nat, j < n → fw_vr al b (2, σ a (j : Int)) (va_rf (f j)) := by
  match e, h with
  | .inr (ci, fs), ⟨c', h1, h2, h3, h4, h5⟩ => omega
  | .inl (cA, n, .inl f), ⟨t0, ty, g1, g2, g3⟩ => omega
  | .inl (cA, n, .inr (.inl f)), ⟨t0, g1, g2, g3⟩ => omega
  | .inl (cA, n, .inr (.inr (.inr (.inl f)))), ⟨t0, g1, g2, g3⟩ => omega
  | .inl (cA, n, .inr (.inr (.inr (.inr f)))), ⟨t0, g1, g2, g3⟩ => exact ⟨cA, n, f, t0, rfl, g1, g3⟩
theorem fw_j_iald {k pc : Nat} {ll r : List fw_V} {i a : Int} {σ : fw_M} {out : fw_O} (hd : fw_dec k pc = some (.iaload, 1)) (hk : fw_kd a = 100) (hi0 : 0 ≤ i) (hi1 : i < fw_ln a) (hJ : fw_J k (pc + 1) ll ((0, σ a i) :: r) σ out) : fw_J k pc ll ((0, i) :: (2, a) :: r) σ out := by
  refine fw_jp hJ ?_
  intro base b L xs D p l e R s m args below meth c0 Q hC tys ws H locs cells slots ls cst hH hS hL hT h1 h2 kk
  obtain ⟨v, r_v, rfl, ⟨z, rfl, ez⟩, t9⟩ := fw_St_cons hT
  clear hT; have hT := t9; clear t9
  obtain ⟨v1, r_v1, rfl, hv, t9⟩ := fw_St_cons hT
  clear hT; have hT := t9; clear t9
  have ez : i = z.toInt := ez
  obtain ⟨q0, a0, ent, hp, ea, rfl, he⟩ := fw_H_at hH hv (by omega)
  obtain ⟨cA, n0, f, t0, ty, rfl, g1, g2, g3, g4, g5⟩ := fw_arI he (by omega)
  have ety : ty = .int := by
    rcases g2 with ⟨q, e9⟩ | ⟨q, e9⟩ | ⟨q, e9⟩
    · first | exact e9 | (exfalso; omega)
    · first | exact e9 | (exfalso; omega)
    · first | exact e9 | (exfalso; omega)
  subst ety
  have hz := fw_clamp z (by omega)
  have hin : vp_in z n0 := vp_in_iff.mpr ⟨by omega, by omega⟩
  have g9 := g5 z.toNatClampNeg (by omega)
  rw [hz, ← ez] at g9
  refine va_iald hC.1 hC.2.1 hH.1 hH.2.1 q0 t0 hp g1 hin (fw_de' hd) ?_
  exact kk ls _ hL ⟨⟨_, rfl, g9⟩, hT⟩
theorem fw_j_cald {k pc : Nat} {ll r : List fw_V} {i a : Int} {σ : fw_M} {out : fw_O} (hd : fw_dec k pc = some (.caload, 1)) (hk : fw_kd a = 101) (hi0 : 0 ≤ i) (hi1 : i < fw_ln a) (hJ : fw_J k (pc + 1) ll ((0, σ a i) :: r) σ out) : fw_J k pc ll ((0, i) :: (2, a) :: r) σ out := by
  refine fw_jp hJ ?_
  intro base b L xs D p l e R s m args below meth c0 Q hC tys ws H locs cells slots ls cst hH hS hL hT h1 h2 kk
  obtain ⟨v, r_v, rfl, ⟨z, rfl, ez⟩, t9⟩ := fw_St_cons hT
  clear hT; have hT := t9; clear t9
  obtain ⟨v1, r_v1, rfl, hv, t9⟩ := fw_St_cons hT
  clear hT; have hT := t9; clear t9
  have ez : i = z.toInt := ez
  obtain ⟨q0, a0, ent, hp, ea, rfl, he⟩ := fw_H_at hH hv (by omega)
  obtain ⟨cA, n0, f, t0, ty, rfl, g1, g2, g3, g4, g5⟩ := fw_arI he (by omega)
  have ety : ty = .char := by
    rcases g2 with ⟨q, e9⟩ | ⟨q, e9⟩ | ⟨q, e9⟩
    · first | exact e9 | (exfalso; omega)
    · first | exact e9 | (exfalso; omega)
    · first | exact e9 | (exfalso; omega)
  subst ety
  have hz := fw_clamp z (by omega)
  have hin : vp_in z n0 := vp_in_iff.mpr ⟨by omega, by omega⟩
  have g9 := g5 z.toNatClampNeg (by omega)
  rw [hz, ← ez] at g9
  refine va_cald hC.1 hC.2.1 hH.1 hH.2.1 q0 t0 hp g1 hin (fw_de' hd) ?_
  exact kk ls _ hL ⟨⟨_, rfl, g9⟩, hT⟩
theorem fw_j_zald {k pc : Nat} {ll r : List fw_V} {i a : Int} {σ : fw_M} {out : fw_O} (hd : fw_dec k pc = some (.baload, 1)) (hk : fw_kd a = 102) (hi0 : 0 ≤ i) (hi1 : i < fw_ln a) (hJ : fw_J k (pc + 1) ll ((0, σ a i) :: r) σ out) : fw_J k pc ll ((0, i) :: (2, a) :: r) σ out := by
  refine fw_jp hJ ?_
  intro base b L xs D p l e R s m args below meth c0 Q hC tys ws H locs cells slots ls cst hH hS hL hT h1 h2 kk
  obtain ⟨v, r_v, rfl, ⟨z, rfl, ez⟩, t9⟩ := fw_St_cons hT
  clear hT; have hT := t9; clear t9
  obtain ⟨v1, r_v1, rfl, hv, t9⟩ := fw_St_cons hT
  clear hT; have hT := t9; clear t9
  have ez : i = z.toInt := ez
  obtain ⟨q0, a0, ent, hp, ea, rfl, he⟩ := fw_H_at hH hv (by omega)
  obtain ⟨cA, n0, f, t0, ty, rfl, g1, g2, g3, g4, g5⟩ := fw_arI he (by omega)
  have ety : ty = .boolean := by
    rcases g2 with ⟨q, e9⟩ | ⟨q, e9⟩ | ⟨q, e9⟩
    · first | exact e9 | (exfalso; omega)
    · first | exact e9 | (exfalso; omega)
    · first | exact e9 | (exfalso; omega)
  subst ety
  have hz := fw_clamp z (by omega)
  have hin : vp_in z n0 := vp_in_iff.mpr ⟨by omega, by omega⟩
  have g9 := g5 z.toNatClampNeg (by omega)
  rw [hz, ← ez] at g9
  refine va_zald hC.1 hC.2.1 hH.1 hH.2.1 q0 t0 hp g1 hin (fw_de' hd) ?_
  exact kk ls _ hL ⟨⟨_, rfl, g9⟩, hT⟩
theorem fw_j_lald {k pc : Nat} {ll r : List fw_V} {i a : Int} {σ : fw_M} {out : fw_O} (hd : fw_dec k pc = some (.laload, 1)) (hk : fw_kd a = 103) (hi0 : 0 ≤ i) (hi1 : i < fw_ln a) (hJ : fw_J k (pc + 1) ll ((1, σ a i) :: r) σ out) : fw_J k pc ll ((0, i) :: (2, a) :: r) σ out := by
  refine fw_jp hJ ?_
  intro base b L xs D p l e R s m args below meth c0 Q hC tys ws H locs cells slots ls cst hH hS hL hT h1 h2 kk
  obtain ⟨v, r_v, rfl, ⟨z, rfl, ez⟩, t9⟩ := fw_St_cons hT
  clear hT; have hT := t9; clear t9
  obtain ⟨v1, r_v1, rfl, hv, t9⟩ := fw_St_cons hT
  clear hT; have hT := t9; clear t9
  have ez : i = z.toInt := ez
  obtain ⟨q0, a0, ent, hp, ea, rfl, he⟩ := fw_H_at hH hv (by omega)
  obtain ⟨cA, n0, f, t0, rfl, g1, g3, g4, g5⟩ := fw_arL he hk
  have hz := fw_clamp z (by omega)
  have hin : vp_in z n0 := vp_in_iff.mpr ⟨by omega, by omega⟩
  have g9 := g5 z.toNatClampNeg (by omega)
  rw [hz, ← ez] at g9
  refine va_lald hC.1 hC.2.1 hH.1 hH.2.1 q0 t0 hp g1 hin (fw_de' hd) ?_
  exact kk ls _ hL ⟨⟨_, rfl, g9⟩, hT⟩
theorem fw_j_dald {k pc : Nat} {ll r : List fw_V} {i a : Int} {σ : fw_M} {out : fw_O} (hd : fw_dec k pc = some (.daload, 1)) (hk : fw_kd a = 104) (hi0 : 0 ≤ i) (hi1 : i < fw_ln a) (hJ : fw_J k (pc + 1) ll ((3, σ a i) :: r) σ out) : fw_J k pc ll ((0, i) :: (2, a) :: r) σ out := by
  refine fw_jp hJ ?_
  intro base b L xs D p l e R s m args below meth c0 Q hC tys ws H locs cells slots ls cst hH hS hL hT h1 h2 kk
  obtain ⟨v, r_v, rfl, ⟨z, rfl, ez⟩, t9⟩ := fw_St_cons hT
  clear hT; have hT := t9; clear t9
  obtain ⟨v1, r_v1, rfl, hv, t9⟩ := fw_St_cons hT
  clear hT; have hT := t9; clear t9
  have ez : i = z.toInt := ez
  obtain ⟨q0, a0, ent, hp, ea, rfl, he⟩ := fw_H_at hH hv (by omega)
  obtain ⟨cA, n0, f, t0, rfl, g1, g3, g4, g5⟩ := fw_arD he hk
  have hz := fw_clamp z (by omega)
  have hin : vp_in z n0 := vp_in_iff.mpr ⟨by omega, by omega⟩
  have g9 := g5 z.toNatClampNeg (by omega)
  rw [hz, ← ez] at g9
  refine va_dald hC.1 hC.2.1 hH.1 hH.2.1 q0 t0 hp g1 hin (fw_de' hd) ?_
  exact kk ls _ hL ⟨⟨_, rfl, g9⟩, hT⟩
theorem fw_j_aald {k pc : Nat} {ll r : List fw_V} {i a : Int} {σ : fw_M} {out : fw_O} (hd : fw_dec k pc = some (.aaload, 1)) (hk : fw_kd a = 105) (hi0 : 0 ≤ i) (hi1 : i < fw_ln a) (hJ : fw_J k (pc + 1) ll ((2, σ a i) :: r) σ out) : fw_J k pc ll ((0, i) :: (2, a) :: r) σ out := by
  refine fw_jp hJ ?_
  intro base b L xs D p l e R s m args below meth c0 Q hC tys ws H locs cells slots ls cst hH hS hL hT h1 h2 kk
  obtain ⟨v, r_v, rfl, ⟨z, rfl, ez⟩, t9⟩ := fw_St_cons hT
  clear hT; have hT := t9; clear t9
  obtain ⟨v1, r_v1, rfl, hv, t9⟩ := fw_St_cons hT
  clear hT; have hT := t9; clear t9
  have ez : i = z.toInt := ez
  obtain ⟨q0, a0, ent, hp, ea, rfl, he⟩ := fw_H_at hH hv (by omega)
  obtain ⟨cA, n0, f, t0, rfl, g1, g3, g4, g5⟩ := fw_arQ he hk
  have hz := fw_clamp z (by omega)
  have hin : vp_in z n0 := vp_in_iff.mpr ⟨by omega, by omega⟩
  have g9 := g5 z.toNatClampNeg (by omega)
  rw [hz, ← ez] at g9
  refine va_aldq hC.1 hC.2.1 hH.1 hH.2.1 q0 t0 hp g1 hin (fw_de' hd) ?_
  exact kk ls _ hL ⟨g9, hT⟩
theorem fw_j_iast {k pc : Nat} {ll r : List fw_V} {i a v : Int} {σ : fw_M} {out : fw_O} (hd : fw_dec k pc = some (.iastore, 1)) (hk : fw_kd a = 100) (hi0 : 0 ≤ i) (hi1 : i < fw_ln a) (hJ : fw_J k (pc + 1) ll r (fw_u σ a i v) out) : fw_J k pc ll ((0, v) :: (0, i) :: (2, a) :: r) σ out := by
  have ha9 := fw_kd_lt a (by omega)
  refine fw_jg hJ 0 0 (by rw [fw_u_ne (by omega)]; exact (Int.add_zero _).symm) (by rw [fw_u_ne (by omega)]; exact (Int.add_zero _).symm) ?_
  intro base b L xs D p l e R s m args below meth c0 Q hC tys ws H locs cells slots ls cst hH hS hL hT h1 h2 kk
  obtain ⟨w, r_w, rfl, ⟨zw, rfl, ew⟩, t9⟩ := fw_St_cons hT
  clear hT; have hT := t9; clear t9
  obtain ⟨v0, r_v0, rfl, ⟨z, rfl, ez⟩, t9⟩ := fw_St_cons hT
  clear hT; have hT := t9; clear t9
  obtain ⟨v1, r_v1, rfl, hv, t9⟩ := fw_St_cons hT
  clear hT; have hT := t9; clear t9
  have ez : i = z.toInt := ez
  obtain ⟨q0, a0, ent, hp, ea, rfl, he⟩ := fw_H_at hH hv (by omega)
  obtain ⟨cA, n0, f, t0, ty, rfl, g1, g2, g3, g4, g5⟩ := fw_arI he (by omega)
  have ety : ty = .int := by
    rcases g2 with ⟨q, e9⟩ | ⟨q, e9⟩ | ⟨q, e9⟩
    · first | exact e9 | (exfalso; omega)
    · first | exact e9 | (exfalso; omega)
    · first | exact e9 | (exfalso; omega)
  subst ety
  have hz := fw_clamp z (by omega)
  have hin : vp_in z n0 := vp_in_iff.mpr ⟨by omega, by omega⟩

  have hal := fw_al_set (e := .inl (cA, n0, .inl (upd f z.toNatClampNeg zw))) hp
  refine va_iast hC.1 hC.2.1 hH.1 hH.2.1 hH.2.2.1 hS q0 t0 hp g1 hin (fw_de' hd) (fun H1 locs1 hP1 hD1 hS1 => ?_)
  refine kk tys _ H1 locs1 ls r_v1 ?_ hS1 (by rw [hal]; exact List.prefix_refl _) (by rw [hal]; exact hL) (by rw [hal]; exact hT)
  rw [ea]
  refine fw_H_set hH hp ⟨t0, .int, g1, by rw [← ea]; exact g2, by rw [← ea]; exact g3, g4, fun j hj => ?_⟩ hP1 hD1
  by_cases hj9 : j = z.toNatClampNeg
  · subst hj9
    rw [hz, ← ez, fw_u_s]
    rw [pk_us]; exact ew
  · rw [fw_u_nj (by omega), ← ea]
    rw [pk_un hj9]; exact g5 j hj
theorem fw_j_cast {k pc : Nat} {ll r : List fw_V} {i a v : Int} {σ : fw_M} {out : fw_O} (hd : fw_dec k pc = some (.castore, 1)) (hk : fw_kd a = 101) (hi0 : 0 ≤ i) (hi1 : i < fw_ln a) (hv0 : 0 ≤ v) (hv1 : v < 65536) (hJ : fw_J k (pc + 1) ll r (fw_u σ a i v) out) : fw_J k pc ll ((0, v) :: (0, i) :: (2, a) :: r) σ out := by
  have ha9 := fw_kd_lt a (by omega)
  refine fw_jg hJ 0 0 (by rw [fw_u_ne (by omega)]; exact (Int.add_zero _).symm) (by rw [fw_u_ne (by omega)]; exact (Int.add_zero _).symm) ?_
  intro base b L xs D p l e R s m args below meth c0 Q hC tys ws H locs cells slots ls cst hH hS hL hT h1 h2 kk
  obtain ⟨w, r_w, rfl, ⟨zw, rfl, ew⟩, t9⟩ := fw_St_cons hT
  clear hT; have hT := t9; clear t9
  obtain ⟨v0, r_v0, rfl, ⟨z, rfl, ez⟩, t9⟩ := fw_St_cons hT
  clear hT; have hT := t9; clear t9
  obtain ⟨v1, r_v1, rfl, hv, t9⟩ := fw_St_cons hT
  clear hT; have hT := t9; clear t9
  have ez : i = z.toInt := ez
  obtain ⟨q0, a0, ent, hp, ea, rfl, he⟩ := fw_H_at hH hv (by omega)
  obtain ⟨cA, n0, f, t0, ty, rfl, g1, g2, g3, g4, g5⟩ := fw_arI he (by omega)
  have ety : ty = .char := by
    rcases g2 with ⟨q, e9⟩ | ⟨q, e9⟩ | ⟨q, e9⟩
    · first | exact e9 | (exfalso; omega)
    · first | exact e9 | (exfalso; omega)
    · first | exact e9 | (exfalso; omega)
  subst ety
  have hz := fw_clamp z (by omega)
  have hin : vp_in z n0 := vp_in_iff.mpr ⟨by omega, by omega⟩
  have ew : v = zw.toInt := ew
  have ech : vp_nar .char zw = zw := by
    obtain ⟨q9, hq9, rfl⟩ := nI_of (x := zw) (by rw [Int32.lt_iff_toInt_lt]; have : (0 : Int32).toInt = 0 := rfl; omega)
    rw [nI_toInt hq9] at ew
    unfold vp_nar
    rw [(pk_charN (q := q9) (by omega)).1]
  have hal := fw_al_set (e := .inl (cA, n0, .inl (upd f z.toNatClampNeg (vp_nar .char zw)))) hp
  refine va_cast hC.1 hC.2.1 hH.1 hH.2.1 hH.2.2.1 hS q0 t0 hp g1 hin (fw_de' hd) (fun H1 locs1 hP1 hD1 hS1 => ?_)
  refine kk tys _ H1 locs1 ls r_v1 ?_ hS1 (by rw [hal]; exact List.prefix_refl _) (by rw [hal]; exact hL) (by rw [hal]; exact hT)
  rw [ea]
  refine fw_H_set hH hp ⟨t0, .char, g1, by rw [← ea]; exact g2, by rw [← ea]; exact g3, g4, fun j hj => ?_⟩ hP1 hD1
  by_cases hj9 : j = z.toNatClampNeg
  · subst hj9
    rw [hz, ← ez, fw_u_s]
    rw [pk_us, ech]; exact ew
  · rw [fw_u_nj (by omega), ← ea]
    rw [pk_un hj9]; exact g5 j hj
theorem fw_j_zast {k pc : Nat} {ll r : List fw_V} {i a v : Int} {σ : fw_M} {out : fw_O} (hd : fw_dec k pc = some (.bastore, 1)) (hk : fw_kd a = 102) (hi0 : 0 ≤ i) (hi1 : i < fw_ln a) (hv0 : v = 0 ∨ v = 1) (hJ : fw_J k (pc + 1) ll r (fw_u σ a i v) out) : fw_J k pc ll ((0, v) :: (0, i) :: (2, a) :: r) σ out := by
  have ha9 := fw_kd_lt a (by omega)
  refine fw_jg hJ 0 0 (by rw [fw_u_ne (by omega)]; exact (Int.add_zero _).symm) (by rw [fw_u_ne (by omega)]; exact (Int.add_zero _).symm) ?_
  intro base b L xs D p l e R s m args below meth c0 Q hC tys ws H locs cells slots ls cst hH hS hL hT h1 h2 kk
  obtain ⟨w, r_w, rfl, ⟨zw, rfl, ew⟩, t9⟩ := fw_St_cons hT
  clear hT; have hT := t9; clear t9
  obtain ⟨v0, r_v0, rfl, ⟨z, rfl, ez⟩, t9⟩ := fw_St_cons hT
  clear hT; have hT := t9; clear t9
  obtain ⟨v1, r_v1, rfl, hv, t9⟩ := fw_St_cons hT
  clear hT; have hT := t9; clear t9
  have ez : i = z.toInt := ez
  obtain ⟨q0, a0, ent, hp, ea, rfl, he⟩ := fw_H_at hH hv (by omega)
  obtain ⟨cA, n0, f, t0, ty, rfl, g1, g2, g3, g4, g5⟩ := fw_arI he (by omega)
  have ety : ty = .boolean := by
    rcases g2 with ⟨q, e9⟩ | ⟨q, e9⟩ | ⟨q, e9⟩
    · first | exact e9 | (exfalso; omega)
    · first | exact e9 | (exfalso; omega)
    · first | exact e9 | (exfalso; omega)
  subst ety
  have hz := fw_clamp z (by omega)
  have hin : vp_in z n0 := vp_in_iff.mpr ⟨by omega, by omega⟩
  have ew : v = zw.toInt := ew
  have ech : vp_nar .boolean zw = zw := by
    rcases hv0 with q | q
    · have : zw = 0 := Int32.toInt_inj.mp (by rw [← ew, q]; rfl)
      subst this
      decide
    · have : zw = 1 := Int32.toInt_inj.mp (by rw [← ew, q]; rfl)
      subst this
      decide
  have hal := fw_al_set (e := .inl (cA, n0, .inl (upd f z.toNatClampNeg (vp_nar .boolean zw)))) hp
  refine va_zast hC.1 hC.2.1 hH.1 hH.2.1 hH.2.2.1 hS q0 t0 hp g1 hin (fw_de' hd) (fun H1 locs1 hP1 hD1 hS1 => ?_)
  refine kk tys _ H1 locs1 ls r_v1 ?_ hS1 (by rw [hal]; exact List.prefix_refl _) (by rw [hal]; exact hL) (by rw [hal]; exact hT)
  rw [ea]
  refine fw_H_set hH hp ⟨t0, .boolean, g1, by rw [← ea]; exact g2, by rw [← ea]; exact g3, g4, fun j hj => ?_⟩ hP1 hD1
  by_cases hj9 : j = z.toNatClampNeg
  · subst hj9
    rw [hz, ← ez, fw_u_s]
    rw [pk_us, ech]; exact ew
  · rw [fw_u_nj (by omega), ← ea]
    rw [pk_un hj9]; exact g5 j hj
theorem fw_j_last {k pc : Nat} {ll r : List fw_V} {i a v : Int} {σ : fw_M} {out : fw_O} (hd : fw_dec k pc = some (.lastore, 1)) (hk : fw_kd a = 103) (hi0 : 0 ≤ i) (hi1 : i < fw_ln a) (hJ : fw_J k (pc + 1) ll r (fw_u σ a i v) out) : fw_J k pc ll ((1, v) :: (0, i) :: (2, a) :: r) σ out := by
  have ha9 := fw_kd_lt a (by omega)
  refine fw_jg hJ 0 0 (by rw [fw_u_ne (by omega)]; exact (Int.add_zero _).symm) (by rw [fw_u_ne (by omega)]; exact (Int.add_zero _).symm) ?_
  intro base b L xs D p l e R s m args below meth c0 Q hC tys ws H locs cells slots ls cst hH hS hL hT h1 h2 kk
  obtain ⟨w, r_w, rfl, ⟨zw, rfl, ew⟩, t9⟩ := fw_St_cons hT
  clear hT; have hT := t9; clear t9
  obtain ⟨v0, r_v0, rfl, ⟨z, rfl, ez⟩, t9⟩ := fw_St_cons hT
  clear hT; have hT := t9; clear t9
  obtain ⟨v1, r_v1, rfl, hv, t9⟩ := fw_St_cons hT
  clear hT; have hT := t9; clear t9
  have ez : i = z.toInt := ez
  obtain ⟨q0, a0, ent, hp, ea, rfl, he⟩ := fw_H_at hH hv (by omega)
  obtain ⟨cA, n0, f, t0, rfl, g1, g3, g4, g5⟩ := fw_arL he hk
  have hz := fw_clamp z (by omega)
  have hin : vp_in z n0 := vp_in_iff.mpr ⟨by omega, by omega⟩

  have hal := fw_al_set (e := .inl (cA, n0, .inr (.inl (vp_updL f z.toNatClampNeg zw)))) hp
  refine va_last hC.1 hC.2.1 hH.1 hH.2.1 hH.2.2.1 hS q0 t0 hp g1 hin (fw_de' hd) (fun H1 locs1 hP1 hD1 hS1 => ?_)
  refine kk tys _ H1 locs1 ls r_v1 ?_ hS1 (by rw [hal]; exact List.prefix_refl _) (by rw [hal]; exact hL) (by rw [hal]; exact hT)
  rw [ea]
  refine fw_H_set hH hp ⟨t0, g1, by rw [← ea]; exact hk, by rw [← ea]; exact g3, g4, fun j hj => ?_⟩ hP1 hD1
  by_cases hj9 : j = z.toNatClampNeg
  · subst hj9
    rw [hz, ← ez, fw_u_s]
    rw [pk_uLs]; exact ew
  · rw [fw_u_nj (by omega), ← ea]
    rw [pk_uLn hj9]; exact g5 j hj
theorem fw_j_dast {k pc : Nat} {ll r : List fw_V} {i a v : Int} {σ : fw_M} {out : fw_O} (hd : fw_dec k pc = some (.dastore, 1)) (hk : fw_kd a = 104) (hi0 : 0 ≤ i) (hi1 : i < fw_ln a) (hJ : fw_J k (pc + 1) ll r (fw_u σ a i v) out) : fw_J k pc ll ((3, v) :: (0, i) :: (2, a) :: r) σ out := by
  have ha9 := fw_kd_lt a (by omega)
  refine fw_jg hJ 0 0 (by rw [fw_u_ne (by omega)]; exact (Int.add_zero _).symm) (by rw [fw_u_ne (by omega)]; exact (Int.add_zero _).symm) ?_
  intro base b L xs D p l e R s m args below meth c0 Q hC tys ws H locs cells slots ls cst hH hS hL hT h1 h2 kk
  obtain ⟨w, r_w, rfl, ⟨zw, rfl, ew⟩, t9⟩ := fw_St_cons hT
  clear hT; have hT := t9; clear t9
  obtain ⟨v0, r_v0, rfl, ⟨z, rfl, ez⟩, t9⟩ := fw_St_cons hT
  clear hT; have hT := t9; clear t9
  obtain ⟨v1, r_v1, rfl, hv, t9⟩ := fw_St_cons hT
  clear hT; have hT := t9; clear t9
  have ez : i = z.toInt := ez
  obtain ⟨q0, a0, ent, hp, ea, rfl, he⟩ := fw_H_at hH hv (by omega)
  obtain ⟨cA, n0, f, t0, rfl, g1, g3, g4, g5⟩ := fw_arD he hk
  have hz := fw_clamp z (by omega)
  have hin : vp_in z n0 := vp_in_iff.mpr ⟨by omega, by omega⟩

  have hal := fw_al_set (e := .inl (cA, n0, .inr (.inr (.inr (.inl (vf_upd f z.toNatClampNeg zw)))))) hp
  refine va_dast hC.1 hC.2.1 hH.1 hH.2.1 hH.2.2.1 hS q0 t0 hp g1 hin (fw_de' hd) (fun H1 locs1 hP1 hD1 hS1 => ?_)
  refine kk tys _ H1 locs1 ls r_v1 ?_ hS1 (by rw [hal]; exact List.prefix_refl _) (by rw [hal]; exact hL) (by rw [hal]; exact hT)
  rw [ea]
  refine fw_H_set hH hp ⟨t0, g1, by rw [← ea]; exact hk, by rw [← ea]; exact g3, g4, fun j hj => ?_⟩ hP1 hD1
  by_cases hj9 : j = z.toNatClampNeg
  · subst hj9
    rw [hz, ← ez, fw_u_s]
    unfold vf_upd; rw [if_pos rfl]; exact ew
  · rw [fw_u_nj (by omega), ← ea]
    unfold vf_upd; rw [if_neg hj9]; exact g5 j hj
theorem fw_j_aast {k pc : Nat} {ll r : List fw_V} {i a v : Int} {σ : fw_M} {out : fw_O} (hd : fw_dec k pc = some (.aastore, 1)) (hk : fw_kd a = 105) (hi0 : 0 ≤ i) (hi1 : i < fw_ln a) (hk4 : fw_kd v = 4) (hJ : fw_J k (pc + 1) ll r (fw_u σ a i v) out) : fw_J k pc ll ((2, v) :: (0, i) :: (2, a) :: r) σ out := by
  have ha9 := fw_kd_lt a (by omega)
  refine fw_jg hJ 0 0 (by rw [fw_u_ne (by omega)]; exact (Int.add_zero _).symm) (by rw [fw_u_ne (by omega)]; exact (Int.add_zero _).symm) ?_
  intro base b L xs D p l e R s m args below meth c0 Q hC tys ws H locs cells slots ls cst hH hS hL hT h1 h2 kk
  obtain ⟨w, r_w, rfl, hw1, t9⟩ := fw_St_cons hT
  clear hT; have hT := t9; clear t9
  obtain ⟨v0, r_v0, rfl, ⟨z, rfl, ez⟩, t9⟩ := fw_St_cons hT
  clear hT; have hT := t9; clear t9
  obtain ⟨v1, r_v1, rfl, hv, t9⟩ := fw_St_cons hT
  clear hT; have hT := t9; clear t9
  have ez : i = z.toInt := ez
  obtain ⟨q0, a0, ent, hp, ea, rfl, he⟩ := fw_H_at hH hv (by omega)
  obtain ⟨cA, n0, f, t0, rfl, g1, g3, g4, g5⟩ := fw_arQ he hk
  have hz := fw_clamp z (by omega)
  have hin : vp_in z n0 := vp_in_iff.mpr ⟨by omega, by omega⟩
  obtain ⟨qw, aw, entw, hpw, ew, rfl, hew⟩ := fw_H_at hH hw1 (by omega)
  obtain ⟨fsw, rfl, -, -⟩ := fw_obj (c := 1) hew (by omega) (by decide)
  have hal := fw_al_set (e := .inl (cA, n0, .inr (.inr (.inr (.inr (va_up f z.toNatClampNeg (some aw))))))) hp
  refine va_astq hC.1 hC.2.1 hH.1 hH.2.1 hH.2.2.1 hS q0 t0 qw 3 hp g1 hpw (fw_cl 1 (by decide)) hin (fw_de' hd) (fun H1 locs1 hP1 hD1 hS1 => ?_)
  refine kk tys _ H1 locs1 ls r_v1 ?_ hS1 (by rw [hal]; exact List.prefix_refl _) (by rw [hal]; exact hL) (by rw [hal]; exact hT)
  rw [ea]
  refine fw_H_set hH hp ⟨t0, g1, by rw [← ea]; exact hk, by rw [← ea]; exact g3, g4, fun j hj => ?_⟩ hP1 hD1
  by_cases hj9 : j = z.toNatClampNeg
  · subst hj9
    rw [hz, ← ez, fw_u_s]
    unfold va_up; rw [if_pos rfl]; exact hw1
  · rw [fw_u_nj (by omega), ← ea]
    unfold va_up; rw [if_neg hj9]; exact g5 j hj
theorem fw_j_alen {k pc : Nat} {ll r : List fw_V} {a : Int} {σ : fw_M} {out : fw_O} (hd : fw_dec k pc = some (.arraylength, 1)) (hk : 100 ≤ fw_kd a) (hJ : fw_J k (pc + 1) ll ((0, fw_ln a) :: r) σ out) : fw_J k pc ll ((2, a) :: r) σ out := by
  refine fw_jp hJ ?_
  intro base b L xs D p l e R s m args below meth c0 Q hC tys ws H locs cells slots ls cst hH hS hL hT h1 h2 kk
  obtain ⟨v1, r_v1, rfl, hv, t9⟩ := fw_St_cons hT
  clear hT; have hT := t9; clear t9
  obtain ⟨q0, a0, ent, hp, ea, rfl, he⟩ := fw_H_at hH hv (by omega)
  have key : ∀ (cA : ClassId) (x : vp_A) (t0 : Nat) (ty : FieldType), ent = .inl (cA, x) → tys[t0]? = some (cA, ty) → fw_ln a = (x.1 : Int) → x.1 ≤ 300 → W p l e R s m args below meth c0 H locs cells slots Q (F0 m pc ls (.ref a0 :: r_v1)) := by
    intro cA x t0 ty e1 e2 e3 e4
    subst e1
    refine va_alen hC.1 hC.2.1 hH.1 hH.2.1 q0 t0 hp e2 rfl (fw_de' hd) ?_
    exact kk ls _ hL ⟨⟨_, rfl, by rw [e3]; exact (nI_toInt (by omega)).symm⟩, hT⟩
  match ent, he, key with
  | .inr (ci, fs), ⟨c', g1, g2, g3, g4, g5⟩, _ => omega
  | .inl (cA, n, .inl f), ⟨t0, ty, g1, g2, g3, g4, g5⟩, key => exact key cA _ t0 ty rfl g1 g3 g4
  | .inl (cA, n, .inr (.inl f)), ⟨t0, g1, g2, g3, g4, g5⟩, key => exact key cA _ t0 _ rfl g1 g3 g4
  | .inl (cA, n, .inr (.inr (.inr (.inl f)))), ⟨t0, g1, g2, g3, g4, g5⟩, key => exact key cA _ t0 _ rfl g1 g3 g4
  | .inl (cA, n, .inr (.inr (.inr (.inr f)))), ⟨t0, g1, g2, g3, g4, g5⟩, key => exact key cA _ t0 _ rfl g1 g3 g4
theorem fw_j_sald {pc : Nat} {ll r : List fw_V} {i y : Int} {σ : fw_M} {out : fw_O} (hd : fw_dec 0 pc = some (.iaload, 1)) (hi0 : 0 ≤ i) (hi1 : i < σ (-3) 0) (hJ : fw_J 0 (pc + 1) ll ((0, σ (-2) i) :: r) σ out) : fw_J 0 pc ll ((0, i) :: (6, y) :: r) σ out := by
  refine fw_jp hJ ?_
  intro base b L xs D p l e R s m args below meth c0 Q hC tys ws H locs cells slots ls cst hH hS hL hT h1 h2 kk
  obtain ⟨v, r_v, rfl, ⟨z, rfl, ez⟩, t9⟩ := fw_St_cons hT
  clear hT; have hT := t9; clear t9
  obtain ⟨v1, r_v1, rfl, hv, t9⟩ := fw_St_cons hT
  clear hT; have hT := t9; clear t9
  have ez : i = z.toInt := ez
  cases hv
  obtain ⟨x1, x2, x3⟩ := hC.2.2.2.2.2.2.2.2.2.2.2.2.2.1 rfl
  have hz := fw_clamp z (by omega)
  have hn := hH.2.2.2.2.2.1
  refine va_sld hC.1 hC.2.1 x1 x2 (Nat.not_le.mpr x3) hS (vp_in_iff.mpr ⟨by omega, by omega⟩) (fw_de' hd) ?_
  have g9 := hH.2.2.2.2.2.2 z.toNatClampNeg (by omega)
  rw [hz, ← ez] at g9
  exact kk ls _ hL ⟨⟨_, rfl, g9⟩, hT⟩
theorem fw_j_slen {pc : Nat} {ll r : List fw_V} {y : Int} {σ : fw_M} {out : fw_O} (hd : fw_dec 0 pc = some (.arraylength, 1)) (hb9 : σ (-3) 0 < 2147483648) (hJ : fw_J 0 (pc + 1) ll ((0, σ (-3) 0) :: r) σ out) : fw_J 0 pc ll ((6, y) :: r) σ out := by
  refine fw_jp hJ ?_
  intro base b L xs D p l e R s m args below meth c0 Q hC tys ws H locs cells slots ls cst hH hS hL hT h1 h2 kk
  obtain ⟨v1, r_v1, rfl, hv, t9⟩ := fw_St_cons hT
  clear hT; have hT := t9; clear t9
  cases hv
  obtain ⟨x1, x2, x3⟩ := hC.2.2.2.2.2.2.2.2.2.2.2.2.2.1 rfl
  have hn := hH.2.2.2.2.2.1
  refine va_slen hC.1 hC.2.1 x1 x2 (Nat.not_le.mpr x3) hS (fw_de' hd) ?_
  exact kk ls _ hL ⟨⟨_, rfl, by rw [hn]; exact (nI_toInt (by omega)).symm⟩, hT⟩
end
section
theorem fw_cr_spec {o n c : Nat} (h : fw_cr o n = some c) : Cond.classLink (fw_CN o) n (fw_CN c) ∈ fw_ws ∧ c < 10 := by
  unfold fw_cr at h
  obtain ⟨q, hq1, hq2⟩ := Option.map_eq_some_iff.mp h
  have hm := List.mem_of_find?_eq_some hq1
  have hp := List.find?_some hq1
  simp only [Bool.and_eq_true, beq_iff_eq] at hp
  obtain ⟨g1, g2⟩ := fw_cr_ok q hm
  obtain ⟨hp1, hp2⟩ := hp
  rw [hp1, hp2, hq2] at g1
  rw [hq2] at g2
  exact ⟨fw_wd _ _ g1 rfl, g2⟩
theorem fw_nw1 {σ : fw_M} {n : Int} (h : 1 ≤ σ (-1) 0) : fw_nw σ n (-1) 1 = σ (-1) 1 + 1 := by
  unfold fw_nw
  rw [if_neg (by omega), if_pos rfl, if_neg (by decide), if_pos rfl]
theorem fw_nw2 {σ : fw_M} {n : Int} (h : 1 ≤ σ (-1) 0) : fw_nw σ n (-1) 2 = σ (-1) 2 + n := by
  unfold fw_nw
  rw [if_neg (by omega), if_pos rfl, if_neg (by decide), if_neg (by decide), if_pos rfl]
theorem fw_vr_new {ws : va_W} {a : Nat} {e : va_E} {b : Nat} {x : Int} (h : x = (ws.length : Int) + 1) : fw_vr (fw_al (ws ++ [(a, e)])) b (2, x) (.ref a) := by
  refine Or.inr ⟨ws.length, a, ?_, h, rfl⟩
  unfold fw_al
  rw [List.getElem?_map, List.getElem?_append_right (Nat.le_refl _), Nat.sub_self]
  rfl
theorem fw_al_push {ws : va_W} {q : Nat × va_E} : fw_al ws <+: fw_al (ws ++ [q]) := by unfold fw_al; rw [List.map_append]; exact List.prefix_append _ _
theorem fw_j_new {k pc n c : Nat} {ll st : List fw_V} {σ : fw_M} {out : fw_O} (hd : fw_dec k pc = some (.new n, 3)) (hf : fw_cr (fw_oc k) n = some c) (hk : fw_kd (σ (-1) 0) = (c : Int) + 3) (hJ : fw_J k (pc + 3) ll ((2, σ (-1) 0) :: st) (fw_nw σ (fw_nf c)) out) : fw_J k pc ll st σ out := by
  have h9 := fw_kd_lt _ (show fw_kd (σ (-1) 0) ≠ 0 by omega)
  refine fw_jg hJ 1 (fw_nf c) (fw_nw1 (by omega)) (fw_nw2 (by omega)) ?_
  intro base b L xs D p l e R s m args below meth c0 Q hC tys ws H locs cells slots ls cst hH hS hL hT h1 h2 kk
  obtain ⟨hw, hc⟩ := fw_cr_spec hf
  refine va_new (ci := c + 2) (fs := (List.range (fw_nf c)).map (fun j => defaultValue (fw_ty c j))) (C := fw_CN c) (T := fw_CT c) (N := fw_nf c) hC.1 hC.2.1 hC.2.2.2.2.1 (fw_uw c hc) (fw_ty c) (fw_tyok c hc) hC.2.2.2.1 (hC.2.2.2.2.1 _ hw) (hC.2.2.2.2.1 _ (fw_ins c hc)) (hC.2.2.2.2.1 _ (fw_ini c (by omega))) hH.1 hH.2.1 hH.2.2.1 hS (fun q hq => Nat.le_trans hC.2.2.2.2.2.2.2.2.2.2.2.2.1 hq) (fw_cl c hc) (fun j hj => ?_) h1 h2 (fw_de' hd) (fun q H1 hP1 hD1 hS1 => ?_)
  · unfold vp_V
    simp [List.getD, hj]
  · refine kk tys _ H1 locs ls _ (fw_H_push hH (List.prefix_refl _) hH.1 hP1 hD1 ⟨c, rfl, hc, by rw [← hk, hH.2.2.2.1], by simp, fun j hj => ?_⟩) hS1 fw_al_push (fw_L_mono fw_al_push hL) ⟨fw_vr_new hH.2.2.2.1, fw_St_mono fw_al_push hT⟩
    obtain ⟨k1, k2⟩ := fw_tk_ok c (List.mem_range.mpr hc) j (List.mem_range.mpr hj)
    refine ⟨defaultValue (fw_ty c j), by simp [hj], ?_⟩
    rw [← k1]
    exact fw_dflt k2
theorem fw_j_newa_int {k pc : Nat} {ll r : List fw_V} {n : Int} {σ : fw_M} {out : fw_O} (hd : fw_dec k pc = some (.newarray .int, 2)) (hn0 : 0 ≤ n) (hn1 : n ≤ 300) (hk : fw_kd (σ (-1) 0) = 100) (hn : fw_ln (σ (-1) 0) = n) (hJ : fw_J k (pc + 2) ll ((2, σ (-1) 0) :: r) (fw_nw σ n) out) : fw_J k pc ll ((0, n) :: r) σ out := by
  have h9 := fw_kd_lt _ (show fw_kd (σ (-1) 0) ≠ 0 by omega)
  refine fw_jg hJ 1 n.toNat (fw_nw1 (by omega)) (by rw [fw_nw2 (by omega)]; omega) ?_
  intro base b L xs D p l e R s m args below meth c0 Q hC tys ws H locs cells slots ls cst hH hS hL hT h1 h2 kk
  obtain ⟨v, r_v, rfl, ⟨z, rfl, ez⟩, t9⟩ := fw_St_cons hT
  clear hT; have hT := t9; clear t9
  have ez : n = z.toInt := ez
  have hz := fw_clamp z (by omega)
  refine va_newa (atype := .int) (ty := .int) (N' := n.toNat) (a0 := (n.toNat, .inl (fun _ => (0 : Int32)))) hC.1 hC.2.1 (hC.2.2.2.2.1 _ (fw_wd 1 75 rfl rfl)) rfl hH.1 hH.2.1 hH.2.2.1 hS (fun q hq => Nat.le_trans hC.2.2.2.2.2.2.2.2.2.2.2.2.1 hq) (fun cA => rfl) ?_ (by omega) ?_ h1 h2 (fw_de' hd) (fun q cA H1 hK1 hP1 hD1 hS1 => ?_)
  · rw [Int32.lt_iff_toInt_lt]
    have : (0 : Int32).toInt = 0 := rfl
    omega
  · show n.toNat * 4 ≤ 536870912
    omega
  · exact kk (tys ++ [(cA, .int)]) _ H1 locs ls _ (fw_H_push hH (List.prefix_append _ _) hK1 hP1 hD1 ⟨tys.length, .int, by simp, Or.inl ⟨by rw [← hH.2.2.2.1]; exact hk, rfl⟩, by rw [← hH.2.2.2.1, hn]; omega, by omega, fun j hj => rfl⟩) hS1 fw_al_push (fw_L_mono fw_al_push hL) ⟨fw_vr_new hH.2.2.2.1, fw_St_mono fw_al_push hT⟩
theorem fw_j_newa_char {k pc : Nat} {ll r : List fw_V} {n : Int} {σ : fw_M} {out : fw_O} (hd : fw_dec k pc = some (.newarray .char, 2)) (hn0 : 0 ≤ n) (hn1 : n ≤ 300) (hk : fw_kd (σ (-1) 0) = 101) (hn : fw_ln (σ (-1) 0) = n) (hJ : fw_J k (pc + 2) ll ((2, σ (-1) 0) :: r) (fw_nw σ n) out) : fw_J k pc ll ((0, n) :: r) σ out := by
  have h9 := fw_kd_lt _ (show fw_kd (σ (-1) 0) ≠ 0 by omega)
  refine fw_jg hJ 1 n.toNat (fw_nw1 (by omega)) (by rw [fw_nw2 (by omega)]; omega) ?_
  intro base b L xs D p l e R s m args below meth c0 Q hC tys ws H locs cells slots ls cst hH hS hL hT h1 h2 kk
  obtain ⟨v, r_v, rfl, ⟨z, rfl, ez⟩, t9⟩ := fw_St_cons hT
  clear hT; have hT := t9; clear t9
  have ez : n = z.toInt := ez
  have hz := fw_clamp z (by omega)
  refine va_newa (atype := .char) (ty := .char) (N' := n.toNat) (a0 := (n.toNat, .inl (fun _ => (0 : Int32)))) hC.1 hC.2.1 (hC.2.2.2.2.1 _ (fw_wd 1 76 rfl rfl)) rfl hH.1 hH.2.1 hH.2.2.1 hS (fun q hq => Nat.le_trans hC.2.2.2.2.2.2.2.2.2.2.2.2.1 hq) (fun cA => rfl) ?_ (by omega) ?_ h1 h2 (fw_de' hd) (fun q cA H1 hK1 hP1 hD1 hS1 => ?_)
  · rw [Int32.lt_iff_toInt_lt]
    have : (0 : Int32).toInt = 0 := rfl
    omega
  · show n.toNat * 2 ≤ 536870912
    omega
  · exact kk (tys ++ [(cA, .char)]) _ H1 locs ls _ (fw_H_push hH (List.prefix_append _ _) hK1 hP1 hD1 ⟨tys.length, .char, by simp, Or.inr (Or.inl ⟨by rw [← hH.2.2.2.1]; exact hk, rfl⟩), by rw [← hH.2.2.2.1, hn]; omega, by omega, fun j hj => rfl⟩) hS1 fw_al_push (fw_L_mono fw_al_push hL) ⟨fw_vr_new hH.2.2.2.1, fw_St_mono fw_al_push hT⟩
theorem fw_j_newa_boolean {k pc : Nat} {ll r : List fw_V} {n : Int} {σ : fw_M} {out : fw_O} (hd : fw_dec k pc = some (.newarray .boolean, 2)) (hn0 : 0 ≤ n) (hn1 : n ≤ 300) (hk : fw_kd (σ (-1) 0) = 102) (hn : fw_ln (σ (-1) 0) = n) (hJ : fw_J k (pc + 2) ll ((2, σ (-1) 0) :: r) (fw_nw σ n) out) : fw_J k pc ll ((0, n) :: r) σ out := by
  have h9 := fw_kd_lt _ (show fw_kd (σ (-1) 0) ≠ 0 by omega)
  refine fw_jg hJ 1 n.toNat (fw_nw1 (by omega)) (by rw [fw_nw2 (by omega)]; omega) ?_
  intro base b L xs D p l e R s m args below meth c0 Q hC tys ws H locs cells slots ls cst hH hS hL hT h1 h2 kk
  obtain ⟨v, r_v, rfl, ⟨z, rfl, ez⟩, t9⟩ := fw_St_cons hT
  clear hT; have hT := t9; clear t9
  have ez : n = z.toInt := ez
  have hz := fw_clamp z (by omega)
  refine va_newa (atype := .boolean) (ty := .boolean) (N' := n.toNat) (a0 := (n.toNat, .inl (fun _ => (0 : Int32)))) hC.1 hC.2.1 (hC.2.2.2.2.1 _ (fw_wd 5 189 rfl rfl)) rfl hH.1 hH.2.1 hH.2.2.1 hS (fun q hq => Nat.le_trans hC.2.2.2.2.2.2.2.2.2.2.2.2.1 hq) (fun cA => rfl) ?_ (by omega) ?_ h1 h2 (fw_de' hd) (fun q cA H1 hK1 hP1 hD1 hS1 => ?_)
  · rw [Int32.lt_iff_toInt_lt]
    have : (0 : Int32).toInt = 0 := rfl
    omega
  · show n.toNat * 1 ≤ 536870912
    omega
  · exact kk (tys ++ [(cA, .boolean)]) _ H1 locs ls _ (fw_H_push hH (List.prefix_append _ _) hK1 hP1 hD1 ⟨tys.length, .boolean, by simp, Or.inr (Or.inr ⟨by rw [← hH.2.2.2.1]; exact hk, rfl⟩), by rw [← hH.2.2.2.1, hn]; omega, by omega, fun j hj => rfl⟩) hS1 fw_al_push (fw_L_mono fw_al_push hL) ⟨fw_vr_new hH.2.2.2.1, fw_St_mono fw_al_push hT⟩
theorem fw_j_newa_long {k pc : Nat} {ll r : List fw_V} {n : Int} {σ : fw_M} {out : fw_O} (hd : fw_dec k pc = some (.newarray .long, 2)) (hn0 : 0 ≤ n) (hn1 : n ≤ 300) (hk : fw_kd (σ (-1) 0) = 103) (hn : fw_ln (σ (-1) 0) = n) (hJ : fw_J k (pc + 2) ll ((2, σ (-1) 0) :: r) (fw_nw σ n) out) : fw_J k pc ll ((0, n) :: r) σ out := by
  have h9 := fw_kd_lt _ (show fw_kd (σ (-1) 0) ≠ 0 by omega)
  refine fw_jg hJ 1 n.toNat (fw_nw1 (by omega)) (by rw [fw_nw2 (by omega)]; omega) ?_
  intro base b L xs D p l e R s m args below meth c0 Q hC tys ws H locs cells slots ls cst hH hS hL hT h1 h2 kk
  obtain ⟨v, r_v, rfl, ⟨z, rfl, ez⟩, t9⟩ := fw_St_cons hT
  clear hT; have hT := t9; clear t9
  have ez : n = z.toInt := ez
  have hz := fw_clamp z (by omega)
  refine va_newa (atype := .long) (ty := .long) (N' := n.toNat) (a0 := (n.toNat, .inr (.inl (fun _ => (0 : Int64))))) hC.1 hC.2.1 (hC.2.2.2.2.1 _ (fw_wd 6 194 rfl rfl)) rfl hH.1 hH.2.1 hH.2.2.1 hS (fun q hq => Nat.le_trans hC.2.2.2.2.2.2.2.2.2.2.2.2.1 hq) (fun cA => rfl) ?_ (by omega) ?_ h1 h2 (fw_de' hd) (fun q cA H1 hK1 hP1 hD1 hS1 => ?_)
  · rw [Int32.lt_iff_toInt_lt]
    have : (0 : Int32).toInt = 0 := rfl
    omega
  · show n.toNat * 8 ≤ 536870912
    omega
  · exact kk (tys ++ [(cA, .long)]) _ H1 locs ls _ (fw_H_push hH (List.prefix_append _ _) hK1 hP1 hD1 ⟨tys.length, by simp, by rw [← hH.2.2.2.1]; exact hk, by rw [← hH.2.2.2.1, hn]; omega, by omega, fun j hj => rfl⟩) hS1 fw_al_push (fw_L_mono fw_al_push hL) ⟨fw_vr_new hH.2.2.2.1, fw_St_mono fw_al_push hT⟩
theorem fw_j_newa_double {k pc : Nat} {ll r : List fw_V} {n : Int} {σ : fw_M} {out : fw_O} (hd : fw_dec k pc = some (.newarray .double, 2)) (hn0 : 0 ≤ n) (hn1 : n ≤ 300) (hk : fw_kd (σ (-1) 0) = 104) (hn : fw_ln (σ (-1) 0) = n) (hJ : fw_J k (pc + 2) ll ((2, σ (-1) 0) :: r) (fw_nw σ n) out) : fw_J k pc ll ((0, n) :: r) σ out := by
  have h9 := fw_kd_lt _ (show fw_kd (σ (-1) 0) ≠ 0 by omega)
  refine fw_jg hJ 1 n.toNat (fw_nw1 (by omega)) (by rw [fw_nw2 (by omega)]; omega) ?_
  intro base b L xs D p l e R s m args below meth c0 Q hC tys ws H locs cells slots ls cst hH hS hL hT h1 h2 kk
  obtain ⟨v, r_v, rfl, ⟨z, rfl, ez⟩, t9⟩ := fw_St_cons hT
  clear hT; have hT := t9; clear t9
  have ez : n = z.toInt := ez
  have hz := fw_clamp z (by omega)
  refine va_newa (atype := .double) (ty := .double) (N' := n.toNat) (a0 := (n.toNat, .inr (.inr (.inr (.inl (fun _ => (0 : UInt64))))))) hC.1 hC.2.1 (hC.2.2.2.2.1 _ (fw_wd 6 195 rfl rfl)) rfl hH.1 hH.2.1 hH.2.2.1 hS (fun q hq => Nat.le_trans hC.2.2.2.2.2.2.2.2.2.2.2.2.1 hq) (fun cA => rfl) ?_ (by omega) ?_ h1 h2 (fw_de' hd) (fun q cA H1 hK1 hP1 hD1 hS1 => ?_)
  · rw [Int32.lt_iff_toInt_lt]
    have : (0 : Int32).toInt = 0 := rfl
    omega
  · show n.toNat * 8 ≤ 536870912
    omega
  · exact kk (tys ++ [(cA, .double)]) _ H1 locs ls _ (fw_H_push hH (List.prefix_append _ _) hK1 hP1 hD1 ⟨tys.length, by simp, by rw [← hH.2.2.2.1]; exact hk, by rw [← hH.2.2.2.1, hn]; omega, by omega, fun j hj => rfl⟩) hS1 fw_al_push (fw_L_mono fw_al_push hL) ⟨fw_vr_new hH.2.2.2.1, fw_St_mono fw_al_push hT⟩
theorem fw_j_newq {k pc : Nat} {ll r : List fw_V} {n : Int} {σ : fw_M} {out : fw_O} (hd : fw_dec k pc = some (.anewarray 9, 3)) (ho : fw_oc k = 6) (hn0 : 0 ≤ n) (hn1 : n ≤ 300) (hk : fw_kd (σ (-1) 0) = 105) (hn : fw_ln (σ (-1) 0) = n) (hJ : fw_J k (pc + 3) ll ((2, σ (-1) 0) :: r) (fw_nw σ n) out) : fw_J k pc ll ((0, n) :: r) σ out := by
  have h9 := fw_kd_lt _ (show fw_kd (σ (-1) 0) ≠ 0 by omega)
  refine fw_jg hJ 1 n.toNat (fw_nw1 (by omega)) (by rw [fw_nw2 (by omega)]; omega) ?_
  intro base b L xs D p l e R s m args below meth c0 Q hC tys ws H locs cells slots ls cst hH hS hL hT h1 h2 kk
  obtain ⟨v, r_v, rfl, ⟨z, rfl, ez⟩, t9⟩ := fw_St_cons hT
  clear hT; have hT := t9; clear t9
  have ez : n = z.toInt := ez
  have hz := fw_clamp z (by omega)
  have hown := hC.2.2.2.1
  rw [ho] at hown
  refine va_newq (C := RX1) (N' := n.toNat) hC.1 hC.2.1 hown (hC.2.2.2.2.1 _ (fw_wd 1 113 rfl rfl)) hC.2.2.2.2.2.2.2.2.2.2.2.1.2.2.2.2 hH.1 hH.2.1 hH.2.2.1 hS (fun q hq => Nat.le_trans hC.2.2.2.2.2.2.2.2.2.2.2.2.1 hq) ?_ (by omega) (by omega) h1 h2 (fw_de' hd) (fun q cA H1 hK1 hP1 hD1 hS1 => ?_)
  · rw [Int32.lt_iff_toInt_lt]
    have : (0 : Int32).toInt = 0 := rfl
    omega
  · exact kk (tys ++ [(cA, .object RX1)]) _ H1 locs ls _ (fw_H_push hH (List.prefix_append _ _) hK1 hP1 hD1 ⟨tys.length, by simp, by rw [← hH.2.2.2.1]; exact hk, by rw [← hH.2.2.2.1, hn]; omega, by omega, fun j hj => Or.inl ⟨rfl, rfl⟩⟩) hS1 fw_al_push (fw_L_mono fw_al_push hL) ⟨fw_vr_new hH.2.2.2.1, fw_St_mono fw_al_push hT⟩
theorem fw_mr_find {o n cal ne : Nat} (h : fw_mr o n = some (cal, ne)) : ∃ q ∈ fw_mrT, q.1 = o ∧ q.2.1 = n ∧ q.2.2.1 = cal ∧ q.2.2.2.1 = ne := by
  unfold fw_mr at h
  obtain ⟨q, hq1, hq2⟩ := Option.map_eq_some_iff.mp h
  have hp := List.find?_some hq1
  simp only [Bool.and_eq_true, beq_iff_eq] at hp
  exact ⟨q, List.mem_of_find?_eq_some hq1, hp.1, hp.2, congrArg Prod.fst hq2, congrArg Prod.snd hq2⟩
theorem fw_mr_m : ∀ q ∈ fw_mrT, (q.2.2.1 = 1000 → (fw_t q.2.2.2.2.1)[q.2.2.2.2.2]? = some (.methodLink (fw_CN q.1) q.2.1 Lib.Math.max.name)) ∧ (q.2.2.1 = 1001 → (fw_t q.2.2.2.2.1)[q.2.2.2.2.2]? = some (.methodLink (fw_CN q.1) q.2.1 Lib.Math.min.name)) ∧ (q.2.2.1 = 1002 → (fw_t q.2.2.2.2.1)[q.2.2.2.2.2]? = some (.methodLink (fw_CN q.1) q.2.1 objectInit)) := by decide +kernel
theorem fw_sum4 {al : List Nat} {b : Nat} {st : List fw_V} {cst : List Value} (h : fw_St al b st cst) (h4 : st.length ≤ 4) : (cst.map fun v => v.category).sum ≤ 8 := by
  have := fw_St_cat h
  omega
theorem fw_j_max {k pc n : Nat} {ll r : List fw_V} {x y : Int} {σ : fw_M} {out : fw_O} (hd : fw_dec k pc = some (.invokestatic n, 3)) (hm : fw_mr (fw_oc k) n = some (1000, 0)) (hr : r.length ≤ 4) (hJ : fw_J k (pc + 3) ll ((0, if x < y then y else x) :: r) σ out) : fw_J k pc ll ((0, y) :: (0, x) :: r) σ out := by
  refine fw_jp hJ ?_
  intro base b L xs D p l e R s m args below meth c0 Q hC tys ws H locs cells slots ls cst hH hS hL hT h1 h2 kk
  obtain ⟨v, r_v, rfl, ⟨z0, rfl, e0⟩, t9⟩ := fw_St_cons hT
  clear hT; have hT := t9; clear t9
  obtain ⟨v1, r_v1, rfl, ⟨z1, rfl, e1⟩, t9⟩ := fw_St_cons hT
  clear hT; have hT := t9; clear t9
  have e0 : y = z0.toInt := e0
  have e1 : x = z1.toInt := e1
  obtain ⟨q, hq, q1, q2, q3, q4⟩ := fw_mr_find hm
  have hl := (fw_mr_m q hq).1 q3
  rw [q1, q2] at hl
  have hsm := fw_sum4 hT hr
  have hfr := hC.2.2.2.2.2.2.2.2.2.1
  have hlo := hC.2.2.2.2.2.2.2.2.2.2.1
  obtain ⟨l9, g1, g2, -⟩ := id hL
  refine va_mmax hC.1 hC.2.1 (by rw [hC.2.2.1]; exact g1.1.symm) hC.2.2.2.1 (hC.2.2.2.2.1 _ (fw_wd _ _ hl rfl)) (hC.2.2.2.2.1 _ (fw_wd 1 91 rfl rfl)) (hC.2.2.2.2.1 _ (fw_wd 1 4 rfl rfl)) (hC.2.2.2.2.1 _ (fw_wd 1 92 rfl rfl)) (by omega) (by omega) h1 h2 (fw_de' hd) ?_
  refine kk ls _ hL ⟨⟨_, rfl, ?_⟩, hT⟩
  show (if x < y then y else x) = _
  rw [e0, e1]
  by_cases q9 : z1 < z0
  · rw [if_pos q9, if_pos (Int32.lt_iff_toInt_lt.mp q9)]
  · rw [if_neg q9, if_neg (fun z => q9 (Int32.lt_iff_toInt_lt.mpr z))]
theorem fw_j_min {k pc n : Nat} {ll r : List fw_V} {x y : Int} {σ : fw_M} {out : fw_O} (hd : fw_dec k pc = some (.invokestatic n, 3)) (hm : fw_mr (fw_oc k) n = some (1001, 0)) (hr : r.length ≤ 4) (hJ : fw_J k (pc + 3) ll ((0, if y < x then y else x) :: r) σ out) : fw_J k pc ll ((0, y) :: (0, x) :: r) σ out := by
  refine fw_jp hJ ?_
  intro base b L xs D p l e R s m args below meth c0 Q hC tys ws H locs cells slots ls cst hH hS hL hT h1 h2 kk
  obtain ⟨v, r_v, rfl, ⟨z0, rfl, e0⟩, t9⟩ := fw_St_cons hT
  clear hT; have hT := t9; clear t9
  obtain ⟨v1, r_v1, rfl, ⟨z1, rfl, e1⟩, t9⟩ := fw_St_cons hT
  clear hT; have hT := t9; clear t9
  have e0 : y = z0.toInt := e0
  have e1 : x = z1.toInt := e1
  obtain ⟨q, hq, q1, q2, q3, q4⟩ := fw_mr_find hm
  have hl := (fw_mr_m q hq).2.1 q3
  rw [q1, q2] at hl
  have hsm := fw_sum4 hT hr
  have hfr := hC.2.2.2.2.2.2.2.2.2.1
  have hlo := hC.2.2.2.2.2.2.2.2.2.2.1
  obtain ⟨l9, g1, g2, -⟩ := id hL
  refine va_mmin hC.1 hC.2.1 (by rw [hC.2.2.1]; exact g1.1.symm) hC.2.2.2.1 (hC.2.2.2.2.1 _ (fw_wd _ _ hl rfl)) (hC.2.2.2.2.1 _ (fw_wd 1 88 rfl rfl)) (hC.2.2.2.2.1 _ (fw_wd 1 4 rfl rfl)) (hC.2.2.2.2.1 _ (fw_wd 1 89 rfl rfl)) (by omega) (by omega) h1 h2 (fw_de' hd) ?_
  refine kk ls _ hL ⟨⟨_, rfl, ?_⟩, hT⟩
  show (if y < x then y else x) = _
  rw [e0, e1]
  by_cases q9 : z0 < z1
  · rw [if_pos q9, if_pos (Int32.lt_iff_toInt_lt.mp q9)]
  · rw [if_neg q9, if_neg (fun z => q9 (Int32.lt_iff_toInt_lt.mpr z))]
theorem fw_j_obj {k pc n : Nat} {ll r : List fw_V} {x : Int} {σ : fw_M} {out : fw_O} (hd : fw_dec k pc = some (.invokespecial n, 3)) (hm : fw_mr (fw_oc k) n = some (1002, 0)) (hx0 : x ≠ 0) (hr : r.length ≤ 4) (hJ : fw_J k (pc + 3) ll r σ out) : fw_J k pc ll ((2, x) :: r) σ out := by
  refine fw_jp hJ ?_
  intro base b L xs D p l e R s m args below meth c0 Q hC tys ws H locs cells slots ls cst hH hS hL hT h1 h2 kk
  obtain ⟨v, r_v, rfl, hv, t9⟩ := fw_St_cons hT
  clear hT; have hT := t9; clear t9
  obtain ⟨q, hq, q1, q2, q3, q4⟩ := fw_mr_find hm
  have hl := (fw_mr_m q hq).2.2 q3
  rw [q1, q2] at hl
  have hsm := fw_sum4 hT hr
  have hfr := hC.2.2.2.2.2.2.2.2.2.1
  have hlo := hC.2.2.2.2.2.2.2.2.2.2.1
  obtain ⟨l9, g1, g2, -⟩ := id hL
  rcases hv with ⟨q9, -⟩ | ⟨i, a, -, -, rfl⟩
  · exact absurd q9 hx0
  · refine W.objInit (rest := r_v) hC.1 hC.2.1 hC.2.2.2.1 (hC.2.2.2.2.1 _ (fw_wd _ _ hl rfl)) (hC.2.2.2.2.1 _ (fw_wd 1 29 rfl rfl)) (hC.2.2.2.2.1 _ (fw_wd 1 30 rfl rfl)) rfl (by rw [hC.2.2.1]; exact g1.1) rfl (fw_de' hd) (by omega) (by show 2 * 0 + _ + 12 ≤ _; omega) ?_
    exact kk ls _ hL hT
end
section
/-! a method's contract, out of its run on the small machine -/
def fw_ov (al : List Nat) (b : Nat) (av : fw_V) (v : Option Value) : Prop := (av = (5, 0) ∧ v = none) ∨ (av.1 ≠ 5 ∧ av.1 ≠ 9 ∧ ∃ z, v = some z ∧ fw_vr al b av z)
def fw_Q (base b L : Nat) (xs : Nat → Int32) (D : va_G) (al0 : List Nat) (out : fw_O) : Array Value → State → Outcome → State → Prop := fun _ st o t =>
  ∃ v : Option Value, o = .returned v ∧ (∃ (tys : List (ClassId × FieldType)) (ws : va_W), fw_H base b L xs D out.2 tys ws t t.heap ∧ al0 <+: fw_al ws ∧ fw_ov (fw_al ws) b out.1 v) ∧ va_F (fun q => base ≤ q) st t
def fw_XQ (base b L : Nat) (xs : Nat → Int32) (D : va_G) (al0 : List Nat) (out : fw_O) : String → State → State → Prop := fun E st t =>
  out.1.1 = 9 ∧ E = fw_xn out.1.2.toNat ∧ (∃ (tys : List (ClassId × FieldType)) (ws : va_W), fw_H base b L xs D out.2 tys ws t t.heap ∧ al0 <+: fw_al ws) ∧ va_F (fun q => base ≤ q) st t
theorem fw_args_mem : ∀ (vs : List Value) (n i : Nat) (v : Value), (∀ w ∈ vs, w.category = 1) → vs[i]? = some v → (n + i, v) ∈ lv_args n vs
  | [], _, _, _, _, h => by simp at h
  | w :: vs, n, 0, v, hc, h => by
    rw [List.getElem?_cons_zero] at h
    cases h
    exact List.mem_cons_self
  | w :: vs, n, i + 1, v, hc, h => by
    rw [List.getElem?_cons_succ] at h
    have h1 : ¬ w.category = 2 := by rw [hc w List.mem_cons_self]; decide
    have h2 := fw_args_mem vs (n + 1) i v (fun x hx => hc x (List.mem_cons_of_mem _ hx)) h
    unfold lv_args
    rw [if_neg h1]
    refine List.mem_cons_of_mem _ ?_
    have e : n + (i + 1) = n + 1 + i := by omega
    rw [e]
    exact h2
theorem fw_args_cat : ∀ (vs : List Value) (n : Nat), (∀ w ∈ vs, w.category = 1) → ∀ q ∈ lv_args n vs, q.2.category = 1
  | [], _, _, _, h => by cases h
  | w :: vs, n, hc, q, h => by
    unfold lv_args at h
    rcases List.mem_cons.mp h with rfl | h
    · exact hc w List.mem_cons_self
    · exact fw_args_cat vs _ (fun x hx => hc x (List.mem_cons_of_mem _ hx)) q h
theorem fw_sl_len : ∀ (vs : List Value), (∀ w ∈ vs, w.category = 1) → (lg_sl vs).length = vs.length
  | [], _ => rfl
  | w :: vs, hc => by
    have h1 : ¬ w.category = 2 := by rw [hc w List.mem_cons_self]; decide
    have h2 := fw_sl_len vs (fun x hx => hc x (List.mem_cons_of_mem _ hx))
    have h3 : lg_sl (w :: vs) = .val w :: lg_sl vs := by
      unfold lg_sl
      rw [List.flatMap_cons, if_neg h1]
      rfl
    rw [h3, List.length_cons, h2, List.length_cons]
theorem fw_St_mem {al : List Nat} {b : Nat} : ∀ {st : List fw_V} {cst : List Value}, fw_St al b st cst → ∀ w ∈ cst, ∃ a ∈ st, fw_vr al b a w
  | [], [], _, _, h => by cases h
  | a :: st, v :: cst, hs, w, h => by
    rcases List.mem_cons.mp h with rfl | h
    · exact ⟨a, List.mem_cons_self, hs.1⟩
    · obtain ⟨a', h1, h2⟩ := fw_St_mem hs.2 w h
      exact ⟨a', List.mem_cons_of_mem _ h1, h2⟩
/-- a method's locals at its entry -/
theorem fw_L_entry {k : Nat} {al : List Nat} {b : Nat} {as : List fw_V} {vs : List Value} (hT : fw_St al b as vs) (ht : ∀ a ∈ as, a.1 ≠ 1 ∧ a.1 ≠ 3) (hn : as.length ≤ fw_mL k) :
    fw_L k al b ((lg_sl vs ++ List.replicate (fw_mL k - (lg_sl vs).length) Slot.unset).toArray) (fw_en k as) := by
  have hc : ∀ w ∈ vs, w.category = 1 := by
    intro w hw
    obtain ⟨a, h1, h2⟩ := fw_St_mem hT w hw
    exact fw_cat h2 (ht a h1).1 (ht a h1).2
  have hlen := fw_St_len hT
  have hsl := fw_sl_len vs hc
  refine ⟨lv_args 0 vs, lv_entry vs (by omega), ?_, fun i av hi ha => ?_, fun q hq h2 => ?_, fun av hav => ?_, fun _ av hav => ?_⟩
  · unfold fw_en
    rw [List.length_append, List.length_replicate]
    omega
  · unfold fw_en at hi
    by_cases hl : i < as.length
    · rw [List.getElem?_append_left hl] at hi
      obtain ⟨v, h1, h2⟩ := fw_St_at hT hi
      have h3 := fw_args_mem vs 0 i v hc h1
      rw [Nat.zero_add] at h3
      exact ⟨v, h3, h2⟩
    · rw [List.getElem?_append_right (by omega)] at hi
      have := (List.mem_replicate.mp (List.mem_of_getElem? hi)).2
      rw [this] at ha
      exact absurd rfl ha
  · have := fw_args_cat vs 0 hc q hq
    omega
  · unfold fw_en at hav
    rcases List.mem_append.mp hav with h | h
    · exact (ht av h).1
    · rw [(List.mem_replicate.mp h).2]; exact (by decide : (8 : Nat) ≠ 1)
  · unfold fw_en at hav
    rcases List.mem_append.mp hav with h | h
    · exact (ht av h).2
    · rw [(List.mem_replicate.mp h).2]; exact (by decide : (8 : Nat) ≠ 3)
def fw_rm (k mc ms : Nat) : Room := { frames := fw_rk k + 6, locals := 30 * fw_rk k + 100, cells := mc, slots := ms }
def fw_P (base b L : Nat) (xs : Nat → Int32) (D : va_G) (σ : fw_M) (tys : List (ClassId × FieldType)) (ws : va_W) (U : State) : Prop := fw_H base b L xs D σ tys ws U U.heap ∧ fw_Z base U U.heap ∧ base ≤ U.heap.size
/-- the ends of a method other than the law -/
theorem fw_fin {k base b L : Nat} {xs : Nat → Int32} {D : va_G} {p : Program} {l : Launch} {e : Env} {R : Room} {s : State} {m : MethodId} {args : Array Value} {below : List Frame} {meth : Method} {c : Code} {al0 : List Nat} {C0 S0 : Int} {out : fw_O} {mc ms : Nat}
    (hC : fw_C k base b L xs p l R s m args meth c) (h0 : k ≠ 0) (hmc : (mc : Int) = out.2 (-1) 1 - C0) (hms : (ms : Int) = out.2 (-1) 2 - S0) :
    fw_F k base b L xs D p l e R s m args below meth c (vx_MQ below (fw_Q base b L xs D al0 out) (fw_XQ base b L xs D al0 out) args s mc ms (fun q => base ≤ q)) al0 C0 S0 out := by
  obtain ⟨hx, hb, hml, hown, hws, hlocks, htab, hini, htr, hfr, hlo, hZ, hbase, hscr, hr, hk⟩ := hC
  refine ⟨?_, ?_, ?_⟩
  · intro tys ws H locs cells slots pc ls cst i hd hH hS hal hc1 hc2 hv
    obtain rfl : cells = mc := by omega
    obtain rfl : slots = ms := by omega
    refine vx_ret ?_
    have key : ∀ (v : Option Value), fw_ov (fw_al ws) b out.1 v → ∀ t : State, t.heap = H → s.WarmedH t.vm → fw_Q base b L xs D al0 out args s (.returned v) t := by
      intro v hv t ht hW
      exact ⟨v, rfl, ⟨tys, ws, by rw [ht]; exact fw_H_moved hW.alike hH, hal, hv⟩, hS.F ht⟩
    rcases hv with ⟨h1, rfl, h3, rfl⟩ | ⟨h1, rfl, h3, z, h4, rfl⟩ | ⟨h1, rfl, h3, z, h4, rfl⟩ | ⟨h1, rfl, h3, z, h4, rfl⟩ | ⟨h1, rfl, h3, z, h4, rfl⟩ | ⟨h1, rfl, h3, z, h4, rfl⟩
    · exact W.vret hx hb (by rw [hr, h3]) (key none (Or.inl ⟨h1, rfl⟩)) hS.2.2 hd
    · have kz := key (some (.int z)) (Or.inr ⟨by omega, by omega, _, rfl, by unfold fw_vr; rw [h1]; exact ⟨z, rfl, h4⟩⟩)
      unfold fw_ri at h3
      split at h3
      · rename_i hq
        exact W.zret (ty := .int) hx hb (by rw [hr, hq]) rfl kz hS.2.2 hd
      · rename_i hq
        have h3 := of_decide_eq_true h3
        refine W.zret (ty := .boolean) hx hb (by rw [hr, hq]) ?_ kz hS.2.2 hd
        rcases h3 with q | q
        · have : z = 0 := Int32.toInt_inj.mp (by rw [← h4, q]; rfl)
          subst this
          decide
        · have : z = 1 := Int32.toInt_inj.mp (by rw [← h4, q]; rfl)
          subst this
          decide
      · rename_i hq
        have h3 := of_decide_eq_true h3
        refine W.zret (ty := .char) hx hb (by rw [hr, hq]) ?_ kz hS.2.2 hd
        obtain ⟨q9, hq9, rfl⟩ := nI_of (x := z) (by rw [Int32.lt_iff_toInt_lt]; have : (0 : Int32).toInt = 0 := rfl; omega)
        rw [nI_toInt hq9] at h4
        exact (pk_charN (by omega)).1
      · cases h3
    · exact W.lret hx hb (by rw [hr, h3]) (key (some (.long z)) (Or.inr ⟨by omega, by omega, _, rfl, by unfold fw_vr; rw [h1]; exact ⟨z, rfl, h4⟩⟩)) hS.2.2 hd
    · have h5 := h4
      unfold fw_vr at h5
      rw [h1] at h5
      exact W.aret (rt := .object RX1) hx hb (by rw [hr, h3]) (Or.inl ⟨_, rfl⟩) (by
        rcases h5 with ⟨-, rfl⟩ | ⟨i, a, -, -, rfl⟩
        · exact Or.inl rfl
        · exact Or.inr ⟨_, rfl⟩) (key (some z) (Or.inr ⟨by omega, by omega, _, rfl, h4⟩)) hS.2.2 hd
    · exact W.dret hx hb (by rw [hr, h3]) (key (some (.double z)) (Or.inr ⟨by omega, by omega, _, rfl, by unfold fw_vr; rw [h1]; exact ⟨z, rfl, h4⟩⟩)) hS.2.2 hd
    · exact W.fret hx hb (by rw [hr, h3]) (key (some (.float z)) (Or.inr ⟨by omega, by omega, _, rfl, by unfold fw_vr; rw [h1]; exact ⟨z, rfl, h4⟩⟩)) hS.2.2 hd
  · intro h9 _ hhs tys ws H locs cells slots pc ls rest q ce hH hS hal hc1 hc2 hq hv hcl
    have ht := htab h0
    rw [hhs] at ht
    exact vx_out (fun x hx => by rw [ht] at hx; cases hx) hlocks hq hv hcl (fun t ht hvm => ⟨h9, rfl, ⟨tys, ws, by rw [ht]; exact fw_H_moved hvm hH, hal⟩, hS.F ht⟩) hS.2.2 (by omega) (by omega)
  · intro σ ik ic x h9 hσ ho hhs _ hex tys ws H locs cells slots pc ls hls d0 d3 d4 d7 hH hS hal hc1 hc2 hr1 hr2
    obtain ⟨q, hq, rfl, rfl, rfl⟩ := hex
    have ht := htab h0
    rw [hhs] at ht
    obtain ⟨g1, g2⟩ := fw_xr_ok q hq
    have g3 := fw_at_ok q hq
    have g4 := fw_at_tbl q hq
    have hx1 : out.2 (-1) 1 = σ (-1) 1 + 1 := by rw [hσ]; rfl
    have hx2 : out.2 (-1) 2 = σ (-1) 2 + 6 := by rw [hσ]; rfl
    rw [ho] at hown
    have hini9 : Cond.initialized (fw_xn q.2.2.1) ∈ fw_ws := fw_xini q.2.2.1 g2
    refine vx_throw0 (own := fw_CN 8) (cls := fw_xn q.2.2.1) (names := fw_nm) (ik := q.1) (ic := q.2.1) (A := fun z => base ≤ z) hx hb htr hown (fw_xfit q.2.2.1 g2).1 (by decide +kernel) (hws _ (fw_wd _ _ g1 rfl)) (hws _ hini9) (fun w hw => ?_) (fw_at_ot q hq) hZ.1 hZ.2.1 hS (by rw [hml]; exact hls) d0 d3 d4 d7 (fun x hx => by rw [ht] at hx; cases hx) ?_ ?_ hr1 hr2 hlocks (fun t hvm hz hk9 => ?_) hS.2.2 (by omega) (by omega)
    · rcases g3 w hw with hg | hg
      · exact hws w (List.mem_filter.mpr ⟨g4 w (List.mem_filter.mpr ⟨hw, hg⟩), hg⟩)
      · exact va_Nw.use (fw_nz_tbl w hg).2 (hZ.2.2.1 w hg)
    · show 2 + 3 < R.frames
      omega
    · show 0 + (13 * (2 + 1) + 42) ≤ R.locals
      omega
    · have hP9 : va_P D vwCl ws t.heap := hH.2.1.kept (fun k9 q9 hq9 => hk9 q9.1 ((hH.2.1 k9 q9 hq9).lt))
      refine ⟨by rw [h9], by rw [h9]; rfl, ⟨tys, ws, ?_, hal⟩, Nat.le_trans hS.1 hz, fun z h1 h2 => by rw [hk9 z (Nat.lt_of_lt_of_le h1 hS.1)]; exact hS.2.1 z h1 h2⟩
      rw [hσ]
      obtain ⟨a1, a2, a3, a4, a5, a6, a7⟩ := hH
      refine ⟨a1.moved hvm, hP9, a3, a4, fun k9 q9 hq9 => fw_er_mono (List.prefix_refl _) (List.prefix_refl _) (fun j => ?_) (a5 k9 q9 hq9), a6, a7⟩
      unfold fw_ex
      rw [if_neg (by omega)]
end
section
/-- (entry of an exception's class in the law, its number, and where the tables say so) -/
def fw_hlT : List (Nat × Nat × Nat × Nat) := [(13, 0, 2, 186), (15, 1, 2, 187), (21, 2, 3, 39), (26, 3, 3, 108), (34, 4, 3, 174), (108, 5, 5, 43)]
theorem fw_hl_ok : ∀ q ∈ fw_hlT, (fw_t q.2.2.1)[q.2.2.2]? = some (.classLink (fw_CN 10) q.1 (fw_xn q.2.1)) ∧ q.1 ≠ 0 ∧ q.2.1 < 6 := by decide +kernel
theorem fw_hs_ok : ∀ k ∈ List.range 212, (fw_hs k).all (fun h => fw_hlT.any (fun q => q.1 == h.2.2.2.1 && q.2.1 == h.2.2.2.2)) = true ∧ (fw_hs k).Pairwise (fun a c => (c.2.2.2.2, a.2.2.2.2) ∈ fw_nc) ∧ (fw_hs k = [] ∨ fw_oc k = 10) := by decide +kernel
theorem fw_mL_ok : ∀ k ∈ List.range 212, fw_mL k ≤ 11 ∧ (fw_ki k = 0 ∨ fw_ki k = 2 → (fw_pt k).length + 1 ≤ fw_mL k) ∧ (fw_pt k).length ≤ fw_mL k ∧ (fw_pt k).all (fun t => decide (t ≠ 1) && decide (t ≠ 3)) = true ∧ (k = 0 ∨ fw_ki k < 4) := by decide +kernel
theorem fw_cast_ok : ∀ x ∈ List.range 6, Cond.castable (fw_xn x) (fw_xn x) ∈ fw_nz := by decide +kernel
theorem fw_nest_ok : ∀ q ∈ fw_mrT, q.2.2.2.1 = 1 → Cond.methodLinkNest (fw_CN q.1) q.2.1 (fw_y q.2.2.1) (fw_CN 8) ∈ fw_nz ∧ (fw_ki q.2.2.1 = 1 ∨ fw_ki q.2.2.1 = 2) := by decide +kernel
section FW13
variable {k base b L : Nat} {xs : Nat → Int32} {D : va_G} {p : Program} {l : Launch} {e : Env} {R : Room} {s : State} {m : MethodId} {args : Array Value} {below : List Frame} {meth : Method} {c : Code} {Q : State → Prop} {H : Heap} {locs : List Loc} {cells slots mc ms : Nat} {out o : fw_O} {σ : fw_M}
/-- a body, from its entry -/
theorem fw_body {as : List fw_V} {vs : List Value} {tys : List (ClassId × FieldType)} {ws : va_W} {c1 s1 : Nat} (hJ : fw_J k 0 (fw_en k as) [] σ out) (h0 : k ≠ 0) (hT : fw_St (fw_al ws) b as vs) (ht : ∀ a ∈ as, a.1 ≠ 1 ∧ a.1 ≠ 3) (hn : as.length ≤ fw_mL k)
    (hmc : (mc : Int) = out.2 (-1) 1 - σ (-1) 1) (hms : (ms : Int) = out.2 (-1) 2 - σ (-1) 2) (hc1 : c1 = mc) (hs1 : s1 = ms) (ha : args = vs.toArray) (hC : fw_C k base b L xs p l (fw_rm k c1 s1) s m args meth c) (hH : fw_H base b L xs D σ tys ws s s.heap) :
    W p l e (fw_rm k c1 s1) s m args below meth c s.heap [] 0 0 (vx_MQ below (fw_Q base b L xs D (fw_al ws) out) (fw_XQ base b L xs D (fw_al ws) out) args s mc ms (fun q => base ≤ q)) (entryFrame m args (fw_mL k)) := by
  subst ha
  subst hc1
  subst hs1
  rw [lg_entry_eq]
  exact hJ.2 base b L xs D p l e _ s m _ below meth c _ (fw_al ws) (σ (-1) 1) (σ (-1) 2) hC (fw_fin hC h0 hmc hms) (by show _ ≤ ((c1 : Nat) : Int); omega) (by show _ ≤ ((s1 : Nat) : Int); omega) tys ws s.heap [] 0 0 _ [] hH va_S.rf (List.prefix_refl _) (by omega) (by omega) (fw_L_entry hT ht hn) trivial
theorem fw_met {as : List fw_V} {vs : List Value} {tys : List (ClassId × FieldType)} {ws : va_W} (hk : k < 212) (h0 : k ≠ 0) (hki : fw_ki k ≠ 3) (htr : l.stackTraces = false) (hJ : fw_J k 0 (fw_en k as) [] σ out) (hT : fw_St (fw_al ws) b as vs) (ht : ∀ a ∈ as, a.1 ≠ 1 ∧ a.1 ≠ 3) (hn : as.length ≤ fw_mL k)
    (hmc : (mc : Int) = out.2 (-1) 1 - σ (-1) 1) (hms : (ms : Int) = out.2 (-1) 2 - σ (-1) 2) :
    vx_Met l (fw_y k) (Cond.code (fw_y k) (fw_B k) (fw_mL k) (fw_rt k) :: fw_ws) (fw_rm k mc ms) (va_Pc vs (fw_P base b L xs D σ tys ws)) (fw_Q base b L xs D (fw_al ws) out) (fw_XQ base b L xs D (fw_al ws) out) mc ms (fun q => base ≤ q) := by
  obtain ⟨y1, y2, y3, y4, y5, y6, y7, y8⟩ := fw_y_ok k (List.mem_range.mpr hk)
  refine vx_ofW (cc := fw_B k) (maxL := fw_mL k) (ret := fw_rt k) y6 rfl ?_
  intro p e s m args below meth c s₁ B hml htab hv
  obtain ⟨ha, hH, hZ, hbase⟩ := hv
  have hts := atoms_spec (ws := Cond.code (fw_y k) (fw_B k) (fw_mL k) (fw_rt k) :: fw_ws) B.pre
  have hown : s.vm.findClass (fw_CN (fw_oc k)) = some m.cls := by rw [← y1]; exact findClass_of_methodNamed B.named
  refine fw_body hJ h0 hT ht hn hmc hms rfl rfl ha ⟨B.exec, B.bytes, hml, hown, fun w hw => hts w (List.mem_cons_of_mem _ hw), B.notSynchronized, fun _ => ?_, fun h2 => ?_, htr, Nat.le_refl _, Nat.le_refl _, hZ, hbase, fun h => absurd h h0, B.returns, hk⟩ hH
  · rw [y8.mpr hki]
    exact List.eq_nil_iff_forall_not_mem.mpr htab
  · rw [(name_of_methodNamed B.named B.method).1]
    exact (y7 h2).1
/-- a call's two ends -/
theorem fw_go {al0 : List Nat} {pc : Nat} {ls : Array Slot} {st0 rest : List Value} {a : Array Value} (hr : vx_Run p l e R s m args below meth c H locs cells slots mc ms (F0 m pc ls st0) rest (fw_Q base b L xs D al0 o a) (fw_XQ base b L xs D al0 o) (fun q => base ≤ q)) (hS : va_S (fun q => base ≤ q) s.heap H locs)
    (kx : o.1.1 = 9 → ∀ (q : Addr) (ce : Cell) (tys : List (ClassId × FieldType)) (ws : va_W) (H1 : Heap) (locs1 : List Loc), fw_H base b L xs D o.2 tys ws s H1 → va_S (fun q => base ≤ q) s.heap H1 locs1 → al0 <+: fw_al ws → H1[q]? = some ce → ce.vm = .none → s.vm.findClass (fw_xn o.1.2.toNat) = some ce.cls → vx_W p l e R s m args below meth c H1 locs1 (cells + mc) (slots + ms) Q (F0 m pc ls rest) q)
    (kk : ∀ (v : Option Value) (tys : List (ClassId × FieldType)) (ws : va_W) (H1 : Heap) (locs1 : List Loc), fw_H base b L xs D o.2 tys ws s H1 → va_S (fun q => base ≤ q) s.heap H1 locs1 → al0 <+: fw_al ws → fw_ov (fw_al ws) b o.1 v → W p l e R s m args below meth c H1 locs1 (cells + mc) (slots + ms) Q (F0 m (pc + 3) ls (v.toList ++ rest))) :
    W p l e R s m args below meth c H locs cells slots Q (F0 m pc ls st0) := by
  intro T hT X
  rcases hr T hT X with ⟨v, st₀, t, T', L9, h0, X', hL, e1, e2, ⟨v', hv', ⟨tys, ws, hH, hal, hov⟩, hF⟩, st⟩ | ⟨q, st₀, t, T', L9, E, ce, h0, X', hL, e1, e2, ⟨h9, rfl, ⟨tys, ws, hH, hal⟩, hF⟩, hce, hcv, hcl, st⟩
  · cases hv'
    obtain ⟨k1, k2, k3⟩ := vx_keep h0 e1 hS (fun _ _ h => h) (fun _ h => h) hL hF
    have hvm : s.vm.Alike t.vm := by rw [← e2]; exact X'.warmed.alike
    obtain ⟨t2, a1, b1⟩ := kk v tys ws T'.heap (locs ++ L9) (by rw [e1]; exact fw_H_moved hvm.symm hH) k3 hal hov T' rfl X'
    exact ⟨t2, st t2 a1, b1⟩
  · obtain ⟨k1, k2, k3⟩ := vx_keep h0 e1 hS (fun _ _ h => h) (fun _ h => h) hL hF
    have hvm : s.vm.Alike t.vm := by rw [← e2]; exact X'.warmed.alike
    obtain ⟨t2, a1, b1⟩ := kx h9 q ce tys ws T'.heap (locs ++ L9) (by rw [e1]; exact fw_H_moved hvm.symm hH) k3 hal (by rw [e1]; exact hce) hcv hcl T' rfl X'
    exact ⟨t2, st.trans a1, b1⟩
/-- behind a call: on, caught, or out -/
def fw_AF (k pc : Nat) (ll rest : List fw_V) (o out : fw_O) : Prop := (∃ (pc' : Nat) (ll' st' : List fw_V), fw_af k pc ll rest o = some (.inl (pc', ll', st', o.2)) ∧ fw_J k pc' ll' st' o.2 out) ∨ (fw_af k pc ll rest o = some (.inr out) ∧ out = o)
theorem fw_core {al0 : List Nat} {C0 S0 : Int} {pc : Nat} {ll rest : List fw_V} {ls : Array Slot} {st0 crest : List Value} {a : Array Value} {tys : List (ClassId × FieldType)} {ws : va_W}
    (hAF : fw_AF k pc ll rest o out) (hC : fw_C k base b L xs p l R s m args meth c) (hF : fw_F k base b L xs D p l e R s m args below meth c Q al0 C0 S0 out) (hR1 : out.2 (-1) 1 - C0 ≤ R.cells) (hR2 : out.2 (-1) 2 - S0 ≤ R.slots)
    (hS : va_S (fun q => base ≤ q) s.heap H locs) (hal : al0 <+: fw_al ws) (hc1 : ((cells + mc : Nat) : Int) = o.2 (-1) 1 - C0) (hc2 : ((slots + ms : Nat) : Int) = o.2 (-1) 2 - S0) (hL : fw_L k (fw_al ws) b ls ll) (hT : fw_St (fw_al ws) b rest crest)
    (hr : vx_Run p l e R s m args below meth c H locs cells slots mc ms (F0 m pc ls st0) crest (fw_Q base b L xs D (fw_al ws) o a) (fw_XQ base b L xs D (fw_al ws) o) (fun q => base ≤ q)) :
    W p l e R s m args below meth c H locs cells slots Q (F0 m pc ls st0) := by
  refine fw_go hr hS ?_ ?_
  · intro h9 q ce tys1 ws1 H1 locs1 hH1 hS1 hal1 hq hv hcl
    rcases hAF with ⟨pc', ll', st', h1, hJ⟩ | ⟨h1, rfl⟩
    · unfold fw_af at h1
      rw [if_pos h9] at h1
      split at h1
      · rename_i hd hhd
        cases h1
        unfold fw_hd at hhd
        obtain ⟨x, hx1, hx2⟩ := Option.map_eq_some_iff.mp hhd
        obtain ⟨px, pre, suf, hsp, hpre⟩ := List.find?_eq_some_iff_append.mp hx1
        have hk := hC.2.2.2.2.2.2.2.2.2.2.2.2.2.2.2
        obtain ⟨o1, o2, o3⟩ := fw_hs_ok k (List.mem_range.mpr hk)
        have ho10 : fw_oc k = 10 := by
          rcases o3 with q9 | q9
          · rw [q9] at hsp; simp at hsp
          · exact q9
        have hk0 : k ≠ 0 := by
          intro hk0
          subst hk0
          have : fw_hs 0 = [] := by decide +kernel
          rw [this] at hsp; simp at hsp
        have htab := hC.2.2.2.2.2.2.1 hk0
        have hown := hC.2.2.2.1
        rw [ho10] at hown
        have link : ∀ h ∈ fw_hs k, ∃ q ∈ fw_hlT, q.1 = h.2.2.2.1 ∧ q.2.1 = h.2.2.2.2 := by
          intro h hh
          have := List.all_eq_true.mp o1 h hh
          obtain ⟨q, hq1, hq2⟩ := List.any_eq_true.mp this
          simp only [Bool.and_eq_true, beq_iff_eq] at hq2
          exact ⟨q, hq1, hq2⟩
        have hxm : x ∈ fw_hs k := by rw [hsp]; simp
        obtain ⟨qx, hqx, ex1, ex2⟩ := link x hxm
        obtain ⟨gx1, gx2, gx3⟩ := fw_hl_ok qx hqx
        simp only [Bool.and_eq_true, beq_iff_eq, decide_eq_true_eq] at px
        rw [ex1, ex2] at gx1
        rw [ex1] at gx2
        rw [ex2] at gx3
        have hexc : x.2.2.2.2 = o.1.2.toNat := px.1
        have hpw := o2
        rw [hsp] at hpw
        rw [List.pairwise_append] at hpw
        refine vx_catch (own := fw_CN 10) (name := fw_xn x.2.2.2.2) (E := fw_xn o.1.2.toNat) hown (pre.map (fun h => ⟨h.1, h.2.1, h.2.2.1, h.2.2.2.1⟩)) ⟨x.1, x.2.1, x.2.2.1, x.2.2.2.1⟩ (suf.map (fun h => ⟨h.1, h.2.1, h.2.2.1, h.2.2.2.1⟩)) ?_ ?_ ?_ gx2 (hC.2.2.2.2.1 _ (fw_wd _ _ gx1 rfl)) ?_ hq hv hcl ?_
        · rw [htab, hsp]
          unfold tableOf
          rw [List.map_append, List.map_append, List.map_cons, List.map_cons, List.map_map, List.map_map]
          rfl
        · intro z hz
          obtain ⟨h, hh, rfl⟩ := List.mem_map.mp hz
          have hm : h ∈ fw_hs k := by rw [hsp]; simp [hh]
          have hnp := hpre h hh
          by_cases hcov : decide (h.1 ≤ pc) && decide (pc < h.2.1)
          · have hne : h.2.2.2.2 ≠ o.1.2.toNat := by
              intro heq
              rw [heq] at hnp
              rw [hcov] at hnp
              simp at hnp
            obtain ⟨qh, hqh, eh1, eh2⟩ := link h hm
            obtain ⟨gh1, gh2, gh3⟩ := fw_hl_ok qh hqh
            rw [eh1, eh2] at gh1
            rw [eh1] at gh2
            refine Or.inr ⟨gh2, fw_xn h.2.2.2.2, hC.2.2.2.2.1 _ (fw_wd _ _ gh1 rfl), ?_⟩
            have hnc := hpw.2.2 h hh x List.mem_cons_self
            rw [← hexc]
            exact hC.2.2.2.2.2.2.2.2.2.2.2.1.2.2.2.1 _ hnc
          · refine Or.inl ?_
            simpa [covers] using hcov
        · simpa [covers] using px.2
        · rw [hexc]
          rw [hexc] at gx3
          exact va_Nw.use rfl (hC.2.2.2.2.2.2.2.2.2.2.2.1.2.2.1 _ (fw_cast_ok _ (List.mem_range.mpr gx3)))
        · have hx2 : x.2.2.1 = pc' := hx2
          show W p l e R s m args below meth c H1 locs1 (cells + mc) (slots + ms) Q (F0 m x.2.2.1 ls [.ref q])
          rw [hx2]
          exact hJ.2 base b L xs D p l e R s m args below meth c Q al0 C0 S0 hC hF hR1 hR2 tys1 ws1 H1 locs1 (cells + mc) (slots + ms) ls _ hH1 hS1 (hal.trans hal1) hc1 hc2 (fw_L_mono hal1 hL) ⟨⟨q, rfl⟩, trivial⟩
      · split at h1
        · cases h1
        · cases h1
    · unfold fw_af at h1
      rw [if_pos h9] at h1
      split at h1
      · cases h1
      · split at h1
        · rename_i hk9
          exact hF.2.1 h9 hk9.1 hk9.2 tys1 ws1 H1 locs1 (cells + mc) (slots + ms) pc ls crest q ce hH1 hS1 (hal.trans hal1) hc1 hc2 hq hv hcl
        · cases h1
  · intro v tys1 ws1 H1 locs1 hH1 hS1 hal1 hov
    have h9 : o.1.1 ≠ 9 := by
      rcases hov with ⟨h, -⟩ | ⟨-, h, -⟩
      · rw [h]; exact (by decide : (5 : Nat) ≠ 9)
      · exact h
    rcases hAF with ⟨pc', ll', st', h1, hJ⟩ | ⟨h1, rfl⟩
    · unfold fw_af at h1
      rw [if_neg h9] at h1
      split at h1
      · rename_i h5
        cases h1
        rcases hov with ⟨-, rfl⟩ | ⟨h, -, -⟩
        · exact hJ.2 base b L xs D p l e R s m args below meth c Q al0 C0 S0 hC hF hR1 hR2 tys1 ws1 H1 locs1 (cells + mc) (slots + ms) ls crest hH1 hS1 (hal.trans hal1) hc1 hc2 (fw_L_mono hal1 hL) (fw_St_mono hal1 hT)
        · exact absurd h5 h
      · rename_i h5
        cases h1
        rcases hov with ⟨h, -⟩ | ⟨-, -, z, rfl, hz⟩
        · exact absurd (by rw [h]) h5
        · exact hJ.2 base b L xs D p l e R s m args below meth c Q al0 C0 S0 hC hF hR1 hR2 tys1 ws1 H1 locs1 (cells + mc) (slots + ms) ls (z :: crest) hH1 hS1 (hal.trans hal1) hc1 hc2 (fw_L_mono hal1 hL) ⟨hz, fw_St_mono hal1 hT⟩
    · unfold fw_af at h1
      rw [if_neg h9] at h1
      split at h1 <;> cases h1
theorem fw_AF_mono {pc : Nat} {ll rest : List fw_V} (h : fw_AF k pc ll rest o out) : o.2 (-1) 1 ≤ out.2 (-1) 1 ∧ o.2 (-1) 2 ≤ out.2 (-1) 2 := by
  rcases h with ⟨pc', ll', st', h1, hJ⟩ | ⟨-, rfl⟩
  · exact hJ.1
  · exact ⟨Int.le_refl _, Int.le_refl _⟩
end FW13
end
section
section FW14
variable {k base b L : Nat} {xs : Nat → Int32} {D : va_G} {p : Program} {l : Launch} {e : Env} {R : Room} {s : State} {m : MethodId} {args : Array Value} {below : List Frame} {meth : Method} {c : Code} {Q : State → Prop} {H : Heap} {locs : List Loc} {cells slots mc ms : Nat} {out o : fw_O} {σ : fw_M}
set_option maxHeartbeats 200000 in
theorem fw_metH {hh : List (Nat × Nat × Nat × Nat)} {as : List fw_V} {vs : List Value} {tys : List (ClassId × FieldType)} {ws : va_W} (hk : k < 212) (h0 : k ≠ 0) (hki : fw_ki k = 3) (htr : l.stackTraces = false) (hhe : hh = (fw_hs k).map (fun h => (h.1, h.2.1, h.2.2.1, h.2.2.2.1))) (hJ : fw_J k 0 (fw_en k as) [] σ out) (hT : fw_St (fw_al ws) b as vs) (ht : ∀ a ∈ as, a.1 ≠ 1 ∧ a.1 ≠ 3) (hn : as.length ≤ fw_mL k)
    (hmc : (mc : Int) = out.2 (-1) 1 - σ (-1) 1) (hms : (ms : Int) = out.2 (-1) 2 - σ (-1) 2) :
    vx_Met l (fw_y k) (Cond.codeWith (fw_y k) (fw_B k) (fw_mL k) (fw_rt k) hh :: fw_ws) (fw_rm k mc ms) (va_Pc vs (fw_P base b L xs D σ tys ws)) (fw_Q base b L xs D (fw_al ws) out) (fw_XQ base b L xs D (fw_al ws) out) mc ms (fun q => base ≤ q) := by
  obtain ⟨y1, y2, y3, y4, y5, y6, y7, y8⟩ := fw_y_ok k (List.mem_range.mpr hk)
  refine vx_ofWH (cc := fw_B k) (maxL := fw_mL k) (ret := fw_rt k) (hh := hh) y6 rfl ?_
  intro p e s m args below meth c s₁ B hml hv
  obtain ⟨ha, hH, hZ, hbase⟩ := hv
  have hts := atoms_spec (ws := Cond.codeWith (fw_y k) (fw_B k) (fw_mL k) (fw_rt k) hh :: fw_ws) B.pre
  have hown : s.vm.findClass (fw_CN (fw_oc k)) = some m.cls := by rw [← y1]; exact findClass_of_methodNamed B.named
  have htab : c.exceptionTable.toList = tableOf hh := vx_table (x := fw_y k) B (hts _ List.mem_cons_self)
  have hki2 : fw_ki k ≠ 2 := by rw [hki]; decide
  refine fw_body hJ h0 hT ht hn hmc hms rfl rfl ha ⟨B.exec, B.bytes, hml, hown, fun w hw => hts w (List.mem_cons_of_mem _ hw), B.notSynchronized, fun _ => ?_, fun h2 => absurd h2 hki2, htr, Nat.le_refl _, Nat.le_refl _, hZ, hbase, fun h => absurd h h0, B.returns, hk⟩ hH
  rw [htab, hhe]
end FW14
end
section
theorem fw_oc_ok : ∀ k ∈ List.range 212, (fw_ki k = 0 ∨ fw_ki k = 2 → fw_oc k < 10) ∧ fw_oc k < 11 := by decide +kernel
theorem fw_blind {base b L : Nat} {xs : Nat → Int32} {D : va_G} {σ : fw_M} {tys : List (ClassId × FieldType)} {ws : va_W} {vs : List Value} : FrameBlind (va_Pc vs (fw_P base b L xs D σ tys ws)) := by
  intro a U g mk q
  obtain ⟨q1, q2, q3, q4⟩ := q
  exact ⟨q1, fw_H_moved (s := U) (t := U.calling g mk a) (Vm.Alike.refl U.vm) q2, fw_Z_go (s := U) (U := U.calling g mk a) (State.WarmedH.refl U) va_S.rf q3, q4⟩
theorem fw_pre {base b L : Nat} {xs : Nat → Int32} {D : va_G} {σ : fw_M} {tys : List (ClassId × FieldType)} {ws : va_W} {vs : List Value} {s : State} {H : Heap} {locs : List Loc} (hH : fw_H base b L xs D σ tys ws s H) (hS : va_S (fun q => base ≤ q) s.heap H locs) (hZ : fw_Z base s s.heap) (hb : base ≤ s.heap.size) :
    ∀ U : State, U.heap = H → s.WarmedH U.vm → va_Pc vs (fw_P base b L xs D σ tys ws) vs.toArray U := by
  intro U hU hW
  exact ⟨rfl, by rw [hU]; exact fw_H_moved hW.alike hH, by rw [hU]; exact fw_Z_go hW hS hZ, by rw [hU]; exact Nat.le_trans hb hS.1⟩
theorem fw_tags {as : List fw_V} {cal : Nat} (hk : cal < 212) (h : as.map Prod.fst = fw_pt cal) : ∀ a ∈ as, a.1 ≠ 1 ∧ a.1 ≠ 3 := by
  intro a ha
  have h1 := (fw_mL_ok cal (List.mem_range.mpr hk)).2.2.2.1
  have h2 := List.all_eq_true.mp h1 a.1 (by rw [← h]; exact List.mem_map_of_mem ha)
  simp only [Bool.and_eq_true, decide_eq_true_eq] at h2
  exact h2
theorem fw_good1 {w : Cond} (h : w ∈ fw_ws) : GoodIn fw_ws (w :: fw_ws) := fw_goodIn fun x hx => (List.mem_cons.mp hx).elim (fun e => e ▸ h) id
theorem fw_cwc {k : Nat} (hk : k < 212) (h0 : k ≠ 0) (h3 : fw_ki k ≠ 3) : Cond.code (fw_y k) (fw_B k) (fw_mL k) (fw_rt k) ∈ fw_ws := by
  have := fw_cwi k hk (by omega)
  unfold fw_cw at this
  rw [if_neg h3] at this
  exact this
theorem fw_cwh {k : Nat} (hk : k < 212) (h0 : k ≠ 0) (h3 : fw_ki k = 3) : Cond.codeWith (fw_y k) (fw_B k) (fw_mL k) (fw_rt k) ((fw_hs k).map (fun h => (h.1, h.2.1, h.2.2.1, h.2.2.2.1))) ∈ fw_ws := by
  have := fw_cwi k hk (by omega)
  unfold fw_cw at this
  rw [if_pos h3] at this
  exact this
theorem fw_j_callV {k pc n cal : Nat} {ll rest as : List fw_V} {r : Int} {σ : fw_M} {o out : fw_O} (hd : fw_dec k pc = some (.invokevirtual n, 3)) (hm : fw_mr (fw_oc k) n = some (cal, 0)) (hki : fw_ki cal = 0) (hrk : fw_rk cal < fw_rk k) (hlt : cal < 212) (h0 : cal ≠ 0) (htag : as.map Prod.fst = fw_pt cal) (hrcv : fw_kd r = (fw_oc cal : Int) + 3) (h4 : rest.length ≤ 4) (hcal : fw_J cal 0 (fw_en cal ((2, r) :: as)) [] σ o) (hAF : fw_AF k pc ll rest o out) : fw_J k pc ll (as.reverse ++ (2, r) :: rest) σ out := by
  obtain ⟨m1, m2⟩ := fw_AF_mono hAF
  have c1 := hcal.1.1
  have c2 := hcal.1.2
  refine ⟨⟨by omega, by omega⟩, ?_⟩
  intro base b L xs D p l e R s m args below meth c Q al0 C0 S0 hC hF hR1 hR2 tys ws H locs cells slots ls cst hH hS hal hc1 hc2 hL hT
  obtain ⟨y1, y2, y3, y4, y5, y6, y7, y8⟩ := fw_y_ok cal (List.mem_range.mpr hlt)
  obtain ⟨z1, z2, z3, z4, z5⟩ := fw_mL_ok cal (List.mem_range.mpr hlt)
  obtain ⟨q, hq, q1, q2, q3, q4⟩ := fw_mr_find hm
  have htr := hC.2.2.2.2.2.2.2.2.1
  have hfr := hC.2.2.2.2.2.2.2.2.2.1
  have hlo := hC.2.2.2.2.2.2.2.2.2.2.1
  have hlen : as.length = (fw_pt cal).length := by rw [← htag, List.length_map]
  obtain ⟨mc, hmc⟩ : ∃ mc : Nat, (mc : Int) = o.2 (-1) 1 - σ (-1) 1 := ⟨(o.2 (-1) 1 - σ (-1) 1).toNat, by omega⟩
  obtain ⟨ms, hms⟩ : ∃ ms : Nat, (ms : Int) = o.2 (-1) 2 - σ (-1) 2 := ⟨(o.2 (-1) 2 - σ (-1) 2).toNat, by omega⟩
  have hl := fw_mr_ok q hq (by rw [q3]; exact hlt) q4
  rw [q1, q2, q3] at hl
  obtain ⟨cas, crest0, rfl, hT1, hT2⟩ := fw_St_app hT
  obtain ⟨v, crest, rfl, hv, hT3⟩ := fw_St_cons hT2
  have has := fw_St_rev hT1
  rw [List.reverse_reverse] at has
  have hsm := fw_sum4 hT3 h4
  have hoc := (fw_oc_ok cal (List.mem_range.mpr hlt)).1 (by omega)
  obtain ⟨p0, a0, ent, hp, ea, rfl, he⟩ := fw_H_at hH hv (by omega)
  obtain ⟨fs, rfl, hfl, hfs⟩ := fw_obj he hrcv hoc
  have hM := fw_met (l := l) (as := (2, r) :: as) (vs := .ref a0 :: cas.reverse) (base := base) (b := b) (L := L) (xs := xs) (D := D) (tys := tys) (ws := ws) hlt h0 (by omega) htr hcal ⟨hv, has⟩ (fun a ha => (List.mem_cons.mp ha).elim (fun e => by rw [e]; exact ⟨show (2 : Nat) ≠ 1 by decide, show (2 : Nat) ≠ 3 by decide⟩) (fw_tags hlt htag a)) (by rw [List.length_cons]; omega) hmc hms
  have hsz : ls.size = fw_mL k := by obtain ⟨l9, g1, -⟩ := hL; exact g1.1
  have hcl : cas.length = as.length := by have := fw_St_len hT1; rw [List.length_reverse] at this; exact this
  refine fw_core (tys := tys) (a := (Value.ref a0 :: cas.reverse).toArray) (mc := mc) (ms := ms) hAF hC hF hR1 hR2 hS hal (by omega) (by omega) hL hT3 ?_
  refine vx_runV (As := cas.reverse) (rest := crest) (b := a0) ⟨hC.1, hC.2.1, hC.2.2.1, hC.2.2.2.1, hC.2.2.2.2.1⟩ hM (cwV (C := fw_CN (fw_oc cal)) (fw_pt cal).length hC.2.2.2.2.1 (fw_goodIn fun w hw => ?_) rfl rfl rfl ⟨y1, y3, y4, y5⟩ ⟨by show fw_rk cal + 6 + 1 ≤ R.frames; omega, by show 8 + (fw_mL cal + 11) + (30 * fw_rk cal + 100) ≤ R.locals; omega⟩) ⟨fw_blind, va_recv hH.1 hH.2.1 (fw_cl _ hoc) hp, fw_pre hH hS hC.2.2.2.2.2.2.2.2.2.2.2.1 hC.2.2.2.2.2.2.2.2.2.2.2.2.1⟩ rfl (by rw [List.length_reverse]; omega) hsz (by rw [List.reverse_reverse]) (lv_room hsm) (fw_de' hd) ⟨by omega, by omega⟩
  unfold wsV at hw
  rcases List.mem_append.mp hw with hw | hw
  · simp only [List.mem_cons, List.not_mem_nil, or_false] at hw
    rcases hw with rfl | rfl | rfl | rfl
    · exact fw_wd _ _ hl rfl
    · exact fw_in hlt (by omega) (Or.inl hki)
    · exact fw_sel hlt (by omega) hki
    · exact fw_ini _ (by omega)
  · exact (fw_good1 (fw_cwc hlt h0 (by omega)) w hw).1
theorem fw_j_callI {k pc n cal : Nat} {ll rest as : List fw_V} {r : Int} {σ : fw_M} {o out : fw_O} (hd : fw_dec k pc = some (.invokespecial n, 3)) (hm : fw_mr (fw_oc k) n = some (cal, 0)) (hki : fw_ki cal = 2) (hrk : fw_rk cal < fw_rk k) (hlt : cal < 212) (h0 : cal ≠ 0) (htag : as.map Prod.fst = fw_pt cal) (hrcv : fw_kd r = (fw_oc cal : Int) + 3) (h4 : rest.length ≤ 4) (hcal : fw_J cal 0 (fw_en cal ((2, r) :: as)) [] σ o) (hAF : fw_AF k pc ll rest o out) : fw_J k pc ll (as.reverse ++ (2, r) :: rest) σ out := by
  obtain ⟨m1, m2⟩ := fw_AF_mono hAF
  have c1 := hcal.1.1
  have c2 := hcal.1.2
  refine ⟨⟨by omega, by omega⟩, ?_⟩
  intro base b L xs D p l e R s m args below meth c Q al0 C0 S0 hC hF hR1 hR2 tys ws H locs cells slots ls cst hH hS hal hc1 hc2 hL hT
  obtain ⟨y1, y2, y3, y4, y5, y6, y7, y8⟩ := fw_y_ok cal (List.mem_range.mpr hlt)
  obtain ⟨z1, z2, z3, z4, z5⟩ := fw_mL_ok cal (List.mem_range.mpr hlt)
  obtain ⟨q, hq, q1, q2, q3, q4⟩ := fw_mr_find hm
  have htr := hC.2.2.2.2.2.2.2.2.1
  have hfr := hC.2.2.2.2.2.2.2.2.2.1
  have hlo := hC.2.2.2.2.2.2.2.2.2.2.1
  have hlen : as.length = (fw_pt cal).length := by rw [← htag, List.length_map]
  obtain ⟨mc, hmc⟩ : ∃ mc : Nat, (mc : Int) = o.2 (-1) 1 - σ (-1) 1 := ⟨(o.2 (-1) 1 - σ (-1) 1).toNat, by omega⟩
  obtain ⟨ms, hms⟩ : ∃ ms : Nat, (ms : Int) = o.2 (-1) 2 - σ (-1) 2 := ⟨(o.2 (-1) 2 - σ (-1) 2).toNat, by omega⟩
  have hl := fw_mr_ok q hq (by rw [q3]; exact hlt) q4
  rw [q1, q2, q3] at hl
  obtain ⟨cas, crest0, rfl, hT1, hT2⟩ := fw_St_app hT
  obtain ⟨v, crest, rfl, hv, hT3⟩ := fw_St_cons hT2
  have has := fw_St_rev hT1
  rw [List.reverse_reverse] at has
  have hsm := fw_sum4 hT3 h4
  have hoc := (fw_oc_ok cal (List.mem_range.mpr hlt)).1 (by omega)
  obtain ⟨p0, a0, ent, hp, ea, rfl, he⟩ := fw_H_at hH hv (by omega)
  obtain ⟨fs, rfl, hfl, hfs⟩ := fw_obj he hrcv hoc
  have hM := fw_met (l := l) (as := (2, r) :: as) (vs := .ref a0 :: cas.reverse) (base := base) (b := b) (L := L) (xs := xs) (D := D) (tys := tys) (ws := ws) hlt h0 (by omega) htr hcal ⟨hv, has⟩ (fun a ha => (List.mem_cons.mp ha).elim (fun e => by rw [e]; exact ⟨show (2 : Nat) ≠ 1 by decide, show (2 : Nat) ≠ 3 by decide⟩) (fw_tags hlt htag a)) (by rw [List.length_cons]; omega) hmc hms
  have hsz : ls.size = fw_mL k := by obtain ⟨l9, g1, -⟩ := hL; exact g1.1
  have hcl : cas.length = as.length := by have := fw_St_len hT1; rw [List.length_reverse] at this; exact this
  refine fw_core (tys := tys) (a := (Value.ref a0 :: cas.reverse).toArray) (mc := mc) (ms := ms) hAF hC hF hR1 hR2 hS hal (by omega) (by omega) hL hT3 ?_
  obtain ⟨yi1, yi2⟩ := y7 hki
  rw [yi2] at hM
  exact vx_runI (As := cas.reverse) (rest := crest) (b := a0) ⟨hC.1, hC.2.1, hC.2.2.1, hC.2.2.2.1, hC.2.2.2.2.1⟩ hM (cwI (fw_pt cal).length hC.2.2.2.2.1 (fw_good1 (by rw [← yi2]; exact fw_cwc hlt h0 (by omega))) rfl rfl rfl (by rw [y1]; exact hC.2.2.2.2.1 _ (fw_ini _ (by omega))) (hC.2.2.2.2.1 _ (fw_wd _ _ hl rfl)) (hC.2.2.2.2.1 _ (fw_in hlt (by omega) (Or.inr hki))) yi1 ⟨y3, y4, y5⟩ ⟨by show fw_rk cal + 6 + 1 ≤ R.frames; omega, by show 8 + (fw_mL cal + 11) + (30 * fw_rk cal + 100) ≤ R.locals; omega⟩) ⟨fw_blind, fw_pre hH hS hC.2.2.2.2.2.2.2.2.2.2.2.1 hC.2.2.2.2.2.2.2.2.2.2.2.2.1⟩ rfl (by rw [List.length_reverse]; omega) hsz (by rw [List.reverse_reverse]) (lv_room hsm) (fw_de' hd) ⟨by omega, by omega⟩
theorem fw_j_callIN {k pc n cal : Nat} {ll rest as : List fw_V} {r : Int} {σ : fw_M} {o out : fw_O} (hd : fw_dec k pc = some (.invokespecial n, 3)) (hm : fw_mr (fw_oc k) n = some (cal, 1)) (hki : fw_ki cal = 2) (hrk : fw_rk cal < fw_rk k) (hlt : cal < 212) (h0 : cal ≠ 0) (htag : as.map Prod.fst = fw_pt cal) (hrcv : fw_kd r = (fw_oc cal : Int) + 3) (h4 : rest.length ≤ 4) (hcal : fw_J cal 0 (fw_en cal ((2, r) :: as)) [] σ o) (hAF : fw_AF k pc ll rest o out) : fw_J k pc ll (as.reverse ++ (2, r) :: rest) σ out := by
  obtain ⟨m1, m2⟩ := fw_AF_mono hAF
  have c1 := hcal.1.1
  have c2 := hcal.1.2
  refine ⟨⟨by omega, by omega⟩, ?_⟩
  intro base b L xs D p l e R s m args below meth c Q al0 C0 S0 hC hF hR1 hR2 tys ws H locs cells slots ls cst hH hS hal hc1 hc2 hL hT
  obtain ⟨y1, y2, y3, y4, y5, y6, y7, y8⟩ := fw_y_ok cal (List.mem_range.mpr hlt)
  obtain ⟨z1, z2, z3, z4, z5⟩ := fw_mL_ok cal (List.mem_range.mpr hlt)
  obtain ⟨q, hq, q1, q2, q3, q4⟩ := fw_mr_find hm
  have htr := hC.2.2.2.2.2.2.2.2.1
  have hfr := hC.2.2.2.2.2.2.2.2.2.1
  have hlo := hC.2.2.2.2.2.2.2.2.2.2.1
  have hlen : as.length = (fw_pt cal).length := by rw [← htag, List.length_map]
  obtain ⟨mc, hmc⟩ : ∃ mc : Nat, (mc : Int) = o.2 (-1) 1 - σ (-1) 1 := ⟨(o.2 (-1) 1 - σ (-1) 1).toNat, by omega⟩
  obtain ⟨ms, hms⟩ : ∃ ms : Nat, (ms : Int) = o.2 (-1) 2 - σ (-1) 2 := ⟨(o.2 (-1) 2 - σ (-1) 2).toNat, by omega⟩
  have hl := (fw_nest_ok q hq q4).1
  rw [q1, q2, q3] at hl
  obtain ⟨cas, crest0, rfl, hT1, hT2⟩ := fw_St_app hT
  obtain ⟨v, crest, rfl, hv, hT3⟩ := fw_St_cons hT2
  have has := fw_St_rev hT1
  rw [List.reverse_reverse] at has
  have hsm := fw_sum4 hT3 h4
  have hoc := (fw_oc_ok cal (List.mem_range.mpr hlt)).1 (by omega)
  obtain ⟨p0, a0, ent, hp, ea, rfl, he⟩ := fw_H_at hH hv (by omega)
  obtain ⟨fs, rfl, hfl, hfs⟩ := fw_obj he hrcv hoc
  have hM := fw_met (l := l) (as := (2, r) :: as) (vs := .ref a0 :: cas.reverse) (base := base) (b := b) (L := L) (xs := xs) (D := D) (tys := tys) (ws := ws) hlt h0 (by omega) htr hcal ⟨hv, has⟩ (fun a ha => (List.mem_cons.mp ha).elim (fun e => by rw [e]; exact ⟨show (2 : Nat) ≠ 1 by decide, show (2 : Nat) ≠ 3 by decide⟩) (fw_tags hlt htag a)) (by rw [List.length_cons]; omega) hmc hms
  have hsz : ls.size = fw_mL k := by obtain ⟨l9, g1, -⟩ := hL; exact g1.1
  have hcl : cas.length = as.length := by have := fw_St_len hT1; rw [List.length_reverse] at this; exact this
  refine fw_core (tys := tys) (a := (Value.ref a0 :: cas.reverse).toArray) (mc := mc) (ms := ms) hAF hC hF hR1 hR2 hS hal (by omega) (by omega) hL hT3 ?_
  obtain ⟨yi1, yi2⟩ := y7 hki
  rw [yi2] at hM
  exact vx_runIN (As := cas.reverse) (rest := crest) (b := a0) ⟨hC.1, hC.2.1, hC.2.2.1, hC.2.2.2.1, hC.2.2.2.2.1⟩ hM ⟨va_cnB (fw_pt cal).length hC.2.2.2.2.1 (fw_good1 (by rw [← yi2]; exact fw_cwc hlt h0 (by omega))) rfl rfl rfl (hC.2.2.2.2.2.2.2.2.2.2.2.1.2.2.1 _ hl) (by rw [y1]; exact hC.2.2.2.2.1 _ (fw_ini _ (by omega))) ⟨y3, y4, y5⟩ ⟨by show fw_rk cal + 6 + 1 ≤ R.frames; omega, by show 8 + (fw_mL cal + 11) + (30 * fw_rk cal + 100) ≤ R.locals; omega⟩, yi1, hC.2.2.2.2.1 _ (fw_in hlt (by omega) (Or.inr hki))⟩ ⟨fw_blind, fw_pre hH hS hC.2.2.2.2.2.2.2.2.2.2.2.1 hC.2.2.2.2.2.2.2.2.2.2.2.2.1⟩ rfl (by rw [List.length_reverse]; omega) hsz (by rw [List.reverse_reverse]) (lv_room hsm) (fw_de' hd) ⟨by omega, by omega⟩
theorem fw_j_callS {k pc n cal : Nat} {ll rest as : List fw_V} {σ : fw_M} {o out : fw_O} (hd : fw_dec k pc = some (.invokestatic n, 3)) (hm : fw_mr (fw_oc k) n = some (cal, 0)) (hki : fw_ki cal = 1) (hrk : fw_rk cal < fw_rk k) (hlt : cal < 212) (h0 : cal ≠ 0) (htag : as.map Prod.fst = fw_pt cal) (h4 : rest.length ≤ 4) (hcal : fw_J cal 0 (fw_en cal (as)) [] σ o) (hAF : fw_AF k pc ll rest o out) : fw_J k pc ll (as.reverse ++ rest) σ out := by
  obtain ⟨m1, m2⟩ := fw_AF_mono hAF
  have c1 := hcal.1.1
  have c2 := hcal.1.2
  refine ⟨⟨by omega, by omega⟩, ?_⟩
  intro base b L xs D p l e R s m args below meth c Q al0 C0 S0 hC hF hR1 hR2 tys ws H locs cells slots ls cst hH hS hal hc1 hc2 hL hT
  obtain ⟨y1, y2, y3, y4, y5, y6, y7, y8⟩ := fw_y_ok cal (List.mem_range.mpr hlt)
  obtain ⟨z1, z2, z3, z4, z5⟩ := fw_mL_ok cal (List.mem_range.mpr hlt)
  obtain ⟨q, hq, q1, q2, q3, q4⟩ := fw_mr_find hm
  have htr := hC.2.2.2.2.2.2.2.2.1
  have hfr := hC.2.2.2.2.2.2.2.2.2.1
  have hlo := hC.2.2.2.2.2.2.2.2.2.2.1
  have hlen : as.length = (fw_pt cal).length := by rw [← htag, List.length_map]
  obtain ⟨mc, hmc⟩ : ∃ mc : Nat, (mc : Int) = o.2 (-1) 1 - σ (-1) 1 := ⟨(o.2 (-1) 1 - σ (-1) 1).toNat, by omega⟩
  obtain ⟨ms, hms⟩ : ∃ ms : Nat, (ms : Int) = o.2 (-1) 2 - σ (-1) 2 := ⟨(o.2 (-1) 2 - σ (-1) 2).toNat, by omega⟩
  have hl := fw_mr_ok q hq (by rw [q3]; exact hlt) q4
  rw [q1, q2, q3] at hl
  obtain ⟨cas, crest, rfl, hT1, hT3⟩ := fw_St_app hT
  have has := fw_St_rev hT1
  rw [List.reverse_reverse] at has
  have hsm := fw_sum4 hT3 h4
  have hsz : ls.size = fw_mL k := by obtain ⟨l9, g1, -⟩ := hL; exact g1.1
  have hcl : cas.length = as.length := by have := fw_St_len hT1; rw [List.length_reverse] at this; exact this
  have hM := fw_met (l := l) (as := as) (vs := cas.reverse) (base := base) (b := b) (L := L) (xs := xs) (D := D) (tys := tys) (ws := ws) hlt h0 (by omega) htr hcal has (fw_tags hlt htag) (by omega) hmc hms
  refine fw_core (tys := tys) (a := cas.reverse.toArray) (mc := mc) (ms := ms) hAF hC hF hR1 hR2 hS hal (by omega) (by omega) hL hT3 ?_
  refine vx_runS (As := cas.reverse) (rest := crest) ⟨hC.1, hC.2.1, hC.2.2.1, hC.2.2.2.1, hC.2.2.2.2.1⟩ hM (va_cwS (fw_pt cal).length hC.2.2.2.2.1 (fw_goodIn fun w hw => ?_) rfl rfl rfl ⟨y3, y4, y5⟩ ⟨by show fw_rk cal + 6 + 1 ≤ R.frames; omega, by show 8 + (fw_mL cal + 11) + (30 * fw_rk cal + 100) ≤ R.locals; omega⟩) ⟨fw_blind, fw_pre hH hS hC.2.2.2.2.2.2.2.2.2.2.2.1 hC.2.2.2.2.2.2.2.2.2.2.2.2.1⟩ rfl (by rw [List.length_reverse]; omega) hsz (by rw [List.reverse_reverse]) (lv_room hsm) (fw_de' hd) ⟨by omega, by omega⟩
  unfold va_wsS at hw
  rcases List.mem_append.mp hw with hw | hw
  · simp only [List.mem_cons, List.not_mem_nil, or_false] at hw
    rcases hw with rfl | rfl | rfl
    · exact fw_wd _ _ hl rfl
    · exact fw_stt hlt (by omega) (Or.inl hki)
    · rw [y1]; exact fw_ini _ y2
  · exact (fw_good1 (fw_cwc hlt h0 (by omega)) w hw).1
theorem fw_j_callSN {k pc n cal : Nat} {ll rest as : List fw_V} {σ : fw_M} {o out : fw_O} (hd : fw_dec k pc = some (.invokestatic n, 3)) (hm : fw_mr (fw_oc k) n = some (cal, 1)) (hki : fw_ki cal = 1) (hrk : fw_rk cal < fw_rk k) (hlt : cal < 212) (h0 : cal ≠ 0) (htag : as.map Prod.fst = fw_pt cal) (h4 : rest.length ≤ 4) (hcal : fw_J cal 0 (fw_en cal (as)) [] σ o) (hAF : fw_AF k pc ll rest o out) : fw_J k pc ll (as.reverse ++ rest) σ out := by
  obtain ⟨m1, m2⟩ := fw_AF_mono hAF
  have c1 := hcal.1.1
  have c2 := hcal.1.2
  refine ⟨⟨by omega, by omega⟩, ?_⟩
  intro base b L xs D p l e R s m args below meth c Q al0 C0 S0 hC hF hR1 hR2 tys ws H locs cells slots ls cst hH hS hal hc1 hc2 hL hT
  obtain ⟨y1, y2, y3, y4, y5, y6, y7, y8⟩ := fw_y_ok cal (List.mem_range.mpr hlt)
  obtain ⟨z1, z2, z3, z4, z5⟩ := fw_mL_ok cal (List.mem_range.mpr hlt)
  obtain ⟨q, hq, q1, q2, q3, q4⟩ := fw_mr_find hm
  have htr := hC.2.2.2.2.2.2.2.2.1
  have hfr := hC.2.2.2.2.2.2.2.2.2.1
  have hlo := hC.2.2.2.2.2.2.2.2.2.2.1
  have hlen : as.length = (fw_pt cal).length := by rw [← htag, List.length_map]
  obtain ⟨mc, hmc⟩ : ∃ mc : Nat, (mc : Int) = o.2 (-1) 1 - σ (-1) 1 := ⟨(o.2 (-1) 1 - σ (-1) 1).toNat, by omega⟩
  obtain ⟨ms, hms⟩ : ∃ ms : Nat, (ms : Int) = o.2 (-1) 2 - σ (-1) 2 := ⟨(o.2 (-1) 2 - σ (-1) 2).toNat, by omega⟩
  have hl := (fw_nest_ok q hq q4).1
  rw [q1, q2, q3] at hl
  obtain ⟨cas, crest, rfl, hT1, hT3⟩ := fw_St_app hT
  have has := fw_St_rev hT1
  rw [List.reverse_reverse] at has
  have hsm := fw_sum4 hT3 h4
  have hsz : ls.size = fw_mL k := by obtain ⟨l9, g1, -⟩ := hL; exact g1.1
  have hcl : cas.length = as.length := by have := fw_St_len hT1; rw [List.length_reverse] at this; exact this
  have hM := fw_met (l := l) (as := as) (vs := cas.reverse) (base := base) (b := b) (L := L) (xs := xs) (D := D) (tys := tys) (ws := ws) hlt h0 (by omega) htr hcal has (fw_tags hlt htag) (by omega) hmc hms
  refine fw_core (tys := tys) (a := cas.reverse.toArray) (mc := mc) (ms := ms) hAF hC hF hR1 hR2 hS hal (by omega) (by omega) hL hT3 ?_
  exact vx_runSN (As := cas.reverse) (rest := crest) ⟨hC.1, hC.2.1, hC.2.2.1, hC.2.2.2.1, hC.2.2.2.2.1⟩ hM ⟨va_cnB (fw_pt cal).length hC.2.2.2.2.1 (fw_good1 (fw_cwc hlt h0 (by omega))) rfl rfl rfl (hC.2.2.2.2.2.2.2.2.2.2.2.1.2.2.1 _ hl) (by rw [y1]; exact hC.2.2.2.2.1 _ (fw_ini _ y2)) ⟨y3, y4, y5⟩ ⟨by show fw_rk cal + 6 + 1 ≤ R.frames; omega, by show 8 + (fw_mL cal + 11) + (30 * fw_rk cal + 100) ≤ R.locals; omega⟩, hC.2.2.2.2.1 _ (fw_stt hlt (by omega) (Or.inl hki)), trivial⟩ ⟨fw_blind, fw_pre hH hS hC.2.2.2.2.2.2.2.2.2.2.2.1 hC.2.2.2.2.2.2.2.2.2.2.2.2.1⟩ rfl (by rw [List.length_reverse]; omega) hsz (by rw [List.reverse_reverse]) (lv_room hsm) (fw_de' hd) ⟨by omega, by omega⟩
theorem fw_j_callSX {k pc n cal : Nat} {ll rest as : List fw_V} {σ : fw_M} {o out : fw_O} (hd : fw_dec k pc = some (.invokestatic n, 3)) (hm : fw_mr (fw_oc k) n = some (cal, 0)) (hki : fw_ki cal = 3) (hrk : fw_rk cal < fw_rk k) (hlt : cal < 212) (h0 : cal ≠ 0) (htag : as.map Prod.fst = fw_pt cal) (h4 : rest.length ≤ 4) (hcal : fw_J cal 0 (fw_en cal (as)) [] σ o) (hAF : fw_AF k pc ll rest o out) : fw_J k pc ll (as.reverse ++ rest) σ out := by
  obtain ⟨m1, m2⟩ := fw_AF_mono hAF
  have c1 := hcal.1.1
  have c2 := hcal.1.2
  refine ⟨⟨by omega, by omega⟩, ?_⟩
  intro base b L xs D p l e R s m args below meth c Q al0 C0 S0 hC hF hR1 hR2 tys ws H locs cells slots ls cst hH hS hal hc1 hc2 hL hT
  obtain ⟨y1, y2, y3, y4, y5, y6, y7, y8⟩ := fw_y_ok cal (List.mem_range.mpr hlt)
  obtain ⟨z1, z2, z3, z4, z5⟩ := fw_mL_ok cal (List.mem_range.mpr hlt)
  obtain ⟨q, hq, q1, q2, q3, q4⟩ := fw_mr_find hm
  have htr := hC.2.2.2.2.2.2.2.2.1
  have hfr := hC.2.2.2.2.2.2.2.2.2.1
  have hlo := hC.2.2.2.2.2.2.2.2.2.2.1
  have hlen : as.length = (fw_pt cal).length := by rw [← htag, List.length_map]
  obtain ⟨mc, hmc⟩ : ∃ mc : Nat, (mc : Int) = o.2 (-1) 1 - σ (-1) 1 := ⟨(o.2 (-1) 1 - σ (-1) 1).toNat, by omega⟩
  obtain ⟨ms, hms⟩ : ∃ ms : Nat, (ms : Int) = o.2 (-1) 2 - σ (-1) 2 := ⟨(o.2 (-1) 2 - σ (-1) 2).toNat, by omega⟩
  have hl := fw_mr_ok q hq (by rw [q3]; exact hlt) q4
  rw [q1, q2, q3] at hl
  obtain ⟨cas, crest, rfl, hT1, hT3⟩ := fw_St_app hT
  have has := fw_St_rev hT1
  rw [List.reverse_reverse] at has
  have hsm := fw_sum4 hT3 h4
  have hsz : ls.size = fw_mL k := by obtain ⟨l9, g1, -⟩ := hL; exact g1.1
  have hcl : cas.length = as.length := by have := fw_St_len hT1; rw [List.length_reverse] at this; exact this
  obtain ⟨hh, hhe⟩ : ∃ hh, hh = (fw_hs cal).map (fun h => (h.1, h.2.1, h.2.2.1, h.2.2.2.1)) := ⟨_, rfl⟩
  have hcw := fw_cwh hlt h0 hki
  rw [← hhe] at hcw
  have hM := fw_metH (l := l) (as := as) (vs := cas.reverse) (base := base) (b := b) (L := L) (xs := xs) (D := D) (tys := tys) (ws := ws) hlt h0 hki htr hhe hcal has (fw_tags hlt htag) (by omega) hmc hms
  refine fw_core (tys := tys) (a := cas.reverse.toArray) (mc := mc) (ms := ms) hAF hC hF hR1 hR2 hS hal (by omega) (by omega) hL hT3 ?_
  refine vx_runSX (hh := hh) (As := cas.reverse) (rest := crest) ⟨hC.1, hC.2.1, hC.2.2.1, hC.2.2.2.1, hC.2.2.2.2.1⟩ hM (vx_cwSW (fw_pt cal).length hC.2.2.2.2.1 (fw_goodIn fun w hw => ?_) rfl rfl rfl ⟨y3, y4, y5⟩ ⟨by show fw_rk cal + 6 + 1 ≤ R.frames; omega, by show 8 + (fw_mL cal + 11) + (30 * fw_rk cal + 100) ≤ R.locals; omega⟩) ⟨fw_blind, fw_pre hH hS hC.2.2.2.2.2.2.2.2.2.2.2.1 hC.2.2.2.2.2.2.2.2.2.2.2.2.1⟩ rfl (by rw [List.length_reverse]; omega) hsz (by rw [List.reverse_reverse]) (lv_room hsm) (fw_de' hd) ⟨by omega, by omega⟩
  unfold va_wsS at hw
  rcases List.mem_append.mp hw with hw | hw
  · simp only [List.mem_cons, List.not_mem_nil, or_false] at hw
    rcases hw with rfl | rfl | rfl
    · exact fw_wd _ _ hl rfl
    · exact fw_stt hlt (by omega) (Or.inr hki)
    · rw [y1]; exact fw_ini _ y2
  · exact (fw_good1 hcw w hw).1
theorem fw_j_throw {k pc n ic x : Nat} {ll : List fw_V} {σ : fw_M} (hd : fw_dec k pc = some (.new n, 3)) (hx : fw_xr n = some (ic, x)) (ho : fw_oc k = 8) (hhs : fw_hs k = []) (d3 : fw_dec k (pc + 3) = some (.dup, 1)) (d4 : fw_dec k (pc + 4) = some (.invokespecial ic, 3)) (d7 : fw_dec k (pc + 7) = some (.athrow, 1)) : fw_J k pc ll [] σ ((9, (x : Int)), fw_ex σ) := by
  have e1 : fw_ex σ (-1) 1 = σ (-1) 1 + 1 := rfl
  have e2 : fw_ex σ (-1) 2 = σ (-1) 2 + 6 := rfl
  refine ⟨⟨by show σ (-1) 1 ≤ fw_ex σ (-1) 1; omega, by show σ (-1) 2 ≤ fw_ex σ (-1) 2; omega⟩, ?_⟩
  intro base b L xs D p l e R s m args below meth c Q al0 C0 S0 hC hF hR1 hR2 tys ws H locs cells slots ls cst hH hS hal hc1 hc2 hL hT
  have hR1 : fw_ex σ (-1) 1 - C0 ≤ R.cells := hR1
  have hR2 : fw_ex σ (-1) 2 - S0 ≤ R.slots := hR2
  have := fw_St_nil hT
  subst this
  have hk0 : k ≠ 0 := by
    intro h
    subst h
    have : fw_oc 0 = 10 := by decide +kernel
    omega
  have hsz : ls.size = fw_mL k := by obtain ⟨l9, g1, -⟩ := hL; exact g1.1
  unfold fw_xr at hx
  obtain ⟨q, hq1, hq2⟩ := Option.map_eq_some_iff.mp hx
  have hp := List.find?_some hq1
  simp only [beq_iff_eq] at hp
  exact hF.2.2 σ n ic x rfl rfl ho hhs hk0 ⟨q, List.mem_of_find?_eq_some hq1, hp, congrArg Prod.fst hq2, congrArg Prod.snd hq2⟩ tys ws H locs cells slots pc ls hsz (fw_de' hd) (fw_de' d3) (fw_de' d4) (fw_de' d7) hH hS hal hc1 hc2 (by omega) (by omega)
theorem fw_j_ret {k pc : Nat} {ll st : List fw_V} {σ : fw_M} {v : fw_V} {i : Instr} (hd : fw_dec k pc = some (i, 1)) (hv : ∀ (al : List Nat) (b : Nat) (cst : List Value), fw_St al b st cst → fw_rv k al b v i cst) : fw_J k pc ll st σ (v, σ) := by
  refine ⟨⟨Int.le_refl _, Int.le_refl _⟩, ?_⟩
  intro base b L xs D p l e R s m args below meth c Q al0 C0 S0 hC hF hR1 hR2 tys ws H locs cells slots ls cst hH hS hal hc1 hc2 hL hT
  exact hF.1 tys ws H locs cells slots pc ls cst i (fw_de' hd) hH hS hal hc1 hc2 (hv _ _ _ hT)
end
section
theorem zz_last : True := trivial
end
