/-! instructions as equations -/
theorem fw_e_i {k pc n : Nat} {i : Instr} {ll st : List fw_V} {σ : fw_M} (hd : fw_dec k pc = some (i, n)) (hl : fw_il i n = true) : fw_s1 k pc ll st σ = fw_si k pc ll st σ i := by
  unfold fw_s1
  rw [hd]
  exact if_pos hl
theorem fw_e_iconst {k pc : Nat} {ll st : List fw_V} {σ : fw_M} {n : Int} {z : Int} (hd : fw_dec k pc = some (.iconst n, 1)) (hz : (Int32.ofInt n).toInt = z) : fw_E k pc ll st σ = fw_E k (pc + 1) ll ((0, z) :: st) σ := fw_E_nx (by
  rw [fw_e_i hd rfl]
  unfold fw_si
  rw [← hz]; rfl)
theorem fw_e_bipush {k pc : Nat} {ll st : List fw_V} {σ : fw_M} {n : Int} {z : Int} (hd : fw_dec k pc = some (.bipush n, 2)) (hz : (Int8.ofInt n).toInt32.toInt = z) : fw_E k pc ll st σ = fw_E k (pc + 2) ll ((0, z) :: st) σ := fw_E_nx (by
  rw [fw_e_i hd rfl]
  unfold fw_si
  rw [← hz]; rfl)
theorem fw_e_sipush {k pc : Nat} {ll st : List fw_V} {σ : fw_M} {n : Int} {z : Int} (hd : fw_dec k pc = some (.sipush n, 3)) (hz : (Int16.ofInt n).toInt32.toInt = z) : fw_E k pc ll st σ = fw_E k (pc + 3) ll ((0, z) :: st) σ := fw_E_nx (by
  rw [fw_e_i hd rfl]
  unfold fw_si
  rw [← hz]; rfl)
theorem fw_e_lconst {k pc : Nat} {ll st : List fw_V} {σ : fw_M} {n : Fin 2} {z : Int} (hd : fw_dec k pc = some (.lconst n, 1)) (hz : (Int64.ofNat (n : Nat)).toInt = z) : fw_E k pc ll st σ = fw_E k (pc + 1) ll ((1, z) :: st) σ := fw_E_nx (by
  rw [fw_e_i hd rfl]
  unfold fw_si
  rw [← hz]; rfl)
theorem fw_e_fconst0 {k pc : Nat} {ll st : List fw_V} {σ : fw_M} (hd : fw_dec k pc = some (.fconst 0, 1)) : fw_E k pc ll st σ = fw_E k (pc + 1) ll ((4, (FP.fconst0.toNat : Int)) :: st) σ := fw_E_nx (by
  rw [fw_e_i hd rfl]
  unfold fw_si
  exact if_pos rfl)
theorem fw_e_dconst0 {k pc : Nat} {ll st : List fw_V} {σ : fw_M} (hd : fw_dec k pc = some (.dconst 0, 1)) : fw_E k pc ll st σ = fw_E k (pc + 1) ll ((3, (FP.dconst0.toNat : Int)) :: st) σ := fw_E_nx (by
  rw [fw_e_i hd rfl]
  unfold fw_si
  exact if_pos rfl)
theorem fw_e_null {k pc : Nat} {ll st : List fw_V} {σ : fw_M} (hd : fw_dec k pc = some (.aconst_null, 1)) : fw_E k pc ll st σ = fw_E k (pc + 1) ll ((2, 0) :: st) σ := fw_E_nx (by
  rw [fw_e_i hd rfl]
  unfold fw_si
  rfl)
theorem fw_e_ldc {k pc : Nat} {ll st : List fw_V} {σ : fw_M} {n : Nat} {v : Int} (hd : fw_dec k pc = some (.ldc n, 2)) (hv : fw_ck (fw_oc k) n = some v) : fw_E k pc ll st σ = fw_E k (pc + 2) ll ((0, v) :: st) σ := fw_E_nx (by
  rw [fw_e_i hd rfl]
  unfold fw_si
  dsimp only; rw [hv]; rfl)
theorem fw_e_ldc2 {k pc : Nat} {ll st : List fw_V} {σ : fw_M} {n : Nat} {v : Int} (hd : fw_dec k pc = some (.ldc2_w n, 3)) (hv : fw_cl2 (fw_oc k) n = some v) : fw_E k pc ll st σ = fw_E k (pc + 3) ll ((1, v) :: st) σ := fw_E_nx (by
  rw [fw_e_i hd rfl]
  unfold fw_si
  dsimp only; rw [hv]; rfl)
theorem fw_e_iload_n {k pc : Nat} {ll st : List fw_V} {σ : fw_M} {n : Fin 4} {x : Int} (hd : fw_dec k pc = some (.iload_n n, 1)) (hg : fw_g ll n = (0, x)) : fw_E k pc ll st σ = fw_E k (pc + 1) ll ((0, x) :: st) σ := fw_E_nx (by
  rw [fw_e_i hd rfl]
  unfold fw_si
  simp only [hg]; rfl)
theorem fw_e_iload {k pc : Nat} {ll st : List fw_V} {σ : fw_M} {n : Nat} {x : Int} (hd : fw_dec k pc = some (.iload n, 2)) (hg : fw_g ll n = (0, x)) : fw_E k pc ll st σ = fw_E k (pc + 2) ll ((0, x) :: st) σ := fw_E_nx (by
  rw [fw_e_i hd rfl]
  unfold fw_si
  simp only [hg]; rfl)
theorem fw_e_aload_n2 {k pc : Nat} {ll st : List fw_V} {σ : fw_M} {n : Fin 4} {x : Int} (hd : fw_dec k pc = some (.aload_n n, 1)) (hg : fw_g ll n = (2, x)) : fw_E k pc ll st σ = fw_E k (pc + 1) ll ((2, x) :: st) σ := fw_E_nx (by
  rw [fw_e_i hd rfl]
  unfold fw_si
  simp only [hg]; rfl)
theorem fw_e_aload_n6 {k pc : Nat} {ll st : List fw_V} {σ : fw_M} {n : Fin 4} {x : Int} (hd : fw_dec k pc = some (.aload_n n, 1)) (hg : fw_g ll n = (6, x)) : fw_E k pc ll st σ = fw_E k (pc + 1) ll ((6, x) :: st) σ := fw_E_nx (by
  rw [fw_e_i hd rfl]
  unfold fw_si
  simp only [hg]; rfl)
theorem fw_e_aload2 {k pc : Nat} {ll st : List fw_V} {σ : fw_M} {n : Nat} {x : Int} (hd : fw_dec k pc = some (.aload n, 2)) (hg : fw_g ll n = (2, x)) : fw_E k pc ll st σ = fw_E k (pc + 2) ll ((2, x) :: st) σ := fw_E_nx (by
  rw [fw_e_i hd rfl]
  unfold fw_si
  simp only [hg]; rfl)
theorem fw_e_aload6 {k pc : Nat} {ll st : List fw_V} {σ : fw_M} {n : Nat} {x : Int} (hd : fw_dec k pc = some (.aload n, 2)) (hg : fw_g ll n = (6, x)) : fw_E k pc ll st σ = fw_E k (pc + 2) ll ((6, x) :: st) σ := fw_E_nx (by
  rw [fw_e_i hd rfl]
  unfold fw_si
  simp only [hg]; rfl)
theorem fw_e_lload_n {k pc : Nat} {ll st : List fw_V} {σ : fw_M} {n : Fin 4} {x : Int} (hd : fw_dec k pc = some (.lload_n n, 1)) (hg : fw_g ll n = (1, x)) : fw_E k pc ll st σ = fw_E k (pc + 1) ll ((1, x) :: st) σ := fw_E_nx (by
  rw [fw_e_i hd rfl]
  unfold fw_si
  simp only [hg]; rfl)
theorem fw_e_lload {k pc : Nat} {ll st : List fw_V} {σ : fw_M} {n : Nat} {x : Int} (hd : fw_dec k pc = some (.lload n, 2)) (hg : fw_g ll n = (1, x)) : fw_E k pc ll st σ = fw_E k (pc + 2) ll ((1, x) :: st) σ := fw_E_nx (by
  rw [fw_e_i hd rfl]
  unfold fw_si
  simp only [hg]; rfl)
theorem fw_e_fload {k pc : Nat} {ll st : List fw_V} {σ : fw_M} {n : Nat} {x : Int} (hd : fw_dec k pc = some (.fload n, 2)) (hg : fw_g ll n = (4, x)) : fw_E k pc ll st σ = fw_E k (pc + 2) ll ((4, x) :: st) σ := fw_E_nx (by
  rw [fw_e_i hd rfl]
  unfold fw_si
  simp only [hg]; rfl)
theorem fw_e_istore_n {k pc : Nat} {ll st : List fw_V} {σ : fw_M} {n : Fin 4} {x : Int} (hd : fw_dec k pc = some (.istore_n n, 1)) (hs : fw_so k ll n = true) : fw_E k pc ll ((0, x) :: st) σ = fw_E k (pc + 1) (ll.set n (0, x)) st σ := fw_E_nx (by
  rw [fw_e_i hd rfl]
  unfold fw_si
  exact if_pos hs)
theorem fw_e_istore {k pc : Nat} {ll st : List fw_V} {σ : fw_M} {n : Nat} {x : Int} (hd : fw_dec k pc = some (.istore n, 2)) (hs : fw_so k ll n = true) : fw_E k pc ll ((0, x) :: st) σ = fw_E k (pc + 2) (ll.set n (0, x)) st σ := fw_E_nx (by
  rw [fw_e_i hd rfl]
  unfold fw_si
  exact if_pos hs)
theorem fw_e_astore_n {k pc : Nat} {ll st : List fw_V} {σ : fw_M} {n : Fin 4} {x : Int} (hd : fw_dec k pc = some (.astore_n n, 1)) (hs : fw_so k ll n = true) : fw_E k pc ll ((2, x) :: st) σ = fw_E k (pc + 1) (ll.set n (2, x)) st σ := fw_E_nx (by
  rw [fw_e_i hd rfl]
  unfold fw_si
  exact if_pos hs)
theorem fw_e_astore {k pc : Nat} {ll st : List fw_V} {σ : fw_M} {n : Nat} {x : Int} (hd : fw_dec k pc = some (.astore n, 2)) (hs : fw_so k ll n = true) : fw_E k pc ll ((2, x) :: st) σ = fw_E k (pc + 2) (ll.set n (2, x)) st σ := fw_E_nx (by
  rw [fw_e_i hd rfl]
  unfold fw_si
  exact if_pos hs)
theorem fw_e_astore_n7 {k pc : Nat} {ll st : List fw_V} {σ : fw_M} {n : Fin 4} {x : Int} (hd : fw_dec k pc = some (.astore_n n, 1)) (hs : fw_so k ll n = true) : fw_E k pc ll ((7, x) :: st) σ = fw_E k (pc + 1) (ll.set n (7, x)) st σ := fw_E_nx (by
  rw [fw_e_i hd rfl]
  unfold fw_si
  exact if_pos hs)
theorem fw_e_astore7 {k pc : Nat} {ll st : List fw_V} {σ : fw_M} {n : Nat} {x : Int} (hd : fw_dec k pc = some (.astore n, 2)) (hs : fw_so k ll n = true) : fw_E k pc ll ((7, x) :: st) σ = fw_E k (pc + 2) (ll.set n (7, x)) st σ := fw_E_nx (by
  rw [fw_e_i hd rfl]
  unfold fw_si
  exact if_pos hs)
theorem fw_e_fstore {k pc : Nat} {ll st : List fw_V} {σ : fw_M} {n : Nat} {x : Int} (hd : fw_dec k pc = some (.fstore n, 2)) (hs : fw_so k ll n = true) : fw_E k pc ll ((4, x) :: st) σ = fw_E k (pc + 2) (ll.set n (4, x)) st σ := fw_E_nx (by
  rw [fw_e_i hd rfl]
  unfold fw_si
  exact if_pos hs)
theorem fw_e_lstore_n {k pc : Nat} {ll st : List fw_V} {σ : fw_M} {n : Fin 4} {x : Int} (hd : fw_dec k pc = some (.lstore_n n, 1)) (hs : fw_so k ll n = true) (h0 : k = fw_KS) (hm : (n : Nat) + 1 < fw_mL k) : fw_E k pc ll ((1, x) :: st) σ = fw_E k (pc + 1) ((ll.set n (1, x)).set ((n : Nat) + 1) (8, 0)) st σ := fw_E_nx (by
  rw [fw_e_i hd rfl]
  unfold fw_si
  exact if_pos ⟨hs, h0, hm⟩)
theorem fw_e_lstore {k pc : Nat} {ll st : List fw_V} {σ : fw_M} {n : Nat} {x : Int} (hd : fw_dec k pc = some (.lstore n, 2)) (hs : fw_so k ll n = true) (h0 : k = fw_KS) (hm : n + 1 < fw_mL k) : fw_E k pc ll ((1, x) :: st) σ = fw_E k (pc + 2) ((ll.set n (1, x)).set (n + 1) (8, 0)) st σ := fw_E_nx (by
  rw [fw_e_i hd rfl]
  unfold fw_si
  exact if_pos ⟨hs, h0, hm⟩)
theorem fw_e_iinc {k pc : Nat} {ll st : List fw_V} {σ : fw_M} {n : Nat} {x c : Int} (hd : fw_dec k pc = some (.iinc n c, 3)) (hg : fw_g ll n = (0, x)) (hs : fw_so k ll n = true) : fw_E k pc ll st σ = fw_E k (pc + 3) (ll.set n (0, fw_w (x + c))) st σ := fw_E_nx (by
  rw [fw_e_i hd rfl]
  unfold fw_si
  simp only [hg]; exact if_pos ⟨trivial, hs⟩)
theorem fw_e_iadd {k pc : Nat} {ll st : List fw_V} {σ : fw_M} {x y : Int} (hd : fw_dec k pc = some (.iadd, 1)) : fw_E k pc ll ((0, y) :: (0, x) :: st) σ = fw_E k (pc + 1) ll ((0, fw_w (x + y)) :: st) σ := fw_E_nx (by
  rw [fw_e_i hd rfl]
  unfold fw_si
  rfl)
theorem fw_e_isub {k pc : Nat} {ll st : List fw_V} {σ : fw_M} {x y : Int} (hd : fw_dec k pc = some (.isub, 1)) : fw_E k pc ll ((0, y) :: (0, x) :: st) σ = fw_E k (pc + 1) ll ((0, fw_w (x - y)) :: st) σ := fw_E_nx (by
  rw [fw_e_i hd rfl]
  unfold fw_si
  rfl)
theorem fw_e_imul {k pc : Nat} {ll st : List fw_V} {σ : fw_M} {x y : Int} (hd : fw_dec k pc = some (.imul, 1)) : fw_E k pc ll ((0, y) :: (0, x) :: st) σ = fw_E k (pc + 1) ll ((0, fw_w (x * y)) :: st) σ := fw_E_nx (by
  rw [fw_e_i hd rfl]
  unfold fw_si
  rfl)
theorem fw_e_irem {k pc : Nat} {ll st : List fw_V} {σ : fw_M} {x y : Int} (hd : fw_dec k pc = some (.irem, 1)) (h0 : 0 ≤ x) (h1 : 0 < y) : fw_E k pc ll ((0, y) :: (0, x) :: st) σ = fw_E k (pc + 1) ll ((0, x % y) :: st) σ := fw_E_nx (by
  rw [fw_e_i hd rfl]
  unfold fw_si
  exact if_pos ⟨h0, h1⟩)
theorem fw_e_iand {k pc : Nat} {ll st : List fw_V} {σ : fw_M} {x y : Int} (hd : fw_dec k pc = some (.iand, 1)) : fw_E k pc ll ((0, y) :: (0, x) :: st) σ = fw_E k (pc + 1) ll ((0, fw_an x y) :: st) σ := fw_E_nx (by
  rw [fw_e_i hd rfl]
  unfold fw_si
  rfl)
theorem fw_e_ishr {k pc : Nat} {ll st : List fw_V} {σ : fw_M} {x y : Int} (hd : fw_dec k pc = some (.ishr, 1)) : fw_E k pc ll ((0, y) :: (0, x) :: st) σ = fw_E k (pc + 1) ll ((0, fw_sh x y) :: st) σ := fw_E_nx (by
  rw [fw_e_i hd rfl]
  unfold fw_si
  rfl)
theorem fw_e_lrem {k pc : Nat} {ll st : List fw_V} {σ : fw_M} {x y : Int} (hd : fw_dec k pc = some (.lrem, 1)) (h0 : 0 ≤ x) (h1 : 0 < y) : fw_E k pc ll ((1, y) :: (1, x) :: st) σ = fw_E k (pc + 1) ll ((1, x % y) :: st) σ := fw_E_nx (by
  rw [fw_e_i hd rfl]
  unfold fw_si
  exact if_pos ⟨h0, h1⟩)
theorem fw_e_lmul {k pc : Nat} {ll st : List fw_V} {σ : fw_M} {x y : Int} (hd : fw_dec k pc = some (.lmul, 1)) : fw_E k pc ll ((1, y) :: (1, x) :: st) σ = fw_E k (pc + 1) ll ((1, fw_wl (x * y)) :: st) σ := fw_E_nx (by
  rw [fw_e_i hd rfl]
  unfold fw_si
  rfl)
theorem fw_e_l2i {k pc : Nat} {ll st : List fw_V} {σ : fw_M} {x : Int} (hd : fw_dec k pc = some (.l2i, 1)) : fw_E k pc ll ((1, x) :: st) σ = fw_E k (pc + 1) ll ((0, fw_w x) :: st) σ := fw_E_nx (by
  rw [fw_e_i hd rfl]
  unfold fw_si
  rfl)
theorem fw_e_dup_x2 {k pc : Nat} {ll st : List fw_V} {σ : fw_M} {x y z : Int} (hd : fw_dec k pc = some (.dup_x2, 1)) : fw_E k pc ll ((0, x) :: (0, y) :: (2, z) :: st) σ = fw_E k (pc + 1) ll ((0, x) :: (0, y) :: (2, z) :: (0, x) :: st) σ := fw_E_nx (by
  rw [fw_e_i hd rfl]
  unfold fw_si
  rfl)
theorem fw_e_mna {k pc : Nat} {ll st : List fw_V} {σ : fw_M} {z : Int} (hd : fw_dec k pc = some (.multianewarray 23 2, 4)) (ho : fw_oc k = 9) (h37 : fw_r σ (-1) 0 = 37) : fw_E k pc ll [(0, 30), (0, 6), (2, z)] σ = fw_E k (pc + 4) ll [(2, 37), (2, z)] (fw_mn σ) := fw_E_nx (by
  rw [fw_e_i hd rfl]
  unfold fw_si
  exact if_pos ⟨rfl, rfl, ho, rfl, rfl, h37⟩)
theorem fw_e_ladd {k pc : Nat} {ll st : List fw_V} {σ : fw_M} {x y : Int} (hd : fw_dec k pc = some (.ladd, 1)) : fw_E k pc ll ((1, y) :: (1, x) :: st) σ = fw_E k (pc + 1) ll ((1, fw_wl (x + y)) :: st) σ := fw_E_nx (by
  rw [fw_e_i hd rfl]
  unfold fw_si
  rfl)
theorem fw_e_lcmp {k pc : Nat} {ll st : List fw_V} {σ : fw_M} {x y : Int} (hd : fw_dec k pc = some (.lcmp, 1)) : fw_E k pc ll ((1, y) :: (1, x) :: st) σ = fw_E k (pc + 1) ll ((0, if y < x then 1 else if x = y then 0 else -1) :: st) σ := fw_E_nx (by
  rw [fw_e_i hd rfl]
  unfold fw_si
  rfl)
theorem fw_e_i2l {k pc : Nat} {ll st : List fw_V} {σ : fw_M} {x : Int} (hd : fw_dec k pc = some (.i2l, 1)) : fw_E k pc ll ((0, x) :: st) σ = fw_E k (pc + 1) ll ((1, x) :: st) σ := fw_E_nx (by
  rw [fw_e_i hd rfl]
  unfold fw_si
  rfl)
theorem fw_e_i2d {k pc : Nat} {ll st : List fw_V} {σ : fw_M} {x : Int} (hd : fw_dec k pc = some (.i2d, 1)) : fw_E k pc ll ((0, x) :: st) σ = fw_E k (pc + 1) ll ((3, ((FP.i2d (Int32.ofInt x)).toNat : Int)) :: st) σ := fw_E_nx (by
  rw [fw_e_i hd rfl]
  unfold fw_si
  rfl)
theorem fw_e_i2f {k pc : Nat} {ll st : List fw_V} {σ : fw_M} {x : Int} (hd : fw_dec k pc = some (.i2f, 1)) : fw_E k pc ll ((0, x) :: st) σ = fw_E k (pc + 1) ll ((4, ((FP.i2f (Int32.ofInt x)).toNat : Int)) :: st) σ := fw_E_nx (by
  rw [fw_e_i hd rfl]
  unfold fw_si
  rfl)
theorem fw_e_l2d {k pc : Nat} {ll st : List fw_V} {σ : fw_M} {x : Int} (hd : fw_dec k pc = some (.l2d, 1)) : fw_E k pc ll ((1, x) :: st) σ = fw_E k (pc + 1) ll ((3, ((FP.l2d (Int64.ofInt x)).toNat : Int)) :: st) σ := fw_E_nx (by
  rw [fw_e_i hd rfl]
  unfold fw_si
  rfl)
theorem fw_e_f2d {k pc : Nat} {ll st : List fw_V} {σ : fw_M} {x : Int} (hd : fw_dec k pc = some (.f2d, 1)) (hn : fw_n64 (FP.f2d (fw_ff x)) = true) : fw_E k pc ll ((4, x) :: st) σ = fw_E k (pc + 1) ll ((3, ((FP.f2d (fw_ff x)).toNat : Int)) :: st) σ := fw_E_nx (by
  rw [fw_e_i hd rfl]
  unfold fw_si
  exact if_pos hn)
theorem fw_e_ddiv {k pc : Nat} {ll st : List fw_V} {σ : fw_M} {x y : Int} (hd : fw_dec k pc = some (.ddiv, 1)) (hn : fw_n64 (FP.ddiv (fw_dd x) (fw_dd y)) = true) : fw_E k pc ll ((3, y) :: (3, x) :: st) σ = fw_E k (pc + 1) ll ((3, ((FP.ddiv (fw_dd x) (fw_dd y)).toNat : Int)) :: st) σ := fw_E_nx (by
  rw [fw_e_i hd rfl]
  unfold fw_si
  exact if_pos hn)
theorem fw_e_fdiv {k pc : Nat} {ll st : List fw_V} {σ : fw_M} {x y : Int} (hd : fw_dec k pc = some (.fdiv, 1)) (hn : fw_n32 (FP.fdiv (fw_ff x) (fw_ff y)) = true) : fw_E k pc ll ((4, y) :: (4, x) :: st) σ = fw_E k (pc + 1) ll ((4, ((FP.fdiv (fw_ff x) (fw_ff y)).toNat : Int)) :: st) σ := fw_E_nx (by
  rw [fw_e_i hd rfl]
  unfold fw_si
  exact if_pos hn)
theorem fw_e_dcmp {k pc : Nat} {ll st : List fw_V} {σ : fw_M} {x y : Int} {op : _} (hd : fw_dec k pc = some (.dcmp op, 1)) : fw_E k pc ll ((3, y) :: (3, x) :: st) σ = fw_E k (pc + 1) ll ((0, (Op.cmpValue (FP.dcmp (fw_dd x) (fw_dd y)) op).toInt) :: st) σ := fw_E_nx (by
  rw [fw_e_i hd rfl]
  unfold fw_si
  rfl)
theorem fw_e_fcmp {k pc : Nat} {ll st : List fw_V} {σ : fw_M} {x y : Int} {op : _} (hd : fw_dec k pc = some (.fcmp op, 1)) : fw_E k pc ll ((4, y) :: (4, x) :: st) σ = fw_E k (pc + 1) ll ((0, (Op.cmpValue (FP.fcmp (fw_ff x) (fw_ff y)) op).toInt) :: st) σ := fw_E_nx (by
  rw [fw_e_i hd rfl]
  unfold fw_si
  rfl)
theorem fw_e_dup0 {k pc : Nat} {ll st : List fw_V} {σ : fw_M} {x : Int} (hd : fw_dec k pc = some (.dup, 1)) : fw_E k pc ll ((0, x) :: st) σ = fw_E k (pc + 1) ll ((0, x) :: (0, x) :: st) σ := fw_E_nx (by
  rw [fw_e_i hd rfl]
  unfold fw_si
  rfl)
theorem fw_e_dup2 {k pc : Nat} {ll st : List fw_V} {σ : fw_M} {x : Int} (hd : fw_dec k pc = some (.dup, 1)) : fw_E k pc ll ((2, x) :: st) σ = fw_E k (pc + 1) ll ((2, x) :: (2, x) :: st) σ := fw_E_nx (by
  rw [fw_e_i hd rfl]
  unfold fw_si
  rfl)
theorem fw_e_dup_2 {k pc : Nat} {ll st : List fw_V} {σ : fw_M} {x y : Int} (hd : fw_dec k pc = some (.dup2, 1)) : fw_E k pc ll ((0, x) :: (2, y) :: st) σ = fw_E k (pc + 1) ll ((0, x) :: (2, y) :: (0, x) :: (2, y) :: st) σ := fw_E_nx (by
  rw [fw_e_i hd rfl]
  unfold fw_si
  rfl)
theorem fw_e_pop0 {k pc : Nat} {ll st : List fw_V} {σ : fw_M} {x : Int} (hd : fw_dec k pc = some (.pop, 1)) : fw_E k pc ll ((0, x) :: st) σ = fw_E k (pc + 1) ll st σ := fw_E_nx (by
  rw [fw_e_i hd rfl]
  unfold fw_si
  rfl)
theorem fw_e_pop2 {k pc : Nat} {ll st : List fw_V} {σ : fw_M} {x : Int} (hd : fw_dec k pc = some (.pop, 1)) : fw_E k pc ll ((2, x) :: st) σ = fw_E k (pc + 1) ll st σ := fw_E_nx (by
  rw [fw_e_i hd rfl]
  unfold fw_si
  rfl)
theorem fw_e_goto {k pc : Nat} {ll st : List fw_V} {σ : fw_M} {off : Int} {t : Nat} (hd : fw_dec k pc = some (.goto off, 3)) (h : (pc : Int) + off = (t : Int)) : fw_E k pc ll st σ = fw_E k (t) ll st σ := fw_E_nx (by
  rw [fw_e_i hd rfl]
  unfold fw_si
  have h1 : fw_tgt pc off = t := by unfold fw_tgt; omega
  have h2 : (0 : Int) ≤ (pc : Int) + off := by omega
  dsimp only
  rw [if_pos h2, h1]; rfl)
theorem fw_e_ic_eq {k pc : Nat} {ll st : List fw_V} {σ : fw_M} {x y : Int} {off : Int} {t : Nat} (hd : fw_dec k pc = some (.if_icmp .eq off, 3)) (h : (pc : Int) + off = (t : Int)) : fw_E k pc ll ((0, y) :: (0, x) :: st) σ = if x = y then fw_E k t ll st σ else fw_E k (pc + 3) ll st σ := by
  have h1 : fw_tgt pc off = t := by unfold fw_tgt; omega
  have h2 : (0 : Int) ≤ (pc : Int) + off := by omega
  by_cases hc : x = y
  · rw [if_pos hc]
    refine fw_E_nx ?_
    rw [fw_e_i hd rfl]
    unfold fw_si
    simp only [fw_br, if_pos h2, h1, fw_nx]
    exact if_pos (decide_eq_true hc)
  · rw [if_neg hc]
    refine fw_E_nx ?_
    rw [fw_e_i hd rfl]
    unfold fw_si
    simp only [fw_br, if_pos h2, h1, fw_nx]
    exact if_neg (fun h => hc (of_decide_eq_true h))
theorem fw_e_if_eq {k pc : Nat} {ll st : List fw_V} {σ : fw_M} {x : Int} {off : Int} {t : Nat} (hd : fw_dec k pc = some (.ifCond .eq off, 3)) (h : (pc : Int) + off = (t : Int)) : fw_E k pc ll ((0, x) :: st) σ = if x = 0 then fw_E k t ll st σ else fw_E k (pc + 3) ll st σ := by
  have h1 : fw_tgt pc off = t := by unfold fw_tgt; omega
  have h2 : (0 : Int) ≤ (pc : Int) + off := by omega
  by_cases hc : x = 0
  · rw [if_pos hc]
    refine fw_E_nx ?_
    rw [fw_e_i hd rfl]
    unfold fw_si
    simp only [fw_br, if_pos h2, h1, fw_nx]
    exact if_pos (decide_eq_true hc)
  · rw [if_neg hc]
    refine fw_E_nx ?_
    rw [fw_e_i hd rfl]
    unfold fw_si
    simp only [fw_br, if_pos h2, h1, fw_nx]
    exact if_neg (fun h => hc (of_decide_eq_true h))
theorem fw_e_ic_ne {k pc : Nat} {ll st : List fw_V} {σ : fw_M} {x y : Int} {off : Int} {t : Nat} (hd : fw_dec k pc = some (.if_icmp .ne off, 3)) (h : (pc : Int) + off = (t : Int)) : fw_E k pc ll ((0, y) :: (0, x) :: st) σ = if x = y then fw_E k (pc + 3) ll st σ else fw_E k t ll st σ := by
  have h1 : fw_tgt pc off = t := by unfold fw_tgt; omega
  have h2 : (0 : Int) ≤ (pc : Int) + off := by omega
  by_cases hc : x = y
  · rw [if_pos hc]
    refine fw_E_nx ?_
    rw [fw_e_i hd rfl]
    unfold fw_si
    simp only [fw_br, if_pos h2, h1, fw_nx]
    exact if_neg (fun h => (of_decide_eq_true h) hc)
  · rw [if_neg hc]
    refine fw_E_nx ?_
    rw [fw_e_i hd rfl]
    unfold fw_si
    simp only [fw_br, if_pos h2, h1, fw_nx]
    exact if_pos (decide_eq_true hc)
theorem fw_e_if_ne {k pc : Nat} {ll st : List fw_V} {σ : fw_M} {x : Int} {off : Int} {t : Nat} (hd : fw_dec k pc = some (.ifCond .ne off, 3)) (h : (pc : Int) + off = (t : Int)) : fw_E k pc ll ((0, x) :: st) σ = if x = 0 then fw_E k (pc + 3) ll st σ else fw_E k t ll st σ := by
  have h1 : fw_tgt pc off = t := by unfold fw_tgt; omega
  have h2 : (0 : Int) ≤ (pc : Int) + off := by omega
  by_cases hc : x = 0
  · rw [if_pos hc]
    refine fw_E_nx ?_
    rw [fw_e_i hd rfl]
    unfold fw_si
    simp only [fw_br, if_pos h2, h1, fw_nx]
    exact if_neg (fun h => (of_decide_eq_true h) hc)
  · rw [if_neg hc]
    refine fw_E_nx ?_
    rw [fw_e_i hd rfl]
    unfold fw_si
    simp only [fw_br, if_pos h2, h1, fw_nx]
    exact if_pos (decide_eq_true hc)
theorem fw_e_ic_lt {k pc : Nat} {ll st : List fw_V} {σ : fw_M} {x y : Int} {off : Int} {t : Nat} (hd : fw_dec k pc = some (.if_icmp .lt off, 3)) (h : (pc : Int) + off = (t : Int)) : fw_E k pc ll ((0, y) :: (0, x) :: st) σ = if x < y then fw_E k t ll st σ else fw_E k (pc + 3) ll st σ := by
  have h1 : fw_tgt pc off = t := by unfold fw_tgt; omega
  have h2 : (0 : Int) ≤ (pc : Int) + off := by omega
  by_cases hc : x < y
  · rw [if_pos hc]
    refine fw_E_nx ?_
    rw [fw_e_i hd rfl]
    unfold fw_si
    simp only [fw_br, if_pos h2, h1, fw_nx]
    exact if_pos (decide_eq_true hc)
  · rw [if_neg hc]
    refine fw_E_nx ?_
    rw [fw_e_i hd rfl]
    unfold fw_si
    simp only [fw_br, if_pos h2, h1, fw_nx]
    exact if_neg (fun h => hc (of_decide_eq_true h))
theorem fw_e_if_lt {k pc : Nat} {ll st : List fw_V} {σ : fw_M} {x : Int} {off : Int} {t : Nat} (hd : fw_dec k pc = some (.ifCond .lt off, 3)) (h : (pc : Int) + off = (t : Int)) : fw_E k pc ll ((0, x) :: st) σ = if x < 0 then fw_E k t ll st σ else fw_E k (pc + 3) ll st σ := by
  have h1 : fw_tgt pc off = t := by unfold fw_tgt; omega
  have h2 : (0 : Int) ≤ (pc : Int) + off := by omega
  by_cases hc : x < 0
  · rw [if_pos hc]
    refine fw_E_nx ?_
    rw [fw_e_i hd rfl]
    unfold fw_si
    simp only [fw_br, if_pos h2, h1, fw_nx]
    exact if_pos (decide_eq_true hc)
  · rw [if_neg hc]
    refine fw_E_nx ?_
    rw [fw_e_i hd rfl]
    unfold fw_si
    simp only [fw_br, if_pos h2, h1, fw_nx]
    exact if_neg (fun h => hc (of_decide_eq_true h))
theorem fw_e_ic_ge {k pc : Nat} {ll st : List fw_V} {σ : fw_M} {x y : Int} {off : Int} {t : Nat} (hd : fw_dec k pc = some (.if_icmp .ge off, 3)) (h : (pc : Int) + off = (t : Int)) : fw_E k pc ll ((0, y) :: (0, x) :: st) σ = if x < y then fw_E k (pc + 3) ll st σ else fw_E k t ll st σ := by
  have h1 : fw_tgt pc off = t := by unfold fw_tgt; omega
  have h2 : (0 : Int) ≤ (pc : Int) + off := by omega
  by_cases hc : x < y
  · rw [if_pos hc]
    refine fw_E_nx ?_
    rw [fw_e_i hd rfl]
    unfold fw_si
    simp only [fw_br, if_pos h2, h1, fw_nx]
    exact if_neg (fun h => absurd hc (Int.not_lt.mpr (of_decide_eq_true h)))
  · rw [if_neg hc]
    refine fw_E_nx ?_
    rw [fw_e_i hd rfl]
    unfold fw_si
    simp only [fw_br, if_pos h2, h1, fw_nx]
    exact if_pos (decide_eq_true (Int.not_lt.mp hc))
theorem fw_e_if_ge {k pc : Nat} {ll st : List fw_V} {σ : fw_M} {x : Int} {off : Int} {t : Nat} (hd : fw_dec k pc = some (.ifCond .ge off, 3)) (h : (pc : Int) + off = (t : Int)) : fw_E k pc ll ((0, x) :: st) σ = if x < 0 then fw_E k (pc + 3) ll st σ else fw_E k t ll st σ := by
  have h1 : fw_tgt pc off = t := by unfold fw_tgt; omega
  have h2 : (0 : Int) ≤ (pc : Int) + off := by omega
  by_cases hc : x < 0
  · rw [if_pos hc]
    refine fw_E_nx ?_
    rw [fw_e_i hd rfl]
    unfold fw_si
    simp only [fw_br, if_pos h2, h1, fw_nx]
    exact if_neg (fun h => absurd hc (Int.not_lt.mpr (of_decide_eq_true h)))
  · rw [if_neg hc]
    refine fw_E_nx ?_
    rw [fw_e_i hd rfl]
    unfold fw_si
    simp only [fw_br, if_pos h2, h1, fw_nx]
    exact if_pos (decide_eq_true (Int.not_lt.mp hc))
theorem fw_e_ic_gt {k pc : Nat} {ll st : List fw_V} {σ : fw_M} {x y : Int} {off : Int} {t : Nat} (hd : fw_dec k pc = some (.if_icmp .gt off, 3)) (h : (pc : Int) + off = (t : Int)) : fw_E k pc ll ((0, y) :: (0, x) :: st) σ = if y < x then fw_E k t ll st σ else fw_E k (pc + 3) ll st σ := by
  have h1 : fw_tgt pc off = t := by unfold fw_tgt; omega
  have h2 : (0 : Int) ≤ (pc : Int) + off := by omega
  by_cases hc : y < x
  · rw [if_pos hc]
    refine fw_E_nx ?_
    rw [fw_e_i hd rfl]
    unfold fw_si
    simp only [fw_br, if_pos h2, h1, fw_nx]
    exact if_pos (decide_eq_true hc)
  · rw [if_neg hc]
    refine fw_E_nx ?_
    rw [fw_e_i hd rfl]
    unfold fw_si
    simp only [fw_br, if_pos h2, h1, fw_nx]
    exact if_neg (fun h => hc (of_decide_eq_true h))
theorem fw_e_if_gt {k pc : Nat} {ll st : List fw_V} {σ : fw_M} {x : Int} {off : Int} {t : Nat} (hd : fw_dec k pc = some (.ifCond .gt off, 3)) (h : (pc : Int) + off = (t : Int)) : fw_E k pc ll ((0, x) :: st) σ = if 0 < x then fw_E k t ll st σ else fw_E k (pc + 3) ll st σ := by
  have h1 : fw_tgt pc off = t := by unfold fw_tgt; omega
  have h2 : (0 : Int) ≤ (pc : Int) + off := by omega
  by_cases hc : 0 < x
  · rw [if_pos hc]
    refine fw_E_nx ?_
    rw [fw_e_i hd rfl]
    unfold fw_si
    simp only [fw_br, if_pos h2, h1, fw_nx]
    exact if_pos (decide_eq_true hc)
  · rw [if_neg hc]
    refine fw_E_nx ?_
    rw [fw_e_i hd rfl]
    unfold fw_si
    simp only [fw_br, if_pos h2, h1, fw_nx]
    exact if_neg (fun h => hc (of_decide_eq_true h))
theorem fw_e_ic_le {k pc : Nat} {ll st : List fw_V} {σ : fw_M} {x y : Int} {off : Int} {t : Nat} (hd : fw_dec k pc = some (.if_icmp .le off, 3)) (h : (pc : Int) + off = (t : Int)) : fw_E k pc ll ((0, y) :: (0, x) :: st) σ = if y < x then fw_E k (pc + 3) ll st σ else fw_E k t ll st σ := by
  have h1 : fw_tgt pc off = t := by unfold fw_tgt; omega
  have h2 : (0 : Int) ≤ (pc : Int) + off := by omega
  by_cases hc : y < x
  · rw [if_pos hc]
    refine fw_E_nx ?_
    rw [fw_e_i hd rfl]
    unfold fw_si
    simp only [fw_br, if_pos h2, h1, fw_nx]
    exact if_neg (fun h => absurd hc (Int.not_lt.mpr (of_decide_eq_true h)))
  · rw [if_neg hc]
    refine fw_E_nx ?_
    rw [fw_e_i hd rfl]
    unfold fw_si
    simp only [fw_br, if_pos h2, h1, fw_nx]
    exact if_pos (decide_eq_true (Int.not_lt.mp hc))
theorem fw_e_if_le {k pc : Nat} {ll st : List fw_V} {σ : fw_M} {x : Int} {off : Int} {t : Nat} (hd : fw_dec k pc = some (.ifCond .le off, 3)) (h : (pc : Int) + off = (t : Int)) : fw_E k pc ll ((0, x) :: st) σ = if 0 < x then fw_E k (pc + 3) ll st σ else fw_E k t ll st σ := by
  have h1 : fw_tgt pc off = t := by unfold fw_tgt; omega
  have h2 : (0 : Int) ≤ (pc : Int) + off := by omega
  by_cases hc : 0 < x
  · rw [if_pos hc]
    refine fw_E_nx ?_
    rw [fw_e_i hd rfl]
    unfold fw_si
    simp only [fw_br, if_pos h2, h1, fw_nx]
    exact if_neg (fun h => absurd hc (Int.not_lt.mpr (of_decide_eq_true h)))
  · rw [if_neg hc]
    refine fw_E_nx ?_
    rw [fw_e_i hd rfl]
    unfold fw_si
    simp only [fw_br, if_pos h2, h1, fw_nx]
    exact if_pos (decide_eq_true (Int.not_lt.mp hc))
theorem fw_e_ifnull {k pc : Nat} {ll st : List fw_V} {σ : fw_M} {x : Int} {off : Int} {t : Nat} (hd : fw_dec k pc = some (.ifnull off, 3)) (h : (pc : Int) + off = (t : Int)) : fw_E k pc ll ((2, x) :: st) σ = if x = 0 then fw_E k t ll st σ else fw_E k (pc + 3) ll st σ := by
  have h1 : fw_tgt pc off = t := by unfold fw_tgt; omega
  have h2 : (0 : Int) ≤ (pc : Int) + off := by omega
  by_cases hc : x = 0
  · rw [if_pos hc]
    refine fw_E_nx ?_
    rw [fw_e_i hd rfl]
    unfold fw_si
    simp only [fw_br, if_pos h2, h1, fw_nx]
    exact if_pos (hc)
  · rw [if_neg hc]
    refine fw_E_nx ?_
    rw [fw_e_i hd rfl]
    unfold fw_si
    simp only [fw_br, if_pos h2, h1, fw_nx]
    exact if_neg (hc)
theorem fw_e_ifnonnull {k pc : Nat} {ll st : List fw_V} {σ : fw_M} {x : Int} {off : Int} {t : Nat} (hd : fw_dec k pc = some (.ifnonnull off, 3)) (h : (pc : Int) + off = (t : Int)) : fw_E k pc ll ((2, x) :: st) σ = if x = 0 then fw_E k (pc + 3) ll st σ else fw_E k t ll st σ := by
  have h1 : fw_tgt pc off = t := by unfold fw_tgt; omega
  have h2 : (0 : Int) ≤ (pc : Int) + off := by omega
  by_cases hc : x = 0
  · rw [if_pos hc]
    refine fw_E_nx ?_
    rw [fw_e_i hd rfl]
    unfold fw_si
    simp only [fw_br, if_pos h2, h1, fw_nx]
    exact if_neg (fun h => h hc)
  · rw [if_neg hc]
    refine fw_E_nx ?_
    rw [fw_e_i hd rfl]
    unfold fw_si
    simp only [fw_br, if_pos h2, h1, fw_nx]
    exact if_pos (hc)
theorem fw_e_switch {k pc : Nat} {ll st : List fw_V} {σ : fw_M} {x d lo hi : Int} {offs : Array Int} {n t : Nat} (hd : fw_dec k pc = some (.tableswitch d lo hi offs, n)) (h : if x < lo ∨ hi < x then (pc : Int) + d = (t : Int) else ∃ off, offs[(x - lo).toNat]? = some off ∧ (pc : Int) + off = (t : Int)) : fw_E k pc ll ((0, x) :: st) σ = fw_E k t ll st σ := by
  refine fw_E_nx ?_
  rw [fw_e_i hd rfl]
  unfold fw_si
  dsimp only
  by_cases hc : x < lo ∨ hi < x
  · rw [if_pos hc] at h
    simp only [if_pos hc]
    have h1 : fw_tgt pc d = t := by unfold fw_tgt; omega
    have h2 : (0 : Int) ≤ (pc : Int) + d := by omega
    rw [if_pos h2, h1]; rfl
  · rw [if_neg hc] at h
    simp only [if_neg hc]
    obtain ⟨off, h0, h1⟩ := h
    have h2 : fw_tgt pc off = t := by unfold fw_tgt; omega
    rw [h0]
    dsimp only
    have h3 : (0 : Int) ≤ (pc : Int) + off := by omega
    rw [if_pos h3, h2]; rfl
theorem fw_e_aaload {k pc : Nat} {ll st : List fw_V} {σ : fw_M} {a i l : Int} (hd : fw_dec k pc = some (.aaload, 1)) (hk : fw_kd a = 105) (hl : fw_ln a = l) (h0 : 0 ≤ i) (h1 : i < l) : fw_E k pc ll ((0, i) :: (2, a) :: st) σ = fw_E k (pc + 1) ll ((2, fw_r σ a i) :: st) σ := fw_E_nx (by
  rw [fw_e_i hd rfl]
  unfold fw_si
  subst hl; exact if_pos ⟨Or.inl hk, h0, h1⟩)
theorem fw_e_aaload6 {k pc : Nat} {ll st : List fw_V} {σ : fw_M} {a i l : Int} (hd : fw_dec k pc = some (.aaload, 1)) (hk : fw_kd a = 106) (hl : fw_ln a = l) (h0 : 0 ≤ i) (h1 : i < l) : fw_E k pc ll ((0, i) :: (2, a) :: st) σ = fw_E k (pc + 1) ll ((2, fw_r σ a i) :: st) σ := fw_E_nx (by
  rw [fw_e_i hd rfl]
  unfold fw_si
  subst hl; exact if_pos ⟨Or.inr hk, h0, h1⟩)
theorem fw_e_iaload {k pc : Nat} {ll st : List fw_V} {σ : fw_M} {a i l : Int} (hd : fw_dec k pc = some (.iaload, 1)) (hk : fw_kd a = 100) (hl : fw_ln a = l) (h0 : 0 ≤ i) (h1 : i < l) : fw_E k pc ll ((0, i) :: (2, a) :: st) σ = fw_E k (pc + 1) ll ((0, fw_r σ a i) :: st) σ := fw_E_nx (by
  rw [fw_e_i hd rfl]
  unfold fw_si
  subst hl; exact if_pos ⟨hk, h0, h1⟩)
theorem fw_e_caload {k pc : Nat} {ll st : List fw_V} {σ : fw_M} {a i l : Int} (hd : fw_dec k pc = some (.caload, 1)) (hk : fw_kd a = 101) (hl : fw_ln a = l) (h0 : 0 ≤ i) (h1 : i < l) : fw_E k pc ll ((0, i) :: (2, a) :: st) σ = fw_E k (pc + 1) ll ((0, fw_r σ a i) :: st) σ := fw_E_nx (by
  rw [fw_e_i hd rfl]
  unfold fw_si
  subst hl; exact if_pos ⟨hk, h0, h1⟩)
theorem fw_e_baload {k pc : Nat} {ll st : List fw_V} {σ : fw_M} {a i l : Int} (hd : fw_dec k pc = some (.baload, 1)) (hk : fw_kd a = 102) (hl : fw_ln a = l) (h0 : 0 ≤ i) (h1 : i < l) : fw_E k pc ll ((0, i) :: (2, a) :: st) σ = fw_E k (pc + 1) ll ((0, fw_r σ a i) :: st) σ := fw_E_nx (by
  rw [fw_e_i hd rfl]
  unfold fw_si
  subst hl; exact if_pos ⟨hk, h0, h1⟩)
theorem fw_e_laload {k pc : Nat} {ll st : List fw_V} {σ : fw_M} {a i l : Int} (hd : fw_dec k pc = some (.laload, 1)) (hk : fw_kd a = 103) (hl : fw_ln a = l) (h0 : 0 ≤ i) (h1 : i < l) : fw_E k pc ll ((0, i) :: (2, a) :: st) σ = fw_E k (pc + 1) ll ((1, fw_r σ a i) :: st) σ := fw_E_nx (by
  rw [fw_e_i hd rfl]
  unfold fw_si
  subst hl; exact if_pos ⟨hk, h0, h1⟩)
theorem fw_e_daload {k pc : Nat} {ll st : List fw_V} {σ : fw_M} {a i l : Int} (hd : fw_dec k pc = some (.daload, 1)) (hk : fw_kd a = 104) (hl : fw_ln a = l) (h0 : 0 ≤ i) (h1 : i < l) : fw_E k pc ll ((0, i) :: (2, a) :: st) σ = fw_E k (pc + 1) ll ((3, fw_r σ a i) :: st) σ := fw_E_nx (by
  rw [fw_e_i hd rfl]
  unfold fw_si
  subst hl; exact if_pos ⟨hk, h0, h1⟩)
theorem fw_e_script {k pc : Nat} {ll st : List fw_V} {σ : fw_M} {i z : Int} (hd : fw_dec k pc = some (.iaload, 1)) (h0 : 0 ≤ i) (h1 : i < fw_r σ (-3) 0) : fw_E k pc ll ((0, i) :: (6, z) :: st) σ = fw_E k (pc + 1) ll ((0, fw_r σ (-2) i) :: st) σ := fw_E_nx (by
  rw [fw_e_i hd rfl]
  unfold fw_si
  exact if_pos ⟨h0, h1⟩)
theorem fw_e_iastore {k pc : Nat} {ll st : List fw_V} {σ : fw_M} {a i l v : Int} (hd : fw_dec k pc = some (.iastore, 1)) (hk : fw_kd a = 100) (hl : fw_ln a = l) (h0 : 0 ≤ i) (h1 : i < l) : fw_E k pc ll ((0, v) :: (0, i) :: (2, a) :: st) σ = fw_E k (pc + 1) ll st (fw_u σ a i v) := fw_E_nx (by
  rw [fw_e_i hd rfl]
  unfold fw_si
  subst hl; exact if_pos ⟨hk, h0, h1⟩)
theorem fw_e_castore {k pc : Nat} {ll st : List fw_V} {σ : fw_M} {a i l v : Int} (hd : fw_dec k pc = some (.castore, 1)) (hk : fw_kd a = 101) (hl : fw_ln a = l) (h0 : 0 ≤ i) (h1 : i < l) (h2 : 0 ≤ v) (h3 : v < 65536) : fw_E k pc ll ((0, v) :: (0, i) :: (2, a) :: st) σ = fw_E k (pc + 1) ll st (fw_u σ a i v) := fw_E_nx (by
  rw [fw_e_i hd rfl]
  unfold fw_si
  subst hl; exact if_pos ⟨hk, h0, h1, h2, h3⟩)
theorem fw_e_bastore {k pc : Nat} {ll st : List fw_V} {σ : fw_M} {a i l v : Int} (hd : fw_dec k pc = some (.bastore, 1)) (hk : fw_kd a = 102) (hl : fw_ln a = l) (h0 : 0 ≤ i) (h1 : i < l) (h2 : v = 0 ∨ v = 1) : fw_E k pc ll ((0, v) :: (0, i) :: (2, a) :: st) σ = fw_E k (pc + 1) ll st (fw_u σ a i v) := fw_E_nx (by
  rw [fw_e_i hd rfl]
  unfold fw_si
  subst hl; exact if_pos ⟨hk, h0, h1, h2⟩)
theorem fw_e_lastore {k pc : Nat} {ll st : List fw_V} {σ : fw_M} {a i l v : Int} (hd : fw_dec k pc = some (.lastore, 1)) (hk : fw_kd a = 103) (hl : fw_ln a = l) (h0 : 0 ≤ i) (h1 : i < l) : fw_E k pc ll ((1, v) :: (0, i) :: (2, a) :: st) σ = fw_E k (pc + 1) ll st (fw_u σ a i v) := fw_E_nx (by
  rw [fw_e_i hd rfl]
  unfold fw_si
  subst hl; exact if_pos ⟨hk, h0, h1⟩)
theorem fw_e_dastore {k pc : Nat} {ll st : List fw_V} {σ : fw_M} {a i l v : Int} (hd : fw_dec k pc = some (.dastore, 1)) (hk : fw_kd a = 104) (hl : fw_ln a = l) (h0 : 0 ≤ i) (h1 : i < l) : fw_E k pc ll ((3, v) :: (0, i) :: (2, a) :: st) σ = fw_E k (pc + 1) ll st (fw_u σ a i v) := fw_E_nx (by
  rw [fw_e_i hd rfl]
  unfold fw_si
  subst hl; exact if_pos ⟨hk, h0, h1⟩)
theorem fw_e_aastore {k pc : Nat} {ll st : List fw_V} {σ : fw_M} {a i l v : Int} (hd : fw_dec k pc = some (.aastore, 1)) (hk : fw_kd a = 105) (hl : fw_ln a = l) (h0 : 0 ≤ i) (h1 : i < l) (hv : fw_kd v = 4) : fw_E k pc ll ((2, v) :: (0, i) :: (2, a) :: st) σ = fw_E k (pc + 1) ll st (fw_u σ a i v) := fw_E_nx (by
  rw [fw_e_i hd rfl]
  unfold fw_si
  subst hl; exact if_pos ⟨hk, hv, h0, h1⟩)
theorem fw_e_arraylength {k pc : Nat} {ll st : List fw_V} {σ : fw_M} {a : Int} (hd : fw_dec k pc = some (.arraylength, 1)) (hk : 100 ≤ fw_kd a) : fw_E k pc ll ((2, a) :: st) σ = fw_E k (pc + 1) ll ((0, fw_ln a) :: st) σ := fw_E_nx (by
  rw [fw_e_i hd rfl]
  unfold fw_si
  exact if_pos hk)
theorem fw_e_scriptlength {k pc : Nat} {ll st : List fw_V} {σ : fw_M} {z : Int} (hd : fw_dec k pc = some (.arraylength, 1)) (hl : fw_r σ (-3) 0 < 2147483648) : fw_E k pc ll ((6, z) :: st) σ = fw_E k (pc + 1) ll ((0, fw_r σ (-3) 0) :: st) σ := fw_E_nx (by
  rw [fw_e_i hd rfl]
  unfold fw_si
  exact if_pos hl)
theorem fw_e_get {k pc : Nat} {ll st : List fw_V} {σ : fw_M} {a : Int} {n c j t : Nat} {kd : Int} (hd : fw_dec k pc = some (.getfield n, 3)) (hf : fw_fr (fw_oc k) n = some (c, j)) (ht : fw_tg (fw_fk c j) = t) (hk : fw_kd a = kd) (hc : kd = (c : Int) + 3) : fw_E k pc ll ((2, a) :: st) σ = fw_E k (pc + 3) ll ((t, fw_r σ a (j : Int)) :: st) σ := fw_E_nx (by
  rw [fw_e_i hd rfl]
  unfold fw_si
  dsimp only
  rw [hf]
  subst ht
  exact if_pos (hk.trans hc))
theorem fw_e_put {k pc : Nat} {ll st : List fw_V} {σ : fw_M} {a v : Int} {n c j t : Nat} {kd : Int} (hd : fw_dec k pc = some (.putfield n, 3)) (hf : fw_fr (fw_oc k) n = some (c, j)) (ht : t = fw_tg (fw_fk c j)) (hk : fw_kd a = kd) (hc : kd = (c : Int) + 3) (hb : fw_fk c j = 10 → v = 0 ∨ v = 1) (hfin : (fw_CT c j).2.2.2 = true → fw_ki k = 2 ∧ fw_oc k = c) : fw_E k pc ll ((t, v) :: (2, a) :: st) σ = fw_E k (pc + 3) ll st (fw_u σ a (j : Int) v) := fw_E_nx (by
  rw [fw_e_i hd rfl]
  unfold fw_si
  dsimp only
  rw [hf]
  exact if_pos ⟨hk.trans hc, ht, hb, hfin⟩)
theorem fw_e_new {k pc : Nat} {ll st : List fw_V} {σ : fw_M} {n c : Nat} (hd : fw_dec k pc = some (.new n, 3)) (hc : fw_cr (fw_oc k) n = some c) (hk : fw_kd (fw_r σ (-1) 0) = (c : Int) + 3) : fw_E k pc ll st σ = fw_E k (pc + 3) ll ((2, fw_r σ (-1) 0) :: st) (fw_nw σ (fw_nf c)) := fw_E_nx (by
  rw [fw_e_i hd rfl]
  unfold fw_si
  dsimp only
  rw [hc]
  exact if_pos hk)
theorem fw_e_throw {k pc : Nat} {ll : List fw_V} {σ : fw_M} {n ic x : Nat} (hd : fw_dec k pc = some (.new n, 3)) (hc : fw_cr (fw_oc k) n = none) (hx : fw_xr n = some (ic, x)) (ho : fw_oc k = 8) (hh : fw_hs k = []) (h4r : 4 ≤ fw_rk k) (d1 : fw_dec k (pc + 3) = some (.dup, 1)) (d2 : fw_dec k (pc + 4) = some (.invokespecial ic, 3)) (d3 : fw_dec k (pc + 7) = some (.athrow, 1)) : fw_E k pc ll [] σ = some ((9, (x : Int)), fw_ex σ) := fw_E_fi (by
  rw [fw_e_i hd rfl]
  unfold fw_si
  dsimp only
  rw [hc, hx]
  exact if_pos ⟨ho, hh, rfl, h4r, d1, d2, d3⟩)
theorem fw_e_newarray {k pc : Nat} {ll st : List fw_V} {σ : fw_M} {n : Int} {t : ArrayType} (hd : fw_dec k pc = some (.newarray t, 2)) (h0 : 0 ≤ n) (h1 : n ≤ 300) (hk : fw_kd (fw_r σ (-1) 0) = fw_ak t) (hl : fw_ln (fw_r σ (-1) 0) = n) : fw_E k pc ll ((0, n) :: st) σ = fw_E k (pc + 2) ll ((2, fw_r σ (-1) 0) :: st) (fw_nw σ n) := fw_E_nx (by
  rw [fw_e_i hd rfl]
  unfold fw_si
  exact if_pos ⟨h0, h1, hk, hl⟩)
theorem fw_e_anewarray {k pc : Nat} {ll st : List fw_V} {σ : fw_M} {n : Int} (hd : fw_dec k pc = some (.anewarray 9, 3)) (ho : fw_oc k = 6) (h0 : 0 ≤ n) (h1 : n ≤ 300) (hk : fw_kd (fw_r σ (-1) 0) = 105) (hl : fw_ln (fw_r σ (-1) 0) = n) : fw_E k pc ll ((0, n) :: st) σ = fw_E k (pc + 3) ll ((2, fw_r σ (-1) 0) :: st) (fw_nw σ n) := fw_E_nx (by
  rw [fw_e_i hd rfl]
  unfold fw_si
  exact if_pos ⟨ho, rfl, h0, h1, hk, hl⟩)
theorem fw_e_obj {k pc : Nat} {ll st : List fw_V} {σ : fw_M} {n : Nat} {x : Int} (hd : fw_dec k pc = some (.invokespecial n, 3)) (hm : fw_mr (fw_oc k) n = some (1002, 0)) (hx : x ≠ 0) (hr : st.length ≤ 4) : fw_E k pc ll ((2, x) :: st) σ = fw_E k (pc + 3) ll st σ := fw_E_nx (by
  rw [fw_e_i hd rfl]
  unfold fw_si
  dsimp only
  rw [hm]
  exact if_pos ⟨hx, hr⟩)
theorem fw_e_max {k pc : Nat} {ll st : List fw_V} {σ : fw_M} {n : Nat} {x y : Int} (hd : fw_dec k pc = some (.invokestatic n, 3)) (hm : fw_mr (fw_oc k) n = some (1000, 0)) (hr : st.length ≤ 4) : fw_E k pc ll ((0, y) :: (0, x) :: st) σ = fw_E k (pc + 3) ll ((0, if x < y then y else x) :: st) σ := fw_E_nx (by
  rw [fw_e_i hd rfl]
  unfold fw_si
  dsimp only
  rw [hm]
  exact if_pos hr)
theorem fw_e_min {k pc : Nat} {ll st : List fw_V} {σ : fw_M} {n : Nat} {x y : Int} (hd : fw_dec k pc = some (.invokestatic n, 3)) (hm : fw_mr (fw_oc k) n = some (1001, 0)) (hr : st.length ≤ 4) : fw_E k pc ll ((0, y) :: (0, x) :: st) σ = fw_E k (pc + 3) ll ((0, if y < x then y else x) :: st) σ := fw_E_nx (by
  rw [fw_e_i hd rfl]
  unfold fw_si
  dsimp only
  rw [hm]
  exact if_pos hr)
/-- calls: the arguments as on the stack (as, the last one first), the receiver below them -/
theorem fw_e_virtual {k pc : Nat} {ll st : List fw_V} {σ : fw_M} {n cal : Nat} {as en : List fw_V} {r : Int} (hd : fw_dec k pc = some (.invokevirtual n, 3)) (hm : fw_mr (fw_oc k) n = some (cal, 0)) (hi : fw_ki cal = 0) (hn : as.length = (fw_pt cal).length) (ht : as.reverse.map Prod.fst = fw_pt cal) (hq : fw_rk cal < fw_rk k ∧ cal < 137 ∧ cal ≠ 0) (hk : fw_kd r = (fw_oc cal : Int) + 3) (hr : st.length ≤ 4) (he : fw_en cal ((2, r) :: as.reverse) = en) : fw_E k pc ll (as ++ (2, r) :: st) σ = (fw_E cal 0 en [] σ).bind (fw_cn k pc ll st) := by
  subst he
  refine fw_E_ca ?_
  rw [fw_e_i hd rfl]
  unfold fw_si
  dsimp only
  rw [hm]
  simp only [if_pos hi]
  unfold fw_ca
  have e1 : (as ++ (2, r) :: st).take (fw_pt cal).length = as := by rw [← hn]; exact List.take_left
  have e2 : (as ++ (2, r) :: st).drop (fw_pt cal).length = (2, r) :: st := by rw [← hn]; exact List.drop_left
  simp only [e1, e2]
  rw [if_pos ⟨ht, hq⟩, if_pos trivial, if_pos ⟨hk, hr⟩]
theorem fw_e_special {k pc : Nat} {ll st : List fw_V} {σ : fw_M} {n cal e : Nat} {as en : List fw_V} {r : Int} (hd : fw_dec k pc = some (.invokespecial n, 3)) (hm : fw_mr (fw_oc k) n = some (cal, e)) (h2 : cal ≠ 1002) (hi : fw_ki cal = 2) (hn : as.length = (fw_pt cal).length) (ht : as.reverse.map Prod.fst = fw_pt cal) (hq : fw_rk cal < fw_rk k ∧ cal < 137 ∧ cal ≠ 0) (hk : fw_kd r = (fw_oc cal : Int) + 3) (hr : st.length ≤ 4) (he : fw_en cal ((2, r) :: as.reverse) = en) : fw_E k pc ll (as ++ (2, r) :: st) σ = (fw_E cal 0 en [] σ).bind (fw_cn k pc ll st) := by
  subst he
  refine fw_E_ca ?_
  rw [fw_e_i hd rfl]
  unfold fw_si
  dsimp only
  rw [hm]
  split
  · rename_i hx
    exact absurd (congrArg Prod.fst (Option.some.inj hx)) h2
  · rename_i hx
    cases hx
    rw [if_pos hi]
    unfold fw_ca
    have e1 : (as ++ (2, r) :: st).take (fw_pt cal).length = as := by rw [← hn]; exact List.take_left
    have e2 : (as ++ (2, r) :: st).drop (fw_pt cal).length = (2, r) :: st := by rw [← hn]; exact List.drop_left
    simp only [e1, e2]
    rw [if_pos ⟨ht, hq⟩, if_pos trivial, if_pos ⟨hk, hr⟩]
  · rename_i hx
    cases hx
theorem fw_e_static {k pc : Nat} {ll st : List fw_V} {σ : fw_M} {n cal e : Nat} {as en : List fw_V} (hd : fw_dec k pc = some (.invokestatic n, 3)) (hm : fw_mr (fw_oc k) n = some (cal, e)) (h2 : cal < 1000) (hi : fw_ki cal = 1 ∨ fw_ki cal = 3) (hn : as.length = (fw_pt cal).length) (ht : as.reverse.map Prod.fst = fw_pt cal) (hq : fw_rk cal < fw_rk k ∧ cal < 137 ∧ cal ≠ 0) (hr : st.length ≤ 4) (he : fw_en cal as.reverse = en) : fw_E k pc ll (as ++ st) σ = (fw_E cal 0 en [] σ).bind (fw_cn k pc ll st) := by
  subst he
  refine fw_E_ca ?_
  rw [fw_e_i hd rfl]
  unfold fw_si
  dsimp only
  rw [hm]
  split
  · rename_i hx
    have := congrArg Prod.fst (Option.some.inj hx)
    dsimp only at this
    omega
  · rename_i hx
    have := congrArg Prod.fst (Option.some.inj hx)
    dsimp only at this
    omega
  · rename_i hx
    cases hx
    rw [if_pos hi]
    unfold fw_ca
    have e1 : (as ++ st).take (fw_pt cal).length = as := by rw [← hn]; exact List.take_left
    have e2 : (as ++ st).drop (fw_pt cal).length = st := by rw [← hn]; exact List.drop_left
    simp only [e1, e2]
    rw [if_pos ⟨ht, hq⟩, if_neg (by decide), if_pos hr]
  · rename_i hx
    cases hx
theorem fw_e_ireturn {k pc : Nat} {ll : List fw_V} {σ : fw_M} {x : Int} (hd : fw_dec k pc = some (.ireturn, 1)) (hr : fw_ri k x = true) : fw_E k pc ll [(0, x)] σ = some ((0, x), σ) := fw_E_fi (by
  rw [fw_e_i hd rfl]
  unfold fw_si
  exact if_pos hr)
theorem fw_e_lreturn {k pc : Nat} {ll : List fw_V} {σ : fw_M} {x : Int} (hd : fw_dec k pc = some (.lreturn, 1)) (hr : fw_rt k = some .long) : fw_E k pc ll [(1, x)] σ = some ((1, x), σ) := fw_E_fi (by
  rw [fw_e_i hd rfl]
  unfold fw_si
  exact if_pos hr)
theorem fw_e_dreturn {k pc : Nat} {ll : List fw_V} {σ : fw_M} {x : Int} (hd : fw_dec k pc = some (.dreturn, 1)) (hr : fw_rt k = some .double) : fw_E k pc ll [(3, x)] σ = some ((3, x), σ) := fw_E_fi (by
  rw [fw_e_i hd rfl]
  unfold fw_si
  exact if_pos hr)
theorem fw_e_freturn {k pc : Nat} {ll : List fw_V} {σ : fw_M} {x : Int} (hd : fw_dec k pc = some (.freturn, 1)) (hr : fw_rt k = some .float) : fw_E k pc ll [(4, x)] σ = some ((4, x), σ) := fw_E_fi (by
  rw [fw_e_i hd rfl]
  unfold fw_si
  exact if_pos hr)
theorem fw_e_areturn {k pc : Nat} {ll : List fw_V} {σ : fw_M} {x : Int} (hd : fw_dec k pc = some (.areturn, 1)) (hr : fw_rt k = some (.object RX1)) : fw_E k pc ll [(2, x)] σ = some ((2, x), σ) := fw_E_fi (by
  rw [fw_e_i hd rfl]
  unfold fw_si
  exact if_pos hr)
theorem fw_e_return {k pc : Nat} {ll : List fw_V} {σ : fw_M}  (hd : fw_dec k pc = some (.return_, 1)) (hr : fw_rt k = none) : fw_E k pc ll [] σ = some ((5, 0), σ) := fw_E_fi (by
  rw [fw_e_i hd rfl]
  unfold fw_si
  exact if_pos ⟨hr, rfl⟩)
theorem fw_ri_i {k : Nat} {x : Int} (h : fw_rt k = some .int) : fw_ri k x = true := by unfold fw_ri; rw [h]
theorem fw_ri_b {k : Nat} {x : Int} (h : fw_rt k = some .boolean) (hx : x = 0 ∨ x = 1) : fw_ri k x = true := by unfold fw_ri; rw [h]; exact decide_eq_true hx
theorem fw_ri_c {k : Nat} {x : Int} (h : fw_rt k = some .char) (h0 : 0 ≤ x) (h1 : x < 65536) : fw_ri k x = true := by unfold fw_ri; rw [h]; exact decide_eq_true ⟨h0, h1⟩
/-! behind a call -/
theorem fw_cn_0 (k pc : Nat) (ll st : List fw_V) (x : Int) (σ : fw_M) : fw_cn k pc ll st ((0, x), σ) = fw_E k (pc + 3) ll ((0, x) :: st) σ := rfl
theorem fw_cn_1 (k pc : Nat) (ll st : List fw_V) (x : Int) (σ : fw_M) : fw_cn k pc ll st ((1, x), σ) = fw_E k (pc + 3) ll ((1, x) :: st) σ := rfl
theorem fw_cn_2 (k pc : Nat) (ll st : List fw_V) (x : Int) (σ : fw_M) : fw_cn k pc ll st ((2, x), σ) = fw_E k (pc + 3) ll ((2, x) :: st) σ := rfl
theorem fw_cn_3 (k pc : Nat) (ll st : List fw_V) (x : Int) (σ : fw_M) : fw_cn k pc ll st ((3, x), σ) = fw_E k (pc + 3) ll ((3, x) :: st) σ := rfl
theorem fw_cn_4 (k pc : Nat) (ll st : List fw_V) (x : Int) (σ : fw_M) : fw_cn k pc ll st ((4, x), σ) = fw_E k (pc + 3) ll ((4, x) :: st) σ := rfl
theorem fw_cn_5 (k pc : Nat) (ll st : List fw_V) (x : Int) (σ : fw_M) : fw_cn k pc ll st ((5, x), σ) = fw_E k (pc + 3) ll st σ := rfl
theorem fw_cn_9 {k pc : Nat} {ll st : List fw_V} {x : Int} {σ : fw_M} (hk : k ≠ 0) (hh : fw_hs k = []) : fw_cn k pc ll st ((9, x), σ) = some ((9, x), σ) := by
  unfold fw_cn fw_af
  have h1 : fw_hd k pc x.toNat = none := by unfold fw_hd; rw [hh]; rfl
  simp only [h1, if_true]
  rw [if_pos ⟨hk, hh⟩]
theorem fw_cn_h {k pc h : Nat} {ll st : List fw_V} {x : Int} {σ : fw_M} (hh : fw_hd k pc x.toNat = some h) : fw_cn k pc ll st ((9, x), σ) = fw_E k h ll [(7, 0)] σ := by
  unfold fw_cn fw_af
  simp only [hh, if_true]
