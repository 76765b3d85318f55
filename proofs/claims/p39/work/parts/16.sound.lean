/-- a step is sound -/
def fw_sr (k pc : Nat) (ll st : List fw_V) (σ : fw_M) (act : fw_A) : Prop := match act with
  | .inl (pc', ll', st', σ') => ∀ out, fw_J k pc' ll' st' σ' out → fw_J k pc ll st σ out
  | .inr (.inl o) => fw_J k pc ll st σ o
  | .inr (.inr (cal, as, rest)) => ∀ o out, fw_J cal 0 (fw_en cal as) [] σ o → fw_AF k pc ll rest o out → fw_J k pc ll st σ out
theorem fw_take_app {α : Type} (st : List α) (n : Nat) : st = (st.take n).reverse.reverse ++ st.drop n := by rw [List.reverse_reverse, List.take_append_drop]
theorem fw_ca_r {k cal : Nat} {st : List fw_V} {act : fw_A} (h : fw_ca k cal true st = some act) : ∃ (as rest : List fw_V) (r : Int), act = .inr (.inr (cal, (2, r) :: as, rest)) ∧ st = as.reverse ++ (2, r) :: rest ∧ as.map Prod.fst = fw_pt cal ∧ fw_rk cal < fw_rk k ∧ cal < 137 ∧ cal ≠ 0 ∧ fw_kd r = (fw_oc cal : Int) + 3 ∧ rest.length ≤ 4 := by
  unfold fw_ca at h
  simp only [if_true] at h
  split at h
  · rename_i hc
    split at h
    · rename_i r rest hst
      split at h
      · rename_i hk
        cases h
        refine ⟨_, _, _, rfl, ?_, hc.1, hc.2.1, hc.2.2.1, hc.2.2.2, hk.1, hk.2⟩
        rw [← hst]
        exact fw_take_app st _
      · cases h
    · cases h
  · cases h
theorem fw_ca_s {k cal : Nat} {st : List fw_V} {act : fw_A} (h : fw_ca k cal false st = some act) : ∃ (as rest : List fw_V), act = .inr (.inr (cal, as, rest)) ∧ st = as.reverse ++ rest ∧ as.map Prod.fst = fw_pt cal ∧ fw_rk cal < fw_rk k ∧ cal < 137 ∧ cal ≠ 0 ∧ rest.length ≤ 4 := by
  unfold fw_ca at h
  simp only [Bool.false_eq_true, if_false] at h
  split at h
  · rename_i hc
    split at h
    · rename_i hk
      cases h
      exact ⟨_, _, rfl, fw_take_app st _, hc.1, hc.2.1, hc.2.2.1, hc.2.2.2, hk⟩
    · cases h
  · cases h
theorem fw_mr_2 {o n cal ne : Nat} (h : fw_mr o n = some (cal, ne)) : ne = 0 ∨ ne = 1 := by
  obtain ⟨q, hq, q1, q2, q3, q4⟩ := fw_mr_find h
  have := (fw_mr_lt q hq).2
  omega
theorem fw_kd99 (a : Int) : fw_kd a ≠ 99 := by
  have key : ∀ k, k < 50 → fw_kdT.getD k 0 ≠ 99 := by decide +kernel
  unfold fw_kd
  split
  · decide
  · split
    · exact key _ (by omega)
    · split
      · decide
      · split <;> decide
theorem fw_k_iconst {k pc : Nat} {n : Int} {ll st : List fw_V} {σ : fw_M} {act : fw_A} (hd : fw_dec k pc = some (.iconst n, 1)) (h : fw_si k pc ll st σ (.iconst n) = some act) : fw_sr k pc ll st σ act := by
    simp only [fw_si, fw_nx, fw_fi] at h
    cases h
    exact fun out hJ => fw_j_iconst hd hJ
theorem fw_k_bipush {k pc : Nat} {n : Int} {ll st : List fw_V} {σ : fw_M} {act : fw_A} (hd : fw_dec k pc = some (.bipush n, 2)) (h : fw_si k pc ll st σ (.bipush n) = some act) : fw_sr k pc ll st σ act := by
    simp only [fw_si, fw_nx, fw_fi] at h
    cases h
    exact fun out hJ => fw_j_bipush hd hJ
theorem fw_k_sipush {k pc : Nat} {n : Int} {ll st : List fw_V} {σ : fw_M} {act : fw_A} (hd : fw_dec k pc = some (.sipush n, 3)) (h : fw_si k pc ll st σ (.sipush n) = some act) : fw_sr k pc ll st σ act := by
    simp only [fw_si, fw_nx, fw_fi] at h
    cases h
    exact fun out hJ => fw_j_sipush hd hJ
theorem fw_k_lconst {k pc : Nat} {n : Fin 2} {ll st : List fw_V} {σ : fw_M} {act : fw_A} (hd : fw_dec k pc = some (.lconst n, 1)) (h : fw_si k pc ll st σ (.lconst n) = some act) : fw_sr k pc ll st σ act := by
    simp only [fw_si, fw_nx, fw_fi] at h
    cases h
    exact fun out hJ => fw_j_lconst hd hJ
theorem fw_k_fconst {k pc : Nat} {n : Fin 3} {ll st : List fw_V} {σ : fw_M} {act : fw_A} (hd : fw_dec k pc = some (.fconst n, 1)) (h : fw_si k pc ll st σ (.fconst n) = some act) : fw_sr k pc ll st σ act := by
    simp only [fw_si, fw_nx, fw_fi] at h
    split at h
    · rename_i hc
      cases h
      exact fun out hJ => by subst hc; exact fw_j_fconst hd hJ
    · cases h
theorem fw_k_dconst {k pc : Nat} {n : Fin 2} {ll st : List fw_V} {σ : fw_M} {act : fw_A} (hd : fw_dec k pc = some (.dconst n, 1)) (h : fw_si k pc ll st σ (.dconst n) = some act) : fw_sr k pc ll st σ act := by
    simp only [fw_si, fw_nx, fw_fi] at h
    split at h
    · rename_i hc
      cases h
      exact fun out hJ => by subst hc; exact fw_j_dconst hd hJ
    · cases h
theorem fw_k_aconst_null {k pc : Nat}  {ll st : List fw_V} {σ : fw_M} {act : fw_A} (hd : fw_dec k pc = some (.aconst_null, 1)) (h : fw_si k pc ll st σ (.aconst_null) = some act) : fw_sr k pc ll st σ act := by
    simp only [fw_si, fw_nx, fw_fi] at h
    cases h
    exact fun out hJ => fw_j_null hd hJ
theorem fw_k_ldc {k pc : Nat} {n : Nat} {ll st : List fw_V} {σ : fw_M} {act : fw_A} (hd : fw_dec k pc = some (.ldc n, 2)) (h : fw_si k pc ll st σ (.ldc n) = some act) : fw_sr k pc ll st σ act := by
    simp only [fw_si, fw_nx, fw_fi] at h
    split at h
    · rename_i hv
      cases h
      exact fun out hJ => fw_j_ldc hv hd hJ
    · cases h
theorem fw_k_ldc2_w {k pc : Nat} {n : Nat} {ll st : List fw_V} {σ : fw_M} {act : fw_A} (hd : fw_dec k pc = some (.ldc2_w n, 3)) (h : fw_si k pc ll st σ (.ldc2_w n) = some act) : fw_sr k pc ll st σ act := by
    simp only [fw_si, fw_nx, fw_fi] at h
    split at h
    · rename_i hv
      cases h
      exact fun out hJ => fw_j_ldc2 hv hd hJ
    · cases h
theorem fw_k_iload_n {k pc : Nat} {n : Fin 4} {ll st : List fw_V} {σ : fw_M} {act : fw_A} (hd : fw_dec k pc = some (.iload_n n, 1)) (h : fw_si k pc ll st σ (.iload_n n) = some act) : fw_sr k pc ll st σ act := by
    simp only [fw_si, fw_nx, fw_fi] at h
    split at h
    · rename_i hc
      cases h
      exact fun out hJ => fw_j_iload_n hd hc hJ
    · cases h
theorem fw_k_iload {k pc : Nat} {n : Nat} {ll st : List fw_V} {σ : fw_M} {act : fw_A} (hd : fw_dec k pc = some (.iload n, 2)) (h : fw_si k pc ll st σ (.iload n) = some act) : fw_sr k pc ll st σ act := by
    simp only [fw_si, fw_nx, fw_fi] at h
    split at h
    · rename_i hc
      cases h
      exact fun out hJ => fw_j_iload hd hc hJ
    · cases h
theorem fw_k_aload_n {k pc : Nat} {n : Fin 4} {ll st : List fw_V} {σ : fw_M} {act : fw_A} (hd : fw_dec k pc = some (.aload_n n, 1)) (h : fw_si k pc ll st σ (.aload_n n) = some act) : fw_sr k pc ll st σ act := by
    simp only [fw_si, fw_nx, fw_fi] at h
    split at h
    · rename_i hc
      cases h
      exact fun out hJ => fw_j_aload_n hd hc hJ
    · cases h
theorem fw_k_aload {k pc : Nat} {n : Nat} {ll st : List fw_V} {σ : fw_M} {act : fw_A} (hd : fw_dec k pc = some (.aload n, 2)) (h : fw_si k pc ll st σ (.aload n) = some act) : fw_sr k pc ll st σ act := by
    simp only [fw_si, fw_nx, fw_fi] at h
    split at h
    · rename_i hc
      cases h
      exact fun out hJ => fw_j_aload hd hc hJ
    · cases h
theorem fw_k_lload_n {k pc : Nat} {n : Fin 4} {ll st : List fw_V} {σ : fw_M} {act : fw_A} (hd : fw_dec k pc = some (.lload_n n, 1)) (h : fw_si k pc ll st σ (.lload_n n) = some act) : fw_sr k pc ll st σ act := by
    simp only [fw_si, fw_nx, fw_fi] at h
    split at h
    · rename_i hc
      cases h
      exact fun out hJ => fw_j_lload_n hd hc hJ
    · cases h
theorem fw_k_lload {k pc : Nat} {n : Nat} {ll st : List fw_V} {σ : fw_M} {act : fw_A} (hd : fw_dec k pc = some (.lload n, 2)) (h : fw_si k pc ll st σ (.lload n) = some act) : fw_sr k pc ll st σ act := by
    simp only [fw_si, fw_nx, fw_fi] at h
    split at h
    · rename_i hc
      cases h
      exact fun out hJ => fw_j_lload hd hc hJ
    · cases h
theorem fw_k_fload {k pc : Nat} {n : Nat} {ll st : List fw_V} {σ : fw_M} {act : fw_A} (hd : fw_dec k pc = some (.fload n, 2)) (h : fw_si k pc ll st σ (.fload n) = some act) : fw_sr k pc ll st σ act := by
    simp only [fw_si, fw_nx, fw_fi] at h
    split at h
    · rename_i hc
      cases h
      exact fun out hJ => fw_j_fload hd hc hJ
    · cases h
theorem fw_k_istore_n {k pc : Nat} {n : Fin 4} {ll st : List fw_V} {σ : fw_M} {act : fw_A} (hd : fw_dec k pc = some (.istore_n n, 1)) (h : fw_si k pc ll st σ (.istore_n n) = some act) : fw_sr k pc ll st σ act := by
    simp only [fw_si, fw_nx, fw_fi] at h
    split at h
    · split at h
      · rename_i hc
        cases h
        exact fun out hJ => fw_j_istore_n hd hc hJ
      · cases h
    · cases h
theorem fw_k_istore {k pc : Nat} {n : Nat} {ll st : List fw_V} {σ : fw_M} {act : fw_A} (hd : fw_dec k pc = some (.istore n, 2)) (h : fw_si k pc ll st σ (.istore n) = some act) : fw_sr k pc ll st σ act := by
    simp only [fw_si, fw_nx, fw_fi] at h
    split at h
    · split at h
      · rename_i hc
        cases h
        exact fun out hJ => fw_j_istore hd hc hJ
      · cases h
    · cases h
theorem fw_k_fstore {k pc : Nat} {n : Nat} {ll st : List fw_V} {σ : fw_M} {act : fw_A} (hd : fw_dec k pc = some (.fstore n, 2)) (h : fw_si k pc ll st σ (.fstore n) = some act) : fw_sr k pc ll st σ act := by
    simp only [fw_si, fw_nx, fw_fi] at h
    split at h
    · split at h
      · rename_i hc
        cases h
        exact fun out hJ => fw_j_fstore hd hc hJ
      · cases h
    · cases h
theorem fw_k_astore_n {k pc : Nat} {n : Fin 4} {ll st : List fw_V} {σ : fw_M} {act : fw_A} (hd : fw_dec k pc = some (.astore_n n, 1)) (h : fw_si k pc ll st σ (.astore_n n) = some act) : fw_sr k pc ll st σ act := by
    simp only [fw_si, fw_nx, fw_fi] at h
    split at h
    · split at h
      · rename_i hc
        cases h
        exact fun out hJ => fw_j_astore_n hd hc hJ
      · cases h
    · split at h
      · rename_i hc
        cases h
        exact fun out hJ => fw_j_astore_n7 hd hc hJ
      · cases h
    · cases h
theorem fw_k_astore {k pc : Nat} {n : Nat} {ll st : List fw_V} {σ : fw_M} {act : fw_A} (hd : fw_dec k pc = some (.astore n, 2)) (h : fw_si k pc ll st σ (.astore n) = some act) : fw_sr k pc ll st σ act := by
    simp only [fw_si, fw_nx, fw_fi] at h
    split at h
    · split at h
      · rename_i hc
        cases h
        exact fun out hJ => fw_j_astore hd hc hJ
      · cases h
    · split at h
      · rename_i hc
        cases h
        exact fun out hJ => fw_j_astore7 hd hc hJ
      · cases h
    · cases h
theorem fw_k_lstore_n {k pc : Nat} {n : Fin 4} {ll st : List fw_V} {σ : fw_M} {act : fw_A} (hd : fw_dec k pc = some (.lstore_n n, 1)) (h : fw_si k pc ll st σ (.lstore_n n) = some act) : fw_sr k pc ll st σ act := by
    simp only [fw_si, fw_nx, fw_fi] at h
    split at h
    · split at h
      · rename_i hc
        cases h
        exact fun out hJ => by obtain ⟨hc1, rfl, hc3⟩ := hc; exact fw_j_lstore_n hd hc1 hc3 hJ
      · cases h
    · cases h
theorem fw_k_lstore {k pc : Nat} {n : Nat} {ll st : List fw_V} {σ : fw_M} {act : fw_A} (hd : fw_dec k pc = some (.lstore n, 2)) (h : fw_si k pc ll st σ (.lstore n) = some act) : fw_sr k pc ll st σ act := by
    simp only [fw_si, fw_nx, fw_fi] at h
    split at h
    · split at h
      · rename_i hc
        cases h
        exact fun out hJ => by obtain ⟨hc1, rfl, hc3⟩ := hc; exact fw_j_lstore hd hc1 hc3 hJ
      · cases h
    · cases h
theorem fw_k_iinc {k pc : Nat} {n : Nat} {c0 : Int} {ll st : List fw_V} {σ : fw_M} {act : fw_A} (hd : fw_dec k pc = some (.iinc n c0, 3)) (h : fw_si k pc ll st σ (.iinc n c0) = some act) : fw_sr k pc ll st σ act := by
    simp only [fw_si, fw_nx, fw_fi] at h
    split at h
    · rename_i hc
      cases h
      exact fun out hJ => fw_j_iinc hd hc.1 hc.2 hJ
    · cases h
theorem fw_k_iadd {k pc : Nat}  {ll st : List fw_V} {σ : fw_M} {act : fw_A} (hd : fw_dec k pc = some (.iadd, 1)) (h : fw_si k pc ll st σ (.iadd) = some act) : fw_sr k pc ll st σ act := by
    simp only [fw_si, fw_nx, fw_fi] at h
    split at h
    · cases h
      exact fun out hJ => fw_j_iadd hd hJ
    · cases h
theorem fw_k_isub {k pc : Nat}  {ll st : List fw_V} {σ : fw_M} {act : fw_A} (hd : fw_dec k pc = some (.isub, 1)) (h : fw_si k pc ll st σ (.isub) = some act) : fw_sr k pc ll st σ act := by
    simp only [fw_si, fw_nx, fw_fi] at h
    split at h
    · cases h
      exact fun out hJ => fw_j_isub hd hJ
    · cases h
theorem fw_k_imul {k pc : Nat}  {ll st : List fw_V} {σ : fw_M} {act : fw_A} (hd : fw_dec k pc = some (.imul, 1)) (h : fw_si k pc ll st σ (.imul) = some act) : fw_sr k pc ll st σ act := by
    simp only [fw_si, fw_nx, fw_fi] at h
    split at h
    · cases h
      exact fun out hJ => fw_j_imul hd hJ
    · cases h
theorem fw_k_ladd {k pc : Nat}  {ll st : List fw_V} {σ : fw_M} {act : fw_A} (hd : fw_dec k pc = some (.ladd, 1)) (h : fw_si k pc ll st σ (.ladd) = some act) : fw_sr k pc ll st σ act := by
    simp only [fw_si, fw_nx, fw_fi] at h
    split at h
    · cases h
      exact fun out hJ => fw_j_ladd hd hJ
    · cases h
theorem fw_k_lcmp {k pc : Nat}  {ll st : List fw_V} {σ : fw_M} {act : fw_A} (hd : fw_dec k pc = some (.lcmp, 1)) (h : fw_si k pc ll st σ (.lcmp) = some act) : fw_sr k pc ll st σ act := by
    simp only [fw_si, fw_nx, fw_fi] at h
    split at h
    · cases h
      exact fun out hJ => fw_j_lcmp hd hJ
    · cases h
theorem fw_k_i2l {k pc : Nat}  {ll st : List fw_V} {σ : fw_M} {act : fw_A} (hd : fw_dec k pc = some (.i2l, 1)) (h : fw_si k pc ll st σ (.i2l) = some act) : fw_sr k pc ll st σ act := by
    simp only [fw_si, fw_nx, fw_fi] at h
    split at h
    · cases h
      exact fun out hJ => fw_j_i2l hd hJ
    · cases h
theorem fw_k_i2d {k pc : Nat}  {ll st : List fw_V} {σ : fw_M} {act : fw_A} (hd : fw_dec k pc = some (.i2d, 1)) (h : fw_si k pc ll st σ (.i2d) = some act) : fw_sr k pc ll st σ act := by
    simp only [fw_si, fw_nx, fw_fi] at h
    split at h
    · cases h
      exact fun out hJ => fw_j_i2d hd hJ
    · cases h
theorem fw_k_i2f {k pc : Nat}  {ll st : List fw_V} {σ : fw_M} {act : fw_A} (hd : fw_dec k pc = some (.i2f, 1)) (h : fw_si k pc ll st σ (.i2f) = some act) : fw_sr k pc ll st σ act := by
    simp only [fw_si, fw_nx, fw_fi] at h
    split at h
    · cases h
      exact fun out hJ => fw_j_i2f hd hJ
    · cases h
theorem fw_k_l2d {k pc : Nat}  {ll st : List fw_V} {σ : fw_M} {act : fw_A} (hd : fw_dec k pc = some (.l2d, 1)) (h : fw_si k pc ll st σ (.l2d) = some act) : fw_sr k pc ll st σ act := by
    simp only [fw_si, fw_nx, fw_fi] at h
    split at h
    · cases h
      exact fun out hJ => fw_j_l2d hd hJ
    · cases h
theorem fw_k_dup2 {k pc : Nat}  {ll st : List fw_V} {σ : fw_M} {act : fw_A} (hd : fw_dec k pc = some (.dup2, 1)) (h : fw_si k pc ll st σ (.dup2) = some act) : fw_sr k pc ll st σ act := by
    simp only [fw_si, fw_nx, fw_fi] at h
    split at h
    · cases h
      exact fun out hJ => fw_j_dup2 hd hJ
    · cases h
theorem fw_k_iand {k pc : Nat}  {ll st : List fw_V} {σ : fw_M} {act : fw_A} (hd : fw_dec k pc = some (.iand, 1)) (h : fw_si k pc ll st σ (.iand) = some act) : fw_sr k pc ll st σ act := by
    simp only [fw_si, fw_nx, fw_fi] at h
    split at h
    · cases h
      exact fun out hJ => fw_j_iand hd hJ
    · cases h
theorem fw_k_ishr {k pc : Nat}  {ll st : List fw_V} {σ : fw_M} {act : fw_A} (hd : fw_dec k pc = some (.ishr, 1)) (h : fw_si k pc ll st σ (.ishr) = some act) : fw_sr k pc ll st σ act := by
    simp only [fw_si, fw_nx, fw_fi] at h
    split at h
    · cases h
      exact fun out hJ => fw_j_ishr hd hJ
    · cases h
theorem fw_k_lmul {k pc : Nat}  {ll st : List fw_V} {σ : fw_M} {act : fw_A} (hd : fw_dec k pc = some (.lmul, 1)) (h : fw_si k pc ll st σ (.lmul) = some act) : fw_sr k pc ll st σ act := by
    simp only [fw_si, fw_nx, fw_fi] at h
    split at h
    · cases h
      exact fun out hJ => fw_j_lmul hd hJ
    · cases h
theorem fw_k_l2i {k pc : Nat}  {ll st : List fw_V} {σ : fw_M} {act : fw_A} (hd : fw_dec k pc = some (.l2i, 1)) (h : fw_si k pc ll st σ (.l2i) = some act) : fw_sr k pc ll st σ act := by
    simp only [fw_si, fw_nx, fw_fi] at h
    split at h
    · cases h
      exact fun out hJ => fw_j_l2i hd hJ
    · cases h
theorem fw_k_dup_x2 {k pc : Nat}  {ll st : List fw_V} {σ : fw_M} {act : fw_A} (hd : fw_dec k pc = some (.dup_x2, 1)) (h : fw_si k pc ll st σ (.dup_x2) = some act) : fw_sr k pc ll st σ act := by
    simp only [fw_si, fw_nx, fw_fi] at h
    split at h
    · cases h
      exact fun out hJ => fw_j_dup_x2 hd hJ
    · cases h
theorem fw_k_irem {k pc : Nat}  {ll st : List fw_V} {σ : fw_M} {act : fw_A} (hd : fw_dec k pc = some (.irem, 1)) (h : fw_si k pc ll st σ (.irem) = some act) : fw_sr k pc ll st σ act := by
    simp only [fw_si, fw_nx, fw_fi] at h
    split at h
    · split at h
      · rename_i hc
        cases h
        exact fun out hJ => fw_j_irem hd hc.1 hc.2 hJ
      · cases h
    · cases h
theorem fw_k_lrem {k pc : Nat}  {ll st : List fw_V} {σ : fw_M} {act : fw_A} (hd : fw_dec k pc = some (.lrem, 1)) (h : fw_si k pc ll st σ (.lrem) = some act) : fw_sr k pc ll st σ act := by
    simp only [fw_si, fw_nx, fw_fi] at h
    split at h
    · split at h
      · rename_i hc
        cases h
        exact fun out hJ => fw_j_lrem hd hc.1 hc.2 hJ
      · cases h
    · cases h
theorem fw_k_f2d {k pc : Nat}  {ll st : List fw_V} {σ : fw_M} {act : fw_A} (hd : fw_dec k pc = some (.f2d, 1)) (h : fw_si k pc ll st σ (.f2d) = some act) : fw_sr k pc ll st σ act := by
    simp only [fw_si, fw_nx, fw_fi] at h
    split at h
    · split at h
      · rename_i hc
        cases h
        exact fun out hJ => fw_j_f2d hd hc hJ
      · cases h
    · cases h
theorem fw_k_ddiv {k pc : Nat}  {ll st : List fw_V} {σ : fw_M} {act : fw_A} (hd : fw_dec k pc = some (.ddiv, 1)) (h : fw_si k pc ll st σ (.ddiv) = some act) : fw_sr k pc ll st σ act := by
    simp only [fw_si, fw_nx, fw_fi] at h
    split at h
    · split at h
      · rename_i hc
        cases h
        exact fun out hJ => fw_j_ddiv hd hc hJ
      · cases h
    · cases h
theorem fw_k_fdiv {k pc : Nat}  {ll st : List fw_V} {σ : fw_M} {act : fw_A} (hd : fw_dec k pc = some (.fdiv, 1)) (h : fw_si k pc ll st σ (.fdiv) = some act) : fw_sr k pc ll st σ act := by
    simp only [fw_si, fw_nx, fw_fi] at h
    split at h
    · split at h
      · rename_i hc
        cases h
        exact fun out hJ => fw_j_fdiv hd hc hJ
      · cases h
    · cases h
theorem fw_k_dcmp {k pc : Nat} {op : CmpOp} {ll st : List fw_V} {σ : fw_M} {act : fw_A} (hd : fw_dec k pc = some (.dcmp op, 1)) (h : fw_si k pc ll st σ (.dcmp op) = some act) : fw_sr k pc ll st σ act := by
    simp only [fw_si, fw_nx, fw_fi] at h
    split at h
    · cases h
      exact fun out hJ => fw_j_dcmp hd hJ
    · cases h
theorem fw_k_fcmp {k pc : Nat} {op : CmpOp} {ll st : List fw_V} {σ : fw_M} {act : fw_A} (hd : fw_dec k pc = some (.fcmp op, 1)) (h : fw_si k pc ll st σ (.fcmp op) = some act) : fw_sr k pc ll st σ act := by
    simp only [fw_si, fw_nx, fw_fi] at h
    split at h
    · cases h
      exact fun out hJ => fw_j_fcmp hd hJ
    · cases h
theorem fw_k_dup {k pc : Nat}  {ll st : List fw_V} {σ : fw_M} {act : fw_A} (hd : fw_dec k pc = some (.dup, 1)) (h : fw_si k pc ll st σ (.dup) = some act) : fw_sr k pc ll st σ act := by
    simp only [fw_si, fw_nx, fw_fi] at h
    split at h
    · split at h
      · rename_i hc
        cases h
        exact fun out hJ => fw_j_dup hd hc hJ
      · cases h
    · cases h
theorem fw_k_pop {k pc : Nat}  {ll st : List fw_V} {σ : fw_M} {act : fw_A} (hd : fw_dec k pc = some (.pop, 1)) (h : fw_si k pc ll st σ (.pop) = some act) : fw_sr k pc ll st σ act := by
    simp only [fw_si, fw_nx, fw_fi] at h
    split at h
    · split at h
      · rename_i hc
        cases h
        exact fun out hJ => fw_j_pop hd hc hJ
      · cases h
    · cases h
theorem fw_k_goto {k pc : Nat} {off : Int} {ll st : List fw_V} {σ : fw_M} {act : fw_A} (hd : fw_dec k pc = some (.goto off, 3)) (h : fw_si k pc ll st σ (.goto off) = some act) : fw_sr k pc ll st σ act := by
    simp only [fw_si, fw_nx, fw_fi] at h
    split at h
    · rename_i hc
      cases h
      exact fun out hJ => fw_j_goto hd hc hJ
    · cases h
theorem fw_k_ifCond {k pc : Nat} {cc : ClassFile.Cond} {off : Int} {ll st : List fw_V} {σ : fw_M} {act : fw_A} (hd : fw_dec k pc = some (.ifCond cc off, 3)) (h : fw_si k pc ll st σ (.ifCond cc off) = some act) : fw_sr k pc ll st σ act := by
    simp only [fw_si, fw_nx, fw_fi] at h
    split at h
    · split at h
      · rename_i hc
        unfold fw_br at h
        split at h
        · rename_i hq
          cases h
          exact fun out hJ => fw_j_ifc hd hc (by rw [if_pos hq]; exact hJ)
        · rename_i hq
          cases h
          exact fun out hJ => fw_j_ifc hd hc (by rw [if_neg hq]; exact hJ)
      · cases h
    · cases h
theorem fw_k_if_icmp {k pc : Nat} {cc : ClassFile.Cond} {off : Int} {ll st : List fw_V} {σ : fw_M} {act : fw_A} (hd : fw_dec k pc = some (.if_icmp cc off, 3)) (h : fw_si k pc ll st σ (.if_icmp cc off) = some act) : fw_sr k pc ll st σ act := by
    simp only [fw_si, fw_nx, fw_fi] at h
    split at h
    · split at h
      · rename_i hc
        unfold fw_br at h
        split at h
        · rename_i hq
          cases h
          exact fun out hJ => fw_j_icmp hd hc (by rw [if_pos hq]; exact hJ)
        · rename_i hq
          cases h
          exact fun out hJ => fw_j_icmp hd hc (by rw [if_neg hq]; exact hJ)
      · cases h
    · cases h
theorem fw_k_ifnull {k pc : Nat} {off : Int} {ll st : List fw_V} {σ : fw_M} {act : fw_A} (hd : fw_dec k pc = some (.ifnull off, 3)) (h : fw_si k pc ll st σ (.ifnull off) = some act) : fw_sr k pc ll st σ act := by
    simp only [fw_si, fw_nx, fw_fi] at h
    split at h
    · split at h
      · rename_i hc
        unfold fw_br at h
        split at h
        · rename_i hq
          cases h
          exact fun out hJ => fw_j_ifnull hd hc (by rw [if_pos hq]; exact hJ)
        · rename_i hq
          cases h
          exact fun out hJ => fw_j_ifnull hd hc (by rw [if_neg hq]; exact hJ)
      · cases h
    · cases h
theorem fw_k_ifnonnull {k pc : Nat} {off : Int} {ll st : List fw_V} {σ : fw_M} {act : fw_A} (hd : fw_dec k pc = some (.ifnonnull off, 3)) (h : fw_si k pc ll st σ (.ifnonnull off) = some act) : fw_sr k pc ll st σ act := by
    simp only [fw_si, fw_nx, fw_fi] at h
    split at h
    · split at h
      · rename_i hc
        unfold fw_br at h
        split at h
        · rename_i hq
          cases h
          exact fun out hJ => fw_j_ifnonnull hd hc (by rw [if_pos hq]; exact hJ)
        · rename_i hq
          cases h
          exact fun out hJ => fw_j_ifnonnull hd hc (by rw [if_neg hq]; exact hJ)
      · cases h
    · cases h
theorem fw_k_tableswitch {k pc len : Nat} {d : Int} {lo : Int} {hi : Int} {offs : Array Int} {ll st : List fw_V} {σ : fw_M} {act : fw_A} (hd : fw_dec k pc = some (.tableswitch d lo hi offs, len)) (h : fw_si k pc ll st σ (.tableswitch d lo hi offs) = some act) : fw_sr k pc ll st σ act := by
    simp only [fw_si, fw_nx, fw_fi] at h
    split at h
    · split at h
      · rename_i hx
        split at h
        · rename_i hc
          cases h
          exact fun out hJ => fw_j_tswO hd hc hx hJ
        · cases h
      · rename_i hx
        split at h
        · rename_i ho
          split at h
          · rename_i hc
            cases h
            exact fun out hJ => fw_j_tswI hd hc hx ho hJ
          · cases h
        · cases h
    · cases h
theorem fw_k_iaload {k pc : Nat}  {ll st : List fw_V} {σ : fw_M} {act : fw_A} (hd : fw_dec k pc = some (.iaload, 1)) (h : fw_si k pc ll st σ (.iaload) = some act) : fw_sr k pc ll st σ act := by
    simp only [fw_si, fw_nx, fw_fi] at h
    split at h
    · split at h
      · rename_i hc
        cases h
        exact fun out hJ => fw_j_iald hd hc.1 hc.2.1 hc.2.2 hJ
      · cases h
    · split at h
      · rename_i hc
        cases h
        exact fun out hJ => fw_j_sald hd hc.1 hc.2 hJ
      · cases h
    · cases h
theorem fw_k_caload {k pc : Nat}  {ll st : List fw_V} {σ : fw_M} {act : fw_A} (hd : fw_dec k pc = some (.caload, 1)) (h : fw_si k pc ll st σ (.caload) = some act) : fw_sr k pc ll st σ act := by
    simp only [fw_si, fw_nx, fw_fi] at h
    split at h
    · split at h
      · rename_i hc
        cases h
        exact fun out hJ => fw_j_cald hd hc.1 hc.2.1 hc.2.2 hJ
      · cases h
    · cases h
theorem fw_k_baload {k pc : Nat}  {ll st : List fw_V} {σ : fw_M} {act : fw_A} (hd : fw_dec k pc = some (.baload, 1)) (h : fw_si k pc ll st σ (.baload) = some act) : fw_sr k pc ll st σ act := by
    simp only [fw_si, fw_nx, fw_fi] at h
    split at h
    · split at h
      · rename_i hc
        cases h
        exact fun out hJ => fw_j_zald hd hc.1 hc.2.1 hc.2.2 hJ
      · cases h
    · cases h
theorem fw_k_laload {k pc : Nat}  {ll st : List fw_V} {σ : fw_M} {act : fw_A} (hd : fw_dec k pc = some (.laload, 1)) (h : fw_si k pc ll st σ (.laload) = some act) : fw_sr k pc ll st σ act := by
    simp only [fw_si, fw_nx, fw_fi] at h
    split at h
    · split at h
      · rename_i hc
        cases h
        exact fun out hJ => fw_j_lald hd hc.1 hc.2.1 hc.2.2 hJ
      · cases h
    · cases h
theorem fw_k_daload {k pc : Nat}  {ll st : List fw_V} {σ : fw_M} {act : fw_A} (hd : fw_dec k pc = some (.daload, 1)) (h : fw_si k pc ll st σ (.daload) = some act) : fw_sr k pc ll st σ act := by
    simp only [fw_si, fw_nx, fw_fi] at h
    split at h
    · split at h
      · rename_i hc
        cases h
        exact fun out hJ => fw_j_dald hd hc.1 hc.2.1 hc.2.2 hJ
      · cases h
    · cases h
theorem fw_k_aaload {k pc : Nat}  {ll st : List fw_V} {σ : fw_M} {act : fw_A} (hd : fw_dec k pc = some (.aaload, 1)) (h : fw_si k pc ll st σ (.aaload) = some act) : fw_sr k pc ll st σ act := by
    simp only [fw_si, fw_nx, fw_fi] at h
    split at h
    · split at h
      · rename_i hc
        cases h
        exact fun out hJ => fw_j_aald hd hc.1 hc.2.1 hc.2.2 hJ
      · cases h
    · cases h
theorem fw_k_iastore {k pc : Nat}  {ll st : List fw_V} {σ : fw_M} {act : fw_A} (hd : fw_dec k pc = some (.iastore, 1)) (h : fw_si k pc ll st σ (.iastore) = some act) : fw_sr k pc ll st σ act := by
    simp only [fw_si, fw_nx, fw_fi] at h
    split at h
    · split at h
      · rename_i hc
        cases h
        exact fun out hJ => fw_j_iast hd hc.1 hc.2.1 hc.2.2 hJ
      · cases h
    · cases h
theorem fw_k_lastore {k pc : Nat}  {ll st : List fw_V} {σ : fw_M} {act : fw_A} (hd : fw_dec k pc = some (.lastore, 1)) (h : fw_si k pc ll st σ (.lastore) = some act) : fw_sr k pc ll st σ act := by
    simp only [fw_si, fw_nx, fw_fi] at h
    split at h
    · split at h
      · rename_i hc
        cases h
        exact fun out hJ => fw_j_last hd hc.1 hc.2.1 hc.2.2 hJ
      · cases h
    · cases h
theorem fw_k_dastore {k pc : Nat}  {ll st : List fw_V} {σ : fw_M} {act : fw_A} (hd : fw_dec k pc = some (.dastore, 1)) (h : fw_si k pc ll st σ (.dastore) = some act) : fw_sr k pc ll st σ act := by
    simp only [fw_si, fw_nx, fw_fi] at h
    split at h
    · split at h
      · rename_i hc
        cases h
        exact fun out hJ => fw_j_dast hd hc.1 hc.2.1 hc.2.2 hJ
      · cases h
    · cases h
theorem fw_k_castore {k pc : Nat}  {ll st : List fw_V} {σ : fw_M} {act : fw_A} (hd : fw_dec k pc = some (.castore, 1)) (h : fw_si k pc ll st σ (.castore) = some act) : fw_sr k pc ll st σ act := by
    simp only [fw_si, fw_nx, fw_fi] at h
    split at h
    · split at h
      · rename_i hc
        cases h
        exact fun out hJ => fw_j_cast hd hc.1 hc.2.1 hc.2.2.1 hc.2.2.2.1 hc.2.2.2.2 hJ
      · cases h
    · cases h
theorem fw_k_bastore {k pc : Nat}  {ll st : List fw_V} {σ : fw_M} {act : fw_A} (hd : fw_dec k pc = some (.bastore, 1)) (h : fw_si k pc ll st σ (.bastore) = some act) : fw_sr k pc ll st σ act := by
    simp only [fw_si, fw_nx, fw_fi] at h
    split at h
    · split at h
      · rename_i hc
        cases h
        exact fun out hJ => fw_j_zast hd hc.1 hc.2.1 hc.2.2.1 hc.2.2.2 hJ
      · cases h
    · cases h
theorem fw_k_aastore {k pc : Nat}  {ll st : List fw_V} {σ : fw_M} {act : fw_A} (hd : fw_dec k pc = some (.aastore, 1)) (h : fw_si k pc ll st σ (.aastore) = some act) : fw_sr k pc ll st σ act := by
    simp only [fw_si, fw_nx, fw_fi] at h
    split at h
    · split at h
      · rename_i hc
        cases h
        exact fun out hJ => fw_j_aast hd hc.1 hc.2.2.1 hc.2.2.2 hc.2.1 hJ
      · cases h
    · cases h
theorem fw_k_arraylength {k pc : Nat}  {ll st : List fw_V} {σ : fw_M} {act : fw_A} (hd : fw_dec k pc = some (.arraylength, 1)) (h : fw_si k pc ll st σ (.arraylength) = some act) : fw_sr k pc ll st σ act := by
    simp only [fw_si, fw_nx, fw_fi] at h
    split at h
    · split at h
      · rename_i hc
        cases h
        exact fun out hJ => fw_j_alen hd hc hJ
      · cases h
    · split at h
      · rename_i hc
        cases h
        exact fun out hJ => fw_j_slen hd hc hJ
      · cases h
    · cases h
theorem fw_k_getfield {k pc : Nat} {n : Nat} {ll st : List fw_V} {σ : fw_M} {act : fw_A} (hd : fw_dec k pc = some (.getfield n, 3)) (h : fw_si k pc ll st σ (.getfield n) = some act) : fw_sr k pc ll st σ act := by
    simp only [fw_si, fw_nx, fw_fi] at h
    split at h
    · split at h
      · rename_i hf
        split at h
        · rename_i hc
          cases h
          exact fun out hJ => fw_j_get hd hf hc hJ
        · cases h
      · cases h
    · cases h
theorem fw_k_putfield {k pc : Nat} {n : Nat} {ll st : List fw_V} {σ : fw_M} {act : fw_A} (hd : fw_dec k pc = some (.putfield n, 3)) (h : fw_si k pc ll st σ (.putfield n) = some act) : fw_sr k pc ll st σ act := by
    simp only [fw_si, fw_nx, fw_fi] at h
    split at h
    · split at h
      · rename_i hf
        split at h
        · rename_i hc
          cases h
          exact fun out hJ => fw_j_put hd hf hc.1 hc.2.1 hc.2.2.1 hc.2.2.2 hJ
        · cases h
      · cases h
    · cases h
theorem fw_k_new {k pc : Nat} {n : Nat} {ll st : List fw_V} {σ : fw_M} {act : fw_A} (hd : fw_dec k pc = some (.new n, 3)) (h : fw_si k pc ll st σ (.new n) = some act) : fw_sr k pc ll st σ act := by
    simp only [fw_si, fw_nx, fw_fi] at h
    split at h
    · rename_i hf
      split at h
      · rename_i hc
        cases h
        exact fun out hJ => fw_j_new hd hf hc hJ
      · cases h
    · split at h
      · rename_i hx
        split at h
        · rename_i hc
          cases h
          obtain ⟨c1, c2, rfl, c3, c4, c5, c6⟩ := hc
          exact fw_j_throw hd hx c1 c2 c3 c4 c5 c6
        · cases h
      · cases h
theorem fw_k_newarray {k pc : Nat} {t : ArrayType} {ll st : List fw_V} {σ : fw_M} {act : fw_A} (hd : fw_dec k pc = some (.newarray t, 2)) (h : fw_si k pc ll st σ (.newarray t) = some act) : fw_sr k pc ll st σ act := by
    simp only [fw_si, fw_nx, fw_fi] at h
    split at h
    · split at h
      · rename_i hc
        cases h
        obtain ⟨c1, c2, c3, c4⟩ := hc
        intro out hJ
        cases t with
        | int => exact fw_j_newa_int hd c1 c2 c3 c4 hJ
        | char => exact fw_j_newa_char hd c1 c2 c3 c4 hJ
        | boolean => exact fw_j_newa_boolean hd c1 c2 c3 c4 hJ
        | _ => exact absurd c3 (fw_kd99 _)
      · cases h
    · cases h
theorem fw_k_anewarray {k pc : Nat} {m : Nat} {ll st : List fw_V} {σ : fw_M} {act : fw_A} (hd : fw_dec k pc = some (.anewarray m, 3)) (h : fw_si k pc ll st σ (.anewarray m) = some act) : fw_sr k pc ll st σ act := by
    simp only [fw_si, fw_nx, fw_fi] at h
    split at h
    · split at h
      · rename_i hc
        cases h
        obtain ⟨c1, rfl, c2, c3, c4, c5⟩ := hc
        exact fun out hJ => fw_j_newq hd c1 c2 c3 c4 c5 hJ
      · cases h
    · cases h
theorem fw_k_multianewarray {k pc : Nat} {m : Nat} {dn : Nat} {ll st : List fw_V} {σ : fw_M} {act : fw_A} (hd : fw_dec k pc = some (.multianewarray m dn, 4)) (h : fw_si k pc ll st σ (.multianewarray m dn) = some act) : fw_sr k pc ll st σ act := by
    simp only [fw_si, fw_nx, fw_fi] at h
    split at h
    · split at h
      · rename_i hc
        cases h
        obtain ⟨rfl, rfl, c1, rfl, rfl, c2⟩ := hc
        exact fun out hJ => fw_j_mna hd c1 c2 hJ
      · cases h
    · cases h
theorem fw_k_invokevirtual {k pc : Nat} {n : Nat} {ll st : List fw_V} {σ : fw_M} {act : fw_A} (hd : fw_dec k pc = some (.invokevirtual n, 3)) (h : fw_si k pc ll st σ (.invokevirtual n) = some act) : fw_sr k pc ll st σ act := by
    simp only [fw_si, fw_nx, fw_fi] at h
    split at h
    · rename_i hm
      split at h
      · rename_i hki
        obtain ⟨as, rest, r, rfl, rfl, c1, c2, c3, c4, c5, c6⟩ := fw_ca_r h
        exact fun o out hcal hAF => fw_j_callV hd hm hki c2 c3 c4 c1 c5 c6 hcal hAF
      · cases h
    · cases h
theorem fw_k_invokespecial {k pc : Nat} {n : Nat} {ll st : List fw_V} {σ : fw_M} {act : fw_A} (hd : fw_dec k pc = some (.invokespecial n, 3)) (h : fw_si k pc ll st σ (.invokespecial n) = some act) : fw_sr k pc ll st σ act := by
    simp only [fw_si, fw_nx, fw_fi] at h
    split at h
    · rename_i hm
      split at h
      · split at h
        · rename_i hc
          cases h
          exact fun out hJ => fw_j_obj hd hm hc.1 hc.2 hJ
        · cases h
      · cases h
    · rename_i cal ne _ hm
      split at h
      · rename_i hki
        obtain ⟨as, rest, r, rfl, rfl, c1, c2, c3, c4, c5, c6⟩ := fw_ca_r h
        rcases fw_mr_2 hm with rfl | rfl
        · exact fun o out hcal hAF => fw_j_callI hd hm hki c2 c3 c4 c1 c5 c6 hcal hAF
        · exact fun o out hcal hAF => fw_j_callIN hd hm hki c2 c3 c4 c1 c5 c6 hcal hAF
      · cases h
    · cases h
theorem fw_k_invokestatic {k pc : Nat} {n : Nat} {ll st : List fw_V} {σ : fw_M} {act : fw_A} (hd : fw_dec k pc = some (.invokestatic n, 3)) (h : fw_si k pc ll st σ (.invokestatic n) = some act) : fw_sr k pc ll st σ act := by
    simp only [fw_si, fw_nx, fw_fi] at h
    split at h
    · rename_i hm
      split at h
      · split at h
        · rename_i hc
          cases h
          exact fun out hJ => fw_j_max hd hm hc hJ
        · cases h
      · cases h
    · rename_i hm
      split at h
      · split at h
        · rename_i hc
          cases h
          exact fun out hJ => fw_j_min hd hm hc hJ
        · cases h
      · cases h
    · rename_i cal ne _ _ hm
      split at h
      · rename_i hki
        obtain ⟨as, rest, rfl, rfl, c1, c2, c3, c4, c6⟩ := fw_ca_s h
        rcases hki with hki | hki
        · rcases fw_mr_2 hm with rfl | rfl
          · exact fun o out hcal hAF => fw_j_callS hd hm hki c2 c3 c4 c1 c6 hcal hAF
          · exact fun o out hcal hAF => fw_j_callSN hd hm hki c2 c3 c4 c1 c6 hcal hAF
        · rcases fw_mr_2 hm with rfl | rfl
          · exact fun o out hcal hAF => fw_j_callSX hd hm hki c2 c3 c4 c1 c6 hcal hAF
          · obtain ⟨q, hq, q1, q2, q3, q4⟩ := fw_mr_find hm
            have := (fw_nest_ok q hq q4).2
            rw [q3] at this
            omega
      · cases h
    · cases h
theorem fw_k_ireturn {k pc : Nat}  {ll st : List fw_V} {σ : fw_M} {act : fw_A} (hd : fw_dec k pc = some (.ireturn, 1)) (h : fw_si k pc ll st σ (.ireturn) = some act) : fw_sr k pc ll st σ act := by
    simp only [fw_si, fw_nx, fw_fi] at h
    split at h
    · split at h
      · rename_i hc
        cases h
        refine fw_j_ret hd (fun al b cst hT => ?_)
        obtain ⟨v, r, rfl, hv, hT⟩ := fw_St_cons hT
        have := fw_St_nil hT
        subst this
        obtain ⟨z, rfl, ez⟩ := hv
        exact Or.inr (Or.inl ⟨rfl, rfl, hc, z, ez, rfl⟩)
      · cases h
    · cases h
theorem fw_k_lreturn {k pc : Nat}  {ll st : List fw_V} {σ : fw_M} {act : fw_A} (hd : fw_dec k pc = some (.lreturn, 1)) (h : fw_si k pc ll st σ (.lreturn) = some act) : fw_sr k pc ll st σ act := by
    simp only [fw_si, fw_nx, fw_fi] at h
    split at h
    · split at h
      · rename_i hc
        cases h
        refine fw_j_ret hd (fun al b cst hT => ?_)
        obtain ⟨v, r, rfl, hv, hT⟩ := fw_St_cons hT
        have := fw_St_nil hT
        subst this
        obtain ⟨z, rfl, ez⟩ := hv
        exact Or.inr (Or.inr (Or.inl ⟨rfl, rfl, hc, z, ez, rfl⟩))
      · cases h
    · cases h
theorem fw_k_areturn {k pc : Nat}  {ll st : List fw_V} {σ : fw_M} {act : fw_A} (hd : fw_dec k pc = some (.areturn, 1)) (h : fw_si k pc ll st σ (.areturn) = some act) : fw_sr k pc ll st σ act := by
    simp only [fw_si, fw_nx, fw_fi] at h
    split at h
    · split at h
      · rename_i hc
        cases h
        refine fw_j_ret hd (fun al b cst hT => ?_)
        obtain ⟨v, r, rfl, hv, hT⟩ := fw_St_cons hT
        have := fw_St_nil hT
        subst this
        exact Or.inr (Or.inr (Or.inr (Or.inl ⟨rfl, rfl, hc, v, hv, rfl⟩)))
      · cases h
    · cases h
theorem fw_k_dreturn {k pc : Nat}  {ll st : List fw_V} {σ : fw_M} {act : fw_A} (hd : fw_dec k pc = some (.dreturn, 1)) (h : fw_si k pc ll st σ (.dreturn) = some act) : fw_sr k pc ll st σ act := by
    simp only [fw_si, fw_nx, fw_fi] at h
    split at h
    · split at h
      · rename_i hc
        cases h
        refine fw_j_ret hd (fun al b cst hT => ?_)
        obtain ⟨v, r, rfl, hv, hT⟩ := fw_St_cons hT
        have := fw_St_nil hT
        subst this
        obtain ⟨z, rfl, ez⟩ := hv
        exact Or.inr (Or.inr (Or.inr (Or.inr (Or.inl ⟨rfl, rfl, hc, z, ez, rfl⟩))))
      · cases h
    · cases h
theorem fw_k_freturn {k pc : Nat}  {ll st : List fw_V} {σ : fw_M} {act : fw_A} (hd : fw_dec k pc = some (.freturn, 1)) (h : fw_si k pc ll st σ (.freturn) = some act) : fw_sr k pc ll st σ act := by
    simp only [fw_si, fw_nx, fw_fi] at h
    split at h
    · split at h
      · rename_i hc
        cases h
        refine fw_j_ret hd (fun al b cst hT => ?_)
        obtain ⟨v, r, rfl, hv, hT⟩ := fw_St_cons hT
        have := fw_St_nil hT
        subst this
        obtain ⟨z, rfl, ez⟩ := hv
        exact Or.inr (Or.inr (Or.inr (Or.inr (Or.inr ⟨rfl, rfl, hc, z, ez, rfl⟩))))
      · cases h
    · cases h
theorem fw_k_return_ {k pc : Nat}  {ll st : List fw_V} {σ : fw_M} {act : fw_A} (hd : fw_dec k pc = some (.return_, 1)) (h : fw_si k pc ll st σ (.return_) = some act) : fw_sr k pc ll st σ act := by
    simp only [fw_si, fw_nx, fw_fi] at h
    split at h
    · rename_i hc
      cases h
      obtain ⟨c1, rfl⟩ := hc
      refine fw_j_ret hd (fun al b cst hT => ?_)
      have := fw_St_nil hT
      subst this
      exact Or.inl ⟨rfl, rfl, c1, rfl⟩
    · cases h
theorem fw_si_ok {k pc n : Nat} {i : Instr} {ll st : List fw_V} {σ : fw_M} {act : fw_A} (hd : fw_dec k pc = some (i, n)) (hn : fw_il i n = true) (h : fw_si k pc ll st σ i = some act) : fw_sr k pc ll st σ act := by
  cases i with
  | iconst x0 => exact fw_k_iconst (by rw [hd, show n = 1 from eq_of_beq hn]) h
  | bipush x0 => exact fw_k_bipush (by rw [hd, show n = 2 from eq_of_beq hn]) h
  | sipush x0 => exact fw_k_sipush (by rw [hd, show n = 3 from eq_of_beq hn]) h
  | lconst x0 => exact fw_k_lconst (by rw [hd, show n = 1 from eq_of_beq hn]) h
  | fconst x0 => exact fw_k_fconst (by rw [hd, show n = 1 from eq_of_beq hn]) h
  | dconst x0 => exact fw_k_dconst (by rw [hd, show n = 1 from eq_of_beq hn]) h
  | aconst_null  => exact fw_k_aconst_null (by rw [hd, show n = 1 from eq_of_beq hn]) h
  | ldc x0 => exact fw_k_ldc (by rw [hd, show n = 2 from eq_of_beq hn]) h
  | ldc2_w x0 => exact fw_k_ldc2_w (by rw [hd, show n = 3 from eq_of_beq hn]) h
  | iload_n x0 => exact fw_k_iload_n (by rw [hd, show n = 1 from eq_of_beq hn]) h
  | iload x0 => exact fw_k_iload (by rw [hd, show n = 2 from eq_of_beq hn]) h
  | aload_n x0 => exact fw_k_aload_n (by rw [hd, show n = 1 from eq_of_beq hn]) h
  | aload x0 => exact fw_k_aload (by rw [hd, show n = 2 from eq_of_beq hn]) h
  | lload_n x0 => exact fw_k_lload_n (by rw [hd, show n = 1 from eq_of_beq hn]) h
  | lload x0 => exact fw_k_lload (by rw [hd, show n = 2 from eq_of_beq hn]) h
  | fload x0 => exact fw_k_fload (by rw [hd, show n = 2 from eq_of_beq hn]) h
  | istore_n x0 => exact fw_k_istore_n (by rw [hd, show n = 1 from eq_of_beq hn]) h
  | istore x0 => exact fw_k_istore (by rw [hd, show n = 2 from eq_of_beq hn]) h
  | fstore x0 => exact fw_k_fstore (by rw [hd, show n = 2 from eq_of_beq hn]) h
  | astore_n x0 => exact fw_k_astore_n (by rw [hd, show n = 1 from eq_of_beq hn]) h
  | astore x0 => exact fw_k_astore (by rw [hd, show n = 2 from eq_of_beq hn]) h
  | lstore_n x0 => exact fw_k_lstore_n (by rw [hd, show n = 1 from eq_of_beq hn]) h
  | lstore x0 => exact fw_k_lstore (by rw [hd, show n = 2 from eq_of_beq hn]) h
  | iinc x0 x1 => exact fw_k_iinc (by rw [hd, show n = 3 from eq_of_beq hn]) h
  | iadd  => exact fw_k_iadd (by rw [hd, show n = 1 from eq_of_beq hn]) h
  | isub  => exact fw_k_isub (by rw [hd, show n = 1 from eq_of_beq hn]) h
  | imul  => exact fw_k_imul (by rw [hd, show n = 1 from eq_of_beq hn]) h
  | ladd  => exact fw_k_ladd (by rw [hd, show n = 1 from eq_of_beq hn]) h
  | lcmp  => exact fw_k_lcmp (by rw [hd, show n = 1 from eq_of_beq hn]) h
  | i2l  => exact fw_k_i2l (by rw [hd, show n = 1 from eq_of_beq hn]) h
  | i2d  => exact fw_k_i2d (by rw [hd, show n = 1 from eq_of_beq hn]) h
  | i2f  => exact fw_k_i2f (by rw [hd, show n = 1 from eq_of_beq hn]) h
  | l2d  => exact fw_k_l2d (by rw [hd, show n = 1 from eq_of_beq hn]) h
  | dup2  => exact fw_k_dup2 (by rw [hd, show n = 1 from eq_of_beq hn]) h
  | iand  => exact fw_k_iand (by rw [hd, show n = 1 from eq_of_beq hn]) h
  | ishr  => exact fw_k_ishr (by rw [hd, show n = 1 from eq_of_beq hn]) h
  | lmul  => exact fw_k_lmul (by rw [hd, show n = 1 from eq_of_beq hn]) h
  | l2i  => exact fw_k_l2i (by rw [hd, show n = 1 from eq_of_beq hn]) h
  | dup_x2  => exact fw_k_dup_x2 (by rw [hd, show n = 1 from eq_of_beq hn]) h
  | irem  => exact fw_k_irem (by rw [hd, show n = 1 from eq_of_beq hn]) h
  | lrem  => exact fw_k_lrem (by rw [hd, show n = 1 from eq_of_beq hn]) h
  | f2d  => exact fw_k_f2d (by rw [hd, show n = 1 from eq_of_beq hn]) h
  | ddiv  => exact fw_k_ddiv (by rw [hd, show n = 1 from eq_of_beq hn]) h
  | fdiv  => exact fw_k_fdiv (by rw [hd, show n = 1 from eq_of_beq hn]) h
  | dcmp x0 => exact fw_k_dcmp (by rw [hd, show n = 1 from eq_of_beq hn]) h
  | fcmp x0 => exact fw_k_fcmp (by rw [hd, show n = 1 from eq_of_beq hn]) h
  | dup  => exact fw_k_dup (by rw [hd, show n = 1 from eq_of_beq hn]) h
  | pop  => exact fw_k_pop (by rw [hd, show n = 1 from eq_of_beq hn]) h
  | goto x0 => exact fw_k_goto (by rw [hd, show n = 3 from eq_of_beq hn]) h
  | ifCond x0 x1 => exact fw_k_ifCond (by rw [hd, show n = 3 from eq_of_beq hn]) h
  | if_icmp x0 x1 => exact fw_k_if_icmp (by rw [hd, show n = 3 from eq_of_beq hn]) h
  | ifnull x0 => exact fw_k_ifnull (by rw [hd, show n = 3 from eq_of_beq hn]) h
  | ifnonnull x0 => exact fw_k_ifnonnull (by rw [hd, show n = 3 from eq_of_beq hn]) h
  | tableswitch x0 x1 x2 x3 => exact fw_k_tableswitch hd h
  | iaload  => exact fw_k_iaload (by rw [hd, show n = 1 from eq_of_beq hn]) h
  | caload  => exact fw_k_caload (by rw [hd, show n = 1 from eq_of_beq hn]) h
  | baload  => exact fw_k_baload (by rw [hd, show n = 1 from eq_of_beq hn]) h
  | laload  => exact fw_k_laload (by rw [hd, show n = 1 from eq_of_beq hn]) h
  | daload  => exact fw_k_daload (by rw [hd, show n = 1 from eq_of_beq hn]) h
  | aaload  => exact fw_k_aaload (by rw [hd, show n = 1 from eq_of_beq hn]) h
  | iastore  => exact fw_k_iastore (by rw [hd, show n = 1 from eq_of_beq hn]) h
  | lastore  => exact fw_k_lastore (by rw [hd, show n = 1 from eq_of_beq hn]) h
  | dastore  => exact fw_k_dastore (by rw [hd, show n = 1 from eq_of_beq hn]) h
  | castore  => exact fw_k_castore (by rw [hd, show n = 1 from eq_of_beq hn]) h
  | bastore  => exact fw_k_bastore (by rw [hd, show n = 1 from eq_of_beq hn]) h
  | aastore  => exact fw_k_aastore (by rw [hd, show n = 1 from eq_of_beq hn]) h
  | arraylength  => exact fw_k_arraylength (by rw [hd, show n = 1 from eq_of_beq hn]) h
  | getfield x0 => exact fw_k_getfield (by rw [hd, show n = 3 from eq_of_beq hn]) h
  | putfield x0 => exact fw_k_putfield (by rw [hd, show n = 3 from eq_of_beq hn]) h
  | new x0 => exact fw_k_new (by rw [hd, show n = 3 from eq_of_beq hn]) h
  | newarray x0 => exact fw_k_newarray (by rw [hd, show n = 2 from eq_of_beq hn]) h
  | anewarray x0 => exact fw_k_anewarray (by rw [hd, show n = 3 from eq_of_beq hn]) h
  | multianewarray x0 x1 => exact fw_k_multianewarray (by rw [hd, show n = 4 from eq_of_beq hn]) h
  | invokevirtual x0 => exact fw_k_invokevirtual (by rw [hd, show n = 3 from eq_of_beq hn]) h
  | invokespecial x0 => exact fw_k_invokespecial (by rw [hd, show n = 3 from eq_of_beq hn]) h
  | invokestatic x0 => exact fw_k_invokestatic (by rw [hd, show n = 3 from eq_of_beq hn]) h
  | ireturn  => exact fw_k_ireturn (by rw [hd, show n = 1 from eq_of_beq hn]) h
  | lreturn  => exact fw_k_lreturn (by rw [hd, show n = 1 from eq_of_beq hn]) h
  | areturn  => exact fw_k_areturn (by rw [hd, show n = 1 from eq_of_beq hn]) h
  | dreturn  => exact fw_k_dreturn (by rw [hd, show n = 1 from eq_of_beq hn]) h
  | freturn  => exact fw_k_freturn (by rw [hd, show n = 1 from eq_of_beq hn]) h
  | return_  => exact fw_k_return_ (by rw [hd, show n = 1 from eq_of_beq hn]) h
  | _ => cases h
theorem fw_s1_ok {k pc : Nat} {ll st : List fw_V} {σ : fw_M} {act : fw_A} (h : fw_s1 k pc ll st σ = some act) : fw_sr k pc ll st σ act := by
  unfold fw_s1 at h
  split at h
  · rename_i i n hd
    split at h
    · rename_i hn
      exact fw_si_ok hd hn h
    · cases h
  · cases h
theorem fw_sound : ∀ (n k pc : Nat) (ll st : List fw_V) (σ : fw_M) (out : fw_O), fw_ev n k pc ll st σ = some out → fw_J k pc ll st σ out := by
  intro n
  induction n with
  | zero => intro k pc ll st σ out h; cases h
  | succ n ih =>
    intro k pc ll st σ out h
    unfold fw_ev at h
    split at h
    · cases h
    · rename_i pc' ll' st' σ' hs
      exact fw_s1_ok hs out (ih _ _ _ _ _ _ h)
    · rename_i o hs
      cases h
      exact fw_s1_ok hs
    · rename_i c as rest hs
      split at h
      · cases h
      · rename_i o hc
        split at h
        · cases h
        · rename_i pc' ll' st' σ' ha
          refine fw_s1_ok hs o out (ih _ _ _ _ _ _ hc) (Or.inl ⟨pc', ll', st', ?_⟩)
          have : σ' = o.2 := by
            unfold fw_af at ha
            split at ha
            · split at ha
              · cases ha; rfl
              · split at ha <;> cases ha
            · split at ha
              · cases ha; rfl
              · cases ha; rfl
          subst this
          exact ⟨ha, ih _ _ _ _ _ _ h⟩
        · rename_i o' ha
          cases h
          refine fw_s1_ok hs o _ (ih _ _ _ _ _ _ hc) (Or.inr ⟨ha, ?_⟩)
          unfold fw_af at ha
          split at ha
          · split at ha
            · cases ha
            · split at ha
              · cases ha; rfl
              · cases ha
          · split at ha <;> cases ha
