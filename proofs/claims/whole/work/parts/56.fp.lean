/-! quotients of whole numbers -/
def ff_I (f : FP.Core.Fmt) : Nat := (f.exps - 1) * f.tails
def ff_G (f : FP.Core.Fmt) : Prop := f.qmax - f.qmin + 2 ≤ (f.exps : Int) - 1 ∧ 2 ^ f.p = 2 * f.tails ∧ 0 < f.tails ∧ 2 ≤ f.exps ∧ f.qmin ≤ 0 ∧ 1 ≤ f.qmax
theorem ff_g64 : ff_G FP.Core.b64 := by unfold ff_G; decide
theorem ff_g32 : ff_G FP.Core.b32 := by unfold ff_G; decide
theorem ff_i64 : ff_I FP.Core.b64 = 0x7ff0000000000000 := by decide
theorem ff_i32 : ff_I FP.Core.b32 = 0x7f800000 := by decide
theorem ff_i32v {s : Int} (h0 : 0 ≤ s) (h1 : s < 2147483648) : (Int32.ofInt s).toInt = s := Int32.toInt_ofInt_of_le (by omega) (by omega)
theorem ff_i64v {s : Int} (h0 : 0 ≤ s) (h1 : s < 2147483648) : (Int64.ofInt s).toInt = s := Int64.toInt_ofInt_of_le (by omega) (by omega)
theorem ff_dd (u : UInt64) : fw_dd ((u.toNat : Nat) : Int) = u := by
  unfold fw_dd; rw [Int.toNat_natCast]; exact UInt64.ofNat_toNat
theorem ff_ff (u : UInt32) : fw_ff ((u.toNat : Nat) : Int) = u := by
  unfold fw_ff; rw [Int.toNat_natCast]; exact UInt32.ofNat_toNat
theorem ff_n64 {n : Nat} (h : n ≤ ff_I FP.Core.b64) : fw_n64 (UInt64.ofNat n) = true := by
  rw [ff_i64] at h
  unfold fw_n64
  rw [decide_eq_true_eq, UInt64.le_iff_toNat_le, UInt64.toNat_and, UInt64.toNat_ofNat']
  have e : n % 2 ^ 64 = n := Nat.mod_eq_of_lt (by omega)
  rw [e]
  exact Nat.le_trans Nat.and_le_left h
theorem ff_n32 {n : Nat} (h : n ≤ ff_I FP.Core.b32) : fw_n32 (UInt32.ofNat n) = true := by
  rw [ff_i32] at h
  unfold fw_n32
  rw [decide_eq_true_eq, UInt32.le_iff_toNat_le, UInt32.toNat_and, UInt32.toNat_ofNat']
  have e : n % 2 ^ 32 = n := Nat.mod_eq_of_lt (by omega)
  rw [e]
  exact Nat.le_trans Nat.and_le_left h
theorem ff_t64 {n : Nat} (h : n ≤ ff_I FP.Core.b64) : (UInt64.ofNat n).toNat = n := by
  rw [ff_i64] at h
  rw [UInt64.toNat_ofNat']; exact Nat.mod_eq_of_lt (by omega)
theorem ff_t32 {n : Nat} (h : n ≤ ff_I FP.Core.b32) : (UInt32.ofNat n).toNat = n := by
  rw [ff_i32] at h
  rw [UInt32.toNat_ofNat']; exact Nat.mod_eq_of_lt (by omega)
theorem ff_as (f : FP.Core.Fmt) (e t : Nat) : FP.Core.assemble f false e t = e * f.tails + t := by
  unfold FP.Core.assemble
  have : (false.toNat * f.exps + e) = e := by simp
  rw [this]
theorem ff_inf (f : FP.Core.Fmt) : FP.Core.encode f (.inf false) = ff_I f := by
  show FP.Core.assemble f false (f.exps - 1) 0 = ff_I f
  rw [ff_as]; rfl
theorem ff_fin {f : FP.Core.Fmt} (g : ff_G f) {c : Nat} {q : Int} (hq : q ≤ f.qmax) (hc : c < 2 ^ f.p) : FP.Core.encode f (.fin false c q) < ff_I f ∧ (0 < c → 0 < FP.Core.encode f (.fin false c q)) := by
  obtain ⟨g1, g2, g3, g4, g5, g6⟩ := g
  unfold FP.Core.encode ff_I
  dsimp only
  by_cases h : c < f.tails
  · rw [if_pos h, ff_as]
    have : 1 * f.tails ≤ (f.exps - 1) * f.tails := Nat.mul_le_mul_right _ (by omega)
    omega
  · rw [if_neg h, ff_as]
    have h1 : (((q - f.qmin).toNat + 1) + 1) * f.tails ≤ (f.exps - 1) * f.tails := Nat.mul_le_mul_right _ (by omega)
    have h2 : (((q - f.qmin).toNat + 1) + 1) * f.tails = ((q - f.qmin).toNat + 1) * f.tails + f.tails := by rw [Nat.add_mul, Nat.one_mul]
    have h3 : ((q - f.qmin).toNat + 1) * f.tails = (q - f.qmin).toNat * f.tails + f.tails := by rw [Nat.add_mul, Nat.one_mul]
    omega
theorem ff_set {f : FP.Core.Fmt} (g : ff_G f) (c : Nat) (q : Int) : FP.Core.encode f (FP.Core.settle f false c q) ≤ ff_I f := by
  have bd : ∀ (c : Nat) (q : Int), c < 2 ^ f.p → FP.Core.encode f (FP.Core.bound f false c q) ≤ ff_I f := by
    intro c q hc
    unfold FP.Core.bound
    by_cases h : q ≤ f.qmax
    · rw [if_pos h]; exact Nat.le_of_lt (ff_fin g h hc).1
    · rw [if_neg h, ff_inf]; exact Nat.le_refl _
  unfold FP.Core.settle
  by_cases h : c < 2 ^ f.p
  · rw [if_pos h]; exact bd _ _ h
  · rw [if_neg h]; exact bd _ _ (by have := g.2.1; have := g.2.2.1; omega)
theorem ff_rr {f : FP.Core.Fmt} (g : ff_G f) (a b : Nat) (e : Int) : FP.Core.encode f (FP.Core.roundRatio f false a b e) ≤ ff_I f := by
  unfold FP.Core.roundRatio
  by_cases h : a = 0
  · rw [if_pos h]
    exact Nat.le_of_lt (ff_fin g (by have := g.2.2.2.2; omega) (by have := g.2.1; have := g.2.2.1; omega)).1
  · rw [if_neg h]; exact ff_set g _ _
theorem ff_int {f : FP.Core.Fmt} (g : ff_G f) {a : Nat} (ha : a < 2 ^ (f.p - 1)) (hp : 1 ≤ f.p) : FP.Core.fromInt f (a : Int) < ff_I f ∧ (0 < a → 0 < FP.Core.fromInt f (a : Int)) := by
  have gg := g
  obtain ⟨g1, g2, g3, g4, g5, g6⟩ := g
  unfold FP.Core.fromInt FP.Core.round FP.Core.ofInt
  dsimp only
  have e1 : decide ((a : Int) < 0) = false := decide_eq_false (by omega)
  rw [e1, Int.natAbs_natCast]
  unfold FP.Core.roundRatio
  by_cases h : a = 0
  · rw [if_pos h]
    have z := ff_fin gg (c := 0) (q := f.qmin) (by omega) (by omega)
    exact ⟨z.1, fun hh => by omega⟩
  · rw [if_neg h]
    have hl : a.log2 < f.p - 1 := (Nat.log2_lt h).2 ha
    have hq : FP.Core.quantum f a 1 0 ≤ 0 := by
      unfold FP.Core.quantum FP.Core.leading
      have : (1 : Nat).log2 = 0 := by decide
      dsimp only
      rw [this]
      split <;> omega
    generalize FP.Core.quantum f a 1 0 = q at hq
    have en : FP.Core.nearest (FP.Core.unitsNum a 0 q) (FP.Core.unitsDen 1 0 q) = a * 2 ^ (0 - q).toNat := by
      unfold FP.Core.unitsDen FP.Core.unitsNum FP.Core.nearest
      have e2 : (q - 0).toNat = 0 := by omega
      rw [e2, Nat.pow_zero, Nat.mul_one, Nat.mod_one, if_pos (by decide), Nat.div_one]
    have hN : 0 < a * 2 ^ (0 - q).toNat := Nat.mul_pos (by omega) (Nat.pow_pos (by decide))
    unfold FP.Core.roundAt
    rw [en]
    generalize a * 2 ^ (0 - q).toNat = N at hN
    unfold FP.Core.settle FP.Core.bound
    by_cases h2 : N < 2 ^ f.p
    · rw [if_pos h2, if_pos (by omega)]
      have z := ff_fin gg (c := N) (q := q) (by omega) h2
      exact ⟨z.1, fun _ => z.2 hN⟩
    · rw [if_neg h2, if_pos (by omega)]
      have z := ff_fin gg (c := f.tails) (q := q + 1) (by omega) (by omega)
      exact ⟨z.1, fun _ => z.2 g3⟩
theorem ff_dec {f : FP.Core.Fmt} (g : ff_G f) {n : Nat} (h : n < ff_I f) : ∃ c q, FP.Core.decode f n = .fin false c q ∧ (0 < n → c ≠ 0) := by
  obtain ⟨g1, g2, g3, g4, g5, g6⟩ := g
  have hd : n / f.tails < f.exps - 1 := Nat.div_lt_of_lt_mul (by unfold ff_I at h; rw [Nat.mul_comm]; exact h)
  have hE : FP.Core.fieldE f n = n / f.tails := by unfold FP.Core.fieldE; exact Nat.mod_eq_of_lt (by omega)
  have hS : FP.Core.fieldS f n = false := by
    unfold FP.Core.fieldS
    rw [Nat.div_eq_of_lt (by omega : n / f.tails < f.exps)]; rfl
  unfold FP.Core.decode
  rw [hE, hS, if_neg (by omega)]
  by_cases h0 : n / f.tails = 0
  · rw [if_pos h0]
    refine ⟨_, _, rfl, fun hn => ?_⟩
    unfold FP.Core.fieldT
    have : n < f.tails := by
      rcases Nat.lt_or_ge n f.tails with hh | hh
      · exact hh
      · have := (Nat.div_pos hh g3); omega
    rw [Nat.mod_eq_of_lt this]; omega
  · rw [if_neg h0]
    exact ⟨_, _, rfl, fun _ => by omega⟩
theorem ff_dec2 {f : FP.Core.Fmt} (g : ff_G f) {n : Nat} (h : n ≤ ff_I f) : (∃ c q, FP.Core.decode f n = .fin false c q) ∨ FP.Core.decode f n = .inf false := by
  rcases Nat.lt_or_ge n (ff_I f) with hh | hh
  · obtain ⟨c, q, e, -⟩ := ff_dec g hh
    exact Or.inl ⟨c, q, e⟩
  · right
    obtain ⟨g1, g2, g3, g4, g5, g6⟩ := g
    have e : n = (f.exps - 1) * f.tails := by unfold ff_I at h hh; omega
    have hd : n / f.tails = f.exps - 1 := by rw [e]; exact Nat.mul_div_cancel _ g3
    unfold FP.Core.decode FP.Core.fieldE FP.Core.fieldT FP.Core.fieldS
    have e3 : n % f.tails = 0 := by rw [e]; exact Nat.mul_mod_left _ _
    rw [hd, Nat.mod_eq_of_lt (by omega : f.exps - 1 < f.exps), if_pos rfl, if_pos e3, Nat.div_eq_of_lt (by omega : f.exps - 1 < f.exps)]; rfl
theorem ff_div {f : FP.Core.Fmt} (g : ff_G f) {x y : Nat} (hx : x < ff_I f) (hy : y < ff_I f) (h0 : 0 < y) : FP.Core.div f x y ≤ ff_I f := by
  obtain ⟨c, q, e1, -⟩ := ff_dec g hx
  obtain ⟨d, r, e2, e3⟩ := ff_dec g hy
  unfold FP.Core.div
  rw [e1, e2]
  unfold FP.Core.quotient
  dsimp only
  rw [if_neg (e3 h0)]
  exact ff_rr g _ _ _
theorem ff_conv {f k : FP.Core.Fmt} (g : ff_G f) (gk : ff_G k) {n : Nat} (h : n ≤ ff_I f) : FP.Core.convert f k n ≤ ff_I k := by
  unfold FP.Core.convert
  rcases ff_dec2 g h with ⟨c, q, e⟩ | e
  · rw [e]; unfold FP.Core.round; exact ff_rr gk _ _ _
  · rw [e]; unfold FP.Core.round; rw [ff_inf]; exact Nat.le_refl _
theorem ff_cmp {f : FP.Core.Fmt} (g : ff_G f) {n : Nat} (h : n ≤ ff_I f) : FP.Core.cmp f n n = some .eq := by
  unfold FP.Core.cmp
  rcases ff_dec2 g h with ⟨c, q, e⟩ | e
  · rw [e]; unfold FP.Core.order; simp [compare, compareOfLessAndEq]
  · rw [e]; unfold FP.Core.order; simp [compare, compareOfLessAndEq]
theorem ff_nn {f : FP.Core.Fmt} (g : ff_G f) {n : Nat} (h : n ≤ ff_I f) : FP.Core.isNaN f n = false := by
  unfold FP.Core.isNaN
  rcases ff_dec2 g h with ⟨c, q, e⟩ | e
  · rw [e]; rfl
  · rw [e]; rfl
/-- what the law sees of a double and of a float -/
theorem ff_eq64 {u : UInt64} (h : u.toNat ≤ ff_I FP.Core.b64) : ((Op.cmpValue (FP.dcmp u u) .l).toInt) = 0 := by
  have e : FP.dcmp u u = some .eq := ff_cmp ff_g64 h
  rw [e]; rfl
/-- the mean: class and reference -/
theorem ff_mean {s k : Int} (h0 : 0 ≤ s) (h1 : s < 2147483648) (k0 : 1 ≤ k) (k1 : k ≤ 300) :
    FP.l2d (Int64.ofInt s) = FP.i2d (Int32.ofInt s) ∧ fw_n64 (FP.ddiv (FP.i2d (Int32.ofInt s)) (FP.i2d (Int32.ofInt k))) = true ∧ (FP.ddiv (FP.i2d (Int32.ofInt s)) (FP.i2d (Int32.ofInt k))).toNat ≤ ff_I FP.Core.b64 := by
  have es : FP.i2d (Int32.ofInt s) = UInt64.ofNat (FP.Core.fromInt FP.Core.b64 (s.toNat : Int)) := by
    show UInt64.ofNat (FP.Core.fromInt FP.Core.b64 (Int32.ofInt s).toInt) = _
    rw [ff_i32v h0 h1, Int.toNat_of_nonneg h0]
  have el : FP.l2d (Int64.ofInt s) = UInt64.ofNat (FP.Core.fromInt FP.Core.b64 (s.toNat : Int)) := by
    show UInt64.ofNat (FP.Core.fromInt FP.Core.b64 (Int64.ofInt s).toInt) = _
    rw [ff_i64v h0 h1, Int.toNat_of_nonneg h0]
  have ek : FP.i2d (Int32.ofInt k) = UInt64.ofNat (FP.Core.fromInt FP.Core.b64 (k.toNat : Int)) := by
    show UInt64.ofNat (FP.Core.fromInt FP.Core.b64 (Int32.ofInt k).toInt) = _
    rw [ff_i32v (by omega) (by omega), Int.toNat_of_nonneg (by omega)]
  have p52 : (2 : Nat) ^ (FP.Core.b64.p - 1) = 4503599627370496 := by decide
  have zs := ff_int ff_g64 (a := s.toNat) (by rw [p52]; omega) (by decide)
  have zk := ff_int ff_g64 (a := k.toNat) (by rw [p52]; omega) (by decide)
  have ed : FP.ddiv (FP.i2d (Int32.ofInt s)) (FP.i2d (Int32.ofInt k)) = UInt64.ofNat (FP.Core.div FP.Core.b64 (FP.Core.fromInt FP.Core.b64 (s.toNat : Int)) (FP.Core.fromInt FP.Core.b64 (k.toNat : Int))) := by
    show UInt64.ofNat (FP.Core.div FP.Core.b64 (FP.i2d (Int32.ofInt s)).toNat (FP.i2d (Int32.ofInt k)).toNat) = _
    rw [es, ek, ff_t64 (Nat.le_of_lt zs.1), ff_t64 (Nat.le_of_lt zk.1)]
  have hd := ff_div ff_g64 zs.1 zk.1 (zk.2 (by omega))
  refine ⟨el.trans es.symm, ?_, ?_⟩
  · rw [ed]; exact ff_n64 hd
  · rw [ed, ff_t64 hd]; exact hd
/-- the share: class and reference, as a float and as a double -/
theorem ff_share {s k : Int} (h0 : 0 ≤ s) (h1 : s ≤ 300) (k0 : 1 ≤ k) (k1 : k ≤ 300) :
    fw_n32 (FP.fdiv (FP.i2f (Int32.ofInt s)) (FP.i2f (Int32.ofInt k))) = true ∧ fw_n64 (FP.f2d (FP.fdiv (FP.i2f (Int32.ofInt s)) (FP.i2f (Int32.ofInt k)))) = true ∧ (FP.f2d (FP.fdiv (FP.i2f (Int32.ofInt s)) (FP.i2f (Int32.ofInt k)))).toNat ≤ ff_I FP.Core.b64 := by
  have es : FP.i2f (Int32.ofInt s) = UInt32.ofNat (FP.Core.fromInt FP.Core.b32 (s.toNat : Int)) := by
    show UInt32.ofNat (FP.Core.fromInt FP.Core.b32 (Int32.ofInt s).toInt) = _
    rw [ff_i32v h0 (by omega), Int.toNat_of_nonneg h0]
  have ek : FP.i2f (Int32.ofInt k) = UInt32.ofNat (FP.Core.fromInt FP.Core.b32 (k.toNat : Int)) := by
    show UInt32.ofNat (FP.Core.fromInt FP.Core.b32 (Int32.ofInt k).toInt) = _
    rw [ff_i32v (by omega) (by omega), Int.toNat_of_nonneg (by omega)]
  have p23 : (2 : Nat) ^ (FP.Core.b32.p - 1) = 8388608 := by decide
  have zs := ff_int ff_g32 (a := s.toNat) (by rw [p23]; omega) (by decide)
  have zk := ff_int ff_g32 (a := k.toNat) (by rw [p23]; omega) (by decide)
  have ed : FP.fdiv (FP.i2f (Int32.ofInt s)) (FP.i2f (Int32.ofInt k)) = UInt32.ofNat (FP.Core.div FP.Core.b32 (FP.Core.fromInt FP.Core.b32 (s.toNat : Int)) (FP.Core.fromInt FP.Core.b32 (k.toNat : Int))) := by
    show UInt32.ofNat (FP.Core.div FP.Core.b32 (FP.i2f (Int32.ofInt s)).toNat (FP.i2f (Int32.ofInt k)).toNat) = _
    rw [es, ek, ff_t32 (Nat.le_of_lt zs.1), ff_t32 (Nat.le_of_lt zk.1)]
  have hd := ff_div ff_g32 zs.1 zk.1 (zk.2 (by omega))
  rw [ed]
  generalize FP.Core.div FP.Core.b32 (FP.Core.fromInt FP.Core.b32 (s.toNat : Int)) (FP.Core.fromInt FP.Core.b32 (k.toNat : Int)) = n at hd
  have hn : FP.Core.fIsNaN (UInt32.ofNat n) = false := by
    unfold FP.Core.fIsNaN
    rw [ff_t32 hd]; exact ff_nn ff_g32 hd
  have ef : FP.f2d (UInt32.ofNat n) = UInt64.ofNat (FP.Core.convert FP.Core.b32 FP.Core.b64 n) := by
    unfold FP.f2d
    rw [hn]
    show UInt64.ofNat (FP.Core.convert FP.Core.b32 FP.Core.b64 (UInt32.ofNat n).toNat) = _
    rw [ff_t32 hd]
  have hc := ff_conv ff_g32 ff_g64 hd
  refine ⟨ff_n32 hd, ?_, ?_⟩
  · rw [ef]; exact ff_n64 hc
  · rw [ef, ff_t64 hc]; exact hc
