/-! the law's own answers: seal, load, jams -/
def fl_se (f : Int → Int) : Int → Nat → Int × Int → Int × Int
  | _, 0, s => s
  | i, k + 1, s => fl_se f (i + 1) k (s.1 + (f i + 1), s.2 + (s.1 + (f i + 1)))
theorem fl_se_mod (f : Int → Int) : ∀ (k : Nat) (i A B : Int), fg_se f i k (A % 9973, B % 9973) = ((fl_se f i k (A, B)).1 % 9973, (fl_se f i k (A, B)).2 % 9973) := by
  intro k
  induction k with
  | zero => intro i A B; rfl
  | succ k ih =>
    intro i A B
    rw [fg_se, fl_se, ← ih]
    congr 1
    refine Prod.ext ?_ ?_
    · show (A % 9973 + f i + 1) % 9973 = (A + (f i + 1)) % 9973
      omega
    · show (B % 9973 + (A % 9973 + f i + 1) % 9973) % 9973 = (B + (A + (f i + 1))) % 9973
      omega
theorem fm_seal_lp {c : fw_M} {i K : Int} {f : Int → Int} (hq : fl_ptr c) (i0 : 0 ≤ i) (i1 : i < 6) (hK : fw_r c 44 i = K) (hK30 : K ≤ 30) (hf : ∀ k, 0 ≤ k → k < K → fw_r c (38 + i) k = f k ∧ 0 ≤ f k ∧ f k ≤ 300) : ∀ (k : Nat) (x a b : Int) (a3 a5 : fw_V), 0 ≤ x → x + k = K → 0 ≤ a → a ≤ 301 * x → 0 ≤ b → b ≤ 10000 * x → fw_E 126 8 [(2, 32), (0, i), (1, a), a3, (1, b), a5, (0, x)] [] c = some ((0, 10000 * ((fl_se f x k (a, b)).2 % 9973) + (fl_se f x k (a, b)).1 % 9973), c) := by
  intro k
  induction k with
  | zero =>
    intro x a b a3 a5 x0 hx a0 a1 b0 b1
    rw [fw_b_126_8 _ _ _ _ _ _ _ hq i0 i1, if_neg (by omega), fw_b_126_46 _ _ _ _ _ _ _ b0 a0, fw_wl_id (x := 10000 * (b % 9973)) (by omega) (by omega), fw_wl_id (by omega) (by omega), fw_w_id (by omega) (by omega), fl_se]
  | succ k ih =>
    intro x a b a3 a5 x0 hx a0 a1 b0 b1
    have g := hf x x0 (by omega)
    rw [fw_b_126_8 _ _ _ _ _ _ _ hq i0 i1, if_pos (by omega), fw_b_126_19 _ _ _ _ _ _ _ hq i0 i1 x0 (by omega), g.1, fw_w_id (x := f x + 1) (by omega) (by omega), fw_wl_id (x := a + (f x + 1)) (by omega) (by omega), fw_wl_id (by omega) (by omega), fw_w_id (by omega) (by omega), ih (x + 1) _ _ _ _ (by omega) (by omega) (by omega) (by omega) (by omega) (by omega), fl_se]
theorem fl_seal {M i : Int} {c c0 m : fw_M} {a2 a3 a4 a5 a6 : fw_V} (h : fg_IN M c0 m) (r : fl_R c m) (i0 : 0 ≤ i) (i1 : i < fw_r m 32 3) : fw_E 126 0 [(2, 32), (0, i), a2, a3, a4, a5, a6] [] c = some ((0, 10000 * fw_r m 45 i + fw_r m 44 i), c) := by
  have g := h.2.2.2.2.1.1 i i0 i1
  have g2 := (h.1.1.2.2.2.1 i i0 i1).2.1
  have h3 := (fg_facts h).2.1
  have hF := h.2.1.2.1.2.1
  have d := r.2.2.2.1
  have s := fl_se_mod (fun k => fw_r m 43 (30 * i + k)) (fw_r m 42 i).toNat 0 0 0
  have l := fm_seal_lp (f := fun k => fw_r m 43 (30 * i + k)) r.1.1 i0 (by omega) (d.2 i i0 (by omega)) (by omega) (fun k k0 k1 => ⟨(d.1 i i0 i1).2 k k0 k1, by have := (g.2.2 k k0 k1).2; (try dsimp only); omega⟩) (fw_r m 42 i).toNat 0 0 0 (8, 0) (8, 0) (by omega) (by omega) (by omega) (by omega) (by omega) (by omega)
  have e0 : ((0 : Int) % 9973, (0 : Int) % 9973) = ((0 : Int), (0 : Int)) := rfl
  rw [e0, ← g.2.1.2.2] at s
  have s1 := congrArg Prod.fst s
  have s2 := congrArg Prod.snd s
  dsimp only at s1 s2
  rw [fw_b_126_0, l, ← s1, ← s2]
theorem fg_code_i {s : Int} (h : 0 ≤ s ∧ s ≤ 4) : (fg_code s = 119 ↔ s = 0) ∧ (fg_code s = 108 ↔ s = 1) ∧ (fg_code s = 116 ↔ s = 3) := by
  unfold fg_code
  refine ⟨⟨fun e => ?_, fun e => ?_⟩, ⟨fun e => ?_, fun e => ?_⟩, fun e => ?_, fun e => ?_⟩
  all_goals (repeat' split at e) <;> (repeat' split) <;> omega
theorem fm_load_lp {M q : Int} {c c0 m : fw_M} (h : fg_IN M c0 m) (r : fl_R c m) : ∀ (k : Nat) (x acc : Int), 0 ≤ x → x + k = fw_r m 32 10 → 0 ≤ acc → acc ≤ 9 * x → fw_E 127 4 [(2, 32), (0, q), (0, acc), (0, x)] [] c = some ((0, acc + fg_sf (fg_ldm m q) x k), c) := by
  have hq := r.1.1
  have h60 := r.1.2.2.1
  have h11 := r.1.2.1.2.2.2.2.1
  intro k
  induction k with
  | zero =>
    intro x acc x0 hx a0 a1
    rw [fw_b_127_4, if_neg (by omega), fw_b_127_63, fg_sf, Int.add_zero]
  | succ k ih =>
    intro x acc x0 hx a0 a1
    have g := r.2.2.2.2.2.1.1 x x0 (by omega)
    have gc := h.2.2.1.2.2.2.1 x x0 (by omega)
    have cd := fg_code_i gc.2.1
    have step : fw_E 127 4 [(2, 32), (0, q), (0, acc), (0, x)] [] c = fw_E 127 4 [(2, 32), (0, q), (0, acc + fg_ldm m q x), (0, x + 1)] [] c := by
      rw [fw_b_127_4, if_pos (by omega), fw_b_127_12 _ _ _ _ hq x0 (by omega), g.1]
      by_cases c1 : fw_r m 37 x = q
      · rw [if_pos c1, fw_b_127_23 _ _ _ _ _ hq x0 (by omega), g.2.2.1]
        by_cases c2 : fw_r m 39 x = 0
        · have e : fg_ldm m q x = fw_r m 38 x := by unfold fg_ldm; rw [if_pos ⟨Or.inl c2, c1⟩]
          rw [if_pos (cd.1.2 c2), fw_b_127_45 _ _ _ _ _ hq x0 (by omega), g.2.1, fw_w_id (by omega) (by omega), fw_w_id (by omega) (by omega), e]
        · rw [if_neg (fun e => c2 (cd.1.1 e)), fw_b_127_34 _ _ _ _ _ hq x0 (by omega), g.2.2.1]
          by_cases c3 : fw_r m 39 x = 1
          · have e : fg_ldm m q x = fw_r m 38 x := by unfold fg_ldm; rw [if_pos ⟨Or.inr c3, c1⟩]
            rw [if_pos (cd.2.1.2 c3), fw_b_127_45 _ _ _ _ _ hq x0 (by omega), g.2.1, fw_w_id (by omega) (by omega), fw_w_id (by omega) (by omega), e]
          · have e : fg_ldm m q x = 0 := by unfold fg_ldm; rw [if_neg (fun h => h.1.elim c2 c3)]
            rw [if_neg (fun e => c3 (cd.2.1.1 e)), fw_b_127_54, fw_w_id (by omega) (by omega), fw_w_id (by omega) (by omega), e]
      · have e : fg_ldm m q x = 0 := by unfold fg_ldm; rw [if_neg (fun h => c1 h.2)]
        rw [if_neg c1, fw_b_127_54, fw_w_id (by omega) (by omega), fw_w_id (by omega) (by omega), e]
    have bd : 0 ≤ fg_ldm m q x ∧ fg_ldm m q x ≤ 9 := by unfold fg_ldm; split <;> omega
    rw [step, ih (x + 1) _ (by omega) (by omega) (by omega) (by omega), fg_sf]
    congr 3; omega
theorem fl_load {M q : Int} {c c0 m : fw_M} {a2 a3 : fw_V} (h : fg_IN M c0 m) (r : fl_R c m) : fw_E 127 0 [(2, 32), (0, q), a2, a3] [] c = some ((0, fg_ld m q), c) := by
  have hP := (fg_facts h).2.2.2.2.2.2
  rw [fw_b_127_0, fm_load_lp h r (fw_r m 32 10).toNat 0 0 (by omega) (by omega) (by omega) (by omega), Int.zero_add]
  rfl
theorem fl_jm_01 {M : Int} {c m : fw_M} (h : fg_IN M c m) (p : Int) : fl_jm m p = 0 ∨ fl_jm m p = 1 := by
  obtain ⟨f1, f2, -, -⟩ := h.1.1.2.2.1
  have hn := (fg_facts h).2.1
  unfold fl_jm
  split
  · exact f1
  · split
    · exact f2
    · split
      · exact Or.inl rfl
      · rcases fg_nm_in (p := p) hn.2.1 with hx | hx
        · omega
        · exact (h.1.1.2.2.2.1 _ hx.1 hx.2.1).2.2.2
theorem fm_jams_lp {c : fw_M} {f : Int → Int} (hf : ∀ p, 0 ≤ p → p < 20 → fw_r c 35 p = f p) (h01 : ∀ p, f p = 0 ∨ f p = 1) : ∀ (k : Nat) (x acc : Int) (a5 : fw_V), 0 ≤ x → x + k = 20 → 0 ≤ acc → acc ≤ x → fw_E 128 13 [(2, 32), (0, acc), (2, 35), (0, 20), (0, x), a5] [] c = some ((0, acc + fg_sf f x k), c) := by
  intro k
  induction k with
  | zero =>
    intro x acc a5 x0 hx a0 a1
    rw [fw_b_128_13, if_neg (by omega), fw_b_128_44, fg_sf, Int.add_zero]
  | succ k ih =>
    intro x acc a5 x0 hx a0 a1
    rw [fw_b_128_13, if_pos (by omega), fw_b_128_19 _ _ _ _ _ x0 (by omega), hf x x0 (by omega)]
    rcases h01 x with e | e
    · rw [e, if_pos rfl, fw_b_128_35, fw_w_id (by omega) (by omega), fw_w_id (by omega) (by omega), ih (x + 1) _ _ (by omega) (by omega) (by omega) (by omega), fg_sf, e]
      congr 3; omega
    · rw [e, if_neg (by decide), fw_b_128_31, fw_w_id (by omega) (by omega), fw_w_id (by omega) (by omega), ih (x + 1) _ _ (by omega) (by omega) (by omega) (by omega), fg_sf, e]
      congr 3; omega
/-- the jams, by position and by station -/
def fl_jk (m : fw_M) (k : Nat) (p : Int) : Int := (if p = 0 then fw_r m 32 7 else 0) + (if p = fw_r m 32 1 - 1 then fw_r m 32 8 else 0) + fg_sf (fun i => if p = fw_r m 34 i then fw_r m 36 i else 0) 0 k
theorem fl_sf_add (f g : Int → Int) : ∀ (k : Nat) (i : Int), fg_sf (fun j => f j + g j) i k = fg_sf f i k + fg_sf g i k := by
  intro k
  induction k with
  | zero => intro i; rfl
  | succ k ih => intro i; rw [fg_sf, fg_sf, fg_sf, ih]; omega
theorem fl_sf_one {x v : Int} {k : Nat} (h0 : 0 ≤ x) (h1 : x < k) : fg_sf (fun p => if p = x then v else 0) 0 k = v := by
  have r := fg_sf_upd (f := fun p => if p = x then v else 0) (g := fun _ => 0) (x := x) k 0 (fun j _ _ hj => by (try dsimp only); rw [if_neg hj]) h0 (by omega)
  have z : fg_sf (fun _ => 0) 0 k = 0 := fg_sf_0 _ _ (fun _ _ _ => rfl)
  rw [z] at r
  (try dsimp only at r)
  rw [if_pos rfl] at r
  omega
theorem fl_jk_sum {M : Int} {c m : fw_M} (h : fg_IN M c m) : ∀ (k : Nat), (k : Int) ≤ fw_r m 32 3 → fg_sf (fl_jk m k) 0 20 = fw_r m 32 7 + fw_r m 32 8 + fg_sf (fw_r m 36) 0 k := by
  have hN := (fg_facts h).2.2.1
  intro k
  induction k with
  | zero =>
    intro _
    have e : fl_jk m 0 = fun p => (if p = 0 then fw_r m 32 7 else 0) + (if p = fw_r m 32 1 - 1 then fw_r m 32 8 else 0) := by
      funext p; unfold fl_jk; rw [fg_sf, Int.add_zero]
    rw [e, fl_sf_add (fun p => if p = 0 then fw_r m 32 7 else 0) (fun p => if p = fw_r m 32 1 - 1 then fw_r m 32 8 else 0), fl_sf_one (by omega) (by omega), fl_sf_one (by omega) (by omega), fg_sf, Int.add_zero]
  | succ k ih =>
    intro hk
    have hc := (h.1.1.2.2.2.1 (k : Int) (by omega) (by omega)).1.2
    have e : fl_jk m (k + 1) = fun p => fl_jk m k p + if p = fw_r m 34 (k : Int) then fw_r m 36 (k : Int) else 0 := by
      funext p; unfold fl_jk; rw [fg_sf_end, Int.zero_add]; omega
    rw [e, fl_sf_add (fl_jk m k) (fun p => if p = fw_r m 34 (k : Int) then fw_r m 36 (k : Int) else 0), ih (by omega), fl_sf_one (by omega) (by omega), fg_sf_end, Int.zero_add]; omega
theorem fl_jm_sum {M : Int} {c m : fw_M} (h : fg_IN M c m) : fg_sf (fl_jm m) 0 20 = fg_J m := by
  have hN := (fg_facts h).2.2.1
  have hn := (fg_facts h).2.1
  have hk : ((fg_n m : Nat) : Int) = fw_r m 32 3 := by unfold fg_n; omega
  unfold fg_J
  rw [← fl_jk_sum h (fg_n m) (by omega)]
  refine fg_sf_ext _ _ (fun p p0 p1 => ?_)
  unfold fl_jm fl_jk
  have none : (p = 0 ∨ fw_r m 32 1 - 1 ≤ p) → fg_sf (fun i => if p = fw_r m 34 i then fw_r m 36 i else 0) 0 (fg_n m) = 0 := fun hp => fg_sf_0 _ _ (fun i a b => by
    have := (h.1.1.2.2.2.1 i a (by omega)).1.2
    (try dsimp only); rw [if_neg (by omega)])
  by_cases c1 : p = 0
  · rw [if_pos c1, if_pos c1, if_neg (by omega), none (Or.inl c1)]; omega
  · by_cases c2 : p = fw_r m 32 1 - 1
    · rw [if_neg c1, if_pos c2, if_neg c1, if_pos c2, none (Or.inr (by omega))]; omega
    · rw [if_neg c1, if_neg c2, if_neg c1, if_neg c2]
      by_cases c3 : fg_nm m p = -1
      · rw [if_pos c3, fg_sf_0 _ _ (fun i a b => by
          (try dsimp only)
          rw [if_neg (fun e => by have := fl_nm_of h a (by omega); rw [← e, c3] at this; omega)])]; rfl
      · rw [if_neg c3]
        have hx := fl_nm_lt rfl hn.2.1 c3
        generalize hqq : fg_nm m p = q at *
        have r := fg_sf_upd (f := fun i => if p = fw_r m 34 i then fw_r m 36 i else 0) (g := fun _ => 0) (x := q) (fg_n m) 0 (fun j j0 j1 hj => by
          (try dsimp only)
          rw [if_neg (fun e => hj (h.1.1.2.2.2.2.1 j q j0 (by omega) hx.1 hx.2.1 (by omega)))]) hx.1 (by omega)
        have z : fg_sf (fun _ => 0) 0 (fg_n m) = 0 := fg_sf_0 _ _ (fun _ _ _ => rfl)
        rw [z] at r
        (try dsimp only at r)
        rw [if_pos hx.2.2.symm] at r
        omega
theorem fl_jams {M : Int} {c c0 m : fw_M} {a1 a2 a3 a4 a5 : fw_V} (h : fg_IN M c0 m) (hq : fl_ptr c) (hf : ∀ p, 0 ≤ p → p < 20 → fw_r c 35 p = fl_jm m p) : fw_E 128 0 [(2, 32), a1, a2, a3, a4, a5] [] c = some ((0, fg_J m), c) := by
  rw [fw_b_128_0 _ _ _ _ _ _ hq, fm_jams_lp hf (fl_jm_01 h) 20 0 0 a5 (by decide) (by decide) (by decide) (by decide), fl_jm_sum h, Int.zero_add]
theorem fl_an (x : Int) : 0 ≤ fw_an x 2147483647 := by
  unfold fw_an
  have e : (Int32.ofInt x &&& Int32.ofInt 2147483647).toBitVec.msb = false := by
    rw [Int32.toBitVec_and, BitVec.msb_and]
    have : (Int32.ofInt 2147483647).toBitVec.msb = false := by decide
    rw [this, Bool.and_false]
  exact BitVec.toInt_nonneg_of_msb_false e
theorem fl_low {c : fw_M} {x n : Int} (hn : 0 < n) : ∃ v, fw_E 130 0 [(0, x), (0, n)] [] c = some ((0, v), c) ∧ 0 ≤ v ∧ v < n := by
  have h0 : 0 ≤ fw_an x 2147483647 := fl_an x
  exact ⟨_, fw_b_130_0 _ _ _ h0 hn, Int.emod_nonneg _ (by omega), Int.emod_lt_of_pos _ hn⟩
