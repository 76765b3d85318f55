/-! the law's loops -/
def fl_B (A B t : Int) (c m : fw_M) : Prop := fw_r c (-1) 0 = 51 + 3 * fw_r m 32 3 ∧ fw_r c (-1) 1 ≤ A + 3 * fw_r m 32 3 + t ∧ fw_r c (-1) 2 ≤ B + 38 * fw_r m 32 3 + 6 * t
theorem fl_B_N {A B t : Int} {c c' m m' : fw_M} (h : fl_B A B t c m) (hn : fl_N c c') (h3 : fw_r m' 32 3 = fw_r m 32 3) : fl_B A B t c' m' := by
  unfold fl_B at h ⊢
  rw [hn (-1) 0 (by omega), hn (-1) 1 (by omega), hn (-1) 2 (by omega), h3]; exact h
theorem fl_B_X {A B t d : Int} {c c' m : fw_M} (h : fl_B A B t c m) (hx : fl_X d c c') : fl_B A B (t + d) c' m := by
  unfold fl_B at h ⊢
  have h1 := hx.2.1
  have h2 := hx.2.2.1
  have h3 := hx.2.2.2
  refine ⟨?_, ?_, ?_⟩ <;> omega
theorem fl_cell {c : fw_M} {k : Int} (hs : fw_r c (-3) 0 < 2147483648) (k0 : 0 ≤ k) : ∃ v, fw_E 129 0 [(6, 0), (0, k)] [] c = some ((0, v), c) := by
  rw [fw_b_129_0 _ _ hs]
  by_cases h : k < fw_r c (-3) 0
  · exact ⟨_, by rw [if_pos h, fw_b_129_6 _ _ k0 h]⟩
  · exact ⟨_, by rw [if_neg h, fw_b_129_12]⟩
/-! chutes are built -/
theorem fl_R_add {M n x b : Int} {c c' m : fw_M} (h : fg_IN M c m) (h' : fg_IN M c' (fg_mac m n x b)) (r : fl_R c m) (hn : fw_r m 32 3 = n) (n6 : n < 6) (x0 : 1 ≤ x ∧ x < 20) (hx : ∀ i, 0 ≤ i → i < n → fw_r m 34 i < x) (hxN : x < fw_r m 32 1 - 1) (hc : ∀ a j, 32 ≤ a → a ≤ 50 → (a ≠ 36 ∨ j ≠ n) → (a ≠ 34 ∨ j ≠ x) → (a ≠ 32 ∨ j ≠ 5) → fw_r c' a j = fw_r c a j) (h36 : fw_r c' 36 n = b) (h34 : fw_r c' 34 x = n) (h5 : fw_r c' 32 5 = n + 1) : fl_R c' (fg_mac m n x b) := by
  have hn0 := (fg_facts h).2.1.2.1
  have hN := (fg_facts h).2.2.1
  have gE2 := h.2.2.2.2.1.2 n (by omega) n6
  obtain ⟨⟨hq, hA, h60, h6⟩, hB, hC, hD, hE, ⟨hF1, hF2⟩, hG⟩ := r
  have k : ∀ a j, (a ≠ 34 ∨ j ≠ n) → (a ≠ 35 ∨ j ≠ n) → (a ≠ 32 ∨ j ≠ 3) → fw_r (fg_mac m n x b) a j = fw_r m a j := fun a j u v w => by unfold fg_mac; (try simp (disch := omega) only [fw_r_n, fw_r_s])
  have k34 : fw_r (fg_mac m n x b) 34 n = x := by unfold fg_mac; (try simp (disch := omega) only [fw_r_n, fw_r_s])
  have k35 : fw_r (fg_mac m n x b) 35 n = b := by unfold fg_mac; (try simp (disch := omega) only [fw_r_n, fw_r_s])
  have k3 : fw_r (fg_mac m n x b) 32 3 = n + 1 := by unfold fg_mac; (try simp (disch := omega) only [fw_r_n, fw_r_s])
  generalize fg_mac m n x b = m' at *
  have k1 := k 32 1 (by omega) (by omega) (by omega)
  have k16 := k 32 16 (by omega) (by omega) (by omega)
  have k10 := k 32 10 (by omega) (by omega) (by omega)
  have nmx : fg_nm m' x = n := by
    have := fl_nm_of h' (i := n) (by omega) (by omega)
    rw [k34] at this; exact this
  have nmx0 : fg_nm m x = -1 := fl_nm_no h (fun i a b' e => by have := hx i a (by omega); omega)
  have nmp : ∀ p, p ≠ x → fg_nm m' p = fg_nm m p := fun p hp => by
    by_cases hz : fg_nm m p = -1
    · rw [hz]
      refine fl_nm_no h' (fun i a b' e => ?_)
      by_cases hi : i = n
      · rw [hi, k34] at e; exact hp e.symm
      · rw [k 34 i (Or.inr hi) (by omega) (by omega)] at e
        have := fl_nm_of h a (by omega : i < fw_r m 32 3)
        rw [e, hz] at this; omega
    · have z := fl_nm_lt (p := p) rfl hn0 hz
      have y := fl_nm_of h' (i := fg_nm m p) z.1 (by omega)
      rw [k 34 _ (by omega) (by omega) (by omega), z.2.2] at y
      exact y
  have jmp : ∀ p, fl_jm m' p = fl_jm m p := fun p => by
    unfold fl_jm
    rw [k1, k 32 7 (by omega) (by omega) (by omega), k 32 8 (by omega) (by omega) (by omega), k 36 _ (by omega) (by omega) (by omega)]
    by_cases hp : p = x
    · rw [hp, nmx, nmx0, if_neg (by omega), if_neg (by omega), if_neg (by omega), if_neg (by omega), if_neg (by omega), if_pos rfl]
      exact gE2.2.1
    · rw [nmp p hp]
  refine ⟨⟨fun y hy => ?_, ?_, by rw [k10]; exact h60, by omega⟩, fun p a b' => ?_, fun p a b' => ?_, ⟨fun i a b' => ?_, fun i a b' => ?_⟩, fun p a b' => ?_, ⟨fun p a b' => ?_, fun p a b' => ?_⟩, fun i l a b' d => ?_⟩
  · have h11 : ∀ x ∈ fl_psT, (x.1 = 32 ∧ x.2.1 ≠ 5) ∨ x.1 = 37 := by decide
    have := h11 y hy
    rw [hc _ _ (by omega) (by omega) (by omega) (by omega) (by omega)]; exact hq y hy
  · have hh := fun j (hj : j ≠ 5) => hc 32 j (by omega) (by omega) (by omega) (by omega) (Or.inr hj)
    rw [h5, k3, k1, k16, k10, k 32 9 (by omega) (by omega) (by omega), k 32 15 (by omega) (by omega) (by omega), k 32 17 (by omega) (by omega) (by omega), k 32 18 (by omega) (by omega) (by omega), k 32 19 (by omega) (by omega) (by omega), k 32 25 (by omega) (by omega) (by omega), k 32 29 (by omega) (by omega) (by omega), hh 0 (by decide), hh 1 (by decide), hh 10 (by decide), hh 11 (by decide), hh 17 (by decide), hh 18 (by decide), hh 19 (by decide), hh 20 (by decide), hh 21 (by decide), hh 22 (by decide)]
    exact ⟨hA.1, hA.2.1, rfl, hA.2.2.2⟩
  · rw [k1] at b'
    rw [k1, k16, k 33 _ (by omega) (by omega) (by omega), hc 33 _ (by omega) (by omega) (by omega) (by omega) (by omega)]
    exact hB p a b'
  · have g := hC p a b'
    rw [jmp, hc 35 _ (by omega) (by omega) (by omega) (by omega) (by omega)]
    refine ⟨?_, g.2⟩
    by_cases hp : p = x
    · rw [hp, h34, nmx]
    · rw [nmp p hp, hc 34 _ (by omega) (by omega) (by omega) (by omega) (by omega)]; exact g.1
  · rw [k3] at b'
    by_cases hi : i = n
    · rw [hi, h36, k35, k 42 n (by omega) (by omega) (by omega), gE2.1]
      exact ⟨rfl, fun y y0 y1 => by omega⟩
    · have g := hD.1 i a (by omega)
      rw [hc 36 _ (by omega) (by omega) (by omega) (by omega) (by omega), k 35 _ (by omega) (by omega) (by omega), k 42 _ (by omega) (by omega) (by omega)]
      refine ⟨g.1, fun y y0 y1 => ?_⟩
      rw [k 43 _ (by omega) (by omega) (by omega), hc (38 + i) _ (by omega) (by omega) (by omega) (by omega) (by omega)]
      exact g.2 y y0 y1
  · rw [k 42 _ (by omega) (by omega) (by omega), hc 44 _ (by omega) (by omega) (by omega) (by omega) (by omega)]; exact hD.2 i a b'
  · rw [k 41 _ (by omega) (by omega) (by omega), hc 45 _ (by omega) (by omega) (by omega) (by omega) (by omega)]; exact hE p a b'
  · rw [k10] at b'
    rw [k 37 _ (by omega) (by omega) (by omega), k 38 _ (by omega) (by omega) (by omega), k 39 _ (by omega) (by omega) (by omega), k 47 _ (by omega) (by omega) (by omega), hc 46 _ (by omega) (by omega) (by omega) (by omega) (by omega), hc 47 _ (by omega) (by omega) (by omega) (by omega) (by omega), hc 49 _ (by omega) (by omega) (by omega) (by omega) (by omega), hc 50 _ (by omega) (by omega) (by omega) (by omega) (by omega)]
    exact hF1 p a b'
  · rw [k 40 _ (by omega) (by omega) (by omega), hc 48 _ (by omega) (by omega) (by omega) (by omega) (by omega)]; exact hF2 p a b'
  · rw [k3] at d
    by_cases hl : l = n
    · rw [hl, k34, k 34 i (by omega) (by omega) (by omega)]; exact hx i a (by omega)
    · rw [k 34 l (by omega) (by omega) (by omega), k 34 i (by omega) (by omega) (by omega)]; exact hG i l a b' (by omega)
theorem fl_build {A B M : Int} : ∀ (k : Nat) (x : Int) (c m : fw_M), fg_IN M c m → fl_R c m → fl_B A B 0 c m → fw_r c (-3) 0 < 2147483648 → 1 ≤ x → x + k = fw_r m 32 1 - 1 → (∀ i, 0 ≤ i → i < fw_r m 32 3 → fw_r m 34 i < x) → (∀ q, 0 ≤ q → q < 8 → fw_r m 41 q = -1) → ∃ c' m' y, fw_E 0 50 [(6, 0), (2, 1), (2, 32), (0, 1), (0, x)] [] c = fw_E 0 171 [(6, 0), (2, 1), (2, 32), (0, 1), (0, y)] [] c' ∧ fg_IN M c' m' ∧ fl_R c' m' ∧ fl_B A B 0 c' m' ∧ fw_r c' (-3) 0 < 2147483648 ∧ (∀ q, 0 ≤ q → q < 8 → fw_r m' 41 q = -1) := by
  intro k
  induction k with
  | zero =>
    intro x c m h r b hs x1 hx hl hq
    have hA := r.1.2.1
    have hN := (fg_facts h).2.2.1
    refine ⟨c, m, x, ?_, h, r, b, hs, hq⟩
    rw [fw_b_0_50, hA.1, fw_w_id (by omega) (by omega), if_neg (by omega)]
  | succ k ih =>
    intro x c m h r b hs x1 hx hl hq
    have hA := r.1.2.1
    have hN := (fg_facts h).2.2.1
    have hn := (fg_facts h).2.1
    by_cases c6 : fw_r m 32 3 < 6
    · obtain ⟨v, ev⟩ := fl_cell (k := 1) hs (by decide)
      obtain ⟨w, ew, w0, w1⟩ := fl_low (c := c) (x := fw_sh v x) (n := 3) (by decide)
      have go : ∃ c' m' y, fw_E 0 86 [(6, 0), (2, 1), (2, 32), (0, 1), (0, x)] [(0, w)] c = fw_E 0 171 [(6, 0), (2, 1), (2, 32), (0, 1), (0, y)] [] c' ∧ fg_IN M c' m' ∧ fl_R c' m' ∧ fl_B A B 0 c' m' ∧ fw_r c' (-3) 0 < 2147483648 ∧ (∀ q, 0 ≤ q → q < 8 → fw_r m' 41 q = -1) := by
        rw [fw_b_0_86]
        by_cases cw : 0 < w
        · obtain ⟨v2, ev2⟩ := fl_cell (k := 2) hs (by decide)
          obtain ⟨u, eu, u0, u1⟩ := fl_low (c := c) (x := fw_sh v2 (fw_w (3 * fw_r m 32 3))) (n := 5) (by decide)
          rw [if_pos cw, fw_b_0_89 _ _ _ r.1.1, hA.2.2.1, ev2, fw_bs, fw_cn_0, fw_b_0_103, hA.2.2.1, eu, fw_bs, fw_cn_0, fw_b_0_114 _ _ _ _ _ _ hn.2.1 c6, fw_w_id (x := 1 + u) (by omega) (by omega)]
          have hb : 1 ≤ 1 + u ∧ 1 + u ≤ 30 := by omega
          generalize 1 + u = y at *
          generalize hnn : fw_r m 32 3 = n at *
          have p1 : fl_ptr (fw_u c 36 n y) := by rw [fl_ptr_36]; exact r.1.1
          have p2 : fl_ptr (fw_u (fw_u c 36 n y) 34 x n) := by rw [fl_ptr_34]; exact p1
          have o5 : fw_r (fw_u c 36 n y) 32 5 = n := by (try simp (disch := omega) only [fw_r_n, fw_r_s]); exact hA.2.2.1
          have o52 : fw_r (fw_u (fw_u c 36 n y) 34 x n) 32 5 = n := by (try simp (disch := omega) only [fw_r_n, fw_r_s]); exact hA.2.2.1
          have o36 : fw_r (fw_u (fw_u c 36 n y) 34 x n) 36 n = y := by (try simp (disch := omega) only [fw_r_n, fw_r_s])
          have h1 := fl_O_IN (c' := fw_u (fw_u c 36 n y) 34 x n) h (fun a j ha => by (try simp (disch := omega) only [fw_r_n, fw_r_s]))
          have b0 := b.1
          have b1 := b.2.1
          have b2 := b.2.2
          rw [hnn] at b0 b1 b2
          have nmx : fg_nm m x = -1 := fl_nm_no h (fun i a b' e => by have := hl i a (by omega); omega)
          obtain ⟨e1, i1, s1, f1⟩ := fm_addChute (n := n) (x := x) (y := y) h1 ⟨hn.2.1, c6⟩ hnn (by (try simp (disch := omega) only [fw_r_n, fw_r_s]); exact b0) (by omega) hb nmx
          have kk : ∀ a j, (a ≠ 34 ∨ j ≠ n) → (a ≠ 35 ∨ j ≠ n) → (a ≠ 32 ∨ j ≠ 3) → fw_r (fg_mac m n x y) a j = fw_r m a j := fun a j u v w => by unfold fg_mac; (try simp (disch := omega) only [fw_r_n, fw_r_s])
          have k34 : fw_r (fg_mac m n x y) 34 n = x := by unfold fg_mac; (try simp (disch := omega) only [fw_r_n, fw_r_s])
          have k3 : fw_r (fg_mac m n x y) 32 3 = n + 1 := by unfold fg_mac; (try simp (disch := omega) only [fw_r_n, fw_r_s])
          rw [fw_b_0_116 _ _ _ p1 (by omega) (by omega), o5, fw_b_0_127 _ _ _ p2 (by rw [o52]; omega) (by rw [o52]; omega), o52, o36, e1, fw_bs, fw_cn_0, fw_b_0_142]
          generalize fg_cac (fw_u (fw_u c 36 n y) 34 x n) n (51 + 3 * n) x y = c1 at *
          have i2 := fl_O_IN (c' := fw_u c1 32 5 (n + 1)) i1 (fun a j ha => by (try simp (disch := omega) only [fw_r_n, fw_r_s]))
          have g5 : fw_r c1 32 5 = n := by rw [f1 _ _ (by omega) (by omega) (by omega) (by omega)]; exact o52
          have r2 : fl_R (fw_u c1 32 5 (n + 1)) (fg_mac m n x y) := fl_R_add h i2 r hnn c6 (by omega) (fun i a b' => hl i a (by omega)) (by omega) (fun a j a1 a2 a3 a4 a5 => by rw [fw_r_n _ (by omega), f1 _ _ (by omega) (by omega) (by omega) (by omega), fw_r_n _ (by omega), fw_r_n _ (by omega)]) (by rw [fw_r_n _ (by omega), f1 _ _ (by omega) (by omega) (by omega) (by omega)]; exact o36) (by rw [fw_r_n _ (by omega), f1 _ _ (by omega) (by omega) (by omega) (by omega), fw_r_s]) (fw_r_s _ _ _ _)
          have bb : fl_B A B 0 (fw_u c1 32 5 (n + 1)) (fg_mac m n x y) := by
            unfold fl_B
            have q0 := s1.1
            have q1 := s1.2.1
            have q2 := s1.2.2
            rw [fw_r_n _ (by omega), fw_r_n _ (by omega)] at q0 q1 q2
            rw [k3, fw_r_n _ (by omega), fw_r_n _ (by omega), fw_r_n _ (by omega), q0, q1, q2]
            refine ⟨?_, ?_, ?_⟩ <;> omega
          have k1 := kk 32 1 (by omega) (by omega) (by omega)
          obtain ⟨c', m', y', t1, t2⟩ := ih (x + 1) (fw_u c1 32 5 (n + 1)) (fg_mac m n x y) i2 r2 bb (by rw [fw_r_n _ (by omega), f1 _ _ (by omega) (by omega) (by omega) (by omega), fw_r_n _ (by omega), fw_r_n _ (by omega)]; exact hs) (by omega) (by rw [k1]; omega) (fun i a b' => by
            rw [k3] at b'
            by_cases hi : i = n
            · rw [hi, k34]; omega
            · rw [kk 34 i (by omega) (by omega) (by omega)]; have := hl i a (by omega); omega) (fun q a b' => by rw [kk 41 q (by omega) (by omega) (by omega)]; exact hq q a b')
          refine ⟨c', m', y', ?_, t2⟩
          rw [g5, if_pos rfl, fw_b_0_149, g5, fw_w_id (by omega) (by omega), fw_b_0_165, fw_w_id (by omega) (by omega), t1]
        · obtain ⟨c', m', y, t1, t2⟩ := ih (x + 1) c m h r b hs (by omega) (by omega) (fun i a b' => by have := hl i a b'; omega) hq
          refine ⟨c', m', y, ?_, t2⟩
          rw [if_neg cw, fw_b_0_165, fw_w_id (by omega) (by omega), t1]
      obtain ⟨c', m', y, t1, t2⟩ := go
      refine ⟨c', m', y, ?_, t2⟩
      rw [fw_b_0_50, hA.1, fw_w_id (by omega) (by omega), if_pos (by omega), fw_b_0_61, hA.2.2.1, if_pos c6, fw_b_0_70, if_neg (by decide), fw_b_0_74, ev, fw_bs, fw_cn_0, fw_b_0_79, ew, fw_bs, fw_cn_0, t1]
    · refine ⟨c, m, x, ?_, h, r, b, hs, hq⟩
      rw [fw_b_0_50, hA.1, fw_w_id (by omega) (by omega), if_pos (by omega), fw_b_0_61, hA.2.2.1, if_neg c6]
/-! routes are assigned -/
theorem fl_route {A B M : Int} : ∀ (k : Nat) (x : Int) (c m : fw_M), fg_IN M c m → fl_R c m → fl_B A B 0 c m → fw_r c (-3) 0 < 2147483648 → 0 ≤ x → x + k = 8 → (∀ q, x ≤ q → q < 8 → fw_r m 41 q = -1) → ∃ c' m' y, fw_E 0 174 [(6, 0), (2, 1), (2, 32), (0, 1), (0, x)] [] c = fw_E 0 245 [(6, 0), (2, 1), (2, 32), (0, 1), (0, y)] [] c' ∧ fg_IN M c' m' ∧ fl_R c' m' ∧ fl_B A B 0 c' m' ∧ fw_r c' (-3) 0 < 2147483648 := by
  intro k
  induction k with
  | zero =>
    intro x c m h r b hs x0 hx hl
    refine ⟨c, m, x, ?_, h, r, b, hs⟩
    rw [fw_b_0_174, if_neg (by omega)]
  | succ k ih =>
    intro x c m h r b hs x0 hx hl
    have hA := r.1.2.1
    have hn := (fg_facts h).2.1
    by_cases c0 : 0 < fw_r m 32 3
    · obtain ⟨v, ev⟩ := fl_cell (k := 3) hs (by decide)
      obtain ⟨w, ew, w0, w1⟩ := fl_low (c := c) (x := fw_sh v (fw_w (2 * x))) c0
      have p1 : fl_ptr (fw_u c 45 x w) := by rw [fl_ptr_45]; exact r.1.1
      have h1 := fl_O_IN (c' := fw_u c 45 x w) h (fun a j ha => by (try simp (disch := omega) only [fw_r_n, fw_r_s]))
      obtain ⟨e1, i1⟩ := fm_assign (p := x) (q := w) (a3 := (8, 0)) h1 (by omega) ⟨w0, w1⟩
      have r1 : fl_R (fw_u (fw_u c 45 x w) 13 x w) (fw_u m 41 x w) := fl_R_lo (fl_R_45 r (by omega)) (by omega)
      have b1 : fl_B A B 0 (fw_u (fw_u c 45 x w) 13 x w) (fw_u m 41 x w) := fl_B_N b (fun a j ha => by (try simp (disch := omega) only [fw_r_n, fw_r_s])) (by (try simp (disch := omega) only [fw_r_n, fw_r_s]))
      obtain ⟨c', m', y, t1, t2⟩ := ih (x + 1) _ _ i1 r1 b1 (by (try simp (disch := omega) only [fw_r_n, fw_r_s]); exact hs) (by omega) (by omega) (fun q a b' => by rw [fw_r_n _ (by omega)]; exact hl q (by omega) b')
      refine ⟨c', m', y, ?_, t2⟩
      rw [fw_b_0_174, if_pos (by omega), fw_b_0_181, hA.2.2.1, if_pos c0, fw_b_0_188, if_neg (by decide), fw_b_0_192 _ _ _ r.1.1, ev, fw_bs, fw_cn_0, fw_b_0_203, hA.2.2.1, ew, fw_bs, fw_cn_0, fw_b_0_215 _ _ _ _ _ x0 (by omega), fw_b_0_216 _ _ _ p1 x0 (by omega), fw_r_s, e1, fw_bs, fw_cn_0, fw_b_0_229, if_pos (hl x (by omega) (by omega)), fw_b_0_233, fw_w_id (by omega) (by omega), t1]
    · refine ⟨c, m, x, ?_, h, r, b, hs⟩
      rw [fw_b_0_174, if_pos (by omega), fw_b_0_181, hA.2.2.1, if_neg c0]
/-! what happens, and the end -/
theorem fl_events {A B : Int} : ∀ (k : Nat) (x : Int) (c m : fw_M), fg_IN (90 * x) c m → fl_R c m → fl_B A B (28 * x) c m → fw_r c (-3) 0 < 2147483648 → 0 ≤ x → x + k = 24 → ∃ c' m', fw_E 0 248 [(6, 0), (2, 1), (2, 32), (0, 1), (0, x)] [] c = fw_E 0 295 [(6, 0), (2, 1), (2, 32), (0, 1), (0, 24)] [] c' ∧ fg_IN 2160 c' m' ∧ fl_R c' m' ∧ fl_B A B 672 c' m' := by
  intro k
  induction k with
  | zero =>
    intro x c m h r b hs x0 hx
    have e : x = 24 := by omega
    subst e
    refine ⟨c, m, ?_, h, r, b⟩
    rw [fw_b_0_248, if_neg (by decide)]
  | succ k ih =>
    intro x c m h r b hs x0 hx
    obtain ⟨v, ev⟩ := fl_cell (k := 4 + x) hs (by omega)
    obtain ⟨c1, m1, e1, i1, r1, n1, k1⟩ := fl_acts (v := v) (a3 := (8, 0)) (a4 := (8, 0)) (a5 := (8, 0)) (a6 := (8, 0)) (a7 := (8, 0)) (a8 := (8, 0)) (a9 := (8, 0)) (by omega : 0 ≤ 90 * x ∧ 90 * x ≤ 300000) h r
    have b1 := fl_B_N b n1 k1
    obtain ⟨c2, e2, x2⟩ := fl_agrees (a2 := (8, 0)) (a3 := (8, 0)) (a4 := (8, 0)) (a5 := (8, 0)) (a6 := (8, 0)) i1 r1
    have i2 := fl_X_IN x2 i1
    have r2 := fl_X_R x2 r1
    have b2 := fl_B_X b1 x2
    have z1 : 90 * x + 90 = 90 * (x + 1) := by omega
    have z2 : 28 * x + 28 = 28 * (x + 1) := by omega
    rw [z1] at i2
    rw [z2] at b2
    obtain ⟨c', m', t1, t2⟩ := ih (x + 1) c2 m1 i2 r2 b2 (by rw [x2.1 _ _ (by omega), n1 _ _ (by omega)]; exact hs) (by omega) (by omega)
    refine ⟨c', m', ?_, t2⟩
    rw [fw_b_0_248, if_pos (by omega), fw_b_0_255, if_neg (by decide), fw_b_0_259, fw_w_id (by omega) (by omega), ev, fw_bs, fw_cn_0, fw_b_0_269, e1, fw_bs, fw_cn_0, fw_b_0_272, if_neg (by decide), fw_b_0_275, e2, fw_bs, fw_cn_0, fw_b_0_280, if_neg (by decide), fw_b_0_283, fw_w_id (by omega) (by omega), t1]
theorem fl_law {A B : Int} {c m : fw_M} (h : fg_IN 0 c m) (r : fl_R c m) (b : fl_B A B 0 c m) (hs : fw_r c (-3) 0 < 2147483648) (h3 : fw_r m 32 3 = 0) (h41 : ∀ q, 0 ≤ q → q < 8 → fw_r m 41 q = -1) : ∃ c', fw_E 0 50 [(6, 0), (2, 1), (2, 32), (0, 1), (0, 1)] [] c = some ((0, 1), c') ∧ fw_r c' (-1) 1 ≤ A + 690 ∧ fw_r c' (-1) 2 ≤ B + 4260 := by
  have hN := (fg_facts h).2.2.1
  obtain ⟨c1, m1, y1, e1, i1, r1, b1, s1, q1⟩ := fl_build (fw_r m 32 1 - 2).toNat 1 c m h r b hs (by decide) (by omega) (fun i a b' => by omega) h41
  obtain ⟨c2, m2, y2, e2, i2, r2, b2, s2⟩ := fl_route 8 0 c1 m1 i1 r1 b1 s1 (by decide) (by decide) (fun q a b' => q1 q a b')
  obtain ⟨c3, m3, e3, i3, r3, b3⟩ := fl_events 24 0 c2 m2 i2 r2 b2 s2 (by decide) (by decide)
  obtain ⟨c4, e4, f4⟩ := fm_isOnce (by decide) (by decide) i3
  have n6 := r3.1.2.2.2
  refine ⟨c4, ?_, ?_, ?_⟩
  · rw [e1, fw_b_0_171, e2, fw_b_0_245, e3, fw_b_0_295, if_neg (by decide), fw_b_0_299, e4, fw_bs, fw_cn_0, fw_b_0_303, if_neg (by decide), fw_b_0_306]
  · rw [f4 _ _ (by omega) (by omega)]; have := b3.2.1; omega
  · rw [f4 _ _ (by omega) (by omega)]; have := b3.2.2; omega
