/-! dispatch -/
theorem fg_sf_two {g : Int → Int} {a b : Int} (k : Nat) (h : ∀ j : Int, 0 ≤ j → j < k → 0 ≤ g j) (a0 : 0 ≤ a) (a1 : a < k) (b0 : 0 ≤ b) (b1 : b < k) (hab : a ≠ b) : g a + g b ≤ fg_sf g 0 k := by
  have r1 := fg_sf_upd (f := g) (g := fun j => if j = a then 0 else g j) (x := a) k 0 (fun j _ _ hj => by (try dsimp only); rw [if_neg hj]) a0 (by omega)
  have r2 := fg_sf_upd (f := fun j => if j = a then 0 else g j) (g := fun j => if j = b then 0 else if j = a then 0 else g j) (x := b) k 0 (fun j _ _ hj => by (try dsimp only); rw [if_neg hj]) b0 (by omega)
  have gen : ∀ (k : Nat) (u : Int → Int), (∀ j : Int, 0 ≤ j → j < k → 0 ≤ u j) → 0 ≤ fg_sf u 0 k := by
    intro k u hu
    induction k with
    | zero => simp [fg_sf]
    | succ k ih =>
      rw [fg_sf_end]
      have := ih (fun j x y => hu j x (by omega))
      have := hu (0 + (k : Int)) (by omega) (by omega)
      omega
  have r3 := gen k (fun j => if j = b then 0 else if j = a then 0 else g j) (fun j x y => by
    (try dsimp only)
    have := h j x y
    split
    · omega
    · split <;> omega)
  (try dsimp only at r1 r2)
  rw [if_pos rfl] at r1 r2
  rw [if_neg (Ne.symm hab)] at r2
  omega
theorem fg_chs_two {m : fw_M} {p a b u v : Int} (a0 : 0 ≤ a) (a1 : a < fw_r m 32 3) (b0 : 0 ≤ b) (b1 : b < fw_r m 32 3) (hab : a ≠ b) (u0 : 0 ≤ u) (u1 : u < fw_r m 42 a) (v0 : 0 ≤ v) (v1 : v < fw_r m 42 b) (hu : fw_r m 43 (30 * a + u) = p) (hv : fw_r m 43 (30 * b + v) = p) : 2 ≤ fg_chs m p := by
  have e1 := fg_cnt_pos (f := fun k => fw_r m 43 (30 * a + k)) (n := fw_r m 42 a) u0 u1 hu
  have e2 := fg_cnt_pos (f := fun k => fw_r m 43 (30 * b + k)) (n := fw_r m 42 b) v0 v1 hv
  have r := fg_sf_two (g := fun i => fg_cnt (fun k => fw_r m 43 (30 * i + k)) (fw_r m 42 i) p) (a := a) (b := b) (fw_r m 32 3).toNat (fun j _ _ => fg_cnt_ge) a0 (by omega) b0 (by omega) hab
  unfold fg_chs
  (try dsimp only at r)
  omega
theorem fg_chs_one {m : fw_M} {p a : Int} (a0 : 0 ≤ a) (a1 : a < fw_r m 32 3) : fg_cnt (fun k => fw_r m 43 (30 * a + k)) (fw_r m 42 a) p ≤ fg_chs m p := by
  have r := fg_sf_upd (f := fun i => fg_cnt (fun k => fw_r m 43 (30 * i + k)) (fw_r m 42 i) p) (g := fun j => if j = a then 0 else fg_cnt (fun k => fw_r m 43 (30 * j + k)) (fw_r m 42 j) p) (x := a) (fw_r m 32 3).toNat 0 (fun j _ _ hj => by (try dsimp only); rw [if_neg hj]) a0 (by omega)
  have gen : ∀ (k : Nat) (u : Int → Int), (∀ j : Int, 0 ≤ j → j < k → 0 ≤ u j) → 0 ≤ fg_sf u 0 k := by
    intro k u hu
    induction k with
    | zero => simp [fg_sf]
    | succ k ih =>
      rw [fg_sf_end]
      have := ih (fun j x y => hu j x (by omega))
      have := hu (0 + (k : Int)) (by omega) (by omega)
      omega
  have r3 := gen (fw_r m 32 3).toNat (fun j => if j = a then 0 else fg_cnt (fun k => fw_r m 43 (30 * j + k)) (fw_r m 42 j) p) (fun j x y => by
    (try dsimp only)
    split
    · omega
    · exact fg_cnt_ge)
  unfold fg_chs
  (try dsimp only at r)
  rw [if_pos rfl] at r
  omega
theorem fg_cnt_app (g : Int → Int) {C K : Int} (q : Int) (hC : 0 ≤ C) (hK : 0 ≤ K) : fg_cnt g (C + K) q = fg_cnt g C q + fg_cnt (fun j => g (C + j)) K q := by
  unfold fg_cnt
  have e : (C + K).toNat = C.toNat + K.toNat := by omega
  have e2 : (0 : Int) + ((C.toNat : Nat) : Int) = C := by omega
  rw [e, fg_sf_add, e2]
  have r := fg_sf_shift (fun j => if g j = q then 1 else 0) C K.toNat 0
  rw [Int.zero_add] at r
  rw [← r]
  congr 2
  funext j
  rw [Int.add_comm j C]
theorem fg_IN_disp {M x K T C S : Int} {f : Int → Int} {c m c' m' : fw_M} (h : fg_IN M c m) (hx : 0 ≤ x ∧ x < fw_r m 32 3) (hK : fw_r m 42 x = K) (hK1 : 1 ≤ K) (hf : ∀ j, f j = fw_r m 43 (30 * x + j)) (hT : fw_r m 32 25 = T) (hC : fw_r c 28 1 = C)
    (pc : fw_ptr c')
    (k1 : ∀ a j, a ≠ 2 → a ≠ 5 → a ≠ 7 → a ≠ 27 → a ≠ 28 → a ≠ 29 → a ≠ 30 → a ≠ 51 + 3 * x → a ≠ 51 + 3 * x + 1 → fw_r c' a j = fw_r c a j)
    (k2 : ∀ j, j ≠ 9 → fw_r c' 2 j = fw_r c 2 j) (k29 : fw_r c' 2 9 = fw_r c 2 9 + S)
    (k5n : ∀ p, (∀ j, 0 ≤ j → j < K → f j ≠ p) → fw_r c' 5 p = fw_r c 5 p ∧ fw_r c' 7 p = fw_r c 7 p)
    (k5y : ∀ j, 0 ≤ j → j < K → fw_r c' 5 (f j) = 116 ∧ fw_r c' 7 (f j) = T)
    (k27 : fw_r c' 27 2 = T + 1) (k28 : fw_r c' 28 1 = C + K)
    (k29o : ∀ j, j < C → fw_r c' 29 j = fw_r c 29 j) (k29n : ∀ j, 0 ≤ j → j < K → fw_r c' 29 (C + j) = f j)
    (k30 : fw_r c' 30 T = C) (k30o : ∀ u, u ≠ T → fw_r c' 30 u = fw_r c 30 u)
    (kB : ∀ j, j ≠ 4 → j ≠ 5 → fw_r c' (51 + 3 * x) j = fw_r c (51 + 3 * x) j) (kB4 : fw_r c' (51 + 3 * x) 4 = 0) (kB5 : fw_r c' (51 + 3 * x) 5 = 0)
    (kR : fw_r c' (51 + 3 * x + 1) 1 = 0) (kR0 : fw_r c' (51 + 3 * x + 1) 0 = fw_r c (51 + 3 * x + 1) 0)
    (pm : fw_ptr m')
    (l1 : ∀ a j, a ≠ 32 → a ≠ 39 → a ≠ 42 → a ≠ 44 → a ≠ 45 → a ≠ 46 → a ≠ 47 → a ≠ 48 → fw_r m' a j = fw_r m a j)
    (l2 : ∀ j, j ≠ 25 → j ≠ 29 → fw_r m' 32 j = fw_r m 32 j) (l29 : fw_r m' 32 29 = fw_r m 32 29 + S) (l25 : fw_r m' 32 25 = T + 1)
    (ln : ∀ p, (∀ j, 0 ≤ j → j < K → f j ≠ p) → fw_r m' 39 p = fw_r m 39 p ∧ fw_r m' 47 p = fw_r m 47 p ∧ fw_r m' 48 p = fw_r m 48 p)
    (ly : ∀ j, 0 ≤ j → j < K → fw_r m' 39 (f j) = 3 ∧ fw_r m' 47 (f j) = T ∧ fw_r m' 48 (f j) = j)
    (lo : ∀ i, i ≠ x → fw_r m' 42 i = fw_r m 42 i ∧ fw_r m' 44 i = fw_r m 44 i ∧ fw_r m' 45 i = fw_r m 45 i)
    (lx : fw_r m' 42 x = 0 ∧ fw_r m' 44 x = 0 ∧ fw_r m' 45 x = 0)
    (l46 : fw_r m' 46 T = K) (l46o : ∀ u, u ≠ T → fw_r m' 46 u = fw_r m 46 u)
    (hS : 0 ≤ S ∧ S ≤ 9 * K) (hsum : fg_sf (fg_sv m' 3) 0 (fw_r m 32 15).toNat = fg_sf (fg_sv m 3) 0 (fw_r m 32 15).toNat + K) : fg_IN M c' m' := by
  obtain ⟨gA, gB, gC, gD, gE, gF, gG, gH, gI⟩ := h
  have hF := gB.2.1.2.1
  have gEx := gE.1 x hx.1 hx.2
  have hcf := gA.1.2.2.2.1 x hx.1 hx.2
  have hfx : ∀ j, 0 ≤ j → j < K → 0 ≤ f j ∧ f j < fw_r m 32 15 ∧ fw_r m 39 (f j) = 2 := fun j a b => by
    rw [hf j]; exact (gEx.2.2 j a (by omega)).2
  have x1 := l2 1 (by decide) (by decide)
  have x3 := l2 3 (by decide) (by decide)
  have x10 := l2 10 (by decide) (by decide)
  have x15 := l2 15 (by decide) (by decide)
  have x16 := l2 16 (by decide) (by decide)
  have x17 := l2 17 (by decide) (by decide)
  have x18 := l2 18 (by decide) (by decide)
  have x19 := l2 19 (by decide) (by decide)
  have hno : ∀ p, fw_r m 39 p ≠ 2 → ∀ j, 0 ≤ j → j < K → f j ≠ p := fun p hp j a b e => hp (by rw [← e]; exact (hfx j a b).2.2)
  have em : ∀ p, (∃ j, 0 ≤ j ∧ j < K ∧ f j = p) ∨ (∀ j, 0 ≤ j → j < K → f j ≠ p) := fun p => by
    rcases Classical.em (∃ j, 0 ≤ j ∧ j < K ∧ f j = p) with hh | hh
    · exact Or.inl hh
    · exact Or.inr (fun j a b e => hh ⟨j, a, b, e⟩)
  have cch : ∀ i j, 0 ≤ i → 0 ≤ j → j < 4 → fw_r c' (51 + 3 * i) j = fw_r c (51 + 3 * i) j := fun i j a b d => by
    by_cases hi : i = x
    · subst hi; exact kB j (by omega) (by omega)
    · exact k1 _ _ (by omega) (by omega) (by omega) (by omega) (by omega) (by omega) (by omega) (by omega) (by omega)
  have crw : ∀ i, 0 ≤ i → fw_r c' (51 + 3 * i + 1) 0 = fw_r c (51 + 3 * i + 1) 0 := fun i a => by
    by_cases hi : i = x
    · subst hi; exact kR0
    · exact k1 _ _ (by omega) (by omega) (by omega) (by omega) (by omega) (by omega) (by omega) (by omega) (by omega)
  have kk : ∀ a j, a < 27 → a ≠ 2 → a ≠ 5 → a ≠ 7 → fw_r c' a j = fw_r c a j := fun a j x1 x2 x3 x4 => k1 a j x2 x3 x4 (by omega) (by omega) (by omega) (by omega) (by omega) (by omega)
  refine ⟨?_, ?_, ?_, ?_, ?_, ?_, ?_, ?_, ?_⟩
  · exact fg_gA_c gA pc (fg_cok_c gA.1.1.2.1 (kk _ _ (by decide) (by decide) (by decide) (by decide)) (fun j => kk _ _ (by decide) (by decide) (by decide) (by decide)) (fun i hi => cch i 1 hi (by decide) (by decide)) crw) pm (fun j => kk _ _ (by decide) (by decide) (by decide) (by decide)) (k2 _ (by decide)) (fun j => kk _ _ (by decide) (by decide) (by decide) (by decide)) (fun j => kk _ _ (by decide) (by decide) (by decide) (by decide)) cch (fun j _ _ _ _ _ _ h25 h29 => l2 j h25 h29) (fun a j ha => l1 a j (by omega) (by omega) (by omega) (by omega) (by omega) (by omega) (by omega) (by omega))
  · exact fg_gB_c gB (fun j => kk _ _ (by decide) (by decide) (by decide) (by decide)) (fun j => kk _ _ (by decide) (by decide) (by decide) (by decide)) (fun j => kk _ _ (by decide) (by decide) (by decide) (by decide)) x1 x10 x15 (fun j => l1 _ _ (by decide) (by decide) (by decide) (by decide) (by decide) (by decide) (by decide) (by decide)) (fun j => l1 _ _ (by decide) (by decide) (by decide) (by decide) (by decide) (by decide) (by decide) (by decide))
  · obtain ⟨g1, g2, g3, g4, g5⟩ := gC
    have m38 : ∀ p, fw_r m' 38 p = fw_r m 38 p := fun p => l1 _ _ (by decide) (by decide) (by decide) (by decide) (by decide) (by decide) (by decide) (by decide)
    have m40 : ∀ p, fw_r m' 40 p = fw_r m 40 p := fun p => l1 _ _ (by decide) (by decide) (by decide) (by decide) (by decide) (by decide) (by decide) (by decide)
    have c4 : ∀ p, fw_r c' 4 p = fw_r c 4 p := fun p => kk _ _ (by decide) (by decide) (by decide) (by decide)
    have c6 : ∀ p, fw_r c' 6 p = fw_r c 6 p := fun p => kk _ _ (by decide) (by decide) (by decide) (by decide)
    refine ⟨by rw [k2 6 (by decide), x15]; exact g1, by rw [kk 1 8 (by decide) (by decide) (by decide) (by decide), x16]; exact g2, by rw [x16]; exact g3, fun p a b => ?_, fun p a b => ?_⟩
    · rw [x10] at b
      obtain ⟨h1, h2, h3, h4, h5, h6, h7⟩ := g4 p a b
      rw [c4, m38, m40, c6, x15]
      rcases em p with ⟨j, j0, j1, rfl⟩ | hn
      · have z := ly j j0 j1
        have z2 := k5y j j0 j1
        have z3 := hfx j j0 j1
        rw [z.1, z.2.1, z2.1, z2.2]
        exact ⟨h1, by omega, rfl, ⟨fun e => by omega, fun e => by omega⟩, fun _ => h5 (by omega), fun _ => rfl, h7⟩
      · have z := ln p hn
        have z2 := k5n p hn
        rw [z.1, z.2.1, z2.1, z2.2]
        exact ⟨h1, h2, h3, h4, h5, h6, h7⟩
    · rw [x10] at a
      have z := ln p (fun j j0 j1 e => by have := hfx j j0 j1; omega)
      rw [z.1, m40]
      exact g5 p a b
  · obtain ⟨⟨g1, g2⟩, ⟨g3, g4⟩, ⟨g5, g6⟩, ⟨g7, g8, g9⟩, g10⟩ := gD
    have s2 : fg_sf (fg_s2 m') 0 (fw_r m 32 15).toNat = fg_sf (fg_s2 m) 0 (fw_r m 32 15).toNat := fg_sf_ext _ _ (fun p a b => by
      unfold fg_s2
      rcases em p with ⟨j, j0, j1, rfl⟩ | hn
      · rw [(ly j j0 j1).1, (hfx j j0 j1).2.2]; rfl
      · rw [(ln p hn).1])
    have s4 : fg_sf (fg_sv m' 4) 0 (fw_r m 32 15).toNat = fg_sf (fg_sv m 4) 0 (fw_r m 32 15).toNat := fg_sf_ext _ _ (fun p a b => by
      unfold fg_sv
      rcases em p with ⟨j, j0, j1, rfl⟩ | hn
      · rw [(ly j j0 j1).1, (hfx j j0 j1).2.2]; rfl
      · rw [(ln p hn).1])
    refine ⟨⟨by rw [k2 7 (by decide), x17]; exact g1, by rw [x17, x15, s2]; exact g2⟩, ⟨by rw [k2 8 (by decide), x18]; exact g3, by rw [x18, x17]; exact g4⟩, ⟨by rw [kk 25 1 (by decide) (by decide) (by decide) (by decide), x19]; exact g5, by rw [x19, x15, s4]; exact g6⟩, ⟨by rw [k29, l29, g7], by rw [l29]; omega, by rw [l29, k28]; omega⟩, by rw [k28, x15, hsum]; omega⟩
  · refine ⟨fun i a b => ?_, fun i a b => ?_⟩
    · rw [x3] at b
      have m35 : fw_r m' 35 i = fw_r m 35 i := l1 _ _ (by decide) (by decide) (by decide) (by decide) (by decide) (by decide) (by decide) (by decide)
      have m43 : ∀ j, fw_r m' 43 j = fw_r m 43 j := fun j => l1 _ _ (by decide) (by decide) (by decide) (by decide) (by decide) (by decide) (by decide) (by decide)
      rw [m35, x15]
      simp only [m43]
      by_cases hi : i = x
      · subst hi
        rw [lx.1, lx.2.1, lx.2.2, kR, kB4, kB5]
        exact ⟨⟨rfl, by decide, by omega⟩, ⟨rfl, rfl, rfl⟩, fun k u v => by omega⟩
      · have z := lo i hi
        have w := gE.1 i a b
        rw [z.1, z.2.1, z.2.2, k1 (51 + 3 * i + 1) 1 (by omega) (by omega) (by omega) (by omega) (by omega) (by omega) (by omega) (by omega) (by omega), k1 (51 + 3 * i) 4 (by omega) (by omega) (by omega) (by omega) (by omega) (by omega) (by omega) (by omega) (by omega), k1 (51 + 3 * i) 5 (by omega) (by omega) (by omega) (by omega) (by omega) (by omega) (by omega) (by omega) (by omega)]
        refine ⟨w.1, w.2.1, fun k u v => ?_⟩
        have w3 := w.2.2 k u v
        have hn := fun j (j0 : 0 ≤ j) (j1 : j < K) (e : f j = fw_r m 43 (30 * i + k)) => by
          have t1 := fg_chs_two (m := m) (p := f j) hx.1 hx.2 a b (Ne.symm hi) j0 (by omega) u v (hf j).symm e.symm
          have t2 := gI (f j) (hfx j j0 j1).1
          have t3 := fg_cnt_ge (f := fw_r m 33) (n := fw_r m 32 1) (p := f j)
          have t4 := fg_cnt_ge (f := fw_r c 29) (n := fw_r c 28 1) (p := f j)
          have t5 := fg_cnt_ge (f := fw_r c 26) (n := fw_r m 32 19) (p := f j)
          have t6 : (0 : Int) ≤ (if fw_r m 32 15 ≤ f j ∧ f j < fw_r m 32 10 then 1 else 0) := by split <;> decide
          have t7 : (if f j < fw_r m 32 10 then (1 : Int) else 0) ≤ 1 := by split <;> decide
          exact (by omega : False)
        rw [k1 (51 + 3 * i + 1 + 1) k (by omega) (by omega) (by omega) (by omega) (by omega) (by omega) (by omega) (by omega) (by omega), (ln _ hn).1]
        exact w3
    · rw [x3] at a
      have z := lo i (by omega)
      rw [z.1, z.2.1, z.2.2, l1 36 i (by decide) (by decide) (by decide) (by decide) (by decide) (by decide) (by decide) (by decide)]
      exact gE.2 i a b
  · intro p a b ne
    rw [x1] at b
    have e33 : fw_r m' 33 p = fw_r m 33 p := l1 _ _ (by decide) (by decide) (by decide) (by decide) (by decide) (by decide) (by decide) (by decide)
    rw [e33] at ne ⊢
    have g := gF p a b ne
    rw [(ln _ (hno _ (by omega))).1]
    exact g
  · intro j a b
    rw [x19] at b
    have g := gG j a b
    rw [kk 26 j (by decide) (by decide) (by decide) (by decide), x15, (ln _ (hno _ (by omega))).1]
    exact g
  · obtain ⟨⟨g1, g2, g3⟩, g4, g5, g6, g7⟩ := gH
    rw [hT] at g1 g2 g3
    rw [hC] at g3 g4 g5
    simp only [hT] at g5 g6 g7
    have hC0 : 0 ≤ C := by omega
    have old29 : ∀ j, 0 ≤ j → j < C → (0 ≤ fw_r c 29 j ∧ fw_r c 29 j < fw_r m 32 15) ∧ fw_r m 39 (fw_r c 29 j) = 3 := g4
    refine ⟨⟨by rw [k27, l25], by omega, by rw [l25, k28]; omega⟩, fun j a b => ?_, fun u a b => ?_, fun u i a b a2 b2 => ?_, fun p a b e => ?_⟩
    · rw [k28] at b
      rw [x15]
      by_cases hj : j < C
      · rw [k29o j hj]
        have g := g4 j a hj
        rw [(ln _ (hno _ (by omega))).1]
        exact g
      · have ej : j = C + (j - C) := by omega
        rw [ej, k29n (j - C) (by omega) (by omega), (ly (j - C) (by omega) (by omega)).1]
        have := hfx (j - C) (by omega) (by omega)
        exact ⟨⟨this.1, this.2.1⟩, rfl⟩
    · rw [l25] at b ⊢
      rw [k28]
      by_cases hu : u = T
      · subst hu
        rw [k30, l46]
        have := gEx.1
        exact ⟨hC0, hK1, by omega, by omega, fun z => by omega, fun z => rfl⟩
      · have g := g5 u a (by omega)
        rw [k30o u hu, l46o u hu]
        refine ⟨g.1, g.2.1, g.2.2.1, by omega, fun z => ?_, fun z => by omega⟩
        by_cases hu1 : u + 1 = T
        · rw [hu1, k30]; exact g.2.2.2.2.2 hu1
        · rw [k30o _ hu1]; exact g.2.2.2.2.1 (by omega)
    · rw [l25] at b
      by_cases hu : u = T
      · subst hu
        rw [l46] at b2
        rw [k30, k29n i a2 b2]
        exact (ly i a2 b2).2
      · rw [l46o u hu] at b2
        have g := g5 u a (by omega)
        have g' := g6 u i a (by omega) a2 b2
        have g'' := g4 (fw_r c 30 u + i) (by omega) (by omega)
        rw [k30o u hu, k29o _ (by omega), (ln _ (hno _ (by omega))).2.1, (ln _ (hno _ (by omega))).2.2]
        exact g'
    · rw [x15] at b
      rcases em p with ⟨j, j0, j1, rfl⟩ | hn
      · have z := ly j j0 j1
        rw [z.2.1, z.2.2, l25, l46, k30, k29n j j0 j1]
        exact ⟨by omega, ⟨j0, j1⟩, rfl⟩
      · have z := ln p hn
        rw [z.1] at e
        have g := g7 p a b e
        have g' := g5 (fw_r m 47 p) g.1.1 g.1.2
        rw [z.2.1, z.2.2, l25, l46o _ (by omega), k30o _ (by omega), k29o _ (by omega)]
        exact ⟨by omega, g.2⟩
  · intro q hq
    have g := gI q hq
    have e1 : fg_cnt (fw_r c' 29) (fw_r c' 28 1) q = fg_cnt (fw_r c 29) C q + fg_cnt f K q := by
      rw [k28, fg_cnt_app _ _ (by have := gH.1; omega) (by omega), fg_cnt_ext (f := fw_r c' 29) (g := fw_r c 29) (fun j a b => k29o j b), fg_cnt_ext (f := fun j => fw_r c' 29 (C + j)) (g := f) (fun j a b => k29n j a b)]
    have e2 : fg_chs m' q = fg_chs m q - fg_cnt f K q := by
      unfold fg_chs
      rw [x3, fg_sf_upd (f := fun i => fg_cnt (fun k => fw_r m' 43 (30 * i + k)) (fw_r m' 42 i) q) (g := fun i => fg_cnt (fun k => fw_r m 43 (30 * i + k)) (fw_r m 42 i) q) (x := x) _ _ (fun i _ _ hi => by
        (try dsimp only)
        rw [(lo i hi).1]
        exact fg_cnt_c (fun k => l1 _ _ (by decide) (by decide) (by decide) (by decide) (by decide) (by decide) (by decide) (by decide)) _ _) hx.1 (by omega)]
      (try dsimp only)
      rw [lx.1, hK, fg_cnt_0 (n := 0) (fun j a b => by omega), fg_cnt_c (f := fun k => fw_r m 43 (30 * x + k)) (g := f) (fun k => (hf k).symm)]
      omega
    rw [e1, e2, fg_cnt_c (f := fw_r m' 33) (g := fw_r m 33) (fun j => l1 _ _ (by decide) (by decide) (by decide) (by decide) (by decide) (by decide) (by decide) (by decide)), fg_cnt_c (f := fw_r c' 26) (g := fw_r c 26) (fun j => kk _ _ (by decide) (by decide) (by decide) (by decide)), x1, x10, x15, x19]
    rw [hC] at g
    omega
def fg_qa (s : fw_M) (f : Int → Int) (C : Int) : Nat → fw_M
  | 0 => s
  | i + 1 => fw_u (fw_u (fg_qa s f C i) 29 (C + i) (f i)) 28 1 (C + i + 1)
theorem fg_qa_o (s : fw_M) (f : Int → Int) (C : Int) : ∀ (i : Nat) {a j : Int}, a ≠ 29 → (a ≠ 28 ∨ j ≠ 1) → fw_r (fg_qa s f C i) a j = fw_r s a j := by
  intro i
  induction i with
  | zero => intro a j h1 h2; rfl
  | succ i ih => intro a j h1 h2; rw [fg_qa, fw_r_n _ (by omega), fw_r_n _ (by omega), ih h1 h2]
theorem fg_qa_28 {s : fw_M} (f : Int → Int) {C : Int} (h : fw_r s 28 1 = C) : ∀ (i : Nat), fw_r (fg_qa s f C i) 28 1 = C + i := by
  intro i
  cases i with
  | zero => rw [fg_qa, h]; omega
  | succ i => rw [fg_qa, fw_r_s]; omega
theorem fg_qa_lo (s : fw_M) (f : Int → Int) (C : Int) : ∀ (i : Nat) {j : Int}, j < C → fw_r (fg_qa s f C i) 29 j = fw_r s 29 j := by
  intro i
  induction i with
  | zero => intro j h1; rfl
  | succ i ih => intro j h1; rw [fg_qa, fw_r_n _ (by omega), fw_r_n _ (by omega), ih h1]
theorem fg_qa_n (s : fw_M) (f : Int → Int) (C : Int) : ∀ (i : Nat) {j : Int}, 0 ≤ j → j < i → fw_r (fg_qa s f C i) 29 (C + j) = f j := by
  intro i
  induction i with
  | zero => intro j h1 h2; omega
  | succ i ih =>
    intro j h1 h2
    rw [fg_qa, fw_r_k _ (by omega)]
    by_cases hj : j = i
    · subst hj; rw [fw_r_s]
    · rw [fw_r_n _ (by omega), ih h1 (by omega)]
theorem fg_qa_ptr {s : fw_M} (f : Int → Int) (C : Int) (hp : fw_ptr s) (i : Nat) : fw_ptr (fg_qa s f C i) := by
  induction i with
  | zero => exact hp
  | succ i ih => rw [fg_qa, fw_ptr_28_1, fw_ptr_29]; exact ih
theorem fs_take_lp {s : fw_M} {R T K C : Int} {f : Int → Int} (hp : fw_ptr s) (hR : 52 ≤ R) (hr : fw_rw s R) (hcnt : fw_r s R 1 = K) (hln : fw_ln (R + 1) = 30) (hK : K ≤ 30) (hf : ∀ j, f j = fw_r s (R + 1) j) (hC : fw_r s 28 1 = C) (hC0 : 0 ≤ C) (hCK : C + K ≤ 300) : ∀ (k i : Nat), (i : Int) + k = K → fw_E 19 33 [(2, 27), (2, R), (0, T), (0, (i : Int))] [] (fg_qa s f C i) = fw_E 19 59 [(2, 27), (2, R), (0, T), (0, K)] [] (fg_qa s f C K.toNat) := by
  intro k
  induction k with
  | zero =>
    intro i h
    have hr' : fw_rw (fg_qa s f C i) R := ⟨hr.1, hr.2.1, by rw [fg_qa_o _ _ _ _ (by omega) (by omega)]; exact hr.2.2⟩
    have e : (i : Int) = K := by omega
    have e2 : K.toNat = i := by omega
    rw [fw_b_19_33 _ _ _ _ hr', fg_qa_o _ _ _ _ (by omega) (by omega), hcnt, if_neg (by omega), e2, e]
  | succ k ih =>
    intro i h
    have hr' : fw_rw (fg_qa s f C i) R := ⟨hr.1, hr.2.1, by rw [fg_qa_o _ _ _ _ (by omega) (by omega)]; exact hr.2.2⟩
    have hp' := fg_qa_ptr f C hp i
    have hr28 : fw_rw (fg_qa s f C i) 28 := ⟨by decide, by decide, hp' (28, 0, 29) (by decide)⟩
    have e1 : fw_r (fg_qa s f C i) R 1 = K := by rw [fg_qa_o _ _ _ _ (by omega) (by omega)]; exact hcnt
    have e28 := fg_qa_28 (s := s) f hC i
    have ea := fs_at (i := (i : Int)) hr' (by omega) (by omega) (by rw [e1, hln]; exact hK)
    rw [fg_qa_o _ _ _ _ (by omega) (by omega), ← hf] at ea
    have eb := fs_rAdd (v := f i) hr28 (by rw [e28]; omega) (by rw [e28]; show C + (i : Int) < 300; omega) (by decide)
    have ec : fg_ad (fg_qa s f C i) 28 (f i) = fg_qa s f C (i + 1) := by
      show fw_u (fw_u (fg_qa s f C i) 29 (fw_r (fg_qa s f C i) 28 1) (f i)) 28 1 (fw_r (fg_qa s f C i) 28 1 + 1) = _
      rw [e28]; rfl
    have ed : (i : Int) + 1 = ((i + 1 : Nat) : Int) := by omega
    rw [fw_b_19_33 _ _ _ _ hr', e1, if_pos (by omega), fw_b_19_41 _ _ _ _ hp' hr', ea, fw_bs, fw_cn_0, fw_b_19_50, eb, fw_bs, fw_cn_5, fw_b_19_53, fw_w_id (by omega) (by omega), ec, ed]
    exact ih (i + 1) (by omega)
theorem fs_take {s : fw_M} {R T K C : Int} {f : Int → Int} {a2 a3 : fw_V} (hp : fw_ptr s) (hR : 52 ≤ R) (hr : fw_rw s R) (hcnt : fw_r s R 1 = K) (hln : fw_ln (R + 1) = 30) (hK : 0 ≤ K ∧ K ≤ 30) (hf : ∀ j, f j = fw_r s (R + 1) j) (hC : fw_r s 28 1 = C) (hC0 : 0 ≤ C) (hCK : C + K ≤ 300) (hT : fw_r s 27 2 = T) (hT0 : 0 ≤ T ∧ T < 300) : fw_E 19 0 [(2, 27), (2, R), a2, a3] [] s = some ((0, T), fw_u (fg_qa (fw_u s 30 T C) f C K.toNat) 27 2 (T + 1)) := by
  have hp1 : fw_ptr (fw_u s 30 T C) := by rw [fw_ptr_30]; exact hp
  have l := fs_take_lp (s := fw_u s 30 T C) (R := R) (T := T) (K := K) (C := C) (f := f) hp1 hR (fw_rw_u hr (by omega)) (by rw [fw_r_k _ (by omega)]; exact hcnt) hln hK.2 (fun j => by rw [fw_r_k _ (by omega)]; exact hf j) (by rw [fw_r_k _ (by omega)]; exact hC) hC0 hCK K.toNat 0 (by omega)
  rw [fw_b_19_0, hT, if_neg (by omega), fw_b_19_9, if_pos hT0.2, fw_b_19_18 _ _ _ _ hp hT0.1 hT0.2, hC, fw_b_19_31]
  refine Eq.trans l ?_
  rw [fw_b_19_59, fg_qa_o _ _ _ _ (by omega) (by omega), fw_r_k _ (by omega), hT, fw_w_id (by omega) (by omega), fw_b_19_69]
def fg_qe (s : fw_M) (f : Int → Int) (T : Int) : Nat → fw_M
  | 0 => s
  | i + 1 => fw_u (fw_u (fw_u (fg_qe s f T i) 5 (f i) 116) 7 (f i) T) 2 9 (fw_r (fg_qe s f T i) 2 9 + fw_r s 4 (f i))
theorem fg_qe_o (s : fw_M) (f : Int → Int) (T : Int) : ∀ (i : Nat) {a j : Int}, a ≠ 5 → a ≠ 7 → (a ≠ 2 ∨ j ≠ 9) → fw_r (fg_qe s f T i) a j = fw_r s a j := by
  intro i
  induction i with
  | zero => intro a j h1 h2 h3; rfl
  | succ i ih => intro a j h1 h2 h3; rw [fg_qe, fw_r_n _ (by omega), fw_r_n _ (by omega), fw_r_n _ (by omega), ih h1 h2 h3]
theorem fg_qe_9 (s : fw_M) (f : Int → Int) (T : Int) : ∀ (i : Nat), fw_r (fg_qe s f T i) 2 9 = fw_r s 2 9 + fg_sf (fun j => fw_r s 4 (f j)) 0 i := by
  intro i
  induction i with
  | zero => simp only [fg_qe, fg_sf, Int.add_zero]
  | succ i ih => rw [fg_qe, fw_r_s, ih, fg_sf_end, Int.zero_add]; omega
theorem fg_qe_n (s : fw_M) (f : Int → Int) (T : Int) {p : Int} : ∀ (i : Nat), (∀ j : Int, 0 ≤ j → j < i → f j ≠ p) → fw_r (fg_qe s f T i) 5 p = fw_r s 5 p ∧ fw_r (fg_qe s f T i) 7 p = fw_r s 7 p := by
  intro i
  induction i with
  | zero => intro h; exact ⟨rfl, rfl⟩
  | succ i ih =>
    intro h
    have hi := h i (by omega) (by omega)
    have r := ih (fun j a b => h j a (by omega))
    rw [fg_qe, fw_r_n _ (by omega), fw_r_n _ (by omega), fw_r_n _ (by omega), fw_r_n _ (by omega), fw_r_n _ (by omega), fw_r_n _ (by omega)]
    exact r
theorem fg_qe_y (s : fw_M) (f : Int → Int) (T : Int) : ∀ (i : Nat), ∀ j : Int, 0 ≤ j → j < i → fw_r (fg_qe s f T i) 5 (f j) = 116 ∧ fw_r (fg_qe s f T i) 7 (f j) = T := by
  intro i
  induction i with
  | zero => intro j h0 h1; omega
  | succ i ih =>
    intro j h0 h1
    rw [fg_qe]
    by_cases e : f j = f i
    · rw [e]
      (try simp (disch := omega) only [fw_r_n, fw_r_s])
      exact ⟨trivial, trivial⟩
    · have hj : j ≠ i := fun hh => e (by rw [hh])
      (try simp (disch := omega) only [fw_r_n, fw_r_s])
      exact ih j h0 (by omega)
theorem fg_qe_ptr {s : fw_M} (f : Int → Int) (T : Int) (hp : fw_ptr s) (i : Nat) : fw_ptr (fg_qe s f T i) := by
  induction i with
  | zero => exact hp
  | succ i ih => rw [fg_qe, fw_ptr_2_9, fw_ptr_7, fw_ptr_5]; exact ih
theorem fs_enter_lp {s : fw_M} {x B T K v : Int} {f : Int → Int} (hp : fw_ptr s) (hB : 51 ≤ B) (hc : fw_chw s B) (hr : fw_rw s (B + 1)) (hk : fg_pok s) (hcnt : fw_r s (B + 1) 1 = K) (hln : fw_ln (B + 1 + 1) = 30) (hK : K ≤ 30) (hf : ∀ j, f j = fw_r s (B + 1 + 1) j) (hfp : ∀ j, 0 ≤ j → j < K → 0 ≤ f j ∧ f j < fw_r s 2 5 ∧ 1 ≤ fw_r s 4 (f j) ∧ fw_r s 4 (f j) ≤ 9) (h9 : 0 ≤ fw_r s 2 9 ∧ fw_r s 2 9 ≤ 100000) : ∀ (k i : Nat), (i : Int) + k = K → fw_E 96 45 [(2, 1), (0, x), (2, B), (0, v), (0, T), (0, (i : Int))] [] (fg_qe s f T i) = fw_E 96 81 [(2, 1), (0, x), (2, B), (0, v), (0, T), (0, K)] [] (fg_qe s f T K.toNat) := by
  intro k
  induction k with
  | zero =>
    intro i h
    have hc' : fw_chw (fg_qe s f T i) B := ⟨hc.1, by rw [fg_qe_o _ _ _ _ (by omega) (by omega) (by omega)]; exact hc.2⟩
    have hr' : fw_rw (fg_qe s f T i) (B + 1) := ⟨hr.1, hr.2.1, by rw [fg_qe_o _ _ _ _ (by omega) (by omega) (by omega)]; exact hr.2.2⟩
    have e : (i : Int) = K := by omega
    have e2 : K.toNat = i := by omega
    rw [fw_b_96_45 _ _ _ _ _ _ hc' hr', fg_qe_o _ _ _ _ (by omega) (by omega) (by omega), hcnt, if_neg (by omega), e2, e]
  | succ k ih =>
    intro i h
    have hc' : fw_chw (fg_qe s f T i) B := ⟨hc.1, by rw [fg_qe_o _ _ _ _ (by omega) (by omega) (by omega)]; exact hc.2⟩
    have hr' : fw_rw (fg_qe s f T i) (B + 1) := ⟨hr.1, hr.2.1, by rw [fg_qe_o _ _ _ _ (by omega) (by omega) (by omega)]; exact hr.2.2⟩
    have hp' := fg_qe_ptr f T hp i
    have e1 : fw_r (fg_qe s f T i) (B + 1) 1 = K := by rw [fg_qe_o _ _ _ _ (by omega) (by omega) (by omega)]; exact hcnt
    have ea := fs_at (i := (i : Int)) hr' (by omega) (by omega) (by rw [e1, hln]; exact hK)
    rw [fg_qe_o _ _ _ _ (by omega) (by omega) (by omega), ← hf] at ea
    have hk' : fg_pok (fg_qe s f T i) := by
      unfold fg_pok
      rw [fg_qe_o _ _ _ _ (by omega) (by omega) (by omega), fg_qe_o _ _ _ _ (by omega) (by omega) (by omega)]
      exact hk
    have hfi := hfp i (by omega) (by omega)
    have e9 := fg_qe_9 s f T i
    have bd := fg_sf_bd (f := fun j => fw_r s 4 (f j)) (lo := 0) (hi := 9) i 0 (fun j a b => by have := hfp j a (by omega); (try dsimp only); omega)
    have e4 : fw_r (fg_qe s f T i) 4 (f i) = fw_r s 4 (f i) := fg_qe_o _ _ _ _ (by omega) (by omega) (by omega)
    have eb := fs_enterTruck (p := f i) (t := T) hp' hk' hfi.1 (by rw [fg_qe_o _ _ _ _ (by omega) (by omega) (by omega)]; exact hfi.2.1) (by rw [e9]; omega) (by rw [e4]; exact hfi.2.2)
    rw [e4] at eb
    have ed : (i : Int) + 1 = ((i + 1 : Nat) : Int) := by omega
    rw [fw_b_96_45 _ _ _ _ _ _ hc' hr', e1, if_pos (by omega), fw_b_96_57 _ _ _ _ _ _ hp' hc' hr', ea, fw_bs, fw_cn_0, fw_b_96_70, eb, fw_bs, fw_cn_5, fw_b_96_75, fw_w_id (by omega) (by omega), ed]
    exact ih (i + 1) (by omega)
def fg_qm (m : fw_M) (f : Int → Int) (T : Int) : Nat → fw_M
  | 0 => m
  | i + 1 => fw_u (fw_u (fw_u (fw_u (fg_qm m f T i) 39 (f i) 3) 47 (f i) T) 48 (f i) i) 32 29 (fw_r (fg_qm m f T i) 32 29 + fw_r m 38 (f i))
theorem fg_qm_o (m : fw_M) (f : Int → Int) (T : Int) : ∀ (i : Nat) {a j : Int}, a ≠ 39 → a ≠ 47 → a ≠ 48 → (a ≠ 32 ∨ j ≠ 29) → fw_r (fg_qm m f T i) a j = fw_r m a j := by
  intro i
  induction i with
  | zero => intro a j h1 h2 h3 h4; rfl
  | succ i ih => intro a j h1 h2 h3 h4; rw [fg_qm, fw_r_n _ (by omega), fw_r_n _ (by omega), fw_r_n _ (by omega), fw_r_n _ (by omega), ih h1 h2 h3 h4]
theorem fg_qm_9 (m : fw_M) (f : Int → Int) (T : Int) : ∀ (i : Nat), fw_r (fg_qm m f T i) 32 29 = fw_r m 32 29 + fg_sf (fun j => fw_r m 38 (f j)) 0 i := by
  intro i
  induction i with
  | zero => simp only [fg_qm, fg_sf, Int.add_zero]
  | succ i ih => rw [fg_qm, fw_r_s, ih, fg_sf_end, Int.zero_add]; omega
theorem fg_qm_n (m : fw_M) (f : Int → Int) (T : Int) {p : Int} : ∀ (i : Nat), (∀ j : Int, 0 ≤ j → j < i → f j ≠ p) → fw_r (fg_qm m f T i) 39 p = fw_r m 39 p ∧ fw_r (fg_qm m f T i) 47 p = fw_r m 47 p ∧ fw_r (fg_qm m f T i) 48 p = fw_r m 48 p := by
  intro i
  induction i with
  | zero => intro h; exact ⟨rfl, rfl, rfl⟩
  | succ i ih =>
    intro h
    have hi := h i (by omega) (by omega)
    have r := ih (fun j a b => h j a (by omega))
    rw [fg_qm, fw_r_n _ (by omega), fw_r_n _ (by omega), fw_r_n _ (by omega), fw_r_n _ (by omega), fw_r_n _ (by omega), fw_r_n _ (by omega), fw_r_n _ (by omega), fw_r_n _ (by omega), fw_r_n _ (by omega), fw_r_n _ (by omega), fw_r_n _ (by omega), fw_r_n _ (by omega)]
    exact r
theorem fg_qm_y (m : fw_M) {f : Int → Int} (T : Int) {K : Int} (hinj : ∀ i j, 0 ≤ i → i < K → 0 ≤ j → j < K → f i = f j → i = j) : ∀ (i : Nat), (i : Int) ≤ K → ∀ j : Int, 0 ≤ j → j < i → fw_r (fg_qm m f T i) 39 (f j) = 3 ∧ fw_r (fg_qm m f T i) 47 (f j) = T ∧ fw_r (fg_qm m f T i) 48 (f j) = j := by
  intro i
  induction i with
  | zero => intro _ j h0 h1; omega
  | succ i ih =>
    intro hi j h0 h1
    rw [fg_qm]
    by_cases e : j = i
    · subst e
      (try simp (disch := omega) only [fw_r_n, fw_r_s])
      exact ⟨trivial, trivial, trivial⟩
    · have hj : f j ≠ f i := fun hh => e (hinj j i h0 (by omega) (by omega) (by omega) hh)
      (try simp (disch := omega) only [fw_r_n, fw_r_s])
      exact ih (by omega) j h0 (by omega)
theorem fg_qm_sum {m : fw_M} {f : Int → Int} (T : Int) {K F : Int} (hinj : ∀ i j, 0 ≤ i → i < K → 0 ≤ j → j < K → f i = f j → i = j) (hf : ∀ j, 0 ≤ j → j < K → 0 ≤ f j ∧ f j < F ∧ fw_r m 39 (f j) = 2) : ∀ (i : Nat), (i : Int) ≤ K → fg_sf (fg_sv (fg_qm m f T i) 3) 0 F.toNat = fg_sf (fg_sv m 3) 0 F.toNat + i := by
  intro i
  induction i with
  | zero => intro _; simp only [fg_qm]; omega
  | succ i ih =>
    intro hi
    have hfi := hf i (by omega) (by omega)
    have r := fg_sf_upd (f := fg_sv (fg_qm m f T (i + 1)) 3) (g := fg_sv (fg_qm m f T i) 3) (x := f i) F.toNat 0 (fun j a b d => by
      unfold fg_sv
      have : fw_r (fg_qm m f T (i + 1)) 39 j = fw_r (fg_qm m f T i) 39 j := by rw [fg_qm, fw_r_n _ (by omega), fw_r_n _ (by omega), fw_r_n _ (by omega), fw_r_n _ (by omega)]
      rw [this]) hfi.1 (by omega)
    rw [r, ih (by omega)]
    have e1 := (fg_qm_y m T hinj (i + 1) hi i (by omega) (by omega)).1
    have e2 := (fg_qm_n m f T (p := f i) i (fun j a b e => by have := hinj j i a (by omega) (by omega) (by omega) e; omega)).1
    unfold fg_sv
    rw [e1, e2, hfi.2.2, if_pos rfl, if_neg (by omega)]; omega
theorem fg_qm_ptr {m : fw_M} (f : Int → Int) (T : Int) (hp : fw_ptr m) (i : Nat) : fw_ptr (fg_qm m f T i) := by
  induction i with
  | zero => exact hp
  | succ i ih => rw [fg_qm, fw_ptr_32_29, fw_ptr_48, fw_ptr_47, fw_ptr_39]; exact ih
/-- the ghost behind a dispatch -/
def fg_md (m : fw_M) (x : Int) : fw_M := fw_u (fw_u (fw_u (fw_u (fw_u (fg_qm m (fun j => fw_r m 43 (30 * x + j)) (fw_r m 32 25) (fw_r m 42 x).toNat) 46 (fw_r m 32 25) (fw_r m 42 x)) 32 25 (fw_r m 32 25 + 1)) 42 x 0) 44 x 0) 45 x 0
theorem fg_disp {M x : Int} {c m : fw_M} {a3 a4 a5 : fw_V} (h : fg_IN M c m) (hx : 0 ≤ x ∧ x < fw_r m 32 3) (hK1 : 1 ≤ fw_r m 42 x) : ∃ c', fw_E 96 24 [(2, 1), (0, x), (2, 51 + 3 * x), a3, a4, a5] [] c = some ((0, 10000 * fw_r m 45 x + fw_r m 44 x), c') ∧ fg_IN M c' (fg_md m x) ∧ (∀ a j, (a < 0 ∨ (32 ≤ a ∧ a ≤ 50)) → fw_r c' a j = fw_r c a j) := by
  have hh := h
  obtain ⟨gA, gB, gC, gD, gE, gF, gG, gH, gI⟩ := h
  obtain ⟨⟨a1, a2, a3'⟩, ⟨-, -, -, -, -, q5⟩, -, e2, -⟩ := gA.1
  have hn := a2.2.1
  have hF := gB.2.1.2.1
  have gEx := gE.1 x hx.1 hx.2
  have hcap := (e2 x hx.1 hx.2).2.1
  obtain ⟨-, hcw, hrw⟩ := a2.2.2 x hx.1 (by omega)
  have hck := fg_chok_of hh hx.1 hx.2
  have hin := fg_chok_in hck
  have e1 := fs_kept a2 hx.1 (by omega) hck
  rw [gEx.2.1.1, gEx.2.1.2.1] at e1 hin
  unfold fg_md
  generalize hvv : 10000 * fw_r m 45 x + fw_r m 44 x = v at *
  generalize hK : fw_r m 42 x = K at *
  generalize hT : fw_r m 32 25 = T at *
  generalize hC : fw_r c 28 1 = C at *
  have hH1 := gH.1
  rw [hT, hC] at hH1
  have hfx : ∀ j, 0 ≤ j → j < K → fw_r c (51 + 3 * x + 1 + 1) j = fw_r m 43 (30 * x + j) ∧ 0 ≤ fw_r m 43 (30 * x + j) ∧ fw_r m 43 (30 * x + j) < fw_r m 32 15 ∧ fw_r m 39 (fw_r m 43 (30 * x + j)) = 2 := gEx.2.2
  have hinj : ∀ i j, 0 ≤ i → i < K → 0 ≤ j → j < K → fw_r m 43 (30 * x + i) = fw_r m 43 (30 * x + j) → i = j := by
    intro i j i0 i1 j0 j1 e
    refine Classical.byContradiction (fun hne => ?_)
    have t1 := fg_cnt_two (f := fun k => fw_r m 43 (30 * x + k)) (n := K) (p := fw_r m 43 (30 * x + j)) i0 i1 e j0 j1 rfl hne
    have t2 := fg_chs_one (m := m) (p := fw_r m 43 (30 * x + j)) hx.1 hx.2
    rw [hK] at t2
    have t3 := gI _ (hfx j j0 j1).2.1
    have t4 := fg_cnt_ge (f := fw_r m 33) (n := fw_r m 32 1) (p := fw_r m 43 (30 * x + j))
    have t5 := fg_cnt_ge (f := fw_r c 29) (n := fw_r c 28 1) (p := fw_r m 43 (30 * x + j))
    have t6 := fg_cnt_ge (f := fw_r c 26) (n := fw_r m 32 19) (p := fw_r m 43 (30 * x + j))
    have t7 : (0 : Int) ≤ (if fw_r m 32 15 ≤ fw_r m 43 (30 * x + j) ∧ fw_r m 43 (30 * x + j) < fw_r m 32 10 then 1 else 0) := by split <;> decide
    have t8 : (if fw_r m 43 (30 * x + j) < fw_r m 32 10 then (1 : Int) else 0) ≤ 1 := by split <;> decide
    omega
  -- the model's f on its own row; the class's row agrees below K
  have hfm : ∀ j, (fun j => fw_r m 43 (30 * x + j)) j = fw_r m 43 (30 * x + j) := fun j => rfl
  have hw : ∀ j, 0 ≤ j → j < K → 1 ≤ fw_r m 38 (fw_r m 43 (30 * x + j)) ∧ fw_r m 38 (fw_r m 43 (30 * x + j)) ≤ 9 ∧ fw_r c 4 (fw_r m 43 (30 * x + j)) = fw_r m 38 (fw_r m 43 (30 * x + j)) := fun j j0 j1 => by
    have z := hfx j j0 j1
    have := (gC.2.2.2.1 _ z.2.1 (by omega)).1
    exact ⟨this.2.1, this.2.2, this.1⟩
  have hKn : ((K.toNat : Nat) : Int) = K := by omega
  have hsum := fg_qm_sum (m := m) (f := fun j => fw_r m 43 (30 * x + j)) T (K := K) (F := fw_r m 32 15) hinj (fun j j0 j1 => (hfx j j0 j1).2) K.toNat (by omega)
  have hgD := gD.2.2.2.2
  have hC3 : C = fg_sf (fg_sv m 3) 0 (fw_r m 32 15).toNat := hC.symm.trans hgD
  have hbd := fg_sf_bd (f := fg_sv (fg_qm m (fun j => fw_r m 43 (30 * x + j)) T K.toNat) 3) (lo := 0) (hi := 1) (fw_r m 32 15).toNat 0 (fun j _ _ => by unfold fg_sv; split <;> omega)
  have hCK : C + K ≤ 300 := by omega
  have hg9 := gD.2.2.2.1
  rw [hC] at hg9
  -- class
  have hlnx := fw_ln_ch hx.1
  let fc : Int → Int := fun j => fw_r c (51 + 3 * x + 1 + 1) j
  have hfc : ∀ j, fc j = fw_r c (51 + 3 * x + 1 + 1) j := fun j => rfl
  have hfe : ∀ j, 0 ≤ j → j < K → fc j = fw_r m 43 (30 * x + j) := fun j j0 j1 => (hfx j j0 j1).1
  have hrc : fw_r c (51 + 3 * x + 1) 1 = K := gEx.1.1
  have et := fs_take (s := c) (R := 51 + 3 * x + 1) (T := T) (K := K) (C := C) (f := fc) (a2 := (8, 0)) (a3 := (8, 0)) a1 (by omega) hrw hrc hlnx (by omega) hfc hC (by omega) hCK (by rw [gH.1.1]; exact hT) (by omega)
  have hp2 : fw_ptr (fw_u (fg_qa (fw_u c 30 T C) fc C K.toNat) 27 2 (T + 1)) := by rw [fw_ptr_27_2]; exact fg_qa_ptr _ _ (by rw [fw_ptr_30]; exact a1) _
  have o2 : ∀ a j, a ≠ 29 → (a ≠ 28 ∨ j ≠ 1) → (a ≠ 30 ∨ j ≠ T) → (a ≠ 27 ∨ j ≠ 2) → fw_r (fw_u (fg_qa (fw_u c 30 T C) fc C K.toNat) 27 2 (T + 1)) a j = fw_r c a j := fun a j z1 z2 z3 z4 => by
    rw [fw_r_n _ (by omega), fg_qa_o _ _ _ _ z1 z2, fw_r_n _ (by omega)]
  have o27 : fw_r (fw_u (fg_qa (fw_u c 30 T C) fc C K.toNat) 27 2 (T + 1)) 27 2 = T + 1 := fw_r_s _ _ _ _
  have o28 : fw_r (fw_u (fg_qa (fw_u c 30 T C) fc C K.toNat) 27 2 (T + 1)) 28 1 = C + K := by
    rw [fw_r_k _ (by omega), fg_qa_28 _ (by rw [fw_r_k _ (by omega)]; exact hC), hKn]
  have o29 : ∀ j, j < C → fw_r (fw_u (fg_qa (fw_u c 30 T C) fc C K.toNat) 27 2 (T + 1)) 29 j = fw_r c 29 j := fun j hj => by
    rw [fw_r_k _ (by omega), fg_qa_lo _ _ _ _ hj, fw_r_k _ (by omega)]
  have o29n : ∀ j, 0 ≤ j → j < K → fw_r (fw_u (fg_qa (fw_u c 30 T C) fc C K.toNat) 27 2 (T + 1)) 29 (C + j) = fc j := fun j j0 j1 => by
    rw [fw_r_k _ (by omega), fg_qa_n _ _ _ _ j0 (by omega)]
  have o30 : fw_r (fw_u (fg_qa (fw_u c 30 T C) fc C K.toNat) 27 2 (T + 1)) 30 T = C := by
    rw [fw_r_k _ (by omega), fg_qa_o _ _ _ _ (by omega) (by omega), fw_r_s]
  generalize fw_u (fg_qa (fw_u c 30 T C) fc C K.toNat) 27 2 (T + 1) = s at *
  have hcs : fw_chw s (51 + 3 * x) := ⟨hcw.1, by rw [o2 _ _ (by omega) (by omega) (by omega) (by omega)]; exact hcw.2⟩
  have hrs : fw_rw s (51 + 3 * x + 1) := ⟨hrw.1, hrw.2.1, by rw [o2 _ _ (by omega) (by omega) (by omega) (by omega)]; exact hrw.2.2⟩
  have hpk := fg_pok_of hh
  have hks : fg_pok s := by
    unfold fg_pok
    rw [o2 2 6 (by omega) (by omega) (by omega) (by omega), o2 2 5 (by omega) (by omega) (by omega) (by omega)]
    exact hpk
  have en := fs_enter_lp (s := s) (x := x) (B := 51 + 3 * x) (T := T) (K := K) (v := v) (f := fc) hp2 (by omega) hcs hrs hks (by rw [o2 _ _ (by omega) (by omega) (by omega) (by omega)]; exact hrc) hlnx (by omega) (fun j => by rw [o2 _ _ (by omega) (by omega) (by omega) (by omega)]) (fun j j0 j1 => by
    rw [hfe j j0 j1, o2 2 5 (by omega) (by omega) (by omega) (by omega), o2 4 _ (by omega) (by omega) (by omega) (by omega), (hw j j0 j1).2.2, q5]
    have z := hfx j j0 j1
    have z2 := hw j j0 j1
    omega) (by rw [o2 2 9 (by omega) (by omega) (by omega) (by omega)]; omega) K.toNat 0 (by omega)
  have hp3 := fg_qe_ptr fc T hp2 K.toNat
  have q_o := fun {a j : Int} => fg_qe_o s fc T K.toNat (a := a) (j := j)
  have q_9 := fg_qe_9 s fc T K.toNat
  have q_n := fun {p : Int} => fg_qe_n s fc T (p := p) K.toNat
  have q_y := fg_qe_y s fc T K.toNat
  have hSc : fg_sf (fun j => fw_r s 4 (fc j)) 0 K.toNat = fg_sf (fun j => fw_r m 38 (fw_r m 43 (30 * x + j))) 0 K.toNat := fg_sf_ext _ _ (fun j j0 j1 => by
    (try dsimp only)
    rw [o2 4 _ (by omega) (by omega) (by omega) (by omega), hfe j j0 (by omega), (hw j j0 (by omega)).2.2])
  rw [hSc] at q_9
  have e0 : ((0 : Nat) : Int) = 0 := rfl
  rw [e0] at en
  have en' : fw_E 96 45 [(2, 1), (0, x), (2, 51 + 3 * x), (0, v), (0, T), (0, 0)] [] s = fw_E 96 81 [(2, 1), (0, x), (2, 51 + 3 * x), (0, v), (0, T), (0, K)] [] (fg_qe s fc T K.toNat) := en
  generalize fg_qe s fc T K.toNat = s2 at *
  have hc2 : fw_chw s2 (51 + 3 * x) := ⟨hcs.1, by rw [q_o (by omega) (by omega) (by omega)]; exact hcs.2⟩
  have hr2 : fw_rw s2 (51 + 3 * x + 1) := ⟨hrs.1, hrs.2.1, by rw [q_o (by omega) (by omega) (by omega)]; exact hrs.2.2⟩
  have ec := fs_clear hc2 hr2
  have p_o := fun {a j : Int} => fg_qm_o m (fun j => fw_r m 43 (30 * x + j)) T K.toNat (a := a) (j := j)
  have p_9 := fg_qm_9 m (fun j => fw_r m 43 (30 * x + j)) T K.toNat
  have p_n := fun {p : Int} => fg_qm_n m (fun j => fw_r m 43 (30 * x + j)) T (p := p) K.toNat
  have p_y := fg_qm_y m (f := fun j => fw_r m 43 (30 * x + j)) T (K := K) hinj K.toNat (by omega)
  have hpm := fg_qm_ptr (m := m) (fun j => fw_r m 43 (30 * x + j)) T gA.2 K.toNat
  have hSb := fg_sf_bd (f := fun j => fw_r m 38 (fw_r m 43 (30 * x + j))) (lo := 0) (hi := 9) K.toNat 0 (fun j j0 j1 => by have := hw j j0 (by omega); (try dsimp only); omega)
  generalize fg_sf (fun j => fw_r m 38 (fw_r m 43 (30 * x + j))) 0 K.toNat = S at *
  generalize fg_qm m (fun j => fw_r m 43 (30 * x + j)) T K.toNat = m1 at *
  have m25 : fw_r m1 32 25 = T := by rw [p_o (by omega) (by omega) (by omega) (by omega)]; exact hT
  have m42 : fw_r m1 42 x = K := by rw [p_o (by omega) (by omega) (by omega) (by omega)]; exact hK
  have pp1 : fw_ptr (fw_u m1 46 T K) := by rw [fw_ptr_46]; exact hpm
  have pp2 : fw_ptr (fw_u (fw_u m1 46 T K) 32 25 (T + 1)) := by rw [fw_ptr_32_25]; exact pp1
  have pp3 : fw_ptr (fw_u (fw_u (fw_u m1 46 T K) 32 25 (T + 1)) 42 x 0) := by rw [fw_ptr_42]; exact pp2
  have pp4 : fw_ptr (fw_u (fw_u (fw_u (fw_u m1 46 T K) 32 25 (T + 1)) 42 x 0) 44 x 0) := by rw [fw_ptr_44]; exact pp3
  refine ⟨fg_cl s2 (51 + 3 * x), ?_, ?_, fun a j ha => ?_⟩
  · rw [fw_b_96_24 _ _ _ _ _ _ hcw, e1, fw_bs, fw_cn_0, fw_b_96_28 _ _ _ _ _ _ _ a1 hcw, et, fw_bs, fw_cn_0, fw_b_96_40, en', fw_b_96_81 _ _ _ _ _ _ hc2, ec, fw_bs, fw_cn_5, fw_b_96_85]
  · refine fg_IN_disp (x := x) (K := K) (T := T) (C := C) (S := S) (f := fun j => fw_r m 43 (30 * x + j)) hh hx hK hK1 (fun j => rfl) hT hC ?_ (fun a j z1 z2 z3 z4 z5 z6 z7 z8 z9 => ?_) (fun j z => ?_) ?_ (fun p hp => ?_) (fun j j0 j1 => ?_) ?_ ?_ (fun j hj => ?_) (fun j j0 j1 => ?_) ?_ (fun u hu => ?_) (fun j z1 z2 => ?_) ?_ ?_ ?_ ?_ (by rw [fw_ptr_45]; exact pp4) (fun a j z1 z2 z3 z4 z5 z6 z7 z8 => ?_) (fun j z1 z2 => ?_) ?_ ?_ (fun p hp => ?_) (fun j j0 j1 => ?_) (fun i hi => ?_) ?_ ?_ (fun u hu => ?_) (by omega) ?_
    · unfold fg_cl; rw [fw_ptr_hi _ (by omega), fw_ptr_hi _ (by omega), fw_ptr_hi _ (by omega)]; exact hp3
    · unfold fg_cl; rw [fw_r_n _ (by omega), fw_r_n _ (by omega), fw_r_n _ (by omega), q_o z2 z3 (Or.inl z1), o2 _ _ z6 (Or.inl z5) (Or.inl z7) (Or.inl z4)]
    · unfold fg_cl; rw [fw_r_n _ (by omega), fw_r_n _ (by omega), fw_r_n _ (by omega), q_o (by omega) (by omega) (Or.inr z), o2 _ _ (by omega) (by omega) (by omega) (by omega)]
    · unfold fg_cl; rw [fw_r_n _ (by omega), fw_r_n _ (by omega), fw_r_n _ (by omega), q_9, o2 _ _ (by omega) (by omega) (by omega) (by omega)]
    · have z := q_n (p := p) (fun j j0 j1 => by rw [hfe j j0 (by omega)]; exact hp j j0 (by omega))
      unfold fg_cl; rw [fw_r_n _ (by omega), fw_r_n _ (by omega), fw_r_n _ (by omega), fw_r_n _ (by omega), fw_r_n _ (by omega), fw_r_n _ (by omega), z.1, z.2, o2 _ _ (by omega) (by omega) (by omega) (by omega), o2 _ _ (by omega) (by omega) (by omega) (by omega)]
      exact ⟨rfl, rfl⟩
    · have z := q_y j j0 (by omega)
      rw [hfe j j0 j1] at z
      unfold fg_cl; rw [fw_r_n _ (by omega), fw_r_n _ (by omega), fw_r_n _ (by omega), fw_r_n _ (by omega), fw_r_n _ (by omega), fw_r_n _ (by omega)]
      exact z
    · unfold fg_cl; rw [fw_r_n _ (by omega), fw_r_n _ (by omega), fw_r_n _ (by omega), q_o (by omega) (by omega) (by omega)]; exact o27
    · unfold fg_cl; rw [fw_r_n _ (by omega), fw_r_n _ (by omega), fw_r_n _ (by omega), q_o (by omega) (by omega) (by omega)]; exact o28
    · unfold fg_cl; rw [fw_r_n _ (by omega), fw_r_n _ (by omega), fw_r_n _ (by omega), q_o (by omega) (by omega) (by omega)]; exact o29 j hj
    · unfold fg_cl; rw [fw_r_n _ (by omega), fw_r_n _ (by omega), fw_r_n _ (by omega), q_o (by omega) (by omega) (by omega), o29n j j0 j1]; exact hfe j j0 j1
    · unfold fg_cl; rw [fw_r_n _ (by omega), fw_r_n _ (by omega), fw_r_n _ (by omega), q_o (by omega) (by omega) (by omega)]; exact o30
    · unfold fg_cl; rw [fw_r_n _ (by omega), fw_r_n _ (by omega), fw_r_n _ (by omega), q_o (by omega) (by omega) (by omega), o2 _ _ (by omega) (by omega) (Or.inr hu) (by omega)]
    · unfold fg_cl; rw [fw_r_n _ (by omega), fw_r_n _ (by omega), fw_r_n _ (by omega), q_o (by omega) (by omega) (by omega), o2 _ _ (by omega) (by omega) (by omega) (by omega)]
    · unfold fg_cl; rw [fw_r_n _ (by omega), fw_r_s]
    · unfold fg_cl; rw [fw_r_s]
    · unfold fg_cl; rw [fw_r_n _ (by omega), fw_r_n _ (by omega), fw_r_s]
    · unfold fg_cl; rw [fw_r_n _ (by omega), fw_r_n _ (by omega), fw_r_n _ (by omega), q_o (by omega) (by omega) (by omega), o2 _ _ (by omega) (by omega) (by omega) (by omega)]
    · (try simp (disch := omega) only [fw_r_n, fw_r_s])
      exact p_o z2 z7 z8 (Or.inl z1)
    · (try simp (disch := omega) only [fw_r_n, fw_r_s])
      exact p_o (by omega) (by omega) (by omega) (Or.inr z2)
    · (try simp (disch := omega) only [fw_r_n, fw_r_s])
      exact p_9
    · (try simp (disch := omega) only [fw_r_n, fw_r_s])
    · have z := p_n (p := p) (fun j j0 j1 => hp j j0 (by omega))
      (try simp (disch := omega) only [fw_r_n, fw_r_s])
      exact z
    · have z := p_y j j0 (by omega)
      (try simp (disch := omega) only [fw_r_n, fw_r_s])
      exact z
    · (try simp (disch := omega) only [fw_r_n, fw_r_s])
      exact ⟨p_o (by omega) (by omega) (by omega) (by omega), p_o (by omega) (by omega) (by omega) (by omega), p_o (by omega) (by omega) (by omega) (by omega)⟩
    · (try simp (disch := omega) only [fw_r_n, fw_r_s])
      exact ⟨trivial, trivial, trivial⟩
    · (try simp (disch := omega) only [fw_r_n, fw_r_s])
    · (try simp (disch := omega) only [fw_r_n, fw_r_s])
      exact p_o (by omega) (by omega) (by omega) (by omega)
    · rw [hKn] at hsum
      rw [← hsum]
      exact fg_sf_ext _ _ (fun j _ _ => by unfold fg_sv; (try simp (disch := omega) only [fw_r_n, fw_r_s]))
  · unfold fg_cl; rw [fw_r_n _ (by omega), fw_r_n _ (by omega), fw_r_n _ (by omega), q_o (by omega) (by omega) (by omega), o2 _ _ (by omega) (by omega) (by omega) (by omega)]
theorem fm_dispatch {M x : Int} {c m : fw_M} {a2 a3 a4 a5 : fw_V} (h : fg_IN M c m) (hx : 0 ≤ x ∧ x < fw_r m 32 3) (hK1 : 1 ≤ fw_r m 42 x) : ∃ c', fw_E 96 0 [(2, 1), (0, x), a2, a3, a4, a5] [] c = some ((0, 10000 * fw_r m 45 x + fw_r m 44 x), c') ∧ fg_IN M c' (fg_md m x) ∧ (∀ a j, (a < 0 ∨ (32 ≤ a ∧ a ≤ 50)) → fw_r c' a j = fw_r c a j) := by
  obtain ⟨⟨hp, hk, hpk⟩, ⟨h3, h30, h36⟩, hN, h82, h113, h25, hP⟩ := fg_facts h
  have e1 := fs_rChute_t (r := x) (a2 := (8, 0)) hp hk (by omega)
  obtain ⟨-, hcw, hrw⟩ := hk.2.2 x hx.1 (by omega)
  have gx := (h.2.2.2.2.1.1 x hx.1 hx.2).1
  have hx1 : fw_r c (51 + 3 * x + 1) 1 ≠ 0 := by omega
  obtain ⟨c', q1, q2, q3⟩ := fg_disp (a3 := a3) (a4 := a4) (a5 := a5) h hx hK1
  refine ⟨c', ?_, q2, q3⟩
  simp (disch := first | assumption | omega) only [fw_b_96_0, fw_b_96_5, e1, q1, ↓if_pos, ↓if_neg, fw_bs, fw_cn_0, fw_cn_2, Nat.reduceAdd]
theorem fg_md_o (m : fw_M) (x : Int) {a j : Int} (h : a < 32 ∨ 48 < a ∨ (32 < a ∧ a < 39) ∨ a = 40 ∨ a = 41 ∨ a = 43 ∨ (a = 32 ∧ j ≠ 25 ∧ j ≠ 29)) : fw_r (fg_md m x) a j = fw_r m a j := by
  unfold fg_md
  (try simp (disch := omega) only [fw_r_n, fw_r_s])
  exact fg_qm_o _ _ _ _ (by omega) (by omega) (by omega) (by omega)
theorem fg_md_inj {M x : Int} {c m : fw_M} (h : fg_IN M c m) (hx : 0 ≤ x ∧ x < fw_r m 32 3) : ∀ i j, 0 ≤ i → i < fw_r m 42 x → 0 ≤ j → j < fw_r m 42 x → fw_r m 43 (30 * x + i) = fw_r m 43 (30 * x + j) → i = j := by
  obtain ⟨gA, gB, gC, gD, gE, gF, gG, gH, gI⟩ := h
  have gEx := gE.1 x hx.1 hx.2
  intro i j i0 i1 j0 j1 e
  refine Classical.byContradiction (fun hne => ?_)
  have t1 := fg_cnt_two (f := fun k => fw_r m 43 (30 * x + k)) (n := fw_r m 42 x) (p := fw_r m 43 (30 * x + j)) i0 i1 e j0 j1 rfl hne
  have t2 := fg_chs_one (m := m) (p := fw_r m 43 (30 * x + j)) hx.1 hx.2
  have t3 := gI _ (gEx.2.2 j j0 j1).2.1
  have t4 := fg_cnt_ge (f := fw_r m 33) (n := fw_r m 32 1) (p := fw_r m 43 (30 * x + j))
  have t5 := fg_cnt_ge (f := fw_r c 29) (n := fw_r c 28 1) (p := fw_r m 43 (30 * x + j))
  have t6 := fg_cnt_ge (f := fw_r c 26) (n := fw_r m 32 19) (p := fw_r m 43 (30 * x + j))
  have t7 : (0 : Int) ≤ (if fw_r m 32 15 ≤ fw_r m 43 (30 * x + j) ∧ fw_r m 43 (30 * x + j) < fw_r m 32 10 then 1 else 0) := by split <;> decide
  have t8 : (if fw_r m 43 (30 * x + j) < fw_r m 32 10 then (1 : Int) else 0) ≤ 1 := by split <;> decide
  omega
/-- the ghost's parcels behind a dispatch -/
theorem fg_md_y {M x : Int} {c m : fw_M} (h : fg_IN M c m) (hx : 0 ≤ x ∧ x < fw_r m 32 3) {j : Int} (j0 : 0 ≤ j) (j1 : j < fw_r m 42 x) : fw_r (fg_md m x) 39 (fw_r m 43 (30 * x + j)) = 3 ∧ fw_r (fg_md m x) 47 (fw_r m 43 (30 * x + j)) = fw_r m 32 25 ∧ fw_r (fg_md m x) 48 (fw_r m 43 (30 * x + j)) = j := by
  have z := fg_qm_y m (f := fun j => fw_r m 43 (30 * x + j)) (fw_r m 32 25) (K := fw_r m 42 x) (fg_md_inj h hx) (fw_r m 42 x).toNat (by omega) j j0 (by omega)
  unfold fg_md
  (try simp (disch := omega) only [fw_r_n, fw_r_s])
  exact z
theorem fg_md_n {m : fw_M} {x p : Int} (hp : ∀ j, 0 ≤ j → j < fw_r m 42 x → fw_r m 43 (30 * x + j) ≠ p) : fw_r (fg_md m x) 39 p = fw_r m 39 p ∧ fw_r (fg_md m x) 47 p = fw_r m 47 p := by
  have z := fg_qm_n m (fun j => fw_r m 43 (30 * x + j)) (fw_r m 32 25) (p := p) (fw_r m 42 x).toNat (fun j a b => hp j a (by omega))
  unfold fg_md
  (try simp (disch := omega) only [fw_r_n, fw_r_s])
  exact ⟨z.1, z.2.1⟩
theorem fg_md_29 (m : fw_M) (x : Int) : fw_r (fg_md m x) 32 29 = fw_r m 32 29 + fg_sf (fun j => fw_r m 38 (fw_r m 43 (30 * x + j))) 0 (fw_r m 42 x).toNat := by
  unfold fg_md
  (try simp (disch := omega) only [fw_r_n, fw_r_s])
  exact fg_qm_9 m (fun j => fw_r m 43 (30 * x + j)) _ _
theorem fg_md_25 (m : fw_M) (x : Int) : fw_r (fg_md m x) 32 25 = fw_r m 32 25 + 1 ∧ fw_r (fg_md m x) 46 (fw_r m 32 25) = fw_r m 42 x ∧ fw_r (fg_md m x) 42 x = 0 := by
  unfold fg_md
  refine ⟨by (try simp (disch := omega) only [fw_r_n, fw_r_s]), by (try simp (disch := omega) only [fw_r_n, fw_r_s]), by (try simp (disch := omega) only [fw_r_n, fw_r_s])⟩
theorem fg_md_42 (m : fw_M) {x i : Int} (h : i ≠ x) : fw_r (fg_md m x) 42 i = fw_r m 42 i := by
  unfold fg_md
  (try simp (disch := omega) only [fw_r_n, fw_r_s])
  exact fg_qm_o _ _ _ _ (by omega) (by omega) (by omega) (by omega)
/-- the truck holds what the chute held -/
theorem fg_md_pt {M x : Int} {c c' m : fw_M} (h : fg_IN M c m) (h' : fg_IN M c' (fg_md m x)) (hx : 0 ≤ x ∧ x < fw_r m 32 3) {j : Int} (j0 : 0 ≤ j) (j1 : j < fw_r m 42 x) : fg_pt c' (fw_r m 32 25) j = fw_r m 43 (30 * x + j) := by
  have y := fg_md_y h hx j0 j1
  have gEx := (h.2.2.2.2.1.1 x hx.1 hx.2).2.2 j j0 j1
  have g := h'.2.2.2.2.2.2.2.1.2.2.2.2 (fw_r m 43 (30 * x + j)) gEx.2.1 (by rw [fg_md_o m x (by omega)]; exact gEx.2.2.1) y.1
  rw [y.2.1, y.2.2] at g
  exact g.2.2
