/-! dispatch: what it leaves -/
theorem fg_sf_two {g : Int → Int} {a b : Int} (k : Nat) (h : ∀ j : Int, 0 ≤ j → j < k → 0 ≤ g j) (a0 : 0 ≤ a) (a1 : a < k) (b0 : 0 ≤ b) (b1 : b < k) (hab : a ≠ b) : g a + g b ≤ fg_sf g 0 k := by
  have r1 := fg_sf_upd (f := g) (g := fun j => if j = a then 0 else g j) (x := a) k 0 (fun j _ _ hj => by (try dsimp only); rw [if_neg hj]) a0 (by omega)
  have r2 := fg_sf_upd (f := fun j => if j = a then 0 else g j) (g := fun j => if j = b then 0 else if j = a then 0 else g j) (x := b) k 0 (fun j _ _ hj => by (try dsimp only); rw [if_neg hj]) b0 (by omega)
  have gen : ∀ (k : Nat) (u : Int → Int), (∀ j : Int, 0 ≤ j → j < k → 0 ≤ u j) → 0 ≤ fg_sf u 0 k := by
    intro k u hu
    induction k with
    | zero => simp [fg_sf]
    | succ k ih =>
      rw [fg_sf_end]
      have := ih (fun j x y => hu j x (by omega))
      have := hu (0 + (k : Int)) (by omega) (by omega)
      omega
  have r3 := gen k (fun j => if j = b then 0 else if j = a then 0 else g j) (fun j x y => by
    (try dsimp only)
    have := h j x y
    split
    · omega
    · split <;> omega)
  (try dsimp only at r1 r2)
  rw [if_pos rfl] at r1 r2
  rw [if_neg (Ne.symm hab)] at r2
  omega
theorem fg_chs_two {m : fw_M} {p a b u v : Int} (a0 : 0 ≤ a) (a1 : a < fw_r m 32 3) (b0 : 0 ≤ b) (b1 : b < fw_r m 32 3) (hab : a ≠ b) (u0 : 0 ≤ u) (u1 : u < fw_r m 42 a) (v0 : 0 ≤ v) (v1 : v < fw_r m 42 b) (hu : fw_r m 43 (30 * a + u) = p) (hv : fw_r m 43 (30 * b + v) = p) : 2 ≤ fg_chs m p := by
  have e1 := fg_cnt_pos (f := fun k => fw_r m 43 (30 * a + k)) (n := fw_r m 42 a) u0 u1 hu
  have e2 := fg_cnt_pos (f := fun k => fw_r m 43 (30 * b + k)) (n := fw_r m 42 b) v0 v1 hv
  have r := fg_sf_two (g := fun i => fg_cnt (fun k => fw_r m 43 (30 * i + k)) (fw_r m 42 i) p) (a := a) (b := b) (fw_r m 32 3).toNat (fun j _ _ => fg_cnt_ge) a0 (by omega) b0 (by omega) hab
  unfold fg_chs
  (try dsimp only at r)
  omega
theorem fg_chs_one {m : fw_M} {p a : Int} (a0 : 0 ≤ a) (a1 : a < fw_r m 32 3) : fg_cnt (fun k => fw_r m 43 (30 * a + k)) (fw_r m 42 a) p ≤ fg_chs m p := by
  have r := fg_sf_upd (f := fun i => fg_cnt (fun k => fw_r m 43 (30 * i + k)) (fw_r m 42 i) p) (g := fun j => if j = a then 0 else fg_cnt (fun k => fw_r m 43 (30 * j + k)) (fw_r m 42 j) p) (x := a) (fw_r m 32 3).toNat 0 (fun j _ _ hj => by (try dsimp only); rw [if_neg hj]) a0 (by omega)
  have gen : ∀ (k : Nat) (u : Int → Int), (∀ j : Int, 0 ≤ j → j < k → 0 ≤ u j) → 0 ≤ fg_sf u 0 k := by
    intro k u hu
    induction k with
    | zero => simp [fg_sf]
    | succ k ih =>
      rw [fg_sf_end]
      have := ih (fun j x y => hu j x (by omega))
      have := hu (0 + (k : Int)) (by omega) (by omega)
      omega
  have r3 := gen (fw_r m 32 3).toNat (fun j => if j = a then 0 else fg_cnt (fun k => fw_r m 43 (30 * j + k)) (fw_r m 42 j) p) (fun j x y => by
    (try dsimp only)
    split
    · omega
    · exact fg_cnt_ge)
  unfold fg_chs
  (try dsimp only at r)
  rw [if_pos rfl] at r
  omega
theorem fg_cnt_app (g : Int → Int) {C K : Int} (q : Int) (hC : 0 ≤ C) (hK : 0 ≤ K) : fg_cnt g (C + K) q = fg_cnt g C q + fg_cnt (fun j => g (C + j)) K q := by
  unfold fg_cnt
  have e : (C + K).toNat = C.toNat + K.toNat := by omega
  have e2 : (0 : Int) + ((C.toNat : Nat) : Int) = C := by omega
  rw [e, fg_sf_add, e2]
  have r := fg_sf_shift (fun j => if g j = q then 1 else 0) C K.toNat 0
  rw [Int.zero_add] at r
  rw [← r]
  congr 2
  funext j
  rw [Int.add_comm j C]
theorem fg_IN_disp {M x K T C S : Int} {f : Int → Int} {c m c' m' : fw_M} (h : fg_IN M c m) (hx : 0 ≤ x ∧ x < fw_r m 32 3) (hK : fw_r m 42 x = K) (hK1 : 1 ≤ K) (hf : ∀ j, f j = fw_r m 43 (30 * x + j)) (hT : fw_r m 32 25 = T) (hC : fw_r c 28 1 = C)
    (pc : fw_ptr c')
    (k1 : ∀ a j, a ≠ 2 → a ≠ 5 → a ≠ 7 → a ≠ 27 → a ≠ 28 → a ≠ 29 → a ≠ 30 → a ≠ 56 + 3 * x → a ≠ 56 + 3 * x + 1 → fw_r c' a j = fw_r c a j)
    (k2 : ∀ j, j ≠ 9 → fw_r c' 2 j = fw_r c 2 j) (k29 : fw_r c' 2 9 = fw_r c 2 9 + S)
    (k5n : ∀ p, (∀ j, 0 ≤ j → j < K → f j ≠ p) → fw_r c' 5 p = fw_r c 5 p ∧ fw_r c' 7 p = fw_r c 7 p)
    (k5y : ∀ j, 0 ≤ j → j < K → fw_r c' 5 (f j) = 116 ∧ fw_r c' 7 (f j) = T)
    (k27 : fw_r c' 27 2 = T + 1) (k28 : fw_r c' 28 1 = C + K)
    (k29o : ∀ j, j < C → fw_r c' 29 j = fw_r c 29 j) (k29n : ∀ j, 0 ≤ j → j < K → fw_r c' 29 (C + j) = f j)
    (k30 : fw_r c' 30 T = C) (k30o : ∀ u, u ≠ T → fw_r c' 30 u = fw_r c 30 u)
    (kB : ∀ j, j ≠ 4 → j ≠ 5 → fw_r c' (56 + 3 * x) j = fw_r c (56 + 3 * x) j) (kB4 : fw_r c' (56 + 3 * x) 4 = 0) (kB5 : fw_r c' (56 + 3 * x) 5 = 0)
    (kR : fw_r c' (56 + 3 * x + 1) 1 = 0) (kR0 : fw_r c' (56 + 3 * x + 1) 0 = fw_r c (56 + 3 * x + 1) 0)
    (pm : fw_ptr m')
    (l1 : ∀ a j, a ≠ 32 → a ≠ 39 → a ≠ 42 → a ≠ 44 → a ≠ 45 → a ≠ 46 → a ≠ 47 → a ≠ 48 → fw_r m' a j = fw_r m a j)
    (l2 : ∀ j, j ≠ 25 → j ≠ 29 → fw_r m' 32 j = fw_r m 32 j) (l29 : fw_r m' 32 29 = fw_r m 32 29 + S) (l25 : fw_r m' 32 25 = T + 1)
    (ln : ∀ p, (∀ j, 0 ≤ j → j < K → f j ≠ p) → fw_r m' 39 p = fw_r m 39 p ∧ fw_r m' 47 p = fw_r m 47 p ∧ fw_r m' 48 p = fw_r m 48 p)
    (ly : ∀ j, 0 ≤ j → j < K → fw_r m' 39 (f j) = 3 ∧ fw_r m' 47 (f j) = T ∧ fw_r m' 48 (f j) = j)
    (lo : ∀ i, i ≠ x → fw_r m' 42 i = fw_r m 42 i ∧ fw_r m' 44 i = fw_r m 44 i ∧ fw_r m' 45 i = fw_r m 45 i)
    (lx : fw_r m' 42 x = 0 ∧ fw_r m' 44 x = 0 ∧ fw_r m' 45 x = 0)
    (l46 : fw_r m' 46 T = K) (l46o : ∀ u, u ≠ T → fw_r m' 46 u = fw_r m 46 u)
    (hS : 0 ≤ S ∧ S ≤ 9 * K) (hsum : fg_sf (fg_sv m' 3) 0 (fw_r m 32 15).toNat = fg_sf (fg_sv m 3) 0 (fw_r m 32 15).toNat + K) : fg_IN M c' m' := by
  obtain ⟨gA, gB, gC, gD, gE, gF, gG, gH, gI⟩ := h
  have hF := gB.2.1.2.1
  have gEx := gE.1 x hx.1 hx.2
  have hcf := gA.1.2.2.2.1 x hx.1 hx.2
  have hfx : ∀ j, 0 ≤ j → j < K → 0 ≤ f j ∧ f j < fw_r m 32 15 ∧ fw_r m 39 (f j) = 2 := fun j a b => by
    rw [hf j]; exact (gEx.2.2 j a (by omega)).2
  have x1 := l2 1 (by decide) (by decide)
  have x3 := l2 3 (by decide) (by decide)
  have x10 := l2 10 (by decide) (by decide)
  have x15 := l2 15 (by decide) (by decide)
  have x16 := l2 16 (by decide) (by decide)
  have x17 := l2 17 (by decide) (by decide)
  have x18 := l2 18 (by decide) (by decide)
  have x19 := l2 19 (by decide) (by decide)
  have hno : ∀ p, fw_r m 39 p ≠ 2 → ∀ j, 0 ≤ j → j < K → f j ≠ p := fun p hp j a b e => hp (by rw [← e]; exact (hfx j a b).2.2)
  have em : ∀ p, (∃ j, 0 ≤ j ∧ j < K ∧ f j = p) ∨ (∀ j, 0 ≤ j → j < K → f j ≠ p) := fun p => by
    rcases Classical.em (∃ j, 0 ≤ j ∧ j < K ∧ f j = p) with hh | hh
    · exact Or.inl hh
    · exact Or.inr (fun j a b e => hh ⟨j, a, b, e⟩)
  have cch : ∀ i j, 0 ≤ i → 0 ≤ j → j < 4 → fw_r c' (56 + 3 * i) j = fw_r c (56 + 3 * i) j := fun i j a b d => by
    by_cases hi : i = x
    · subst hi; exact kB j (by omega) (by omega)
    · exact k1 _ _ (by omega) (by omega) (by omega) (by omega) (by omega) (by omega) (by omega) (by omega) (by omega)
  have crw : ∀ i, 0 ≤ i → fw_r c' (56 + 3 * i + 1) 0 = fw_r c (56 + 3 * i + 1) 0 := fun i a => by
    by_cases hi : i = x
    · subst hi; exact kR0
    · exact k1 _ _ (by omega) (by omega) (by omega) (by omega) (by omega) (by omega) (by omega) (by omega) (by omega)
  have kk : ∀ a j, a < 27 → a ≠ 2 → a ≠ 5 → a ≠ 7 → fw_r c' a j = fw_r c a j := fun a j x1 x2 x3 x4 => k1 a j x2 x3 x4 (by omega) (by omega) (by omega) (by omega) (by omega) (by omega)
  refine ⟨?_, ?_, ?_, ?_, ?_, ?_, ?_, ?_, ?_⟩
  · exact fg_gA_c gA pc (fg_cok_c gA.1.1.2.1 (kk _ _ (by decide) (by decide) (by decide) (by decide)) (fun j => kk _ _ (by decide) (by decide) (by decide) (by decide)) (fun i hi => cch i 1 hi (by decide) (by decide)) crw) pm (fun j => kk _ _ (by decide) (by decide) (by decide) (by decide)) (k2 _ (by decide)) (fun j => kk _ _ (by decide) (by decide) (by decide) (by decide)) (fun j => kk _ _ (by decide) (by decide) (by decide) (by decide)) cch (fun j _ _ _ _ _ _ h25 h29 => l2 j h25 h29) (fun a j ha => l1 a j (by omega) (by omega) (by omega) (by omega) (by omega) (by omega) (by omega) (by omega))
  · exact fg_gB_c gB (fun j => kk _ _ (by decide) (by decide) (by decide) (by decide)) (fun j => kk _ _ (by decide) (by decide) (by decide) (by decide)) (fun j => kk _ _ (by decide) (by decide) (by decide) (by decide)) x1 x10 x15 (fun j => l1 _ _ (by decide) (by decide) (by decide) (by decide) (by decide) (by decide) (by decide) (by decide)) (fun j => l1 _ _ (by decide) (by decide) (by decide) (by decide) (by decide) (by decide) (by decide) (by decide))
  · obtain ⟨g1, g2, g3, g4, g5⟩ := gC
    have m38 : ∀ p, fw_r m' 38 p = fw_r m 38 p := fun p => l1 _ _ (by decide) (by decide) (by decide) (by decide) (by decide) (by decide) (by decide) (by decide)
    have m40 : ∀ p, fw_r m' 40 p = fw_r m 40 p := fun p => l1 _ _ (by decide) (by decide) (by decide) (by decide) (by decide) (by decide) (by decide) (by decide)
    have c4 : ∀ p, fw_r c' 4 p = fw_r c 4 p := fun p => kk _ _ (by decide) (by decide) (by decide) (by decide)
    have c6 : ∀ p, fw_r c' 6 p = fw_r c 6 p := fun p => kk _ _ (by decide) (by decide) (by decide) (by decide)
    refine ⟨by rw [k2 6 (by decide), x15]; exact g1, by rw [kk 1 8 (by decide) (by decide) (by decide) (by decide), x16]; exact g2, by rw [x16]; exact g3, fun p a b => ?_, fun p a b => ?_⟩
    · rw [x10] at b
      obtain ⟨h1, h2, h3, h4, h5, h6, h7⟩ := g4 p a b
      rw [c4, m38, m40, c6, x15]
      rcases em p with ⟨j, j0, j1, rfl⟩ | hn
      · have z := ly j j0 j1
        have z2 := k5y j j0 j1
        have z3 := hfx j j0 j1
        rw [z.1, z.2.1, z2.1, z2.2]
        exact ⟨h1, by omega, rfl, ⟨fun e => by omega, fun e => by omega⟩, fun _ => h5 (by omega), fun _ => rfl, h7⟩
      · have z := ln p hn
        have z2 := k5n p hn
        rw [z.1, z.2.1, z2.1, z2.2]
        exact ⟨h1, h2, h3, h4, h5, h6, h7⟩
    · rw [x10] at a
      have z := ln p (fun j j0 j1 e => by have := hfx j j0 j1; omega)
      rw [z.1, m40]
      exact g5 p a b
  · obtain ⟨⟨g1, g2⟩, ⟨g3, g4⟩, ⟨g5, g6⟩, ⟨g7, g8, g9⟩, g10⟩ := gD
    have s2 : fg_sf (fg_s2 m') 0 (fw_r m 32 15).toNat = fg_sf (fg_s2 m) 0 (fw_r m 32 15).toNat := fg_sf_ext _ _ (fun p a b => by
      unfold fg_s2
      rcases em p with ⟨j, j0, j1, rfl⟩ | hn
      · rw [(ly j j0 j1).1, (hfx j j0 j1).2.2]; rfl
      · rw [(ln p hn).1])
    have s4 : fg_sf (fg_sv m' 4) 0 (fw_r m 32 15).toNat = fg_sf (fg_sv m 4) 0 (fw_r m 32 15).toNat := fg_sf_ext _ _ (fun p a b => by
      unfold fg_sv
      rcases em p with ⟨j, j0, j1, rfl⟩ | hn
      · rw [(ly j j0 j1).1, (hfx j j0 j1).2.2]; rfl
      · rw [(ln p hn).1])
    refine ⟨⟨by rw [k2 7 (by decide), x17]; exact g1, by rw [x17, x15, s2]; exact g2⟩, ⟨by rw [k2 8 (by decide), x18]; exact g3, by rw [x18, x17]; exact g4⟩, ⟨by rw [kk 25 1 (by decide) (by decide) (by decide) (by decide), x19]; exact g5, by rw [x19, x15, s4]; exact g6⟩, ⟨by rw [k29, l29, g7], by rw [l29]; omega, by rw [l29, k28]; omega⟩, by rw [k28, x15, hsum]; omega⟩
  · refine ⟨fun i a b => ?_, fun i a b => ?_⟩
    · rw [x3] at b
      have m35 : fw_r m' 35 i = fw_r m 35 i := l1 _ _ (by decide) (by decide) (by decide) (by decide) (by decide) (by decide) (by decide) (by decide)
      have m43 : ∀ j, fw_r m' 43 j = fw_r m 43 j := fun j => l1 _ _ (by decide) (by decide) (by decide) (by decide) (by decide) (by decide) (by decide) (by decide)
      rw [m35, x15]
      simp only [m43]
      by_cases hi : i = x
      · subst hi
        rw [lx.1, lx.2.1, lx.2.2, kR, kB4, kB5]
        exact ⟨⟨rfl, by decide, by omega⟩, ⟨rfl, rfl, rfl⟩, fun k u v => by omega⟩
      · have z := lo i hi
        have w := gE.1 i a b
        rw [z.1, z.2.1, z.2.2, k1 (56 + 3 * i + 1) 1 (by omega) (by omega) (by omega) (by omega) (by omega) (by omega) (by omega) (by omega) (by omega), k1 (56 + 3 * i) 4 (by omega) (by omega) (by omega) (by omega) (by omega) (by omega) (by omega) (by omega) (by omega), k1 (56 + 3 * i) 5 (by omega) (by omega) (by omega) (by omega) (by omega) (by omega) (by omega) (by omega) (by omega)]
        refine ⟨w.1, w.2.1, fun k u v => ?_⟩
        have w3 := w.2.2 k u v
        have hn := fun j (j0 : 0 ≤ j) (j1 : j < K) (e : f j = fw_r m 43 (30 * i + k)) => by
          have t1 := fg_chs_two (m := m) (p := f j) hx.1 hx.2 a b (Ne.symm hi) j0 (by omega) u v (hf j).symm e.symm
          have t2 := gI (f j) (hfx j j0 j1).1
          have t3 := fg_cnt_ge (f := fw_r m 33) (n := fw_r m 32 1) (p := f j)
          have t4 := fg_cnt_ge (f := fw_r c 29) (n := fw_r c 28 1) (p := f j)
          have t5 := fg_cnt_ge (f := fw_r c 26) (n := fw_r m 32 19) (p := f j)
          have t6 : (0 : Int) ≤ (if fw_r m 32 15 ≤ f j ∧ f j < fw_r m 32 10 then 1 else 0) := by split <;> decide
          have t7 : (if f j < fw_r m 32 10 then (1 : Int) else 0) ≤ 1 := by split <;> decide
          exact (by omega : False)
        rw [k1 (56 + 3 * i + 1 + 1) k (by omega) (by omega) (by omega) (by omega) (by omega) (by omega) (by omega) (by omega) (by omega), (ln _ hn).1]
        exact w3
    · rw [x3] at a
      have z := lo i (by omega)
      rw [z.1, z.2.1, z.2.2, l1 36 i (by decide) (by decide) (by decide) (by decide) (by decide) (by decide) (by decide) (by decide)]
      exact gE.2 i a b
  · intro p a b ne
    rw [x1] at b
    have e33 : fw_r m' 33 p = fw_r m 33 p := l1 _ _ (by decide) (by decide) (by decide) (by decide) (by decide) (by decide) (by decide) (by decide)
    rw [e33] at ne ⊢
    have g := gF p a b ne
    rw [(ln _ (hno _ (by omega))).1]
    exact g
  · intro j a b
    rw [x19] at b
    have g := gG j a b
    rw [kk 26 j (by decide) (by decide) (by decide) (by decide), x15, (ln _ (hno _ (by omega))).1]
    exact g
  · obtain ⟨⟨g1, g2, g3⟩, g4, g5, g6, g7⟩ := gH
    rw [hT] at g1 g2 g3
    rw [hC] at g3 g4 g5
    simp only [hT] at g5 g6 g7
    have hC0 : 0 ≤ C := by omega
    have old29 : ∀ j, 0 ≤ j → j < C → (0 ≤ fw_r c 29 j ∧ fw_r c 29 j < fw_r m 32 15) ∧ fw_r m 39 (fw_r c 29 j) = 3 := g4
    refine ⟨⟨by rw [k27, l25], by omega, by rw [l25, k28]; omega⟩, fun j a b => ?_, fun u a b => ?_, fun u i a b a2 b2 => ?_, fun p a b e => ?_⟩
    · rw [k28] at b
      rw [x15]
      by_cases hj : j < C
      · rw [k29o j hj]
        have g := g4 j a hj
        rw [(ln _ (hno _ (by omega))).1]
        exact g
      · have ej : j = C + (j - C) := by omega
        rw [ej, k29n (j - C) (by omega) (by omega), (ly (j - C) (by omega) (by omega)).1]
        have := hfx (j - C) (by omega) (by omega)
        exact ⟨⟨this.1, this.2.1⟩, rfl⟩
    · rw [l25] at b ⊢
      rw [k28]
      by_cases hu : u = T
      · subst hu
        rw [k30, l46]
        have := gEx.1
        exact ⟨hC0, hK1, by omega, by omega, fun z => by omega, fun z => rfl⟩
      · have g := g5 u a (by omega)
        rw [k30o u hu, l46o u hu]
        refine ⟨g.1, g.2.1, g.2.2.1, by omega, fun z => ?_, fun z => by omega⟩
        by_cases hu1 : u + 1 = T
        · rw [hu1, k30]; exact g.2.2.2.2.2 hu1
        · rw [k30o _ hu1]; exact g.2.2.2.2.1 (by omega)
    · rw [l25] at b
      by_cases hu : u = T
      · subst hu
        rw [l46] at b2
        rw [k30, k29n i a2 b2]
        exact (ly i a2 b2).2
      · rw [l46o u hu] at b2
        have g := g5 u a (by omega)
        have g' := g6 u i a (by omega) a2 b2
        have g'' := g4 (fw_r c 30 u + i) (by omega) (by omega)
        rw [k30o u hu, k29o _ (by omega), (ln _ (hno _ (by omega))).2.1, (ln _ (hno _ (by omega))).2.2]
        exact g'
    · rw [x15] at b
      rcases em p with ⟨j, j0, j1, rfl⟩ | hn
      · have z := ly j j0 j1
        rw [z.2.1, z.2.2, l25, l46, k30, k29n j j0 j1]
        exact ⟨by omega, ⟨j0, j1⟩, rfl⟩
      · have z := ln p hn
        rw [z.1] at e
        have g := g7 p a b e
        have g' := g5 (fw_r m 47 p) g.1.1 g.1.2
        rw [z.2.1, z.2.2, l25, l46o _ (by omega), k30o _ (by omega), k29o _ (by omega)]
        exact ⟨by omega, g.2⟩
  · intro q hq
    have g := gI q hq
    have e1 : fg_cnt (fw_r c' 29) (fw_r c' 28 1) q = fg_cnt (fw_r c 29) C q + fg_cnt f K q := by
      rw [k28, fg_cnt_app _ _ (by have := gH.1; omega) (by omega), fg_cnt_ext (f := fw_r c' 29) (g := fw_r c 29) (fun j a b => k29o j b), fg_cnt_ext (f := fun j => fw_r c' 29 (C + j)) (g := f) (fun j a b => k29n j a b)]
    have e2 : fg_chs m' q = fg_chs m q - fg_cnt f K q := by
      unfold fg_chs
      rw [x3, fg_sf_upd (f := fun i => fg_cnt (fun k => fw_r m' 43 (30 * i + k)) (fw_r m' 42 i) q) (g := fun i => fg_cnt (fun k => fw_r m 43 (30 * i + k)) (fw_r m 42 i) q) (x := x) _ _ (fun i _ _ hi => by
        (try dsimp only)
        rw [(lo i hi).1]
        exact fg_cnt_c (fun k => l1 _ _ (by decide) (by decide) (by decide) (by decide) (by decide) (by decide) (by decide) (by decide)) _ _) hx.1 (by omega)]
      (try dsimp only)
      rw [lx.1, hK, fg_cnt_0 (n := 0) (fun j a b => by omega), fg_cnt_c (f := fun k => fw_r m 43 (30 * x + k)) (g := f) (fun k => (hf k).symm)]
      omega
    rw [e1, e2, fg_cnt_c (f := fw_r m' 33) (g := fw_r m 33) (fun j => l1 _ _ (by decide) (by decide) (by decide) (by decide) (by decide) (by decide) (by decide) (by decide)), fg_cnt_c (f := fw_r c' 26) (g := fw_r c 26) (fun j => kk _ _ (by decide) (by decide) (by decide) (by decide)), x1, x10, x15, x19]
    rw [hC] at g
    omega
