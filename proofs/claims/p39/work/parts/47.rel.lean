/-! the law's own loop beside the ghost -/
def fl_s (t N p : Int) : Int := if p < t % N then p - t % N + N else p - t % N
theorem fl_s_in {t N p : Int} (hN : 0 < N) (h0 : 0 ≤ p) (h1 : p < N) : 0 ≤ fl_s t N p ∧ fl_s t N p < N := by
  have a := Int.emod_nonneg t (by omega : N ≠ 0)
  have b := Int.emod_lt_of_pos t hN
  unfold fl_s
  generalize t % N = r at *
  split <;> omega
theorem fl_s_inj {t N p q : Int} (hN : 0 < N) (h0 : 0 ≤ p) (h1 : p < N) (k0 : 0 ≤ q) (k1 : q < N) (h : fl_s t N p = fl_s t N q) : p = q := by
  have a := Int.emod_nonneg t (by omega : N ≠ 0)
  have b := Int.emod_lt_of_pos t hN
  unfold fl_s at h
  generalize t % N = r at *
  split at h <;> split at h <;> omega
theorem fl_s_next {t N p : Int} (hN : 0 < N) (h0 : 0 ≤ p) (h1 : p < N) : fl_s (t + 1) N p = fl_s t N (fg_bk N p) := by
  have a := Int.emod_nonneg t (by omega : N ≠ 0)
  have b := Int.emod_lt_of_pos t hN
  have e : (t + 1) % N = if t % N + 1 = N then 0 else t % N + 1 := by
    have e1 : (t + 1) % N = (t % N + 1) % N := by rw [Int.emod_add_emod]
    rw [e1]
    generalize t % N = r at *
    split
    · rename_i hr
      rw [hr, Int.emod_self]
    · exact Int.emod_eq_of_lt (by omega) (by omega)
  unfold fl_s fg_bk
  rw [e]
  generalize t % N = r at *
  repeat' split
  all_goals omega
theorem fm_tray {c : fw_M} {t N p : Int} (hN : fw_r c 32 0 = N) (h4 : 4 ≤ N ∧ N ≤ 20) (ht : fw_r c 32 1 = t) (t0 : 0 ≤ t) (h0 : 0 ≤ p) (h1 : p < N) : fw_E 122 0 [(2, 32), (0, p)] [] c = some ((0, fl_s t N p), c) := by
  have a := Int.emod_nonneg t (by omega : N ≠ 0)
  have b := Int.emod_lt_of_pos t (by omega : 0 < N)
  have e1 : fw_w (p - t % N) = p - t % N := fw_w_id (by omega) (by omega)
  have e2 : fw_w (p - t % N + N) = p - t % N + N := fw_w_id (by omega) (by omega)
  have e3 : (p - t % N + N) % N = fl_s t N p := by
    unfold fl_s
    split
    · exact Int.emod_eq_of_lt (by omega) (by omega)
    · rw [Int.add_emod_right]
      exact Int.emod_eq_of_lt (by omega) (by omega)
  rw [fw_b_122_0 _ _ (by omega) (by omega) (by rw [hN, ht, e1, e2]; omega), hN, ht, e1, e2, e3]
/-- a station's jam, of the ghost -/
def fl_jm (m : fw_M) (p : Int) : Int := if p = 0 then fw_r m 32 7 else if p = fw_r m 32 1 - 1 then fw_r m 32 8 else if fg_nm m p = -1 then 0 else fw_r m 36 (fg_nm m p)
def fl_RA (c m : fw_M) : Prop := fl_ptr c ∧ (fw_r c 32 0 = fw_r m 32 1 ∧ fw_r c 32 1 = fw_r m 32 16 ∧ fw_r c 32 5 = fw_r m 32 3 ∧ fw_r c 32 10 = fw_r m 32 9 ∧ fw_r c 32 11 = fw_r m 32 10 ∧ fw_r c 32 17 = fw_r m 32 15 ∧ fw_r c 32 18 = fw_r m 32 17 ∧ fw_r c 32 19 = fw_r m 32 19 ∧ fw_r c 32 20 = fw_r m 32 18 ∧ fw_r c 32 21 = fw_r m 32 25 ∧ fw_r c 32 22 = fw_r m 32 29) ∧ fw_r m 32 10 ≤ 60 ∧ fw_r m 32 3 ≤ 6
def fl_RB (c m : fw_M) : Prop := ∀ p, 0 ≤ p → p < fw_r m 32 1 → fw_r c 33 (fl_s (fw_r m 32 16) (fw_r m 32 1) p) = fw_r m 33 p
def fl_RC (c m : fw_M) : Prop := ∀ p, 0 ≤ p → p < 20 → fw_r c 34 p = fg_nm m p ∧ fw_r c 35 p = fl_jm m p
def fl_RD (c m : fw_M) : Prop := (∀ i, 0 ≤ i → i < fw_r m 32 3 → fw_r c 36 i = fw_r m 35 i ∧ ∀ k, 0 ≤ k → k < fw_r m 42 i → fw_r c (38 + i) k = fw_r m 43 (30 * i + k)) ∧ ∀ i, 0 ≤ i → i < 6 → fw_r c 44 i = fw_r m 42 i
def fl_RE (c m : fw_M) : Prop := ∀ r, 0 ≤ r → r < 8 → fw_r c 45 r = fw_r m 41 r
def fl_RF (c m : fw_M) : Prop := (∀ p, 0 ≤ p → p < fw_r m 32 10 → fw_r c 46 p = fw_r m 37 p ∧ fw_r c 47 p = fw_r m 38 p ∧ fw_r c 49 p = fg_code (fw_r m 39 p) ∧ (fw_r m 39 p = 3 → fw_r c 50 p = fw_r m 47 p)) ∧ ∀ p, 0 ≤ p → p < 60 → fw_r c 48 p = fw_r m 40 p
def fl_RG (m : fw_M) : Prop := ∀ i k, 0 ≤ i → i < k → k < fw_r m 32 3 → fw_r m 34 i < fw_r m 34 k
def fl_R (c m : fw_M) : Prop := fl_RA c m ∧ fl_RB c m ∧ fl_RC c m ∧ fl_RD c m ∧ fl_RE c m ∧ fl_RF c m ∧ fl_RG m
/-- only the law's cells are new -/
def fl_O (c c' : fw_M) : Prop := ∀ a j, (a < 32 ∨ 50 < a) → fw_r c' a j = fw_r c a j
theorem fl_O_refl (c : fw_M) : fl_O c c := fun _ _ _ => rfl
theorem fl_O_trans {a b c : fw_M} (h : fl_O a b) (h2 : fl_O b c) : fl_O a c := fun x j hx => (h2 x j hx).trans (h x j hx)
theorem fl_O_ptr {c c' : fw_M} (h : fl_O c c') (hp : fw_ptr c) : fw_ptr c' := fun q hq => by
  rw [h _ _ (Or.inl (fg_ps_31 q hq))]; exact hp q hq
theorem fl_O_IN {M : Int} {c c' m : fw_M} (h : fg_IN M c m) (ho : fl_O c c') : fg_IN M c' m :=
  fg_IN_eq h (fun a j ha => ho a j (by omega)) (fg_AG_refl m) (fl_O_ptr ho h.1.1.1.1) h.1.2
/-- the class's calls leave the law's cells -/
theorem fl_R_c {c c' m : fw_M} (h : fl_R c m) (hc : ∀ a j, 32 ≤ a → a ≤ 50 → fw_r c' a j = fw_r c a j) : fl_R c' m := by
  obtain ⟨⟨hq, hA, h60⟩, hB, hC, ⟨hD1, hD2⟩, hE, ⟨hF1, hF2⟩, hG⟩ := h
  have e : ∀ a, 32 ≤ a → a ≤ 50 → ∀ j, fw_r c' a j = fw_r c a j := fun a x y j => hc a j x y
  refine ⟨⟨fun q hx => ?_, ?_, h60⟩, fun p x y => ?_, fun p x y => ?_, ⟨fun i x y => ?_, fun i x y => ?_⟩, fun r x y => ?_, ⟨fun p x y => ?_, fun p x y => ?_⟩, hG⟩
  · rw [e _ (by have := fl_ps_le q hx; omega) (by have := fl_ps_le q hx; omega)]; exact hq q hx
  · simp only [e 32 (by decide) (by decide)]; exact hA
  · rw [e 33 (by decide) (by decide)]; exact hB p x y
  · rw [e 34 (by decide) (by decide), e 35 (by decide) (by decide)]; exact hC p x y
  · refine ⟨by rw [e 36 (by decide) (by decide)]; exact (hD1 i x y).1, fun k k0 k1 => ?_⟩
    rw [e _ (by omega) (by omega)]; exact (hD1 i x y).2 k k0 k1
  · rw [e 44 (by decide) (by decide)]; exact hD2 i x y
  · rw [e 45 (by decide) (by decide)]; exact hE r x y
  · rw [e 46 (by decide) (by decide), e 47 (by decide) (by decide), e 49 (by decide) (by decide), e 50 (by decide) (by decide)]; exact hF1 p x y
  · rw [e 48 (by decide) (by decide)]; exact hF2 p x y

theorem fm_leave {c : fw_M} {p s L S rd : Int} (hq : fl_ptr c) (h0 : 0 ≤ p) (h1 : p < 60) (s0 : 0 ≤ s) (s1 : s < 65536) (hL : fw_r c 32 18 = L) (L0 : 0 ≤ L ∧ L ≤ 1000) (hS : fw_r c 32 20 = S) (hr : fw_r c 48 p = rd) (S0 : 0 ≤ S ∧ S ≤ 1000000000) (r0 : 0 ≤ rd ∧ rd ≤ 1000000) : fw_E 123 0 [(2, 32), (0, p), (0, s)] [] c = some ((5, 0), fw_u (fw_u (fw_u c 49 p s) 32 18 (L + 1)) 32 20 (S + rd)) := by
  have q1 : fl_ptr (fw_u c 49 p s) := by rw [fl_ptr_49]; exact hq
  have q2 : fl_ptr (fw_u (fw_u c 49 p s) 32 18 (L + 1)) := by rw [fl_ptr_32_18]; exact q1
  rw [fw_b_123_0 _ _ _ hq s0 s1 h0 h1, fw_b_123_7, fw_r_k _ (by decide), hL, fw_w_id (by omega) (by omega), fw_b_123_17 _ _ _ q2 h0 h1, fw_r_j _ (by decide), fw_r_k _ (by decide), fw_r_k _ (by decide), fw_r_k _ (by decide), hS, hr, fw_w_id (by omega) (by omega), fw_b_123_32]
/-- nothing happens at a position that has no station -/
theorem fl_nm_lt {m : fw_M} {p i : Int} (h : fg_nm m p = i) (hn : 0 ≤ fw_r m 32 3) (hi : i ≠ -1) : 0 ≤ i ∧ i < fw_r m 32 3 ∧ fw_r m 34 i = p := by
  rcases fg_nm_in (p := p) hn with hx | hx
  · omega
  · rw [h] at hx; exact hx
theorem fl_nm_of {M i : Int} {c m : fw_M} (h : fg_IN M c m) (h0 : 0 ≤ i) (h1 : i < fw_r m 32 3) : fg_nm m (fw_r m 34 i) = i := by
  have hn := (fg_facts h).2.1.2.1
  rcases fg_nm_in (p := fw_r m 34 i) hn with hx | hx
  · exfalso
    rcases fg_fa_in (fun j => fw_r m 34 j) (fw_r m 34 i) (fg_n m) 0 with hh | hh
    · exact hh.2 i h0 (by unfold fg_n; omega) rfl
    · unfold fg_nm at hx; omega
  · exact h.1.1.2.2.2.2.1 _ _ hx.1 hx.2.1 h0 h1 hx.2.2
theorem fl_nm_no {M p : Int} {c m : fw_M} (h : fg_IN M c m) (hp : ∀ i, 0 ≤ i → i < fw_r m 32 3 → fw_r m 34 i ≠ p) : fg_nm m p = -1 := by
  have hn := (fg_facts h).2.1.2.1
  rcases fg_nm_in (p := p) hn with hx | hx
  · exact hx
  · exact absurd hx.2.2 (hp _ hx.1 hx.2.1)
theorem fl_nm_last {M p : Int} {c m : fw_M} (h : fg_IN M c m) (hp : p = 0 ∨ fw_r m 32 1 - 1 ≤ p) : fg_nm m p = -1 :=
  fl_nm_no h (fun i a b e => by have := (h.1.1.2.2.2.1 i a b).1; omega)
theorem fm_serve_no {M x : Int} {c c0 m : fw_M} {a2 a3 a4 : fw_V} (h : fg_IN M c0 m) (r : fl_R c m) (x0 : 1 ≤ x) (x1 : x < fw_r m 32 1 - 1) (hx : fg_nm m x = -1) : fw_E 124 0 [(2, 32), (0, x), a2, a3, a4] [] c = some ((5, 0), c) := by
  obtain ⟨⟨hq, hA, h60⟩, hB, hC, -⟩ := r
  have hN := (fg_facts h).2.2.1
  have t0 := h.2.2.1.2.2.1
  have e1 := fm_tray (p := x) hA.1 hN hA.2.1 t0.1 (by omega) (by omega)
  have s := fl_s_in (t := fw_r m 32 16) (by omega : 0 < fw_r m 32 1) (by omega : 0 ≤ x) (by omega)
  have z := hC x (by omega) (by omega)
  have ej : fl_jm m x = 0 := by unfold fl_jm; rw [if_neg (by omega), if_neg (by omega), if_pos hx]
  rw [hx, ej] at z
  have zB := hB x (by omega) (by omega)
  have w1 : fw_w (fw_r c 32 0 - 1) = fw_r m 32 1 - 1 := by rw [hA.1, fw_w_id (by omega) (by omega)]
  rw [fw_b_124_0, e1, fw_bs, fw_cn_0, fw_b_124_5 _ _ _ _ _ _ hq s.1 (by omega) (by omega) (by omega), if_pos z.2, zB, fw_b_124_23, if_neg (by omega), fw_b_124_76]
  have e130 : fw_E 124 130 [(2, 32), (0, x), (0, fl_s (fw_r m 32 16) (fw_r m 32 1) x), (0, fw_r m 33 x), a4] [] c = some ((5, 0), c) := by
    rw [fw_b_124_130]
    by_cases c1 : fw_r m 33 x < 0
    · rw [if_pos c1, fw_b_124_231]
    · rw [if_neg c1, fw_b_124_134 _ _ _ _ _ hq (by omega) (by omega), if_pos (by omega), fw_b_124_231]
  by_cases c1 : fw_r m 33 x < 0
  · rw [if_pos c1, e130]
  · rw [if_neg c1, fw_b_124_80, w1, if_neg (by omega), e130]
