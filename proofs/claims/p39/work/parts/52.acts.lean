/-! what the law does: arrivals, ticks, routes, limits -/
/-- the room and the script stand -/
def fl_N (c c' : fw_M) : Prop := ∀ a j, a < 0 → fw_r c' a j = fw_r c a j
theorem fl_N_refl (c : fw_M) : fl_N c c := fun _ _ _ => rfl
theorem fl_N_trans {a b c : fw_M} (h : fl_N a b) (h2 : fl_N b c) : fl_N a c := fun x j hx => (h2 x j hx).trans (h x j hx)
theorem fl_N_O {c c' : fw_M} (h : fl_O c c') : fl_N c c' := fun a j ha => h a j (by omega)
theorem fg_mar_r (m : fw_M) (P q w : Int) {a j : Int} (h1 : a ≠ 37 ∨ j ≠ P) (h2 : a ≠ 38 ∨ j ≠ P) (h3 : a ≠ 32 ∨ j ≠ 10) : fw_r (fg_mar m P q w) a j = fw_r m a j := by unfold fg_mar; (try simp (disch := omega) only [fw_r_n, fw_r_s])
theorem fl_arrive {M P q w : Int} {c m : fw_M} (h : fg_IN M c m) (r : fl_R c m) (hP : fw_r m 32 10 = P) (hl : P < 60) (q0 : 0 ≤ q ∧ q < 8) (w0 : 1 ≤ w ∧ w ≤ 9) : ∃ c', fw_E 76 0 [(2, 1), (0, q), (0, w)] [] (fw_u (fw_u (fw_u c 46 P q) 47 P w) 49 P 119) = some ((0, P), c') ∧ fg_IN M (fw_u c' 32 11 (P + 1)) (fg_mar m P q w) ∧ fl_R (fw_u c' 32 11 (P + 1)) (fg_mar m P q w) ∧ fl_N c c' ∧ fw_r c' 32 11 = P := by
  have hP0 := (fg_facts h).2.2.2.2.2.2
  have ho : fl_O c (fw_u (fw_u (fw_u c 46 P q) 47 P w) 49 P 119) := fun a j ha => by (try simp (disch := omega) only [fw_r_n, fw_r_s])
  have h1 := fl_O_IN h ho
  obtain ⟨e1, i1⟩ := fm_arrive h1 hP (by omega) q0 w0
  have hr := r
  obtain ⟨⟨hq, hA, h60, h6⟩, hB, hC, hD, hE, ⟨hF1, hF2⟩, hG⟩ := r
  have oc : ∀ a j, 32 ≤ a → a ≤ 50 → fw_r (fg_car (fw_u (fw_u (fw_u c 46 P q) 47 P w) 49 P 119) P q w) a j = fw_r (fw_u (fw_u (fw_u c 46 P q) 47 P w) 49 P 119) a j := fun a j x y => by unfold fg_car; (try simp (disch := omega) only [fw_r_n, fw_r_s])
  have on : fl_N c (fg_car (fw_u (fw_u (fw_u c 46 P q) 47 P w) 49 P 119) P q w) := fun a j x => by unfold fg_car; (try simp (disch := omega) only [fw_r_n, fw_r_s])
  have z := h.2.2.1.2.2.2.2 P (by omega) (by omega)
  generalize fg_car (fw_u (fw_u (fw_u c 46 P q) 47 P w) 49 P 119) P q w = c' at *
  have k := fun a j (h1 : a ≠ 37 ∨ j ≠ P) (h2 : a ≠ 38 ∨ j ≠ P) (h3 : a ≠ 32 ∨ j ≠ 10) => fg_mar_r m P q w (a := a) (j := j) h1 h2 h3
  have m37 : fw_r (fg_mar m P q w) 37 P = q := by unfold fg_mar; (try simp (disch := omega) only [fw_r_n, fw_r_s])
  have m38 : fw_r (fg_mar m P q w) 38 P = w := by unfold fg_mar; (try simp (disch := omega) only [fw_r_n, fw_r_s])
  have m10 : fw_r (fg_mar m P q w) 32 10 = P + 1 := by unfold fg_mar; (try simp (disch := omega) only [fw_r_n, fw_r_s])
  have i2 := fl_O_IN (c' := fw_u c' 32 11 (P + 1)) i1 (fun a j ha => by (try simp (disch := omega) only [fw_r_n, fw_r_s]))
  generalize fg_mar m P q w = m' at *
  have hc : ∀ a j, 32 ≤ a → a ≤ 50 → (a ≠ 32 ∨ j ≠ 11) → (a ≠ 46 ∨ j ≠ P) → (a ≠ 47 ∨ j ≠ P) → (a ≠ 49 ∨ j ≠ P) → fw_r (fw_u c' 32 11 (P + 1)) a j = fw_r c a j := fun a j x y u v s t => by
    rw [fw_r_n _ (by omega), oc a j x y, fw_r_n _ (by omega), fw_r_n _ (by omega), fw_r_n _ (by omega)]
  have o11 : fw_r (fw_u c' 32 11 (P + 1)) 32 11 = P + 1 := fw_r_s _ _ _ _
  have o46 : fw_r (fw_u c' 32 11 (P + 1)) 46 P = q := by rw [fw_r_n _ (by omega), oc _ _ (by decide) (by decide)]; (try simp (disch := omega) only [fw_r_n, fw_r_s])
  have o47 : fw_r (fw_u c' 32 11 (P + 1)) 47 P = w := by rw [fw_r_n _ (by omega), oc _ _ (by decide) (by decide)]; (try simp (disch := omega) only [fw_r_n, fw_r_s])
  have o49 : fw_r (fw_u c' 32 11 (P + 1)) 49 P = 119 := by rw [fw_r_n _ (by omega), oc _ _ (by decide) (by decide)]; (try simp (disch := omega) only [fw_r_n, fw_r_s])
  have e11 : fw_r c' 32 11 = P := by rw [oc _ _ (by decide) (by decide)]; (try simp (disch := omega) only [fw_r_n, fw_r_s]); rw [hA.2.2.2.2.1, hP]
  refine ⟨c', e1, i2, ?_, on, e11⟩
  generalize fw_u c' 32 11 (P + 1) = c2 at *
  have k1 := k 32 1 (by omega) (by omega) (by omega)
  have k3 := k 32 3 (by omega) (by omega) (by omega)
  have k16 := k 32 16 (by omega) (by omega) (by omega)
  refine fl_R_up hr ⟨fun x hx => ?_, ?_, by omega, by rw [k3]; exact h6⟩ (fun p a b => ?_) ⟨fun i a b => ?_, fun i a b => ?_⟩ ⟨fun p a b => ?_, fun p a b => ?_⟩ k1 k3 (k _ _ (by omega) (by omega) (by omega)) (k _ _ (by omega) (by omega) (by omega)) (fun j => k _ _ (by omega) (by omega) (by omega)) (fun j => k _ _ (by omega) (by omega) (by omega)) (fun j => k _ _ (by omega) (by omega) (by omega)) (fun j => hc _ _ (by omega) (by omega) (by omega) (by omega) (by omega) (by omega)) (fun j => hc _ _ (by omega) (by omega) (by omega) (by omega) (by omega) (by omega)) (fun j => hc _ _ (by omega) (by omega) (by omega) (by omega) (by omega) (by omega))
  · have h11 : ∀ x ∈ fl_psT, (x.1 = 32 ∧ x.2.1 ≠ 11) ∨ x.1 = 37 := by decide
    have := h11 x hx
    rw [hc _ _ (by omega) (by omega) (by omega) (by omega) (by omega) (by omega)]; exact hq x hx
  · rw [o11, m10, k1, k3, k16, k 32 9 (by omega) (by omega) (by omega), k 32 15 (by omega) (by omega) (by omega), k 32 17 (by omega) (by omega) (by omega), k 32 18 (by omega) (by omega) (by omega), k 32 19 (by omega) (by omega) (by omega), k 32 25 (by omega) (by omega) (by omega), k 32 29 (by omega) (by omega) (by omega)]
    have hh := fun j (hj : j ≠ 11) => hc 32 j (by omega) (by omega) (Or.inr hj) (by omega) (by omega) (by omega)
    rw [hh 0 (by decide), hh 1 (by decide), hh 5 (by decide), hh 10 (by decide), hh 17 (by decide), hh 18 (by decide), hh 19 (by decide), hh 20 (by decide), hh 21 (by decide), hh 22 (by decide)]
    exact ⟨hA.1, hA.2.1, hA.2.2.1, hA.2.2.2.1, rfl, hA.2.2.2.2.2⟩
  · rw [k1] at b
    rw [k1, k16, k 33 _ (by omega) (by omega) (by omega), hc 33 _ (by omega) (by omega) (by omega) (by omega) (by omega) (by omega)]
    exact hB p a b
  · rw [k3] at b
    have gg := hD.1 i a b
    rw [k 35 _ (by omega) (by omega) (by omega), k 42 _ (by omega) (by omega) (by omega), hc 36 _ (by omega) (by omega) (by omega) (by omega) (by omega) (by omega)]
    refine ⟨gg.1, fun x x0 x1 => ?_⟩
    rw [k 43 _ (by omega) (by omega) (by omega), hc (38 + i) _ (by omega) (by omega) (by omega) (by omega) (by omega) (by omega)]
    exact gg.2 x x0 x1
  · rw [k 42 _ (by omega) (by omega) (by omega), hc 44 _ (by omega) (by omega) (by omega) (by omega) (by omega) (by omega)]; exact hD.2 i a b
  · rw [m10] at b
    rw [k 39 _ (by omega) (by omega) (by omega), k 47 _ (by omega) (by omega) (by omega)]
    by_cases hp : p = P
    · rw [hp, o46, o47, o49, m37, m38, z.1]
      exact ⟨rfl, rfl, rfl, fun e => absurd e (by decide)⟩
    · rw [k 37 _ (by omega) (by omega) (by omega), k 38 _ (by omega) (by omega) (by omega), hc 46 _ (by omega) (by omega) (by omega) (by omega) (by omega) (by omega), hc 47 _ (by omega) (by omega) (by omega) (by omega) (by omega) (by omega), hc 49 _ (by omega) (by omega) (by omega) (by omega) (by omega) (by omega), hc 50 _ (by omega) (by omega) (by omega) (by omega) (by omega) (by omega)]
      exact hF1 p a (by omega)
  · rw [k 40 _ (by omega) (by omega) (by omega), hc 48 _ (by omega) (by omega) (by omega) (by omega) (by omega) (by omega)]; exact hF2 p a b
/-- how an act ends -/
def fl_A (M : Int) (c m : fw_M) (x : Option fw_O) : Prop := ∃ c' m', x = some ((0, 1), c') ∧ fg_IN M c' m' ∧ fl_R c' m' ∧ fl_N c c' ∧ fw_r m' 32 3 = fw_r m 32 3
theorem fl_A_N {M : Int} {c c1 m m1 : fw_M} {x : Option fw_O} (h : fl_A M c1 m1 x) (hn : fl_N c c1) (h3 : fw_r m1 32 3 = fw_r m 32 3) : fl_A M c m x := by
  obtain ⟨c', m', e, i, r, n, k⟩ := h
  exact ⟨c', m', e, i, r, fl_N_trans hn n, k.trans h3⟩
theorem fl_A_M {M M' : Int} {c m : fw_M} {x : Option fw_O} (h : fl_A M c m x) (hM : M ≤ M') : fl_A M' c m x := by
  obtain ⟨c', m', e, i, r, n, k⟩ := h
  exact ⟨c', m', e, fg_IN_M i hM, r, n, k⟩
theorem fl_act_0 {M v y z : Int} {a7 a8 a9 : fw_V} (y0 : 0 ≤ y ∧ y < 8) : ∀ (k : Nat) (x : Int) (c m : fw_M), x + 1 = k → x ≤ 4 → fg_IN M c m → fl_R c m → fl_A M c m (fw_E 136 93 [(2, 1), (2, 32), (0, v), (0, y), (0, z), (0, 1), (0, x), a7, a8, a9] [] c) := by
  intro k
  induction k with
  | zero =>
    intro x c m hx x4 h r
    refine ⟨c, m, ?_, h, r, fl_N_refl c, rfl⟩
    rw [fw_b_136_93, if_pos (by omega), fw_b_136_216 _ _ _ _ _ _ _ _ _ (Or.inr rfl)]
  | succ k ih =>
    intro x c m hx x4 h r
    have hP := (fg_facts h).2.2.2.2.2.2
    have hA := r.1.2.1
    have e11 := hA.2.2.2.2.1
    rw [fw_b_136_93, if_neg (by omega), fw_b_136_98]
    by_cases c1 : fw_r m 32 10 < 60
    · obtain ⟨q, eq, q0, q1⟩ := fl_low (c := c) (x := fw_w (y + x)) (n := 8) (by decide)
      obtain ⟨w, ew, w0, w1⟩ := fl_low (c := fw_u c 46 (fw_r m 32 10) q) (x := fw_sh v (fw_w (11 + x))) (n := 9) (by decide)
      have p1 : fl_ptr (fw_u c 46 (fw_r m 32 10) q) := by rw [fl_ptr_46]; exact r.1.1
      have p2 : fl_ptr (fw_u (fw_u c 46 (fw_r m 32 10) q) 47 (fw_r m 32 10) (1 + w)) := by rw [fl_ptr_47]; exact p1
      have p3 : fl_ptr (fw_u (fw_u (fw_u c 46 (fw_r m 32 10) q) 47 (fw_r m 32 10) (1 + w)) 49 (fw_r m 32 10) 119) := by rw [fl_ptr_49]; exact p2
      have o1 : fw_r (fw_u c 46 (fw_r m 32 10) q) 32 11 = fw_r m 32 10 := by (try simp (disch := omega) only [fw_r_n, fw_r_s]); exact e11
      have o2 : fw_r (fw_u (fw_u c 46 (fw_r m 32 10) q) 47 (fw_r m 32 10) (1 + w)) 32 11 = fw_r m 32 10 := by (try simp (disch := omega) only [fw_r_n, fw_r_s]); exact e11
      have o3 : fw_r (fw_u (fw_u (fw_u c 46 (fw_r m 32 10) q) 47 (fw_r m 32 10) (1 + w)) 49 (fw_r m 32 10) 119) 32 11 = fw_r m 32 10 := by (try simp (disch := omega) only [fw_r_n, fw_r_s]); exact e11
      have o46 : fw_r (fw_u (fw_u (fw_u c 46 (fw_r m 32 10) q) 47 (fw_r m 32 10) (1 + w)) 49 (fw_r m 32 10) 119) 46 (fw_r m 32 10) = q := by (try simp (disch := omega) only [fw_r_n, fw_r_s])
      have o47 : fw_r (fw_u (fw_u (fw_u c 46 (fw_r m 32 10) q) 47 (fw_r m 32 10) (1 + w)) 49 (fw_r m 32 10) 119) 47 (fw_r m 32 10) = 1 + w := by (try simp (disch := omega) only [fw_r_n, fw_r_s])
      obtain ⟨c', f1, f2, f3, f4, f5⟩ := fl_arrive (q := q) (w := 1 + w) h r rfl c1 ⟨q0, q1⟩ (by omega)
      have fin := ih (x - 1) _ _ (by omega) (by omega) f2 f3
      rw [if_pos (by omega), fw_b_136_107, if_neg (by decide), fw_b_136_112 _ _ _ _ _ _ _ _ _ r.1.1, eq, fw_bs, fw_cn_0, e11, fw_b_136_129 _ _ _ _ _ _ _ _ _ _ _ hP.1 c1, fw_b_136_130 _ _ _ _ _ _ _ _ _ p1, ew, fw_bs, fw_cn_0, o1, fw_b_136_151 _ _ _ _ _ _ _ _ _ _ _ _ hP.1 c1, fw_w_id (x := 1 + w) (by omega) (by omega), fw_b_136_153 _ _ _ _ _ _ _ _ _ p2 (by omega) (by omega), o2, fw_b_136_164 _ _ _ _ _ _ _ _ _ p3 (by omega) (by omega), o3, o46, o47, f1, fw_bs, fw_cn_0, fw_b_136_186, f5, if_pos rfl, fw_b_136_193, f5, fw_w_id (by omega) (by omega), fw_b_136_210, fw_w_id (by omega) (by omega)]
      exact fl_A_N fin (fl_N_trans f4 (fun a j ha => by (try simp (disch := omega) only [fw_r_n, fw_r_s]))) (by rw [fg_mar_r _ _ _ _ (by omega) (by omega) (by omega)])
    · refine ⟨c, m, ?_, h, r, fl_N_refl c, rfl⟩
      rw [if_neg (by omega), fw_b_136_216 _ _ _ _ _ _ _ _ _ (Or.inr rfl)]
/-! ticks -/
theorem fl_ticks_lp {x2 x3 x4 x x6 x8 : Int} (h90 : x ≤ 90) : ∀ (k : Nat) (i acc M : Int) (c c0 m : fw_M), M + k ≤ 400000 → fg_IN M c0 m → fl_R c m → 0 ≤ i → i + k = x → 0 ≤ acc → acc ≤ 7 * i → ∃ c' c0', fw_E 136 277 [(2, 1), (2, 32), (0, x2), (0, x3), (0, x4), (0, x), (0, x6), (0, acc), (0, x8), (0, i)] [] c = fw_E 136 299 [(2, 1), (2, 32), (0, x2), (0, x3), (0, x4), (0, x), (0, x6), (0, acc + (fw_r (fg_Pn k m) 32 17 - fw_r m 32 17)), (0, x8), (0, x)] [] c' ∧ fl_R c' (fg_Pn k m) ∧ fl_O c c' ∧ fg_IN (M + k) c0' (fg_Pn k m) := by
  intro k
  induction k with
  | zero =>
    intro i acc M c c0 m hM h r i0 hi a0 a1
    refine ⟨c, c0, ?_, r, fl_O_refl c, fg_IN_M h (by omega)⟩
    have e : x = i := by omega
    rw [fw_b_136_277, if_neg (by omega), e, fg_Pn, Int.sub_self, Int.add_zero]
  | succ k ih =>
    intro i acc M c c0 m hM h r i0 hi a0 a1
    obtain ⟨c1, c01, e1, r1, o1, h1⟩ := fl_tick (a1 := (8, 0)) (a2 := (8, 0)) (a3 := (8, 0)) (by omega) h r
    obtain ⟨-, -, -, -, b0, b1⟩ := fs_passOneTick (a1 := (8, 0)) (a2 := (8, 0)) (by omega) h
    obtain ⟨c2, c02, e2, r2, o2, h2⟩ := ih (i + 1) (acc + (fw_r (fg_P1 m) 32 17 - fw_r m 32 17)) (M + 1) c1 c01 (fg_P1 m) (by omega) h1 r1 (by omega) (by omega) (by omega) (by omega)
    have eq9 : acc + (fw_r (fg_P1 m) 32 17 - fw_r m 32 17) + (fw_r (fg_Pn k (fg_P1 m)) 32 17 - fw_r (fg_P1 m) 32 17) = acc + (fw_r (fg_Pn k (fg_P1 m)) 32 17 - fw_r m 32 17) := by omega
    refine ⟨c2, c02, ?_, r2, fl_O_trans o1 o2, fg_IN_M h2 (by omega)⟩
    rw [fw_b_136_277, if_pos (by omega), fw_b_136_284, e1, fw_bs, fw_cn_0, fw_b_136_290, fw_w_id (by omega) (by omega), fw_w_id (by omega) (by omega), e2, fg_Pn, eq9]
theorem fl_R_FR {c c' m : fw_M} (r : fl_R c m) (hf : fg_FR c c') : fl_R c' m := fl_R_c r (fun a j x y => hf a j (by omega))
theorem fg_IN_FR {M : Int} {c c' m : fw_M} (h : fg_IN M c m) (hf : fg_FR c c') (hp : fw_ptr c') : fg_IN M c' m := fg_IN_eq h (fun a j ha => hf a j (by omega)) (fg_AG_refl m) hp h.1.2
theorem fl_act_2 {M v y z t : Int} {c m : fw_M} {a5 a6 a7 a8 a9 : fw_V} (hM : 0 ≤ M ∧ M ≤ 300000) (h : fg_IN M c m) (r : fl_R c m) (t0 : 0 ≤ t ∧ t < 90) : fl_A (M + 90) c m (fw_E 136 242 [(2, 1), (2, 32), (0, v), (0, y), (0, z), a5, a6, a7, a8, a9] [(0, t), (0, 1)] c) := by
  have hx : 1 ≤ 1 + t ∧ 1 + t ≤ 90 := by omega
  have ew : fw_w (1 + t) = 1 + t := fw_w_id (by omega) (by omega)
  rw [fw_b_136_242, ew]
  generalize 1 + t = x at *
  have xn : ((x.toNat : Nat) : Int) = x := by omega
  obtain ⟨c1, e1, f1, p1⟩ := fm_ahead hM.1 (by omega) h (by omega : 1 ≤ x ∧ x ≤ 200)
  have h1 := fg_IN_FR h f1 p1
  have r1 := fl_R_FR r f1
  obtain ⟨c2, e2, f2, p2⟩ := fm_byTrays hM.1 (by omega) h1 (by omega : 1 ≤ x ∧ x ≤ 200)
  have h2 := fg_IN_FR h1 f2 p2
  have r2 := fl_R_FR r1 f2
  obtain ⟨c3, c03, e3, r3, o3, h3⟩ := fl_ticks_lp (x2 := v) (x3 := y) (x4 := z) (x6 := fg_Cn x.toNat m) (x8 := 1) hx.2 x.toNat 0 0 M c2 c2 m (by omega) h2 r2 (by omega) (by omega) (by omega) (by omega)
  have hC := fg_ahead h x.toNat
  have h2' := fl_O_IN h2 o3
  obtain ⟨c4, e4, h4, f4⟩ := fm_pass (a2 := (8, 0)) (a3 := (8, 0)) (by omega) h2' (by omega : 1 ≤ x ∧ x ≤ 200)
  have r4 : fl_R c4 (fg_Pn x.toNat m) := fl_R_c r3 (fun a j u w => f4 a j (by omega))
  have eC : fw_r (fg_Pn x.toNat m) 32 17 - fw_r m 32 17 = fg_Cn x.toNat m := by omega
  rw [eC] at e4
  rw [eC, Int.zero_add] at e3
  refine ⟨c4, fg_Pn x.toNat m, ?_, fg_IN_M h4 (by omega), r4, fun a j ha => ?_, ?_⟩
  · rw [e1, fw_bs, fw_cn_0, fw_b_136_251, e2, fw_bs, fw_cn_0, fw_b_136_264, if_pos rfl, fw_b_136_267, e3, fw_b_136_299, if_neg (by decide), fw_b_136_304, if_pos rfl, fw_b_136_311, e4, fw_bs, fw_cn_0, fw_b_136_317, if_pos rfl, fw_b_136_322]
  · rw [f4 a j (by omega), o3 a j (by omega), f2 a j (by omega), f1 a j (by omega)]
  · have a1 := r4.1.2.1.2.2.1
    rw [← a1, f4 _ _ (by omega)]
    have a2 : ∀ (k : Nat) (m : fw_M), fw_r (fg_Pn k m) 32 3 = fw_r m 32 3 := by
      intro k
      induction k with
      | zero => intro m; rfl
      | succ k ih =>
        intro m
        rw [fg_Pn, ih]
        have gen : ∀ (k : Nat) (i : Int) (m : fw_M), fw_r (fg_pcn m i k) 32 3 = fw_r m 32 3 := by
          intro k
          induction k with
          | zero => intro i m; rfl
          | succ k ih => intro i m; rw [fg_pcn, ih, fg_pc_n m i (by decide) (by decide)]
        unfold fg_P1
        rw [fg_poo _ (by omega) (by omega) (by omega), gen, fg_pl_o _ (by decide), fg_mvs_o _ (by decide) (by decide)]
        unfold fg_tk0
        rw [fw_r_j _ (by decide)]
    rw [r3.1.2.1.2.2.1, a2]
/-! routes, limits, capacities -/
theorem fl_R_45 {c m : fw_M} {q v : Int} (r : fl_R c m) (q0 : 0 ≤ q ∧ q < 8) : fl_R (fw_u c 45 q v) (fw_u m 41 q v) := by
  obtain ⟨⟨hq, hA, h60, h6⟩, hB, hC, hD, hE, ⟨hF1, hF2⟩, hG⟩ := r
  refine ⟨⟨by rw [fl_ptr_45]; exact hq, by (try simp (disch := omega) only [fw_r_n, fw_r_s]); exact hA, by (try simp (disch := omega) only [fw_r_n, fw_r_s]); exact h60, by (try simp (disch := omega) only [fw_r_n, fw_r_s]); exact h6⟩, fun p a b => ?_, fun p a b => ?_, ⟨fun i a b => ?_, fun i a b => ?_⟩, fun p a b => ?_, ⟨fun p a b => ?_, fun p a b => ?_⟩, fun i k a b d => ?_⟩
  · simp (disch := omega) only [fw_r_n] at b
    (try simp (disch := omega) only [fw_r_n, fw_r_s])
    exact hB p a b
  · rw [fg_nm_eq (m := m) (by (try simp (disch := omega) only [fw_r_n, fw_r_s])) (fun j => by (try simp (disch := omega) only [fw_r_n, fw_r_s])), fl_jm_eq (m := m) (by (try simp (disch := omega) only [fw_r_n, fw_r_s])) (by (try simp (disch := omega) only [fw_r_n, fw_r_s])) (by (try simp (disch := omega) only [fw_r_n, fw_r_s])) (by (try simp (disch := omega) only [fw_r_n, fw_r_s])) (fun j => by (try simp (disch := omega) only [fw_r_n, fw_r_s])) (fun j => by (try simp (disch := omega) only [fw_r_n, fw_r_s]))]
    (try simp (disch := omega) only [fw_r_n, fw_r_s])
    exact hC p a b
  · simp (disch := omega) only [fw_r_n] at b
    have g := hD.1 i a b
    rw [fw_r_n _ (by omega), fw_r_n _ (by omega), fw_r_n _ (by omega)]
    refine ⟨g.1, fun k k0 k1 => ?_⟩
    rw [fw_r_n _ (by omega), fw_r_n _ (by omega)]
    exact g.2 k k0 k1
  · (try simp (disch := omega) only [fw_r_n, fw_r_s])
    exact hD.2 i a b
  · rw [fw_r_u, fw_r_u]
    by_cases hp : p = q
    · rw [if_pos ⟨rfl, hp⟩, if_pos ⟨rfl, hp⟩]
    · rw [if_neg (fun e => hp e.2), if_neg (fun e => hp e.2)]; exact hE p a b
  · simp (disch := omega) only [fw_r_n] at b
    (try simp (disch := omega) only [fw_r_n, fw_r_s])
    exact hF1 p a b
  · (try simp (disch := omega) only [fw_r_n, fw_r_s])
    exact hF2 p a b
  · simp (disch := omega) only [fw_r_n] at d
    (try simp (disch := omega) only [fw_r_n, fw_r_s])
    exact hG i k a b d
theorem fl_R_lo {c m : fw_M} {a j v : Int} (r : fl_R c m) (ha : a < 32 ∨ 50 < a) : fl_R (fw_u c a j v) m := fl_R_c r (fun x y u w => by rw [fw_r_n _ (by omega)])
theorem fl_act_5 {M v y z : Int} {c m : fw_M} {a5 a6 a7 a8 a9 : fw_V} (h : fg_IN M c m) (r : fl_R c m) (y0 : 0 ≤ y ∧ y < 8) (z0 : 0 ≤ z ∧ z < (if 1 < fw_r m 32 3 then fw_r m 32 3 else 1)) : fl_A M c m (fw_E 136 328 [(2, 1), (2, 32), (0, v), (0, y), (0, z), a5, a6, a7, a8, a9] [] c) := by
  have hA := r.1.2.1
  have hq := r.1.1
  have hn := (fg_facts h).2.1
  have e45 := r.2.2.2.2.1 y y0.1 y0.2
  rw [fw_b_136_328, hA.2.2.1]
  by_cases c0 : fw_r m 32 3 = 0
  · refine ⟨c, m, ?_, h, r, fl_N_refl c, rfl⟩
    rw [if_pos c0, fw_b_136_335]
  · have z1 : z < fw_r m 32 3 := by
      have := z0.2
      split at this <;> omega
    have asg : ∀ (a6 : fw_V), fl_A M c m (fw_E 136 384 [(2, 1), (2, 32), (0, v), (0, y), (0, z), (0, fw_r m 41 y), a6, a7, a8, a9] [] c) := by
      intro a6
      have h1 := fl_O_IN (c' := fw_u c 45 y z) h (fun a j ha => by (try simp (disch := omega) only [fw_r_n, fw_r_s]))
      obtain ⟨e1, i1⟩ := fm_assign (p := y) (q := z) (a3 := (8, 0)) h1 y0 ⟨z0.1, z1⟩
      refine ⟨fw_u (fw_u c 45 y z) 13 y z, fw_u m 41 y z, ?_, i1, fl_R_lo (fl_R_45 r y0) (by omega), fun a j ha => by (try simp (disch := omega) only [fw_r_n, fw_r_s]), by (try simp (disch := omega) only [fw_r_n, fw_r_s])⟩
      rw [fw_b_136_384 _ _ _ _ _ _ _ _ _ hq y0.1 y0.2, fw_b_136_392, e1, fw_bs, fw_cn_0, fw_b_136_399, if_pos rfl, fw_b_136_404]
    rw [if_neg c0, fw_b_136_337 _ _ _ _ _ _ _ _ _ hq y0.1 y0.2, e45]
    by_cases c1 : fw_r m 41 y < 0
    · rw [if_pos c1]; exact asg a6
    · obtain ⟨w, ew, w0, w1⟩ := fl_low (c := c) (x := fw_sh v 9) (n := 4) (by decide)
      rw [if_neg c1, fw_b_136_350, ew, fw_bs, fw_cn_0, fw_b_136_358]
      by_cases c2 : w = 0
      · have h1 := fl_O_IN (c' := fw_u c 45 y (-1)) h (fun a j ha => by (try simp (disch := omega) only [fw_r_n, fw_r_s]))
        obtain ⟨e1, i1⟩ := fm_unassign (p := y) (a2 := (8, 0)) h1 y0 (by omega)
        refine ⟨fw_u (fw_u c 45 y (-1)) 13 y (-1), fw_u m 41 y (-1), ?_, i1, fl_R_lo (fl_R_45 r y0) (by omega), fun a j ha => by (try simp (disch := omega) only [fw_r_n, fw_r_s]), by (try simp (disch := omega) only [fw_r_n, fw_r_s])⟩
        rw [if_pos c2, fw_b_136_361 _ _ _ _ _ _ _ _ _ hq y0.1 y0.2, fw_b_136_368, e1, fw_bs, fw_cn_0, fw_b_136_373, if_pos rfl, fw_b_136_378]
      · rw [if_neg c2]; exact asg a6
theorem fl_R_lim {c m : fw_M} {v : Int} (r : fl_R c m) : fl_R (fw_u c 32 10 v) (fw_u m 32 9 v) := by
  have hr := r
  obtain ⟨⟨hq, hA, h60, h6⟩, hB, hC, hD, hE, ⟨hF1, hF2⟩, hG⟩ := r
  refine fl_R_up hr ⟨by rw [fl_ptr_32_10]; exact hq, by (try simp (disch := omega) only [fw_r_n, fw_r_s]); exact ⟨hA.1, hA.2.1, hA.2.2.1, trivial, hA.2.2.2.2⟩, by (try simp (disch := omega) only [fw_r_n, fw_r_s]); exact h60, by (try simp (disch := omega) only [fw_r_n, fw_r_s]); exact h6⟩ (fun p a b => ?_) ⟨fun i a b => ?_, fun i a b => ?_⟩ ⟨fun p a b => ?_, fun p a b => ?_⟩ (by (try simp (disch := omega) only [fw_r_n, fw_r_s])) (by (try simp (disch := omega) only [fw_r_n, fw_r_s])) (by (try simp (disch := omega) only [fw_r_n, fw_r_s])) (by (try simp (disch := omega) only [fw_r_n, fw_r_s])) (fun j => by (try simp (disch := omega) only [fw_r_n, fw_r_s])) (fun j => by (try simp (disch := omega) only [fw_r_n, fw_r_s])) (fun j => by (try simp (disch := omega) only [fw_r_n, fw_r_s])) (fun j => by (try simp (disch := omega) only [fw_r_n, fw_r_s])) (fun j => by (try simp (disch := omega) only [fw_r_n, fw_r_s])) (fun j => by (try simp (disch := omega) only [fw_r_n, fw_r_s]))
  · simp (disch := omega) only [fw_r_n] at b
    (try simp (disch := omega) only [fw_r_n, fw_r_s])
    exact hB p a b
  · simp (disch := omega) only [fw_r_n] at b
    have g := hD.1 i a b
    rw [fw_r_n _ (by omega), fw_r_n _ (by omega), fw_r_n _ (by omega)]
    refine ⟨g.1, fun k k0 k1 => ?_⟩
    rw [fw_r_n _ (by omega), fw_r_n _ (by omega)]
    exact g.2 k k0 k1
  · (try simp (disch := omega) only [fw_r_n, fw_r_s])
    exact hD.2 i a b
  · simp (disch := omega) only [fw_r_n] at b
    (try simp (disch := omega) only [fw_r_n, fw_r_s])
    exact hF1 p a b
  · (try simp (disch := omega) only [fw_r_n, fw_r_s])
    exact hF2 p a b
theorem fl_R_cap {c m : fw_M} {q v : Int} (r : fl_R c m) : fl_R (fw_u c 36 q v) (fw_u m 35 q v) := by
  have hr := r
  obtain ⟨⟨hq, hA, h60, h6⟩, hB, hC, hD, hE, ⟨hF1, hF2⟩, hG⟩ := r
  refine fl_R_up hr ⟨by rw [fl_ptr_36]; exact hq, by (try simp (disch := omega) only [fw_r_n, fw_r_s]); exact hA, by (try simp (disch := omega) only [fw_r_n, fw_r_s]); exact h60, by (try simp (disch := omega) only [fw_r_n, fw_r_s]); exact h6⟩ (fun p a b => ?_) ⟨fun i a b => ?_, fun i a b => ?_⟩ ⟨fun p a b => ?_, fun p a b => ?_⟩ (by (try simp (disch := omega) only [fw_r_n, fw_r_s])) (by (try simp (disch := omega) only [fw_r_n, fw_r_s])) (by (try simp (disch := omega) only [fw_r_n, fw_r_s])) (by (try simp (disch := omega) only [fw_r_n, fw_r_s])) (fun j => by (try simp (disch := omega) only [fw_r_n, fw_r_s])) (fun j => by (try simp (disch := omega) only [fw_r_n, fw_r_s])) (fun j => by (try simp (disch := omega) only [fw_r_n, fw_r_s])) (fun j => by (try simp (disch := omega) only [fw_r_n, fw_r_s])) (fun j => by (try simp (disch := omega) only [fw_r_n, fw_r_s])) (fun j => by (try simp (disch := omega) only [fw_r_n, fw_r_s]))
  · simp (disch := omega) only [fw_r_n] at b
    (try simp (disch := omega) only [fw_r_n, fw_r_s])
    exact hB p a b
  · simp (disch := omega) only [fw_r_n] at b
    have g := hD.1 i a b
    have e42 : fw_r (fw_u m 35 q v) 42 i = fw_r m 42 i := by (try simp (disch := omega) only [fw_r_n, fw_r_s])
    rw [e42]
    refine ⟨?_, fun k k0 k1 => ?_⟩
    · rw [fw_r_u, fw_r_u]
      by_cases hi : i = q
      · rw [if_pos ⟨rfl, hi⟩, if_pos ⟨rfl, hi⟩]
      · rw [if_neg (fun e => hi e.2), if_neg (fun e => hi e.2)]; exact g.1
    · rw [fw_r_n _ (by omega), fw_r_n _ (by omega)]
      exact g.2 k k0 k1
  · (try simp (disch := omega) only [fw_r_n, fw_r_s])
    exact hD.2 i a b
  · simp (disch := omega) only [fw_r_n] at b
    (try simp (disch := omega) only [fw_r_n, fw_r_s])
    exact hF1 p a b
  · (try simp (disch := omega) only [fw_r_n, fw_r_s])
    exact hF2 p a b
theorem fl_act_7 {M v y z : Int} {c m : fw_M} {a5 a6 a7 a8 a9 : fw_V} (h : fg_IN M c m) (r : fl_R c m) (z0 : 0 ≤ z ∧ z < (if 1 < fw_r m 32 3 then fw_r m 32 3 else 1)) : fl_A M c m (fw_E 136 427 [(2, 1), (2, 32), (0, v), (0, y), (0, z), a5, a6, a7, a8, a9] [] c) := by
  have hA := r.1.2.1
  have hq := r.1.1
  have hn := (fg_facts h).2.1
  obtain ⟨w, ew, w0, w1⟩ := fl_low (c := c) (x := fw_sh v 9) (n := 3) (by decide)
  rw [fw_b_136_427, ew, fw_bs, fw_cn_0, fw_b_136_435]
  by_cases c2 : w = 0
  · obtain ⟨u, eu, u0, u1⟩ := fl_low (c := c) (x := fw_sh v 11) (n := 5) (by decide)
    have h1 := fl_O_IN (c' := fw_u c 32 10 (1 + u)) h (fun a j ha => by (try simp (disch := omega) only [fw_r_n, fw_r_s]))
    obtain ⟨e1, i1⟩ := fm_setLimit (p := 1 + u) (a2 := (8, 0)) h1 (by omega)
    refine ⟨fw_u (fw_u c 32 10 (1 + u)) 11 4 (1 + u), fw_u m 32 9 (1 + u), ?_, i1, fl_R_lo (fl_R_lim r) (by omega), fun a j ha => by (try simp (disch := omega) only [fw_r_n, fw_r_s]), by (try simp (disch := omega) only [fw_r_n, fw_r_s])⟩
    rw [if_pos c2, fw_b_136_438, eu, fw_bs, fw_cn_0, fw_b_136_454, fw_w_id (by omega) (by omega), fw_b_136_458, fw_r_s, e1, fw_bs, fw_cn_0, fw_b_136_466, if_pos hA.2.2.2.1.symm, fw_b_136_471]
  · rw [if_neg c2, fw_b_136_477, hA.2.2.1]
    by_cases c0 : fw_r m 32 3 = 0
    · refine ⟨c, m, ?_, h, r, fl_N_refl c, rfl⟩
      rw [if_pos c0, fw_b_136_484]
    · have z1 : z < fw_r m 32 3 := by
        have := z0.2
        split at this <;> omega
      have e44 := r.2.2.2.1.2 z z0.1 (by omega)
      have e36 := (r.2.2.2.1.1 z z0.1 z1).1
      have gE := (h.2.2.2.2.1.1 z z0.1 z1).1
      have cap := (h.1.1.2.2.2.1 z z0.1 z1).2.1
      obtain ⟨u, eu, u0, u1⟩ := fl_low (c := c) (x := fw_sh v 11) (n := 31) (by decide)
      rw [if_neg c0, fw_b_136_486 _ _ _ _ _ _ _ _ _ hq z0.1 (by omega), eu, fw_bs, fw_cn_0, e44, e36, fw_b_136_521 _ _ _ _ _ _ _ _ _ _ _ _ z0.1 (by omega)]
      have hb : ∃ b, (if (if 1 < fw_r m 42 z then fw_r m 42 z else 1) < u then u else (if 1 < fw_r m 42 z then fw_r m 42 z else 1)) = b ∧ 1 ≤ b ∧ b ≤ 30 ∧ fw_r m 42 z ≤ b := ⟨_, rfl, by split <;> split <;> omega, by split <;> split <;> omega, by split <;> split <;> omega⟩
      obtain ⟨b, eb, b0, b1, b2⟩ := hb
      rw [eb]
      have p1 : fl_ptr (fw_u c 36 z b) := by rw [fl_ptr_36]; exact hq
      have h1 := fl_O_IN (c' := fw_u c 36 z b) h (fun a j ha => by (try simp (disch := omega) only [fw_r_n, fw_r_s]))
      obtain ⟨e1, i1⟩ := fm_setCapacity (p := z) (q := b) (z3 := (8, 0)) (z4 := (8, 0)) h1 ⟨z0.1, z1⟩ ⟨b0, b1⟩ b2
      refine ⟨fw_u (fw_u c 36 z b) (51 + 3 * z) 2 b, fw_u m 35 z b, ?_, i1, fl_R_lo (fl_R_cap r) (by omega), fun a j ha => by (try simp (disch := omega) only [fw_r_n, fw_r_s]), by (try simp (disch := omega) only [fw_r_n, fw_r_s])⟩
      rw [fw_b_136_525 _ _ _ _ _ _ _ _ _ p1 z0.1 (by omega), fw_r_s, e1, fw_bs, fw_cn_0, fw_b_136_538, if_pos rfl, fw_b_136_543]
