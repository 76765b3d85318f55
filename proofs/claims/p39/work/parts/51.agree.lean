/-! the law's comparison -/
/-- as before, but d caught -/
def fl_X (d : Int) (c c' : fw_M) : Prop := (∀ a j, a ≠ -1 → fw_r c' a j = fw_r c a j) ∧ fw_r c' (-1) 0 = fw_r c (-1) 0 ∧ fw_r c' (-1) 1 ≤ fw_r c (-1) 1 + d ∧ fw_r c' (-1) 2 ≤ fw_r c (-1) 2 + 6 * d
theorem fl_X_refl (c : fw_M) : fl_X 0 c c := ⟨fun _ _ _ => rfl, rfl, by omega, by omega⟩
theorem fl_X_trans {d e : Int} {a b c : fw_M} (h : fl_X d a b) (h2 : fl_X e b c) : fl_X (d + e) a c :=
  ⟨fun x j hx => (h2.1 x j hx).trans (h.1 x j hx), h2.2.1.trans h.2.1, by have := h.2.2.1; have := h2.2.2.1; omega, by have := h.2.2.2; have := h2.2.2.2; omega⟩
theorem fl_X_mono {d e : Int} {a b : fw_M} (h : fl_X d a b) (hd : d ≤ e) : fl_X e a b := ⟨h.1, h.2.1, by have := h.2.2.1; omega, by have := h.2.2.2; omega⟩
theorem fl_X_x (c : fw_M) : fl_X 1 c (fw_ex c) := ⟨fun a j ha => fw_r_x _ _ _ ha, rfl, by rw [fw_r_x1]; omega, by rw [fw_r_x2]; omega⟩
theorem fl_X_ptr {d : Int} {c c' : fw_M} (h : fl_X d c c') (hp : fw_ptr c) : fw_ptr c' := fun q hq => by
  rw [h.1 _ _ (by have := fw_ps_le q hq; omega)]; exact hp q hq
theorem fl_X_IN {d M : Int} {c c' m : fw_M} (hx : fl_X d c c') (h : fg_IN M c m) : fg_IN M c' m :=
  fg_IN_eq h (fun a j ha => hx.1 a j (by omega)) (fg_AG_refl m) (fl_X_ptr hx h.1.1.1.1) h.1.2
theorem fl_X_R {d : Int} {c c' m : fw_M} (hx : fl_X d c c') (r : fl_R c m) : fl_R c' m := fl_R_c r (fun a j x _ => hx.1 a j (by omega))
theorem fl_trayAt {M p : Int} {c m : fw_M} {a2 : fw_V} (h : fg_IN M c m) (c1 : 0 ≤ p ∧ p < fw_r m 32 1) : ∃ c', fw_E 132 0 [(2, 1), (0, p), a2] [] c = some ((0, fw_r m 33 p), c') ∧ fl_X 1 c c' := by
  by_cases q : fw_r m 33 p = -1
  · refine ⟨fw_ex c, ?_, fl_X_x c⟩
    rw [fw_b_132_0, fm_trayAt_f h c1 q, fw_bs, fw_h132_4, fw_b_132_6, q]
  · refine ⟨c, ?_, fl_X_mono (fl_X_refl c) (by decide)⟩
    rw [fw_b_132_0, fm_trayAt_t h c1 q, fw_bs, fw_cn_0, fw_b_132_5]
theorem fl_chuteFor {M p : Int} {c m : fw_M} {a2 : fw_V} (h : fg_IN M c m) (c1 : 0 ≤ p ∧ p < 8) : ∃ c', fw_E 131 0 [(2, 1), (0, p), a2] [] c = some ((0, fw_r m 41 p), c') ∧ fl_X 1 c c' := by
  by_cases q : fw_r m 41 p = -1
  · refine ⟨fw_ex c, ?_, fl_X_x c⟩
    rw [fw_b_131_0, fm_chuteFor_f h c1 q, fw_bs, fw_h131_4, fw_b_131_6, q]
  · refine ⟨c, ?_, fl_X_mono (fl_X_refl c) (by decide)⟩
    rw [fw_b_131_0, fm_chuteFor_t h c1 q, fw_bs, fw_cn_0, fw_b_131_5]
/-! parcels -/
theorem fm_ag_1 {M : Int} {c m : fw_M} {a5 a6 : fw_V} (h : fg_IN M c m) (r : fl_R c m) : ∀ (k : Nat) (x w d : Int), 0 ≤ x → x + k = fw_r m 32 10 → 0 ≤ w → w ≤ x → 0 ≤ d → d ≤ x → fw_E 133 7 [(2, 1), (2, 32), (0, w), (0, d), (0, x), a5, a6] [] c = fw_E 133 136 [(2, 1), (2, 32), (0, w + fg_sf (fg_sv m 0) x k), (0, d + fg_sf (fg_sv m 1) x k), (0, fw_r m 32 10), a5, a6] [] c := by
  have hq := r.1.1
  have h60 := r.1.2.2.1
  have h11 := r.1.2.1.2.2.2.2.1
  intro k
  induction k with
  | zero =>
    intro x w d x0 hx w0 w1 d0 d1
    have e : fw_r m 32 10 = x := by omega
    rw [fw_b_133_7, if_neg (by omega), fg_sf, fg_sf, Int.add_zero, Int.add_zero, e]
  | succ k ih =>
    intro x w d x0 hx w0 w1 d0 d1
    have g := r.2.2.2.2.2.1.1 x x0 (by omega)
    have g48 := r.2.2.2.2.2.1.2 x x0 (by omega)
    have gc := h.2.2.1.2.2.2.1 x x0 (by omega)
    have cd := fg_code_i gc.2.1
    have e79 := fm_stateOf h ⟨x0, by omega⟩
    have s0 : fg_sv m 0 x = if fw_r m 39 x = 0 then 1 else 0 := rfl
    have s1 : fg_sv m 1 x = if fw_r m 39 x = 1 then 1 else 0 := rfl
    have tail : ∀ w' d', 0 ≤ w' → w' ≤ x + 1 → 0 ≤ d' → d' ≤ x + 1 → fw_E 133 62 [(2, 1), (2, 32), (0, w'), (0, d'), (0, x), a5, a6] [(0, fg_code (fw_r m 39 x))] c = fw_E 133 136 [(2, 1), (2, 32), (0, w' + fg_sf (fg_sv m 0) (x + 1) k), (0, d' + fg_sf (fg_sv m 1) (x + 1) k), (0, fw_r m 32 10), a5, a6] [] c := by
      intro w' d' a1 a2 a3 a4
      have e130 : fw_E 133 130 [(2, 1), (2, 32), (0, w'), (0, d'), (0, x), a5, a6] [] c = fw_E 133 136 [(2, 1), (2, 32), (0, w' + fg_sf (fg_sv m 0) (x + 1) k), (0, d' + fg_sf (fg_sv m 1) (x + 1) k), (0, fw_r m 32 10), a5, a6] [] c := by
        rw [fw_b_133_130, fw_w_id (by omega) (by omega)]
        exact ih (x + 1) w' d' (by omega) (by omega) a1 a2 a3 a4
      have e100 : fw_E 133 100 [(2, 1), (2, 32), (0, w'), (0, d'), (0, x), a5, a6] [] c = fw_E 133 136 [(2, 1), (2, 32), (0, w' + fg_sf (fg_sv m 0) (x + 1) k), (0, d' + fg_sf (fg_sv m 1) (x + 1) k), (0, fw_r m 32 10), a5, a6] [] c := by
        rw [fw_b_133_100 _ _ _ _ _ _ hq x0 (by omega), g.2.2.1]
        by_cases c3 : fw_r m 39 x = 3
        · rw [if_pos (cd.2.2.2 c3), fw_b_133_112, fm_truckOf h ⟨x0, by omega⟩ c3, fw_bs, fw_cn_0, fw_b_133_118 _ _ _ _ _ _ _ hq x0 (by omega), g.2.2.2 c3, if_pos rfl, e130]
        · rw [if_neg (fun e => c3 (cd.2.2.1 e)), e130]
      rw [fw_b_133_62 _ _ _ _ _ _ _ hq x0 (by omega), g.2.2.1, if_pos rfl, fw_b_133_72 _ _ _ _ _ _ hq x0 (by omega), g.2.2.1]
      by_cases c0 : fw_r m 39 x = 0
      · rw [if_pos (cd.1.2 c0), e100]
      · rw [if_neg (fun e => c0 (cd.1.1 e)), fw_b_133_84, fm_roundsOf h ⟨x0, by omega⟩ c0, fw_bs, fw_cn_0, fw_b_133_90 _ _ _ _ _ _ _ hq x0 (by omega), g48, if_pos rfl, e100]
    have fin : ∀ w' d', w' + fg_sf (fg_sv m 0) (x + 1) k = w + fg_sf (fg_sv m 0) x (k + 1) → d' + fg_sf (fg_sv m 1) (x + 1) k = d + fg_sf (fg_sv m 1) x (k + 1) → 0 ≤ w' → w' ≤ x + 1 → 0 ≤ d' → d' ≤ x + 1 → fw_E 133 62 [(2, 1), (2, 32), (0, w'), (0, d'), (0, x), a5, a6] [(0, fg_code (fw_r m 39 x))] c = fw_E 133 136 [(2, 1), (2, 32), (0, w + fg_sf (fg_sv m 0) x (k + 1)), (0, d + fg_sf (fg_sv m 1) x (k + 1)), (0, fw_r m 32 10), a5, a6] [] c := fun w' d' q1 q2 q3 q4 q5 q6 => by
      rw [tail w' d' q3 q4 q5 q6, q1, q2]
    rw [fw_b_133_7, if_pos (by omega), fw_b_133_16 _ _ _ _ _ _ hq x0 (by omega), g.2.2.1]
    by_cases c0 : fw_r m 39 x = 0
    · rw [if_pos c0] at s0
      rw [if_neg (by omega)] at s1
      rw [if_pos (cd.1.2 c0), fw_b_133_29 _ _ _ _ _ _ _ hq x0 (by omega), g.2.2.1, if_neg (fun e => by have := cd.2.1.1 e; omega), fw_b_133_53, e79, fw_bs, fw_cn_0, fw_w_id (x := w + 1) (by omega) (by omega), fw_w_id (x := d + 0) (by omega) (by omega)]
      exact fin (w + 1) (d + 0) (by rw [fg_sf, s0]; omega) (by rw [fg_sf, s1]; omega) (by omega) (by omega) (by omega) (by omega)
    · rw [if_neg c0] at s0
      rw [if_neg (fun e => c0 (cd.1.1 e)), fw_b_133_33 _ _ _ _ _ _ _ hq x0 (by omega), g.2.2.1, fw_w_id (x := w + 0) (by omega) (by omega)]
      by_cases c1 : fw_r m 39 x = 1
      · rw [if_pos c1] at s1
        rw [if_pos (cd.2.1.2 c1), fw_b_133_49, e79, fw_bs, fw_cn_0, fw_w_id (x := d + 1) (by omega) (by omega)]
        exact fin (w + 0) (d + 1) (by rw [fg_sf, s0]; omega) (by rw [fg_sf, s1]; omega) (by omega) (by omega) (by omega) (by omega)
      · rw [if_neg c1] at s1
        rw [if_neg (fun e => c1 (cd.2.1.1 e)), fw_b_133_53, e79, fw_bs, fw_cn_0, fw_w_id (x := d + 0) (by omega) (by omega)]
        exact fin (w + 0) (d + 0) (by rw [fg_sf, s0]; omega) (by rw [fg_sf, s1]; omega) (by omega) (by omega) (by omega) (by omega)
/-- how many wait, how many ride -/
theorem fl_counts {M : Int} {c m : fw_M} (h : fg_IN M c m) : fg_sf (fg_sv m 0) 0 (fw_r m 32 10).toNat = fw_r m 32 10 - fw_r m 32 15 ∧ fg_sf (fg_sv m 1) 0 (fw_r m 32 10).toNat = fw_r m 32 15 - fw_r m 32 17 := by
  have hF := h.2.1.2.1.2.1
  have gC := h.2.2.1.2.2.2.1
  have g2 := h.2.2.2.1.1.2
  have e : (fw_r m 32 10).toNat = (fw_r m 32 15).toNat + (fw_r m 32 10 - fw_r m 32 15).toNat := by omega
  have e2 : (0 : Int) + ((fw_r m 32 15).toNat : Int) = fw_r m 32 15 := by omega
  have b1 : fg_sf (fg_sv m 0) 0 (fw_r m 32 15).toNat = 0 := fg_sf_0 _ _ (fun p a b => by
    have := gC p a (by omega)
    unfold fg_sv; rw [if_neg (by omega)])
  have b2 := fg_sf_bd (f := fg_sv m 0) (lo := 1) (hi := 1) (fw_r m 32 10 - fw_r m 32 15).toNat (fw_r m 32 15) (fun p a b => by
    have := gC p (by omega) (by omega)
    unfold fg_sv; rw [if_pos (by omega)]; omega)
  have b3 : fg_sf (fg_sv m 1) (fw_r m 32 15) (fw_r m 32 10 - fw_r m 32 15).toNat = 0 := fg_sf_0 _ _ (fun p a b => by
    have := gC p (by omega) (by omega)
    unfold fg_sv; rw [if_neg (by omega)])
  have b4 := fl_sf_add (fg_sv m 1) (fg_s2 m) (fw_r m 32 15).toNat 0
  have b5 := fg_sf_bd (f := fun j => fg_sv m 1 j + fg_s2 m j) (lo := 1) (hi := 1) (fw_r m 32 15).toNat 0 (fun p a b => by
    have := gC p a (by omega)
    unfold fg_sv fg_s2
    (try dsimp only)
    by_cases c1 : fw_r m 39 p = 1
    · rw [if_pos c1, if_neg (by omega)]; omega
    · rw [if_neg c1, if_pos (by omega)]; omega)
  rw [e, fg_sf_add, fg_sf_add, e2]
  omega
/-! trays -/
theorem fm_ag_2 {M w d : Int} {m : fw_M} : ∀ (k : Nat) (x : Int) (c : fw_M) (a6 : fw_V), fg_IN M c m → fl_R c m → 0 ≤ x → x + k = fw_r m 32 1 → ∃ c' b6, fw_E 133 209 [(2, 1), (2, 32), (0, w), (0, d), (0, 1), (0, x), a6] [] c = fw_E 133 276 [(2, 1), (2, 32), (0, w), (0, d), (0, 1), (0, fw_r m 32 1), b6] [] c' ∧ fl_X k c c' := by
  intro k
  induction k with
  | zero =>
    intro x c a6 h r x0 hx
    have e : fw_r m 32 1 = x := by omega
    have hA := r.1.2.1.1
    refine ⟨c, a6, ?_, fl_X_refl c⟩
    rw [fw_b_133_209, if_neg (by omega), e]
  | succ k ih =>
    intro x c a6 h r x0 hx
    have hA := r.1.2.1
    have hN := (fg_facts h).2.2.1
    have t0 := h.2.2.1.2.2.1
    have hq := r.1.1
    have e1 := fm_tray (p := x) hA.1 hN hA.2.1 t0.1 x0 (by omega)
    have s := fl_s_in (t := fw_r m 32 16) (by omega : 0 < fw_r m 32 1) x0 (by omega)
    have zB := r.2.1 x x0 (by omega)
    obtain ⟨c1, e2, x1⟩ := fl_trayAt (a2 := (8, 0)) h ⟨x0, by omega⟩
    have h1 := fl_X_IN x1 h
    have r1 := fl_X_R x1 r
    have hin := h.2.1.2.1.2.2.1 x x0 (by omega)
    obtain ⟨c2, b6, e3, x2⟩ := ih (x + 1) c1 (0, fw_r m 33 x) h1 r1 (by omega) (by omega)
    refine ⟨c2, b6, ?_, fl_X_mono (fl_X_trans x1 x2) (by omega)⟩
    have e263 : fw_E 133 263 [(2, 1), (2, 32), (0, w), (0, d), (0, 1), (0, x), (0, fw_r m 33 x)] [] c1 = fw_E 133 276 [(2, 1), (2, 32), (0, w), (0, d), (0, 1), (0, fw_r m 32 1), b6] [] c2 := by
      rw [fw_b_133_263, fw_w_id (by omega) (by omega), e3]
    rw [fw_b_133_209, if_pos (by omega), fw_b_133_218, if_neg (by decide), fw_b_133_223 _ _ _ _ _ _ hq, e1, fw_bs, fw_cn_0, fw_b_133_233 _ _ _ _ _ _ _ s.1 (by omega), e2, fw_bs, fw_cn_0, fw_b_133_242, zB, if_pos rfl, fw_b_133_247]
    by_cases c3 : fw_r m 33 x < 0
    · rw [if_pos c3, e263]
    · rw [if_neg c3, fw_b_133_252, fm_positionOf h1 ⟨x0, by omega⟩ (by omega), fw_bs, fw_cn_0, fw_b_133_258, if_pos rfl, e263]
/-! chutes -/
theorem fm_ag_3 {M w d : Int} {c m : fw_M} {a6 : fw_V} (h : fg_IN M c m) (r : fl_R c m) : ∀ (k : Nat) (x : Int), 0 ≤ x → x + k = fw_r m 32 3 → fw_E 133 279 [(2, 1), (2, 32), (0, w), (0, d), (0, 1), (0, x), a6] [] c = fw_E 133 352 [(2, 1), (2, 32), (0, w), (0, d), (0, 1), (0, fw_r m 32 3), a6] [] c := by
  have hA := r.1.2.1.2.2.1
  have hq := r.1.1
  have h6 := r.1.2.2.2
  intro k
  induction k with
  | zero =>
    intro x x0 hx
    have e : fw_r m 32 3 = x := by omega
    rw [fw_b_133_279, if_neg (by omega), e]
  | succ k ih =>
    intro x x0 hx
    have s1 := fm_seal h ⟨x0, by omega⟩
    have s2 := fl_seal (a2 := (8, 0)) (a3 := (8, 0)) (a4 := (8, 0)) (a5 := (8, 0)) (a6 := (8, 0)) h r x0 (by omega)
    have z := r.2.2.2.1.2 x x0 (by omega)
    rw [fw_b_133_279, if_pos (by omega), fw_b_133_288, if_neg (by decide), fw_b_133_293, fm_inChute h ⟨x0, by omega⟩, fw_bs, fw_cn_0, fw_b_133_299 _ _ _ _ _ _ _ hq x0 (by omega), z, if_pos rfl, fw_b_133_309, s1.1, fw_bs, fw_cn_0, fw_b_133_315, s2, fw_bs, fw_cn_0, fw_b_133_321, if_pos rfl, fw_b_133_324, s1.2, fw_bs, fw_cn_0, fw_b_133_330, s2, fw_bs, fw_cn_0, fw_b_133_336, if_pos rfl, fw_b_133_339, fw_w_id (by omega) (by omega), ih (x + 1) (by omega) (by omega)]
/-! routes -/
theorem fm_ag_4 {M w d : Int} {m : fw_M} {a6 : fw_V} : ∀ (k : Nat) (x : Int) (c : fw_M), fg_IN M c m → fl_R c m → 0 ≤ x → x + k = 8 → ∃ c', fw_E 133 355 [(2, 1), (2, 32), (0, w), (0, d), (0, 1), (0, x), a6] [] c = fw_E 133 411 [(2, 1), (2, 32), (0, w), (0, d), (0, 1), (0, 8), a6] [] c' ∧ fl_X k c c' := by
  intro k
  induction k with
  | zero =>
    intro x c h r x0 hx
    have e : x = 8 := by omega
    refine ⟨c, ?_, fl_X_refl c⟩
    rw [fw_b_133_355, if_neg (by omega), e]
  | succ k ih =>
    intro x c h r x0 hx
    have hq := r.1.1
    have e1 := fm_load h ⟨x0, by omega⟩
    have e2 := fl_load (q := x) (a2 := (8, 0)) (a3 := (8, 0)) h r
    obtain ⟨c1, e3, x1⟩ := fl_chuteFor (a2 := (8, 0)) h ⟨x0, by omega⟩
    have h1 := fl_X_IN x1 h
    have r1 := fl_X_R x1 r
    obtain ⟨c2, e4, x2⟩ := ih (x + 1) c1 h1 r1 (by omega) (by omega)
    have zE := r1.2.2.2.2.1 x x0 (by omega)
    refine ⟨c2, ?_, fl_X_mono (fl_X_trans x1 x2) (by omega)⟩
    rw [fw_b_133_355, if_pos (by omega), fw_b_133_362, if_neg (by decide), fw_b_133_367, e1, fw_bs, fw_cn_0, fw_b_133_373, e2, fw_bs, fw_cn_0, fw_b_133_379, if_pos rfl, fw_b_133_382, e3, fw_bs, fw_cn_0, fw_b_133_388 _ _ _ _ _ _ _ r1.1.1 x0 (by omega), zE, if_pos rfl, fw_b_133_398, fw_w_id (by omega) (by omega), e4]
theorem fl_agrees {M : Int} {c m : fw_M} {a2 a3 a4 a5 a6 : fw_V} (h : fg_IN M c m) (r : fl_R c m) : ∃ c', fw_E 133 0 [(2, 1), (2, 32), a2, a3, a4, a5, a6] [] c = some ((0, 1), c') ∧ fl_X 28 c c' := by
  have hA := r.1.2.1
  have hP := (fg_facts h).2.2.2.2.2.2
  have hN := (fg_facts h).2.2.1
  have hn := (fg_facts h).2.1
  have hF := h.2.1.2.1.2.1
  have h19 := fg_r19 h
  have cn := fl_counts h
  have p1 := fm_ag_1 (a5 := a5) (a6 := a6) h r (fw_r m 32 10).toNat 0 0 0 (by omega) (by omega) (by omega) (by omega) (by omega) (by omega)
  rw [cn.1, cn.2, Int.zero_add, Int.zero_add] at p1
  obtain ⟨c1, b6, e2, x1⟩ := fm_ag_2 (w := fw_r m 32 10 - fw_r m 32 15) (d := fw_r m 32 15 - fw_r m 32 17) (fw_r m 32 1).toNat 0 c a6 h r (by omega) (by omega)
  have h1 := fl_X_IN x1 h
  have r1 := fl_X_R x1 r
  have p3 := fm_ag_3 (w := fw_r m 32 10 - fw_r m 32 15) (d := fw_r m 32 15 - fw_r m 32 17) (a6 := b6) h1 r1 (fw_r m 32 3).toNat 0 (by omega) (by omega)
  obtain ⟨c2, e4, x2⟩ := fm_ag_4 (w := fw_r m 32 10 - fw_r m 32 15) (d := fw_r m 32 15 - fw_r m 32 17) (a6 := b6) 8 0 c1 h1 r1 (by decide) (by decide)
  have h2 := fl_X_IN x2 h1
  have r2 := fl_X_R x2 r1
  have hA2 := r2.1.2.1
  refine ⟨c2, ?_, fl_X_mono (fl_X_trans x1 x2) (by omega)⟩
  have fin : fw_E 133 411 [(2, 1), (2, 32), (0, fw_r m 32 10 - fw_r m 32 15), (0, fw_r m 32 15 - fw_r m 32 17), (0, 1), (0, 8), b6] [] c2 = some ((0, 1), c2) := by
    rw [fw_b_133_411, if_neg (by decide), fw_b_133_416, hA2.2.2.2.2.2.2.1]
    by_cases c0 : fw_r m 32 17 = 0
    · rw [if_pos c0, fw_b_133_461]
    · have m1 := fm_mean h2 c0
      have m2 := fm_share h2 c0
      have b1 := fw_b_133_427 c2 (fw_r m 32 10 - fw_r m 32 15) (fw_r m 32 15 - fw_r m 32 17) 1 8 b6 ((fg_mq m).toNat : Int)
      have dq : FP.ddiv (FP.i2d (Int32.ofInt (fw_r m 32 18))) (FP.i2d (Int32.ofInt (fw_r m 32 17))) = fg_mq m := rfl
      rw [hA2.2.2.2.2.2.2.2.2.1, hA2.2.2.2.2.2.2.1, ff_dd, ff_dd, dq, ff_dd] at b1
      have b2 := fw_b_133_446 c2 (fw_r m 32 10 - fw_r m 32 15) (fw_r m 32 15 - fw_r m 32 17) 1 8 b6 ((fg_oq m).toNat : Int)
      have oq : FP.fdiv (FP.i2f (Int32.ofInt (fw_r m 32 19))) (FP.i2f (Int32.ofInt (fw_r m 32 17))) = fg_oq m := rfl
      rw [hA2.2.2.2.2.2.2.2.1, hA2.2.2.2.2.2.2.1, ff_ff, ff_ff, oq, ff_ff] at b2
      rw [if_neg c0, fw_b_133_423, m1.1, fw_bs]
      show fw_E 133 427 [(2, 1), (2, 32), (0, fw_r m 32 10 - fw_r m 32 15), (0, fw_r m 32 15 - fw_r m 32 17), (0, 1), (0, 8), b6] [(3, ((fg_mq m).toNat : Int))] c2 = _
      rw [b1 m1.2.1]
      rw [if_pos m1.2.2, fw_b_133_442, m2.1, fw_bs]
      show fw_E 133 446 [(2, 1), (2, 32), (0, fw_r m 32 10 - fw_r m 32 15), (0, fw_r m 32 15 - fw_r m 32 17), (0, 1), (0, 8), b6] [(4, ((fg_oq m).toNat : Int))] c2 = _
      rw [b2 m2.2.1]
      rw [if_pos m2.2.2, fw_b_133_461]
  have l1 : (if fw_r c 32 1 < fw_r m 32 16 then (1 : Int) else if fw_r m 32 16 = fw_r c 32 1 then 0 else -1) = 0 := by rw [hA.2.1, if_neg (by omega), if_pos rfl]
  have l2 : (if fw_r c 32 22 < fw_r m 32 29 then (1 : Int) else if fw_r m 32 29 = fw_r c 32 22 then 0 else -1) = 0 := by rw [hA.2.2.2.2.2.2.2.2.2.2, if_neg (by omega), if_pos rfl]
  rw [fw_b_133_0, p1, fw_b_133_136, fm_waiting h, fw_bs, fw_cn_0, fw_w_id (by omega) (by omega), fw_b_133_140, if_pos rfl, fw_b_133_144, fm_onLoop h, fw_bs, fw_cn_0, fw_w_id (by omega) (by omega), fw_b_133_148, if_pos rfl, fw_b_133_152, fm_overflowed h, fw_bs, fw_cn_0, fw_b_133_156, if_pos hA.2.2.2.2.2.2.2.1.symm, fw_b_133_163, fm_tick h, fw_bs, fw_cn_1, fw_b_133_167, if_pos l1, fw_b_133_176, fm_trucks h, fw_bs, fw_cn_0, fw_b_133_180, if_pos hA.2.2.2.2.2.2.2.2.2.1.symm, fw_b_133_187, fm_shipped h, fw_bs, fw_cn_1, fw_b_133_191, if_pos l2, fw_b_133_199, e2, fw_b_133_276, p3, fw_b_133_352, e4, fin]
