/-! arrive, setLoop, addChute -/
def fg_car (σ : fw_M) (P r w : Int) : fw_M := fw_u (fw_u (fw_u (fw_u σ 3 P r) 4 P w) 5 P 119) 2 5 (P + 1)
def fg_mar (σ : fw_M) (P r w : Int) : fw_M := fw_u (fw_u (fw_u σ 37 P r) 38 P w) 32 10 (P + 1)
theorem fg_IN_arrive {M P r w : Int} {σ : fw_M} (h : fg_IN M σ σ) (hP : fw_r σ 32 10 = P) (hl : P < 300) (hr : 0 ≤ r ∧ r < 8) (hw : 1 ≤ w ∧ w ≤ 9) : fg_IN M (fg_car σ P r w) (fg_mar σ P r w) ∧ fw_ptr (fg_car σ P r w) := by
  obtain ⟨gA, gB, gC, gD, gE, gF, gG, gH, gI⟩ := h
  obtain ⟨⟨a1, a2, a3⟩, ⟨b0, b1, b2, b3, b4, b5⟩, ⟨f1, f2, f3, f4⟩, e2, e3, e4, e5⟩ := gA.1
  have hF := gB.2.1.2.1
  have hp1 : fw_ptr (fg_car σ P r w) := by unfold fg_car; rw [fw_ptr_2_5, fw_ptr_5, fw_ptr_4, fw_ptr_3]; exact a1
  have hp2 : fw_ptr (fg_mar σ P r w) := by unfold fg_mar; rw [fw_ptr_32_10, fw_ptr_38, fw_ptr_37]; exact a1
  have oc : ∀ a j, (a ≠ 3 ∨ j ≠ P) → (a ≠ 4 ∨ j ≠ P) → (a ≠ 5 ∨ j ≠ P) → (a ≠ 2 ∨ j ≠ 5) → fw_r (fg_car σ P r w) a j = fw_r σ a j := fun a j x y z u => by unfold fg_car; (try simp (disch := omega) only [fw_r_n, fw_r_s])
  have om : ∀ a j, (a ≠ 37 ∨ j ≠ P) → (a ≠ 38 ∨ j ≠ P) → (a ≠ 32 ∨ j ≠ 10) → fw_r (fg_mar σ P r w) a j = fw_r σ a j := fun a j x y z => by unfold fg_mar; (try simp (disch := omega) only [fw_r_n, fw_r_s])
  have c3 : fw_r (fg_car σ P r w) 3 P = r := by unfold fg_car; (try simp (disch := omega) only [fw_r_n, fw_r_s])
  have c4 : fw_r (fg_car σ P r w) 4 P = w := by unfold fg_car; (try simp (disch := omega) only [fw_r_n, fw_r_s])
  have c5 : fw_r (fg_car σ P r w) 5 P = 119 := by unfold fg_car; (try simp (disch := omega) only [fw_r_n, fw_r_s])
  have c25 : fw_r (fg_car σ P r w) 2 5 = P + 1 := by unfold fg_car; (try simp (disch := omega) only [fw_r_n, fw_r_s])
  have m37 : fw_r (fg_mar σ P r w) 37 P = r := by unfold fg_mar; (try simp (disch := omega) only [fw_r_n, fw_r_s])
  have m38 : fw_r (fg_mar σ P r w) 38 P = w := by unfold fg_mar; (try simp (disch := omega) only [fw_r_n, fw_r_s])
  have m10 : fw_r (fg_mar σ P r w) 32 10 = P + 1 := by unfold fg_mar; (try simp (disch := omega) only [fw_r_n, fw_r_s])
  have oc' : ∀ a j, a ≠ 3 → a ≠ 4 → a ≠ 5 → a ≠ 2 → fw_r (fg_car σ P r w) a j = fw_r σ a j := fun a j x y z u => oc a j (Or.inl x) (Or.inl y) (Or.inl z) (Or.inl u)
  have oc2 : ∀ j, j ≠ 5 → fw_r (fg_car σ P r w) 2 j = fw_r σ 2 j := fun j x => oc 2 j (Or.inl (by decide)) (Or.inl (by decide)) (Or.inl (by decide)) (Or.inr x)
  have om' : ∀ a j, a ≠ 37 → a ≠ 38 → a ≠ 32 → fw_r (fg_mar σ P r w) a j = fw_r σ a j := fun a j x y z => om a j (Or.inl x) (Or.inl y) (Or.inl z)
  have om2 : ∀ j, j ≠ 10 → fw_r (fg_mar σ P r w) 32 j = fw_r σ 32 j := fun j x => om 32 j (Or.inl (by decide)) (Or.inl (by decide)) (Or.inr x)
  have x1 := om2 1 (by decide)
  have x3 := om2 3 (by decide)
  have x15 := om2 15 (by decide)
  generalize fg_car σ P r w = c at *
  generalize fg_mar σ P r w = m at *
  have hk1 : fg_cok c := fg_cok_c a2 (oc' _ _ (by decide) (by decide) (by decide) (by decide)) (fun j => oc' _ _ (by decide) (by decide) (by decide) (by decide)) (fun i hi => oc' _ _ (by omega) (by omega) (by omega) (by omega)) (fun i hi => oc' _ _ (by omega) (by omega) (by omega) (by omega))
  refine ⟨⟨?_, ?_, ?_, ?_, ?_, ?_, ?_, ?_, ?_⟩, hp1⟩
  · refine ⟨⟨⟨hp1, hk1, by rw [oc' 11 2 (by decide) (by decide) (by decide) (by decide), x3]; exact a3⟩, ⟨by rw [x1]; exact b0, by rw [oc' 11 3 (by decide) (by decide) (by decide) (by decide), x1]; exact b1, by rw [oc' 11 4 (by decide) (by decide) (by decide) (by decide), om2 9 (by decide)]; exact b2, by rw [oc' 11 5 (by decide) (by decide) (by decide) (by decide), om2 7 (by decide)]; exact b3, by rw [oc' 11 6 (by decide) (by decide) (by decide) (by decide), om2 8 (by decide)]; exact b4, by rw [c25, m10]⟩, ⟨by rw [om2 7 (by decide)]; exact f1, by rw [om2 8 (by decide)]; exact f2, by rw [om2 9 (by decide)]; exact f3, by rw [m10]; omega⟩, fun i x y => ?_, fun i j x y z w' e => ?_, fun q x y => ?_, fun q x y => ?_⟩, hp2⟩
    · rw [x3] at y
      rw [oc' _ _ (by omega) (by omega) (by omega) (by omega), oc' _ _ (by omega) (by omega) (by omega) (by omega), oc' _ _ (by omega) (by omega) (by omega) (by omega), om' 34 _ (by decide) (by decide) (by decide), om' 35 _ (by decide) (by decide) (by decide), om' 36 _ (by decide) (by decide) (by decide), x1]
      exact e2 i x y
    · rw [x3] at y w'
      rw [om' 34 _ (by decide) (by decide) (by decide), om' 34 _ (by decide) (by decide) (by decide)] at e
      exact e3 i j x y z w' e
    · rw [m10] at y
      by_cases hq : q = P
      · subst hq; rw [c3, m37]; exact ⟨rfl, hr⟩
      · rw [oc 3 _ (Or.inr hq) (Or.inl (by decide)) (Or.inl (by decide)) (Or.inl (by decide)), om 37 _ (Or.inr hq) (Or.inl (by decide)) (Or.inl (by decide))]
        exact e4 q x (by omega)
    · rw [oc' 13 _ (by decide) (by decide) (by decide) (by decide), om' 41 _ (by decide) (by decide) (by decide), x3]
      exact e5 q x y
  · obtain ⟨g1, g2, g3⟩ := gB
    obtain ⟨t1, t2, t3, t4, t5⟩ := g2
    have o33 : ∀ j, fw_r m 33 j = fw_r σ 33 j := fun j => om' 33 _ (by decide) (by decide) (by decide)
    have o40 : ∀ j, fw_r m 40 j = fw_r σ 40 j := fun j => om' 40 _ (by decide) (by decide) (by decide)
    refine ⟨fg_RB_m (fg_RB_c g1 (fun j => oc' _ _ (by decide) (by decide) (by decide) (by decide)) (fun j => oc' _ _ (by decide) (by decide) (by decide) (by decide)) (fun j => oc' _ _ (by decide) (by decide) (by decide) (by decide))) x1 o33 o40, ⟨by rw [x1]; exact t1, by rw [x15, m10]; omega, fun p x y => by rw [x1] at y; rw [o33, x15]; exact t3 p x y, fun p q x y z w' e ne => by rw [x1] at y w'; rw [o33] at e ne; rw [o33] at e; exact t4 p q x y z w' e ne, fun p x y => ?_⟩, fun p x y => by rw [x1] at x; rw [o33]; exact g3 p x y⟩
    rw [x15] at x
    rw [m10] at y
    rw [o40]
    by_cases hq : p = P
    · exact (gC.2.2.2.2 p (by omega) (by omega)).2
    · exact t5 p x (by omega)
  · obtain ⟨g1, g2, g3, g4, g5⟩ := gC
    refine ⟨by rw [oc2 6 (by decide), x15]; exact g1, by rw [oc' 1 8 (by decide) (by decide) (by decide) (by decide), om2 16 (by decide)]; exact g2, by rw [om2 16 (by decide)]; exact g3, fun q x y => ?_, fun q x y => ?_⟩
    · rw [m10] at y
      rw [om' 39 _ (by decide) (by decide) (by decide), om' 40 _ (by decide) (by decide) (by decide), x15, oc' 6 _ (by decide) (by decide) (by decide) (by decide), oc' 7 _ (by decide) (by decide) (by decide) (by decide), om' 47 _ (by decide) (by decide) (by decide)]
      by_cases hq : q = P
      · subst hq
        have z := g5 q (by omega) hl
        rw [c4, m38, c5, z.1, z.2]
        refine ⟨⟨rfl, hw⟩, by omega, rfl, ⟨fun _ => by omega, fun _ => rfl⟩, fun e => by omega, fun e => by omega, by omega⟩
      · rw [oc 4 _ (Or.inl (by decide)) (Or.inr hq) (Or.inl (by decide)) (Or.inl (by decide)), om 38 _ (Or.inl (by decide)) (Or.inr hq) (Or.inl (by decide)), oc 5 _ (Or.inl (by decide)) (Or.inl (by decide)) (Or.inr hq) (Or.inl (by decide))]
        exact g4 q x (by omega)
    · rw [m10] at x
      rw [om' 39 _ (by decide) (by decide) (by decide), om' 40 _ (by decide) (by decide) (by decide)]
      exact g5 q (by omega) y
  · exact fg_gD_c gD (oc2 _ (by decide)) (oc2 _ (by decide)) (oc2 _ (by decide)) (oc' _ _ (by decide) (by decide) (by decide) (by decide)) (oc' _ _ (by decide) (by decide) (by decide) (by decide)) x15 (om2 _ (by decide)) (om2 _ (by decide)) (om2 _ (by decide)) (om2 _ (by decide)) (fun j => om' _ _ (by decide) (by decide) (by decide))
  · exact fg_gE_c gE (fun i hi => ⟨oc' _ _ (by omega) (by omega) (by omega) (by omega), oc' _ _ (by omega) (by omega) (by omega) (by omega), oc' _ _ (by omega) (by omega) (by omega) (by omega), fun k => oc' _ _ (by omega) (by omega) (by omega) (by omega)⟩) x3 x15 (fun j => om' _ _ (by decide) (by decide) (by decide)) (fun j => om' _ _ (by decide) (by decide) (by decide)) (fun j => om' _ _ (by decide) (by decide) (by decide)) (fun j => om' _ _ (by decide) (by decide) (by decide)) (fun j => om' _ _ (by decide) (by decide) (by decide)) (fun j => om' _ _ (by decide) (by decide) (by decide)) (fun j => om' _ _ (by decide) (by decide) (by decide))
  · exact fg_gF_c gF x1 (fun j => om' _ _ (by decide) (by decide) (by decide)) (fun j => om' _ _ (by decide) (by decide) (by decide))
  · exact fg_gG_c gG (fun j => oc' _ _ (by decide) (by decide) (by decide) (by decide)) x15 (om2 _ (by decide)) (fun j => om' _ _ (by decide) (by decide) (by decide))
  · exact fg_gH_c gH (oc' _ _ (by decide) (by decide) (by decide) (by decide)) (oc' _ _ (by decide) (by decide) (by decide) (by decide)) (fun j => oc' _ _ (by decide) (by decide) (by decide) (by decide)) (fun j => oc' _ _ (by decide) (by decide) (by decide) (by decide)) x15 (om2 _ (by decide)) (fun j => om' _ _ (by decide) (by decide) (by decide)) (fun j => om' _ _ (by decide) (by decide) (by decide)) (fun j => om' _ _ (by decide) (by decide) (by decide)) (fun j => om' _ _ (by decide) (by decide) (by decide))
  · intro q hq
    have g := gI q hq
    rw [fg_chs_c x3 (fun j => om' _ _ (by decide) (by decide) (by decide)) (fun j => om' _ _ (by decide) (by decide) (by decide)) q, fg_cnt_c (fun j => om' 33 j (by decide) (by decide) (by decide)), fg_cnt_c (fun j => oc' 29 j (by decide) (by decide) (by decide) (by decide)), fg_cnt_c (fun j => oc' 26 j (by decide) (by decide) (by decide) (by decide)), oc' 28 1 (by decide) (by decide) (by decide) (by decide), x1, x15, om2 19 (by decide), m10]
    rw [hP] at g
    by_cases z : q = P
    · rw [if_neg (by omega), if_neg (by omega)] at g
      rw [if_pos (by omega), if_pos (by omega)]; omega
    · by_cases z2 : q < P
      · rw [if_pos z2] at g
        rw [if_pos (by omega : q < P + 1)]
        by_cases z3 : fw_r σ 32 15 ≤ q
        · rw [if_pos ⟨z3, z2⟩] at g
          rw [if_pos ⟨z3, by omega⟩]; exact g
        · rw [if_neg (fun hx => z3 hx.1)] at g
          rw [if_neg (fun hx => z3 hx.1)]; exact g
      · rw [if_neg z2, if_neg (by omega)] at g
        rw [if_neg (by omega), if_neg (by omega)]; exact g
theorem fg_car_AQ {c c' : fw_M} (h : fg_AQ c c') (P r w : Int) : fg_AQ (fg_car c P r w) (fg_car c' P r w) := fg_AQ_u (fg_AQ_u (fg_AQ_u (fg_AQ_u h _ _ _) _ _ _) _ _ _) _ _ _
theorem fg_mar_AG {m m' : fw_M} (h : fg_AG m m') (P r w : Int) : fg_AG (fg_mar m P r w) (fg_mar m' P r w) := fg_AG_u (fg_AG_u (fg_AG_u h _ _ _) _ _ _) _ _ _
theorem fm_arrive {M P r w : Int} {c m : fw_M} (h : fg_IN M c m) (hP : fw_r m 32 10 = P) (hl : P < 300) (c1 : 0 ≤ r ∧ r < 8) (c2 : 1 ≤ w ∧ w ≤ 9) : fw_E 76 0 [(2, 1), (0, r), (0, w)] [] c = some ((0, P), fg_car c P r w) ∧ fg_IN M (fg_car c P r w) (fg_mar m P r w) := by
  obtain ⟨⟨hp, hk, hpk⟩, ⟨h3, h30, h36⟩, hN, h82, h113, h25, hP2⟩ := fg_facts h
  have r1 := fs_isRoute_t (σ := c) c1.1 c1.2
  have r4 := fs_add (r := r) (w := w) (a3 := (8, 0)) hp hpk (by omega)
  rw [h25, hP] at r4
  have r5 : fw_E 34 0 [(2, 2), (0, r), (0, w), (8, 0)] [] c = some ((0, P), fg_car c P r w) := r4
  obtain ⟨q1, q2⟩ := fg_IN_arrive (fg_th_IN h) (by rw [fg_th_m c m _ (by decide)]; exact hP) hl c1 c2
  have qq := fg_car_AQ (fg_th_AQ c m) P r w
  refine ⟨?_, fg_IN_eq q1 (fg_AQ_AC qq) (fg_mar_AG (fg_th_AG' c m) P r w) (fg_AQ_ptr qq q2) (by unfold fg_mar; rw [fw_ptr_32_10, fw_ptr_38, fw_ptr_37]; exact h.1.2)⟩
  rw [fw_b_76_0, r1, fw_bs, fw_cn_0, fw_b_76_4, if_neg (by decide), fw_b_76_7, if_neg (by omega), fw_b_76_12, if_neg (by omega), fw_b_76_26 _ _ _ hp, if_pos (by omega), fw_b_76_47 _ _ _ hp, r5, fw_bs, fw_cn_0, fw_b_76_56]
def fg_mt (σ : fw_M) (b lo hi : Int) : fw_M := fun a j => if a = b + 1 ∧ lo ≤ j ∧ j < hi then -1 else if a = b + 2 ∧ lo ≤ j ∧ j < hi then 0 else fw_r σ a j
theorem fg_mt_r (σ : fw_M) (b lo hi a j : Int) : fw_r (fg_mt σ b lo hi) a j = if a = b + 1 ∧ lo ≤ j ∧ j < hi then -1 else if a = b + 2 ∧ lo ≤ j ∧ j < hi then 0 else fw_r σ a j := rfl
theorem fg_mt_o (σ : fw_M) (b lo hi : Int) {a j : Int} (h1 : a ≠ b + 1) (h2 : a ≠ b + 2) : fw_r (fg_mt σ b lo hi) a j = fw_r σ a j := by
  show (if a = b + 1 ∧ lo ≤ j ∧ j < hi then -1 else if a = b + 2 ∧ lo ≤ j ∧ j < hi then 0 else fw_r σ a j) = _
  rw [if_neg (fun h => h1 h.1), if_neg (fun h => h2 h.1)]
theorem fg_mt_1 (σ : fw_M) {b lo hi j : Int} (h : lo ≤ j) (h2 : j < hi) : fw_r (fg_mt σ b lo hi) (b + 1) j = -1 := by
  show (if b + 1 = b + 1 ∧ lo ≤ j ∧ j < hi then -1 else if b + 1 = b + 2 ∧ lo ≤ j ∧ j < hi then 0 else fw_r σ (b + 1) j) = _
  rw [if_pos ⟨rfl, h, h2⟩]
theorem fg_mt_2 (σ : fw_M) {b lo hi j : Int} (h : lo ≤ j) (h2 : j < hi) : fw_r (fg_mt σ b lo hi) (b + 2) j = 0 := by
  show (if b + 2 = b + 1 ∧ lo ≤ j ∧ j < hi then -1 else if b + 2 = b + 2 ∧ lo ≤ j ∧ j < hi then 0 else fw_r σ (b + 2) j) = _
  rw [if_neg (by omega), if_pos ⟨rfl, h, h2⟩]
theorem fg_mt_ptr (σ : fw_M) (lo hi : Int) : fw_ptr (fg_mt σ 8 lo hi) = fw_ptr σ := by
  have hd : ∀ q ∈ fw_psT, q.1 ≠ 8 + 1 ∧ q.1 ≠ 8 + 2 := by decide
  apply propext
  constructor
  · intro hp q hq
    have h1 := hp q hq
    rwa [fg_mt_o _ _ _ _ (hd q hq).1 (hd q hq).2] at h1
  · intro hp q hq
    rw [fg_mt_o _ _ _ _ (hd q hq).1 (hd q hq).2]
    exact hp q hq
theorem fs_me_lp {b x1 : Int} (hb : b = 8 ∨ b = 18) : ∀ (k : Nat) (i : Int) (σ : fw_M), fw_r σ b 0 = b + 1 → fw_r σ b 1 = b + 2 → 0 ≤ i → i + k = 20 → fw_E 2 21 [(2, b), (0, x1), (0, i)] [] σ = some ((5, 0), fg_mt σ b i 20) := by
  intro k
  induction k with
  | zero =>
    intro i σ e0 e1 h0 h1
    rw [fw_b_2_21, if_neg (by omega), fw_b_2_47]
    congr 2
    funext a j
    unfold fg_mt fw_r
    rw [if_neg (by omega), if_neg (by omega)]
  | succ k ih =>
    intro i σ e0 e1 h0 h1
    have r1 := ih (i + 1) (fw_u (fw_u σ (b + 1) i (-1)) (b + 2) i 0) (by rw [fw_r_k _ (by omega), fw_r_k _ (by omega)]; exact e0) (by rw [fw_r_k _ (by omega), fw_r_k _ (by omega)]; exact e1) (by omega) (by omega)
    have e2 : fw_r (fw_u σ (b + 1) i (-1)) b 1 = b + 2 := by rw [fw_r_k _ (by omega)]; exact e1
    rw [fw_b_2_21, if_pos (by omega), fw_b_2_27 _ _ _ _ (fw_kd_b hb) (by rw [e0]; exact fw_kd_b1 hb) (by omega) (by rw [e0, fw_ln_b1 hb]; omega), e0, fw_b_2_34 _ _ _ _ (fw_kd_b hb) (by rw [e2]; exact fw_kd_b2 hb) (by omega) (by rw [e2, fw_ln_b2 hb]; omega), e2, fw_b_2_41, fw_w_id (by omega) (by omega), r1]
    congr 2
    funext a j
    show fw_r (fg_mt (fw_u (fw_u σ (b + 1) i (-1)) (b + 2) i 0) b (i + 1) 20) a j = fw_r (fg_mt σ b i 20) a j
    rw [fg_mt_r, fg_mt_r, fw_r_u, fw_r_u]
    repeat' split
    all_goals first | rfl | omega
theorem fs_me {b N : Int} {a2 : fw_V} {σ : fw_M} (hb : b = 8 ∨ b = 18) (e0 : fw_r σ b 0 = b + 1) (e1 : fw_r σ b 1 = b + 2) (hN : 4 ≤ N ∧ N ≤ 20) : fw_E 2 0 [(2, b), (0, N), a2] [] σ = some ((5, 0), fg_mt (fw_u (fw_u σ b 2 N) b 3 0) b 0 20) := by
  rw [fw_b_2_0 _ _ _ _ (fw_kd_b hb), if_neg (by omega : ¬20 < N), if_pos (by omega : 1 < N), fw_b_2_14 _ _ _ _ (fw_kd_b hb), fw_b_2_19]
  exact fs_me_lp hb 20 0 _ (by rw [fw_r_j _ (by decide), fw_r_j _ (by decide)]; exact e0) (by rw [fw_r_j _ (by decide), fw_r_j _ (by decide)]; exact e1) (by omega) (by omega)
def fg_cmt (σ : fw_M) (N : Int) : fw_M := fw_u (fg_mt (fw_u (fw_u σ 8 2 N) 8 3 0) 8 0 20) 11 3 (N - 1)
theorem fg_IN_loop {M N : Int} {σ : fw_M} (h : fg_IN M σ σ) (h3 : fw_r σ 32 3 = 0) (h10 : fw_r σ 32 10 = 0) (hN : 4 ≤ N ∧ N ≤ 20) (hM : 0 ≤ M) : fg_IN M (fg_cmt σ N) (fw_u σ 32 1 N) ∧ fw_ptr (fg_cmt σ N) := by
  obtain ⟨gA, gB, gC, gD, gE, gF, gG, gH, gI⟩ := h
  obtain ⟨⟨a1, a2, a3⟩, ⟨b0, b1, b2, b3, b4, b5⟩, ⟨f1, f2, f3, f4⟩, e2, e3, e4, e5⟩ := gA.1
  have hF := gB.2.1.2.1
  have hp1 : fw_ptr (fg_cmt σ N) := by unfold fg_cmt; rw [fw_ptr_11_3, fg_mt_ptr, fw_ptr_8_3, fw_ptr_8_2]; exact a1
  have hp2 : fw_ptr (fw_u σ 32 1 N) := by rw [fw_ptr_32_1]; exact a1
  have t33 : ∀ p, 0 ≤ p → p < 20 → fw_r σ 33 p = -1 := fun p x y => by
    by_cases z : p < fw_r σ 32 1
    · have := gB.2.1.2.2.1 p x z; omega
    · exact gB.2.2 p (by omega) y
  have oc : ∀ a j, a ≠ 8 → a ≠ 9 → a ≠ 10 → (a ≠ 11 ∨ j ≠ 3) → fw_r (fg_cmt σ N) a j = fw_r σ a j := fun a j x y z w => by
    unfold fg_cmt
    rw [fw_r_n _ (by omega), fg_mt_o _ _ _ _ (by omega) (by omega), fw_r_k _ x, fw_r_k _ x]
  have oc' : ∀ a j, a ≠ 8 → a ≠ 9 → a ≠ 10 → a ≠ 11 → fw_r (fg_cmt σ N) a j = fw_r σ a j := fun a j x y z w => oc a j x y z (Or.inl w)
  have c82 : fw_r (fg_cmt σ N) 8 2 = N := by unfold fg_cmt; rw [fw_r_k _ (by decide), fg_mt_o _ _ _ _ (by decide) (by decide), fw_r_j _ (by decide), fw_r_s]
  have c83 : fw_r (fg_cmt σ N) 8 3 = 0 := by unfold fg_cmt; rw [fw_r_k _ (by decide), fg_mt_o _ _ _ _ (by decide) (by decide), fw_r_s]
  have c9 : ∀ j, 0 ≤ j → j < 20 → fw_r (fg_cmt σ N) (8 + 1) j = -1 := fun j x y => by unfold fg_cmt; rw [fw_r_k _ (by decide), fg_mt_1 _ x y]
  have c10 : ∀ j, 0 ≤ j → j < 20 → fw_r (fg_cmt σ N) (8 + 2) j = 0 := fun j x y => by unfold fg_cmt; rw [fw_r_k _ (by decide), fg_mt_2 _ x y]
  have c113 : fw_r (fg_cmt σ N) 11 3 = N - 1 := by unfold fg_cmt; rw [fw_r_s]
  have om : ∀ a j, (a ≠ 32 ∨ j ≠ 1) → fw_r (fw_u σ 32 1 N) a j = fw_r σ a j := fun a j x => fw_r_n _ (by omega)
  have m1 : fw_r (fw_u σ 32 1 N) 32 1 = N := fw_r_s _ _ _ _
  generalize fg_cmt σ N = c at *
  generalize fw_u σ 32 1 N = m at *
  have om' : ∀ a, a ≠ 32 → ∀ j, fw_r m a j = fw_r σ a j := fun a x j => om a j (Or.inl x)
  have om2 : ∀ j, j ≠ 1 → fw_r m 32 j = fw_r σ 32 j := fun j x => om 32 j (Or.inr x)
  have x3 := om2 3 (by decide)
  have x10 := om2 10 (by decide)
  have x15 := om2 15 (by decide)
  have o11 : ∀ j, j ≠ 3 → fw_r c 11 j = fw_r σ 11 j := fun j x => oc 11 j (by decide) (by decide) (by decide) (Or.inr x)
  have hk1 : fg_cok c := fg_cok_c a2 (o11 _ (by decide)) (fun j => oc' _ _ (by decide) (by decide) (by decide) (by decide)) (fun i hi => oc' _ _ (by omega) (by omega) (by omega) (by omega)) (fun i hi => oc' _ _ (by omega) (by omega) (by omega) (by omega))
  refine ⟨⟨?_, ?_, ?_, ?_, ?_, ?_, ?_, ?_, ?_⟩, hp1⟩
  · refine ⟨⟨⟨hp1, hk1, by rw [o11 2 (by decide), x3]; exact a3⟩, ⟨by rw [m1]; exact hN, by rw [c113, m1], by rw [o11 4 (by decide), om2 9 (by decide)]; exact b2, by rw [o11 5 (by decide), om2 7 (by decide)]; exact b3, by rw [o11 6 (by decide), om2 8 (by decide)]; exact b4, by rw [oc' 2 5 (by decide) (by decide) (by decide) (by decide), x10]; exact b5⟩, ⟨by rw [om2 7 (by decide)]; exact f1, by rw [om2 8 (by decide)]; exact f2, by rw [om2 9 (by decide)]; exact f3, by rw [x10]; exact f4⟩, fun i x y => ?_, fun i j x y z w' e => ?_, fun q x y => ?_, fun q x y => ?_⟩, hp2⟩
    · rw [x3] at y; omega
    · rw [x3] at y; omega
    · rw [x10] at y; omega
    · rw [oc' 13 _ (by decide) (by decide) (by decide) (by decide), om' 41 (by decide), x3]
      exact e5 q x y
  · have hbok : fg_bok c 8 := by unfold fg_bok; rw [c82, c83]; omega
    have hsl : ∀ p, 0 ≤ p → p < N → 0 ≤ fg_slot c 8 p ∧ fg_slot c 8 p < 20 := fun p x y => by
      have := fg_slot_in hbok x (by rw [c82]; exact y)
      rw [c82] at this; omega
    refine ⟨⟨hbok, by rw [c82, m1], fun p x y => ?_, fun j x y => ?_⟩, ⟨by rw [m1]; exact hN, by rw [x15, x10]; exact hF, fun p x y => ?_, fun p q x y z w e ne => ?_, fun p x y => ?_⟩, fun p x y => ?_⟩
    · rw [m1] at y
      have s := hsl p x y
      rw [om' 33 (by decide), t33 p x (by omega)]
      refine ⟨?_, fun hx => absurd rfl hx⟩
      unfold fg_tr; exact c9 _ s.1 s.2
    · rw [m1] at y
      rw [c10 j x (by omega)]; omega
    · rw [m1] at y
      rw [om' 33 (by decide), t33 p x (by omega), x15]; omega
    · rw [m1] at y
      rw [om' 33 (by decide) p] at ne
      exact absurd (t33 p x (by omega)) ne
    · rw [x10] at y; rw [x15] at x; omega
    · rw [m1] at x
      rw [om' 33 (by decide), t33 p (by omega) y]
  · exact fg_gC_c gC (oc' _ _ (by decide) (by decide) (by decide) (by decide)) (oc' _ _ (by decide) (by decide) (by decide) (by decide)) (fun j => oc' _ _ (by decide) (by decide) (by decide) (by decide)) (fun j => oc' _ _ (by decide) (by decide) (by decide) (by decide)) (fun j => oc' _ _ (by decide) (by decide) (by decide) (by decide)) (fun j => oc' _ _ (by decide) (by decide) (by decide) (by decide)) x10 x15 (om2 _ (by decide)) (om' _ (by decide)) (om' _ (by decide)) (om' _ (by decide)) (om' _ (by decide))
  · exact fg_gD_c gD (oc' _ _ (by decide) (by decide) (by decide) (by decide)) (oc' _ _ (by decide) (by decide) (by decide) (by decide)) (oc' _ _ (by decide) (by decide) (by decide) (by decide)) (oc' _ _ (by decide) (by decide) (by decide) (by decide)) (oc' _ _ (by decide) (by decide) (by decide) (by decide)) x15 (om2 _ (by decide)) (om2 _ (by decide)) (om2 _ (by decide)) (om2 _ (by decide)) (om' _ (by decide))
  · exact fg_gE_c gE (fun i hi => ⟨oc' _ _ (by omega) (by omega) (by omega) (by omega), oc' _ _ (by omega) (by omega) (by omega) (by omega), oc' _ _ (by omega) (by omega) (by omega) (by omega), fun k => oc' _ _ (by omega) (by omega) (by omega) (by omega)⟩) x3 x15 (om' _ (by decide)) (om' _ (by decide)) (om' _ (by decide)) (om' _ (by decide)) (om' _ (by decide)) (om' _ (by decide)) (om' _ (by decide))
  · intro p x y ne
    rw [m1] at y
    rw [om' 33 (by decide) p] at ne
    exact absurd (t33 p x (by omega)) ne
  · exact fg_gG_c gG (fun j => oc' _ _ (by decide) (by decide) (by decide) (by decide)) x15 (om2 _ (by decide)) (om' _ (by decide))
  · exact fg_gH_c gH (oc' _ _ (by decide) (by decide) (by decide) (by decide)) (oc' _ _ (by decide) (by decide) (by decide) (by decide)) (fun j => oc' _ _ (by decide) (by decide) (by decide) (by decide)) (fun j => oc' _ _ (by decide) (by decide) (by decide) (by decide)) x15 (om2 _ (by decide)) (om' _ (by decide)) (om' _ (by decide)) (om' _ (by decide)) (om' _ (by decide))
  · intro q hq
    have g := gI q hq
    rw [fg_cnt_0 (f := fw_r σ 33) (fun j x y e => by rw [t33 j x (by omega)] at e; omega)] at g
    rw [fg_chs_c x3 (om' _ (by decide)) (om' _ (by decide)) q, fg_cnt_0 (f := fw_r m 33) (fun j x y e => by rw [m1] at y; rw [om' 33 (by decide), t33 j x (by omega)] at e; omega), fg_cnt_c (fun j => oc' 29 j (by decide) (by decide) (by decide) (by decide)), fg_cnt_c (fun j => oc' 26 j (by decide) (by decide) (by decide) (by decide)), oc' 28 1 (by decide) (by decide) (by decide) (by decide), x15, om2 19 (by decide), x10]
    exact g
theorem fg_cmt_AQ {c c' : fw_M} (h : fg_AQ c c') (N : Int) : fg_AQ (fg_cmt c N) (fg_cmt c' N) := by
  unfold fg_cmt
  refine fg_AQ_u (fun a j ha => ?_) _ _ _
  rw [fg_mt_r, fg_mt_r]
  split
  · rfl
  · split
    · rfl
    · exact fg_AQ_u (fg_AQ_u h _ _ _) _ _ _ a j ha
theorem fm_setLoop {M N : Int} {c m : fw_M} {a2 : fw_V} (h : fg_IN M c m) (h3 : fw_r m 32 3 = 0) (h10 : fw_r m 32 10 = 0) (c1 : 4 ≤ N ∧ N ≤ 20) (hM : 0 ≤ M) : fw_E 69 0 [(2, 1), (0, N), a2] [] c = some ((0, fw_r m 32 1), fg_cmt c N) ∧ fg_IN M (fg_cmt c N) (fw_u m 32 1 N) := by
  obtain ⟨⟨hp, hk, hpk⟩, ⟨h3', h30, h36⟩, hN, h82, h113, h25, hP2⟩ := fg_facts h
  have r1 := fs_me (b := 8) (N := N) (a2 := (8, 0)) (σ := c) (Or.inl rfl) (hp (8, 0, 9) (by decide)) (hp (8, 1, 10) (by decide)) c1
  have hpm : fw_ptr (fg_mt (fw_u (fw_u c 8 2 N) 8 3 0) 8 0 20) := by rw [fg_mt_ptr, fw_ptr_8_3, fw_ptr_8_2]; exact hp
  have hcu : fw_u (fg_mt (fw_u (fw_u c 8 2 N) 8 3 0) 8 0 20) 11 3 (N - 1) = fg_cmt c N := rfl
  obtain ⟨q1, q2⟩ := fg_IN_loop (N := N) (fg_th_IN h) (by rw [fg_th_m c m _ (by decide)]; exact h3) (by rw [fg_th_m c m _ (by decide)]; exact h10) c1 hM
  have qq := fg_cmt_AQ (fg_th_AQ c m) N
  refine ⟨?_, fg_IN_eq q1 (fg_AQ_AC qq) (fg_AG_u (fg_th_AG' c m) _ _ _) (fg_AQ_ptr qq q2) (by rw [fw_ptr_32_1]; exact h.1.2)⟩
  simp (disch := first | assumption | first | omega | assumption | (simp (disch := omega) only [fw_w_id, fw_wl_id, fw_r_k, fw_r_j, fw_r_s]; omega) | (simp only [fw_ptr_32_0, fl_ptr_32_0, fw_ptr_32_1, fl_ptr_32_1, fw_ptr_32_2, fw_ptr_32_3, fw_ptr_32_4, fw_ptr_32_5, fl_ptr_32_5, fw_ptr_32_6, fw_ptr_32_7, fw_ptr_32_8, fw_ptr_32_9, fw_ptr_32_10, fl_ptr_32_10, fw_ptr_32_11, fl_ptr_32_11, fw_ptr_32_12, fw_ptr_32_13, fw_ptr_32_14, fw_ptr_32_15, fw_ptr_32_16, fw_ptr_32_17, fl_ptr_32_17, fw_ptr_32_18, fl_ptr_32_18, fw_ptr_32_19, fl_ptr_32_19, fw_ptr_32_20, fl_ptr_32_20, fw_ptr_32_21, fl_ptr_32_21, fw_ptr_32_22, fl_ptr_32_22, fw_ptr_32_23, fw_ptr_32_24, fw_ptr_32_25, fw_ptr_32_26, fw_ptr_32_27, fw_ptr_32_28, fw_ptr_32_29, fw_ptr_32_30, fw_ptr_32_31, fw_ptr_32_32, fw_ptr_32_33, fw_ptr_32_34, fw_ptr_32_35, fw_ptr_1_8, fw_ptr_2_5, fw_ptr_2_6, fw_ptr_2_7, fw_ptr_2_8, fw_ptr_2_9, fw_ptr_8_2, fw_ptr_8_3, fw_ptr_11_2, fw_ptr_11_3, fw_ptr_11_4, fw_ptr_11_5, fw_ptr_11_6, fw_ptr_17_8, fw_ptr_18_2, fw_ptr_18_3, fw_ptr_25_1, fw_ptr_27_2, fw_ptr_28_1, fl_ptr_33, fl_ptr_34, fl_ptr_35, fl_ptr_36, fl_ptr_38, fl_ptr_39, fl_ptr_40, fl_ptr_41, fl_ptr_42, fl_ptr_43, fl_ptr_44, fl_ptr_45, fl_ptr_46, fl_ptr_47, fl_ptr_48, fl_ptr_49, fl_ptr_50, fw_ptr_3, fw_ptr_4, fw_ptr_5, fw_ptr_6, fw_ptr_7, fw_ptr_9, fw_ptr_10, fw_ptr_13, fw_ptr_15, fw_ptr_16, fw_ptr_19, fw_ptr_20, fw_ptr_21, fw_ptr_22, fw_ptr_23, fw_ptr_24, fw_ptr_26, fw_ptr_29, fw_ptr_30, fw_ptr_31, fw_ptr_33, fw_ptr_34, fw_ptr_35, fw_ptr_36, fw_ptr_37, fw_ptr_38, fw_ptr_39, fw_ptr_40, fw_ptr_41, fw_ptr_42, fw_ptr_43, fw_ptr_44, fw_ptr_45, fw_ptr_46, fw_ptr_47, fw_ptr_48, fw_ptr_49, fw_ptr_50, fw_ptr_51, fw_ptr_52, fw_ptr_53, fw_ptr_54, fw_ptr_55, fw_ptr_12, fw_ptr_x, fw_ptr_hi, fw_ptr_b3, fw_ptr_b1, fw_ptr_b2, fw_ptr_b2_, fl_ptr_x, fl_ptr_hi, fl_ptr_lo, fl_ptr_in]; assumption)) only [fw_b_69_0, fw_b_69_5, fw_b_69_19, fw_b_69_29, fw_b_69_47, fw_b_69_63, fw_b_69_73, fw_b_69_39, fw_b_69_11, fw_c9_69, r1, h82, hcu, ↓if_pos, ↓if_neg, if_neg, if_pos, fw_bs, fw_cn_0, fw_cn_1, fw_cn_2, fw_cn_3, fw_cn_4, fw_cn_5, Nat.reduceAdd, fw_w_id, fw_wl_id, fw_r_k, fw_r_j, fw_r_s, fw_r_x, if_true, if_false]
theorem fw_r_nw (σ : fw_M) (n a b : Int) : fw_r (fw_nw σ n) a b = if a = fw_r σ (-1) 0 then 0 else if a = -1 then (if b = 0 then fw_r σ (-1) 0 + 1 else if b = 1 then fw_r σ (-1) 1 + 1 else if b = 2 then fw_r σ (-1) 2 + n else fw_r σ a b) else fw_r σ a b := rfl
theorem fw_r_nwo (σ : fw_M) (n : Int) {a b : Int} (h : a ≠ fw_r σ (-1) 0) (h1 : a ≠ -1) : fw_r (fw_nw σ n) a b = fw_r σ a b := by rw [fw_r_nw, if_neg h, if_neg h1]
theorem fw_r_nwz (σ : fw_M) (n : Int) {a b : Int} (h : a = fw_r σ (-1) 0) : fw_r (fw_nw σ n) a b = 0 := by rw [fw_r_nw, if_pos h]
theorem fw_r_nw0 {σ : fw_M} (n : Int) (h : 0 ≤ fw_r σ (-1) 0) : fw_r (fw_nw σ n) (-1) 0 = fw_r σ (-1) 0 + 1 := by rw [fw_r_nw, if_neg (by omega), if_pos rfl, if_pos rfl]
theorem fw_r_nw1 {σ : fw_M} (n : Int) (h : 0 ≤ fw_r σ (-1) 0) : fw_r (fw_nw σ n) (-1) 1 = fw_r σ (-1) 1 + 1 := by rw [fw_r_nw, if_neg (by omega), if_pos rfl, if_neg (by decide), if_pos rfl]
theorem fw_r_nw2 {σ : fw_M} (n : Int) (h : 0 ≤ fw_r σ (-1) 0) : fw_r (fw_nw σ n) (-1) 2 = fw_r σ (-1) 2 + n := by rw [fw_r_nw, if_neg (by omega), if_pos rfl, if_neg (by decide), if_neg (by decide), if_pos rfl]
theorem fw_ptr_nw {σ : fw_M} (n : Int) (h : 50 < fw_r σ (-1) 0) : fw_ptr (fw_nw σ n) = fw_ptr σ := by
  apply propext
  constructor
  · intro hp q hq
    have h1 := hp q hq
    rwa [fw_r_nwo _ _ (by have := fg_ps_31 q hq; have := fw_ps_le q hq; omega) (by have := fw_ps_le q hq; omega)] at h1
  · intro hp q hq
    rw [fw_r_nwo _ _ (by have := fg_ps_31 q hq; have := fw_ps_le q hq; omega) (by have := fw_ps_le q hq; omega)]
    exact hp q hq
theorem fw_kd_hi {i : Int} (h : 0 ≤ i) : fw_kd (51 + 3 * i) = 4 ∧ fw_kd (51 + 3 * i + 1) = 8 ∧ fw_kd (51 + 3 * i + 1 + 1) = 100 := by
  unfold fw_kd
  refine ⟨?_, ?_, ?_⟩
  · rw [if_neg (by omega), if_neg (by omega), if_pos (by omega)]
  · rw [if_neg (by omega), if_neg (by omega), if_neg (by omega), if_pos (by omega)]
  · rw [if_neg (by omega), if_neg (by omega), if_neg (by omega), if_neg (by omega)]
def fg_s3 (σ : fw_M) (B x y : Int) : fw_M := fw_u (fw_u (fw_nw σ 6) B 0 x) B 2 y
def fg_s8 (σ : fw_M) (B x y : Int) : fw_M := fw_u (fw_u (fw_nw (fw_nw (fg_s3 σ B x y) 2) 30) (B + 1) 0 (B + 1 + 1)) B 1 (B + 1)
def fg_cac (σ : fw_M) (n B x y : Int) : fw_M := fw_u (fw_u (fg_s8 σ B x y) 12 n B) 11 2 (n + 1)
def fg_mac (σ : fw_M) (n x y : Int) : fw_M := fw_u (fw_u (fw_u σ 34 n x) 35 n y) 32 3 (n + 1)
theorem fg_s3_0 {σ : fw_M} {B x y : Int} (hB : fw_r σ (-1) 0 = B) (h : 50 < B) : fw_r (fg_s3 σ B x y) (-1) 0 = B + 1 := by
  unfold fg_s3
  rw [fw_r_k _ (by omega), fw_r_k _ (by omega), fw_r_nw0 _ (by omega), hB]
theorem fg_s4_0 {σ : fw_M} {B x y : Int} (hB : fw_r σ (-1) 0 = B) (h : 50 < B) : fw_r (fw_nw (fg_s3 σ B x y) 2) (-1) 0 = B + 1 + 1 := by
  rw [fw_r_nw0 _ (by rw [fg_s3_0 hB h]; omega), fg_s3_0 hB h]
theorem fg_s8_o {σ : fw_M} {B x y a j : Int} (hB : fw_r σ (-1) 0 = B) (h : 50 < B) (h1 : a ≠ -1) (h2 : a ≠ B) (h3 : a ≠ B + 1) (h4 : a ≠ B + 1 + 1) : fw_r (fg_s8 σ B x y) a j = fw_r σ a j := by
  unfold fg_s8
  rw [fw_r_k _ h2, fw_r_k _ h3, fw_r_nwo _ _ (by rw [fg_s4_0 hB h]; exact h4) h1, fw_r_nwo _ _ (by rw [fg_s3_0 hB h]; exact h3) h1]
  unfold fg_s3
  rw [fw_r_k _ h2, fw_r_k _ h2, fw_r_nwo _ _ (by rw [hB]; exact h2) h1]
theorem fg_s8_B {σ : fw_M} {B x y j : Int} (hB : fw_r σ (-1) 0 = B) (h : 50 < B) : fw_r (fg_s8 σ B x y) B j = if j = 1 then B + 1 else if j = 2 then y else if j = 0 then x else 0 := by
  unfold fg_s8
  rw [fw_r_u]
  by_cases h1 : j = 1
  · rw [if_pos ⟨rfl, h1⟩, if_pos h1]
  · rw [if_neg (fun hx => h1 hx.2), if_neg h1, fw_r_k _ (by omega), fw_r_nwo _ _ (by rw [fg_s4_0 hB h]; omega) (by omega), fw_r_nwo _ _ (by rw [fg_s3_0 hB h]; omega) (by omega)]
    unfold fg_s3
    rw [fw_r_u]
    by_cases h2 : j = 2
    · rw [if_pos ⟨rfl, h2⟩, if_pos h2]
    · rw [if_neg (fun hx => h2 hx.2), if_neg h2, fw_r_u]
      by_cases h3 : j = 0
      · rw [if_pos ⟨rfl, h3⟩, if_pos h3]
      · rw [if_neg (fun hx => h3 hx.2), if_neg h3, fw_r_nwz _ _ hB.symm]
theorem fg_s8_B1 {σ : fw_M} {B x y j : Int} (hB : fw_r σ (-1) 0 = B) (h : 50 < B) : fw_r (fg_s8 σ B x y) (B + 1) j = if j = 0 then B + 1 + 1 else 0 := by
  unfold fg_s8
  rw [fw_r_k _ (by omega), fw_r_u]
  by_cases h1 : j = 0
  · rw [if_pos ⟨rfl, h1⟩, if_pos h1]
  · rw [if_neg (fun hx => h1 hx.2), if_neg h1, fw_r_nwo _ _ (by rw [fg_s4_0 hB h]; omega) (by omega), fw_r_nwz _ _ (fg_s3_0 hB h).symm]
theorem fg_s8_m {σ : fw_M} {B x y : Int} (hB : fw_r σ (-1) 0 = B) (h : 50 < B) : fw_r (fg_s8 σ B x y) (-1) 0 = B + 3 ∧ fw_r (fg_s8 σ B x y) (-1) 1 = fw_r σ (-1) 1 + 3 ∧ fw_r (fg_s8 σ B x y) (-1) 2 = fw_r σ (-1) 2 + 38 := by
  have z3 := fg_s3_0 (x := x) (y := y) hB h
  have z4 := fg_s4_0 (x := x) (y := y) hB h
  unfold fg_s8
  refine ⟨?_, ?_, ?_⟩
  · rw [fw_r_k _ (by omega), fw_r_k _ (by omega), fw_r_nw0 _ (by omega), z4]; omega
  · rw [fw_r_k _ (by omega), fw_r_k _ (by omega), fw_r_nw1 _ (by omega), fw_r_nw1 _ (by omega)]
    unfold fg_s3
    rw [fw_r_k _ (by omega), fw_r_k _ (by omega), fw_r_nw1 _ (by omega)]; omega
  · rw [fw_r_k _ (by omega), fw_r_k _ (by omega), fw_r_nw2 _ (by omega), fw_r_nw2 _ (by omega)]
    unfold fg_s3
    rw [fw_r_k _ (by omega), fw_r_k _ (by omega), fw_r_nw2 _ (by omega)]; omega
theorem fg_s8_ptr {σ : fw_M} {B x y : Int} (hB : fw_r σ (-1) 0 = B) (h : 50 < B) (hp : fw_ptr σ) : fw_ptr (fg_s8 σ B x y) := by
  have z3 := fg_s3_0 (x := x) (y := y) hB h
  have z4 := fg_s4_0 (x := x) (y := y) hB h
  unfold fg_s8
  rw [fw_ptr_hi _ (by omega), fw_ptr_hi _ (by omega), fw_ptr_nw _ (by omega), fw_ptr_nw _ (by omega)]
  unfold fg_s3
  rw [fw_ptr_hi _ (by omega), fw_ptr_hi _ (by omega), fw_ptr_nw _ (by omega)]
  exact hp
theorem fs_build {σ : fw_M} {n x y : Int} {a3 : fw_V} (hp : fw_ptr σ) (hn : 0 ≤ n ∧ n < 6) (h11 : fw_r σ 11 2 = n) (hB : fw_r σ (-1) 0 = 51 + 3 * n) : fw_E 48 0 [(2, 11), (0, x), (0, y), a3] [] σ = some ((0, n), fg_cac σ n (51 + 3 * n) x y) := by
  have kd := fw_kd_hi hn.1
  have lnn := fw_ln_ch hn.1
  have z3 := fg_s3_0 (x := x) (y := y) hB (by omega)
  have z4 := fg_s4_0 (x := x) (y := y) hB (by omega)
  have zo : fw_r (fw_u (fg_s8 σ (51 + 3 * n) x y) 12 n (51 + 3 * n)) 11 2 = n := by rw [fw_r_k _ (by decide), fg_s8_o hB (by omega) (by omega) (by omega) (by omega) (by omega)]; exact h11
  have ri : fw_E 43 0 [(2, 51 + 3 * n + 1), (0, 30)] [] (fw_nw (fg_s3 σ (51 + 3 * n) x y) 2) = some ((5, 0), fw_u (fw_nw (fw_nw (fg_s3 σ (51 + 3 * n) x y) 2) 30) (51 + 3 * n + 1) 0 (51 + 3 * n + 1 + 1)) := by
    rw [fw_b_43_0 _ _ _ (by omega) (by decide) (by decide) (by rw [z4]; exact kd.2.2) (by rw [z4, lnn]; decide), z4, fw_b_43_12 _ _ _ _ _ kd.2.1, fw_b_43_15]
    rfl
  have rc : fw_E 12 0 [(2, 51 + 3 * n), (0, x), (0, y)] [] (fw_nw σ 6) = some ((5, 0), fg_s8 σ (51 + 3 * n) x y) := by
    rw [fw_b_12_0 _ _ _ _ (by omega) kd.1, fw_b_12_9 _ _ _ _ kd.1]
    show fw_E 12 14 [(2, 51 + 3 * n), (0, x), (0, y)] [] (fg_s3 σ (51 + 3 * n) x y) = _
    rw [fw_b_12_14 _ _ _ _ (by rw [z3]; exact kd.2.1), z3, fw_b_12_18 _ _ _ _ _ _ kd.2.1, ri, fw_bs, fw_cn_5, fw_b_12_24 _ _ _ _ _ _ kd.1, fw_b_12_27]
    rfl
  rw [fw_b_48_0, h11, if_neg (by omega), fw_b_48_9, if_pos (by omega), fw_b_48_17 _ _ _ _ hp (by rw [hB]; exact kd.1), hB, fw_b_48_25 _ _ _ _ _ _ kd.1, rc, fw_bs, fw_cn_5, fw_b_48_31 _ _ _ _ _ _ kd.1 (by omega) (by omega), fw_b_48_32, zo, fw_w_id (by omega) (by omega), fw_b_48_42]
  rfl
theorem fg_IN_chute {M n x y : Int} {σ : fw_M} (h : fg_IN M σ σ) (hn : 0 ≤ n ∧ n < 6) (h3 : fw_r σ 32 3 = n) (hB : fw_r σ (-1) 0 = 51 + 3 * n) (hx : 1 ≤ x ∧ x ≤ fw_r σ 32 1 - 2) (hy : 1 ≤ y ∧ y ≤ 30) (hno : fg_nm σ x = -1) : fg_IN M (fg_cac σ n (51 + 3 * n) x y) (fg_mac σ n x y) ∧ fw_ptr (fg_cac σ n (51 + 3 * n) x y) ∧ (∀ a j, a ≠ -1 → a < 51 → a ≠ 12 → a ≠ 11 → fw_r (fg_cac σ n (51 + 3 * n) x y) a j = fw_r σ a j) := by
  obtain ⟨gA, gB, gC, gD, gE, gF, gG, gH, gI⟩ := h
  obtain ⟨⟨a1, a2, a3⟩, ⟨b0, b1, b2, b3, b4, b5⟩, ⟨f1, f2, f3, f4⟩, e2, e3, e4, e5⟩ := gA.1
  have kd := fw_kd_hi hn.1
  have hno' : ∀ j, 0 ≤ j → j < n → fw_r σ 34 j ≠ x := fun j u v => by
    have hk : ((fg_n σ : Nat) : Int) = fw_r σ 32 3 := by unfold fg_n; omega
    rcases fg_fa_in (fun j => fw_r σ 34 j) x (fg_n σ) 0 with hh | hh
    · exact hh.2 j u (by omega)
    · unfold fg_nm at hno; omega
  have hp1 : fw_ptr (fg_cac σ n (51 + 3 * n) x y) := by unfold fg_cac; rw [fw_ptr_11_2, fw_ptr_12]; exact fg_s8_ptr hB (by omega) a1
  have hp2 : fw_ptr (fg_mac σ n x y) := by unfold fg_mac; rw [fw_ptr_32_3, fw_ptr_35, fw_ptr_34]; exact a1
  have oc : ∀ a j, a ≠ -1 → (a < 51 + 3 * n ∨ 58 + 3 * n < a) → (a ≠ 12 ∨ j ≠ n) → (a ≠ 11 ∨ j ≠ 2) → fw_r (fg_cac σ n (51 + 3 * n) x y) a j = fw_r σ a j := fun a j p q r s => by
    unfold fg_cac
    rw [fw_r_n _ (by omega), fw_r_n _ (by omega), fg_s8_o hB (by omega) p (by omega) (by omega) (by omega)]
  have cB : ∀ j, fw_r (fg_cac σ n (51 + 3 * n) x y) (51 + 3 * n) j = if j = 1 then 51 + 3 * n + 1 else if j = 2 then y else if j = 0 then x else 0 := fun j => by
    unfold fg_cac
    rw [fw_r_k _ (by omega), fw_r_k _ (by omega)]; exact fg_s8_B hB (by omega)
  have cB1 : ∀ j, fw_r (fg_cac σ n (51 + 3 * n) x y) (51 + 3 * n + 1) j = if j = 0 then 51 + 3 * n + 1 + 1 else 0 := fun j => by
    unfold fg_cac
    rw [fw_r_k _ (by omega), fw_r_k _ (by omega)]; exact fg_s8_B1 hB (by omega)
  have c12 : fw_r (fg_cac σ n (51 + 3 * n) x y) 12 n = 51 + 3 * n := by unfold fg_cac; rw [fw_r_k _ (by decide), fw_r_s]
  have c11 : fw_r (fg_cac σ n (51 + 3 * n) x y) 11 2 = n + 1 := by unfold fg_cac; rw [fw_r_s]
  have om : ∀ a j, (a ≠ 34 ∨ j ≠ n) → (a ≠ 35 ∨ j ≠ n) → (a ≠ 32 ∨ j ≠ 3) → fw_r (fg_mac σ n x y) a j = fw_r σ a j := fun a j p q r => by unfold fg_mac; (try simp (disch := omega) only [fw_r_n, fw_r_s])
  have m34 : fw_r (fg_mac σ n x y) 34 n = x := by unfold fg_mac; (try simp (disch := omega) only [fw_r_n, fw_r_s])
  have m35 : fw_r (fg_mac σ n x y) 35 n = y := by unfold fg_mac; (try simp (disch := omega) only [fw_r_n, fw_r_s])
  have m3 : fw_r (fg_mac σ n x y) 32 3 = n + 1 := by unfold fg_mac; (try simp (disch := omega) only [fw_r_n, fw_r_s])
  generalize fg_cac σ n (51 + 3 * n) x y = c at *
  generalize fg_mac σ n x y = m at *
  have oc' : ∀ a j, a ≠ -1 → a < 51 → a ≠ 12 → a ≠ 11 → fw_r c a j = fw_r σ a j := fun a j p q r s => oc a j p (by omega) (Or.inl r) (Or.inl s)
  have o11 : ∀ j, j ≠ 2 → fw_r c 11 j = fw_r σ 11 j := fun j p => oc 11 j (by decide) (by omega) (Or.inl (by decide)) (Or.inr p)
  have oh : ∀ i j, 0 ≤ i → i < n → fw_r c (51 + 3 * i) j = fw_r σ (51 + 3 * i) j ∧ fw_r c (51 + 3 * i + 1) j = fw_r σ (51 + 3 * i + 1) j ∧ fw_r c (51 + 3 * i + 1 + 1) j = fw_r σ (51 + 3 * i + 1 + 1) j := fun i j p q => ⟨oc _ j (by omega) (by omega) (by omega) (by omega), oc _ j (by omega) (by omega) (by omega) (by omega), oc _ j (by omega) (by omega) (by omega) (by omega)⟩
  have om' : ∀ a, a ≠ 32 → a ≠ 34 → a ≠ 35 → ∀ j, fw_r m a j = fw_r σ a j := fun a p q r j => om a j (Or.inl q) (Or.inl r) (Or.inl p)
  have om2 : ∀ j, j ≠ 3 → fw_r m 32 j = fw_r σ 32 j := fun j p => om 32 j (Or.inl (by decide)) (Or.inl (by decide)) (Or.inr p)
  have x1 := om2 1 (by decide)
  have x10 := om2 10 (by decide)
  have x15 := om2 15 (by decide)
  have hk1 : fg_cok c := by
    refine ⟨by omega, by omega, fun i p q => ?_⟩
    by_cases hi : i = n
    · subst hi
      refine ⟨c12, ⟨kd.1, by rw [cB]; rfl⟩, kd.2.1, kd.2.2, by rw [cB1]; rfl⟩
    · obtain ⟨w1, w2, w3⟩ := a2.2.2 i p (by omega)
      have z := fun j => oh i j p (by omega)
      refine ⟨by rw [oc 12 i (by decide) (by omega) (Or.inr hi) (Or.inl (by decide))]; exact w1, ⟨w2.1, by rw [(z _).1]; exact w2.2⟩, w3.1, w3.2.1, by rw [(z _).2.1]; exact w3.2.2⟩
  refine ⟨⟨?_, ?_, ?_, ?_, ?_, ?_, ?_, ?_, ?_⟩, hp1, oc'⟩
  · refine ⟨⟨⟨hp1, hk1, by rw [c11, m3]⟩, ⟨by rw [x1]; exact b0, by rw [o11 3 (by decide), x1]; exact b1, by rw [o11 4 (by decide), om2 9 (by decide)]; exact b2, by rw [o11 5 (by decide), om2 7 (by decide)]; exact b3, by rw [o11 6 (by decide), om2 8 (by decide)]; exact b4, by rw [oc' 2 5 (by decide) (by decide) (by decide) (by decide), x10]; exact b5⟩, ⟨by rw [om2 7 (by decide)]; exact f1, by rw [om2 8 (by decide)]; exact f2, by rw [om2 9 (by decide)]; exact f3, by rw [x10]; exact f4⟩, fun i p q => ?_, fun i j p q r s e => ?_, fun r p q => ?_, fun r p q => ?_⟩, hp2⟩
    · rw [m3] at q
      by_cases hi : i = n
      · subst hi
        rw [cB, cB, cB, m34, m35, om' 36 (by decide) (by decide) (by decide), x1]
        have z := (gE.2 i (by omega) (by omega)).2.1
        exact ⟨⟨rfl, hx⟩, ⟨rfl, hy⟩, by rw [z]; rfl, Or.inl z⟩
      · have z := fun j => (oh i j p (by omega)).1
        rw [z, z, z, om 34 i (Or.inr hi) (Or.inl (by decide)) (Or.inl (by decide)), om 35 i (Or.inl (by decide)) (Or.inr hi) (Or.inl (by decide)), om' 36 (by decide) (by decide) (by decide), x1]
        exact e2 i p (by omega)
    · rw [m3] at q s
      by_cases hi : i = n
      · subst hi
        by_cases hj : j = i
        · exact hj.symm
        · rw [m34, om 34 j (Or.inr hj) (Or.inl (by decide)) (Or.inl (by decide))] at e
          exact absurd e.symm (hno' j r (by omega))
      · by_cases hj : j = n
        · subst hj
          rw [m34, om 34 i (Or.inr hi) (Or.inl (by decide)) (Or.inl (by decide))] at e
          exact absurd e (hno' i p (by omega))
        · rw [om 34 i (Or.inr hi) (Or.inl (by decide)) (Or.inl (by decide)), om 34 j (Or.inr hj) (Or.inl (by decide)) (Or.inl (by decide))] at e
          exact e3 i j p (by omega) r (by omega) e
    · rw [x10] at q
      rw [oc' 3 _ (by decide) (by decide) (by decide) (by decide), om' 37 (by decide) (by decide) (by decide)]
      exact e4 r p q
    · rw [oc' 13 _ (by decide) (by decide) (by decide) (by decide), om' 41 (by decide) (by decide) (by decide), m3]
      have := e5 r p q
      exact ⟨this.1, this.2.1, by omega⟩
  · exact fg_gB_c gB (fun j => oc' _ _ (by decide) (by decide) (by decide) (by decide)) (fun j => oc' _ _ (by decide) (by decide) (by decide) (by decide)) (fun j => oc' _ _ (by decide) (by decide) (by decide) (by decide)) x1 x10 x15 (om' _ (by decide) (by decide) (by decide)) (om' _ (by decide) (by decide) (by decide))
  · exact fg_gC_c gC (oc' _ _ (by decide) (by decide) (by decide) (by decide)) (oc' _ _ (by decide) (by decide) (by decide) (by decide)) (fun j => oc' _ _ (by decide) (by decide) (by decide) (by decide)) (fun j => oc' _ _ (by decide) (by decide) (by decide) (by decide)) (fun j => oc' _ _ (by decide) (by decide) (by decide) (by decide)) (fun j => oc' _ _ (by decide) (by decide) (by decide) (by decide)) x10 x15 (om2 _ (by decide)) (om' _ (by decide) (by decide) (by decide)) (om' _ (by decide) (by decide) (by decide)) (om' _ (by decide) (by decide) (by decide)) (om' _ (by decide) (by decide) (by decide))
  · exact fg_gD_c gD (oc' _ _ (by decide) (by decide) (by decide) (by decide)) (oc' _ _ (by decide) (by decide) (by decide) (by decide)) (oc' _ _ (by decide) (by decide) (by decide) (by decide)) (oc' _ _ (by decide) (by decide) (by decide) (by decide)) (oc' _ _ (by decide) (by decide) (by decide) (by decide)) x15 (om2 _ (by decide)) (om2 _ (by decide)) (om2 _ (by decide)) (om2 _ (by decide)) (om' _ (by decide) (by decide) (by decide))
  · refine ⟨fun i p q => ?_, fun i p q => ?_⟩
    · rw [m3] at q
      rw [om' 42 (by decide) (by decide) (by decide), om' 44 (by decide) (by decide) (by decide), om' 45 (by decide) (by decide) (by decide), x15]
      simp only [om' 43 (by decide) (by decide) (by decide), om' 39 (by decide) (by decide) (by decide)]
      by_cases hi : i = n
      · subst hi
        obtain ⟨z1, z2, z3, z4⟩ := gE.2 i (by omega) (by omega)
        rw [cB1, cB, cB, m35, z1, z3, z4]
        exact ⟨⟨rfl, by omega, by omega⟩, ⟨rfl, rfl, rfl⟩, fun k u v => by omega⟩
      · have z := fun j => oh i j p (by omega)
        rw [(z _).2.1, (z _).1, (z _).1, om 35 i (Or.inl (by decide)) (Or.inr hi) (Or.inl (by decide))]
        have w := gE.1 i p (by omega)
        exact ⟨w.1, w.2.1, fun k u v => by rw [(z _).2.2]; exact w.2.2 k u v⟩
    · rw [m3] at p
      rw [om' 42 (by decide) (by decide) (by decide), om' 36 (by decide) (by decide) (by decide), om' 44 (by decide) (by decide) (by decide), om' 45 (by decide) (by decide) (by decide)]
      exact gE.2 i (by omega) q
  · exact fg_gF_c gF x1 (om' _ (by decide) (by decide) (by decide)) (om' _ (by decide) (by decide) (by decide))
  · exact fg_gG_c gG (fun j => oc' _ _ (by decide) (by decide) (by decide) (by decide)) x15 (om2 _ (by decide)) (om' _ (by decide) (by decide) (by decide))
  · exact fg_gH_c gH (oc' _ _ (by decide) (by decide) (by decide) (by decide)) (oc' _ _ (by decide) (by decide) (by decide) (by decide)) (fun j => oc' _ _ (by decide) (by decide) (by decide) (by decide)) (fun j => oc' _ _ (by decide) (by decide) (by decide) (by decide)) x15 (om2 _ (by decide)) (om' _ (by decide) (by decide) (by decide)) (om' _ (by decide) (by decide) (by decide)) (om' _ (by decide) (by decide) (by decide)) (om' _ (by decide) (by decide) (by decide))
  · intro q hq
    have g := gI q hq
    have ech : fg_chs m q = fg_chs σ q := by
      unfold fg_chs
      rw [m3, h3]
      have e : (n + 1).toNat = n.toNat + 1 := by omega
      have en : (0 : Int) + ((n.toNat : Nat) : Int) = n := by omega
      simp only [om' 42 (by decide) (by decide) (by decide), om' 43 (by decide) (by decide) (by decide)]
      rw [e, fg_sf_end, en, (gE.2 n (by omega) (by omega)).1, fg_cnt_0 (fun j u v => by omega)]
      exact Int.add_zero _
    rw [ech, fg_cnt_c (om' 33 (by decide) (by decide) (by decide)), fg_cnt_c (fun j => oc' 29 j (by decide) (by decide) (by decide) (by decide)), fg_cnt_c (fun j => oc' 26 j (by decide) (by decide) (by decide) (by decide)), oc' 28 1 (by decide) (by decide) (by decide) (by decide), x15, om2 19 (by decide), x10, x1]
    exact g
theorem fg_nw_AQ {c c' : fw_M} (h : fg_AQ c c') (n : Int) : fg_AQ (fw_nw c n) (fw_nw c' n) := fun a j ha => by
  rw [fw_r_nw, fw_r_nw, h (-1) 0 (by omega), h (-1) 1 (by omega), h (-1) 2 (by omega), h a j ha]
theorem fg_cac_AQ {c c' : fw_M} (h : fg_AQ c c') (n B x y : Int) : fg_AQ (fg_cac c n B x y) (fg_cac c' n B x y) :=
  fg_AQ_u (fg_AQ_u (fg_AQ_u (fg_AQ_u (fg_nw_AQ (fg_nw_AQ (fg_AQ_u (fg_AQ_u (fg_nw_AQ h _) _ _ _) _ _ _) _) _) _ _ _) _ _ _) _ _ _) _ _ _
theorem fm_addChute {M n x y : Int} {c m : fw_M} (h : fg_IN M c m) (hn : 0 ≤ n ∧ n < 6) (h3 : fw_r m 32 3 = n) (hB : fw_r c (-1) 0 = 51 + 3 * n) (c1 : 1 ≤ x ∧ x ≤ fw_r m 32 1 - 2) (c2 : 1 ≤ y ∧ y ≤ 30) (c3 : fg_nm m x = -1) : fw_E 70 0 [(2, 1), (0, x), (0, y)] [] c = some ((0, n), fg_cac c n (51 + 3 * n) x y) ∧ fg_IN M (fg_cac c n (51 + 3 * n) x y) (fg_mac m n x y) ∧ (fw_r (fg_cac c n (51 + 3 * n) x y) (-1) 0 = fw_r c (-1) 0 + 3 ∧ fw_r (fg_cac c n (51 + 3 * n) x y) (-1) 1 = fw_r c (-1) 1 + 3 ∧ fw_r (fg_cac c n (51 + 3 * n) x y) (-1) 2 = fw_r c (-1) 2 + 38) ∧ (∀ a j, a ≠ -1 → a < 51 → a ≠ 12 → a ≠ 11 → fw_r (fg_cac c n (51 + 3 * n) x y) a j = fw_r c a j) := by
  obtain ⟨⟨hp, hk, hpk⟩, ⟨h3', h30, h36⟩, hN, h82, h113, h25, hP2⟩ := fg_facts h
  have r1 := fs_isCap_t (σ := c) c2.1 c2.2
  have hna : fg_na c x = fg_nm m x := fg_na_m h.1.1 x
  have r2 := fs_chuteAt_f (p := x) hp hk (hna.trans c3)
  have r3 := fs_build (x := x) (y := y) (a3 := (8, 0)) hp hn (h3'.trans h3) hB
  obtain ⟨q1, q2, -⟩ := fg_IN_chute (x := x) (y := y) (fg_th_IN h) hn (by rw [fg_th_m c m _ (by decide)]; exact h3) (by rw [fg_th_c c m _ (by omega)]; exact hB) (by rw [fg_th_m c m _ (by decide)]; exact c1) c2 (by rw [fg_nm_AG (fg_th_AG c m)]; exact c3)
  have qq := fg_cac_AQ (fg_th_AQ c m) n (51 + 3 * n) x y
  have hsm := fg_s8_m (x := x) (y := y) hB (by omega)
  refine ⟨?_, fg_IN_eq q1 (fg_AQ_AC qq) (fg_AG_u (fg_AG_u (fg_AG_u (fg_th_AG' c m) _ _ _) _ _ _) _ _ _) (fg_AQ_ptr qq q2) (by unfold fg_mac; rw [fw_ptr_32_3, fw_ptr_35, fw_ptr_34]; exact h.1.2), ?_, fun a j p q r s => ?_⟩
  · generalize fg_cac c n (51 + 3 * n) x y = c' at *
    simp (disch := first | assumption | first | omega | assumption | (simp (disch := omega) only [fw_w_id, fw_wl_id, fw_r_k, fw_r_j, fw_r_s]; omega) | (simp only [fw_ptr_32_0, fl_ptr_32_0, fw_ptr_32_1, fl_ptr_32_1, fw_ptr_32_2, fw_ptr_32_3, fw_ptr_32_4, fw_ptr_32_5, fl_ptr_32_5, fw_ptr_32_6, fw_ptr_32_7, fw_ptr_32_8, fw_ptr_32_9, fw_ptr_32_10, fl_ptr_32_10, fw_ptr_32_11, fl_ptr_32_11, fw_ptr_32_12, fw_ptr_32_13, fw_ptr_32_14, fw_ptr_32_15, fw_ptr_32_16, fw_ptr_32_17, fl_ptr_32_17, fw_ptr_32_18, fl_ptr_32_18, fw_ptr_32_19, fl_ptr_32_19, fw_ptr_32_20, fl_ptr_32_20, fw_ptr_32_21, fl_ptr_32_21, fw_ptr_32_22, fl_ptr_32_22, fw_ptr_32_23, fw_ptr_32_24, fw_ptr_32_25, fw_ptr_32_26, fw_ptr_32_27, fw_ptr_32_28, fw_ptr_32_29, fw_ptr_32_30, fw_ptr_32_31, fw_ptr_32_32, fw_ptr_32_33, fw_ptr_32_34, fw_ptr_32_35, fw_ptr_1_8, fw_ptr_2_5, fw_ptr_2_6, fw_ptr_2_7, fw_ptr_2_8, fw_ptr_2_9, fw_ptr_8_2, fw_ptr_8_3, fw_ptr_11_2, fw_ptr_11_3, fw_ptr_11_4, fw_ptr_11_5, fw_ptr_11_6, fw_ptr_17_8, fw_ptr_18_2, fw_ptr_18_3, fw_ptr_25_1, fw_ptr_27_2, fw_ptr_28_1, fl_ptr_33, fl_ptr_34, fl_ptr_35, fl_ptr_36, fl_ptr_38, fl_ptr_39, fl_ptr_40, fl_ptr_41, fl_ptr_42, fl_ptr_43, fl_ptr_44, fl_ptr_45, fl_ptr_46, fl_ptr_47, fl_ptr_48, fl_ptr_49, fl_ptr_50, fw_ptr_3, fw_ptr_4, fw_ptr_5, fw_ptr_6, fw_ptr_7, fw_ptr_9, fw_ptr_10, fw_ptr_13, fw_ptr_15, fw_ptr_16, fw_ptr_19, fw_ptr_20, fw_ptr_21, fw_ptr_22, fw_ptr_23, fw_ptr_24, fw_ptr_26, fw_ptr_29, fw_ptr_30, fw_ptr_31, fw_ptr_33, fw_ptr_34, fw_ptr_35, fw_ptr_36, fw_ptr_37, fw_ptr_38, fw_ptr_39, fw_ptr_40, fw_ptr_41, fw_ptr_42, fw_ptr_43, fw_ptr_44, fw_ptr_45, fw_ptr_46, fw_ptr_47, fw_ptr_48, fw_ptr_49, fw_ptr_50, fw_ptr_51, fw_ptr_52, fw_ptr_53, fw_ptr_54, fw_ptr_55, fw_ptr_12, fw_ptr_x, fw_ptr_hi, fw_ptr_b3, fw_ptr_b1, fw_ptr_b2, fw_ptr_b2_, fl_ptr_x, fl_ptr_hi, fl_ptr_lo, fl_ptr_in]; assumption)) only [fw_b_70_0, fw_b_70_5, fw_b_70_23, fw_b_70_16, fw_b_70_20, fw_b_70_31, fw_b_70_39, fw_b_70_42, fw_b_70_50, fw_b_70_62, fw_b_70_70, fw_b_70_79, fw_c9_70, r1, r2, r3, ↓if_pos, ↓if_neg, if_neg, if_pos, fw_bs, fw_cn_0, fw_cn_1, fw_cn_2, fw_cn_3, fw_cn_4, fw_cn_5, Nat.reduceAdd, fw_w_id, fw_wl_id, fw_r_k, fw_r_j, fw_r_s, fw_r_x, if_true, if_false]
  · unfold fg_cac
    rw [fw_r_k _ (by decide), fw_r_k _ (by decide), fw_r_k _ (by decide), fw_r_k _ (by decide), fw_r_k _ (by decide), fw_r_k _ (by decide)]
    exact ⟨by omega, hsm.2⟩
  · unfold fg_cac
    rw [fw_r_n _ (by omega), fw_r_n _ (by omega), fg_s8_o hB (by omega) p (by omega) (by omega) (by omega)]
