/-! calls that change things: class cells c beside the ghost m -/
theorem fg_IN_AE {M : Int} {c c' m m' : fw_M} (h : fg_IN M c m) (gA : fg_gA c' m') (gE : fg_gE c' m')
    (hc : ∀ a j, (a = 8 ∨ a = 9 ∨ a = 10 ∨ (a = 2 ∧ 6 ≤ j) ∨ (a = 1 ∧ j = 8) ∨ (4 ≤ a ∧ a ≤ 7) ∨ (25 ≤ a ∧ a ≤ 30)) → fw_r c' a j = fw_r c a j)
    (hm : ∀ a j, (a = 33 ∨ (38 ≤ a ∧ a ≤ 40) ∨ (42 ≤ a ∧ a ≤ 48) ∨ (a = 32 ∧ (j = 1 ∨ j = 3 ∨ j = 10 ∨ (15 ≤ j ∧ j ≤ 19) ∨ j = 25 ∨ j = 29))) → fw_r m' a j = fw_r m a j) : fg_IN M c' m' := by
  obtain ⟨-, gB, gC, gD, -, gF, gG, gH, gI⟩ := h
  have x1 := hm 32 1 (by decide)
  have x3 := hm 32 3 (by decide)
  have x10 := hm 32 10 (by decide)
  have x15 := hm 32 15 (by decide)
  have x16 := hm 32 16 (by decide)
  have x17 := hm 32 17 (by decide)
  have x18 := hm 32 18 (by decide)
  have x19 := hm 32 19 (by decide)
  have x25 := hm 32 25 (by decide)
  have x29 := hm 32 29 (by decide)
  exact ⟨gA, fg_gB_c gB (fun j => hc _ _ (by omega)) (fun j => hc _ _ (by omega)) (fun j => hc _ _ (by omega)) x1 x10 x15 (fun j => hm _ _ (by omega)) (fun j => hm _ _ (by omega)),
    fg_gC_c gC (hc _ _ (by omega)) (hc _ _ (by omega)) (fun j => hc _ _ (by omega)) (fun j => hc _ _ (by omega)) (fun j => hc _ _ (by omega)) (fun j => hc _ _ (by omega)) x10 x15 x16 (fun j => hm _ _ (by omega)) (fun j => hm _ _ (by omega)) (fun j => hm _ _ (by omega)) (fun j => hm _ _ (by omega)),
    fg_gD_c gD (hc _ _ (by omega)) (hc _ _ (by omega)) (hc _ _ (by omega)) (hc _ _ (by omega)) (hc _ _ (by omega)) x15 x17 x18 x19 x29 (fun j => hm _ _ (by omega)), gE,
    fg_gF_c gF x1 (fun j => hm _ _ (by omega)) (fun j => hm _ _ (by omega)),
    fg_gG_c gG (fun j => hc _ _ (by omega)) x15 x19 (fun j => hm _ _ (by omega)),
    fg_gH_c gH (hc _ _ (by omega)) (hc _ _ (by omega)) (fun j => hc _ _ (by omega)) (fun j => hc _ _ (by omega)) x15 x25 (fun j => hm _ _ (by omega)) (fun j => hm _ _ (by omega)) (fun j => hm _ _ (by omega)) (fun j => hm _ _ (by omega)),
    fg_gI_c gI (hc _ _ (by omega)) (fun j => hc _ _ (by omega)) (fun j => hc _ _ (by omega)) x1 x3 x10 x15 x19 (fun j => hm _ _ (by omega)) (fun j => hm _ _ (by omega)) (fun j => hm _ _ (by omega))⟩
theorem fg_AG_u {m m' : fw_M} (h : fg_AG m m') (k j v : Int) : fg_AG (fw_u m k j v) (fw_u m' k j v) := fun a b x y z => by
  rw [fw_r_u, fw_r_u]
  split
  · rfl
  · exact h a b x y z
theorem fg_AC_u {c c' : fw_M} (h : fg_AC c c') (k j v : Int) : fg_AC (fw_u c k j v) (fw_u c' k j v) := fun a b x => by
  rw [fw_r_u, fw_r_u]
  split
  · rfl
  · exact h a b x
/-- both in one -/
def fg_th (c m : fw_M) : fw_M := fun a j => if 32 ≤ a ∧ a ≤ 48 then fw_r m a j else fw_r c a j
theorem fg_th_m (c m : fw_M) {a : Int} (j : Int) (h : 32 ≤ a ∧ a ≤ 48) : fw_r (fg_th c m) a j = fw_r m a j := by
  show (if 32 ≤ a ∧ a ≤ 48 then fw_r m a j else fw_r c a j) = _
  rw [if_pos h]
theorem fg_th_c (c m : fw_M) {a : Int} (j : Int) (h : a < 32 ∨ 48 < a) : fw_r (fg_th c m) a j = fw_r c a j := by
  show (if 32 ≤ a ∧ a ≤ 48 then fw_r m a j else fw_r c a j) = _
  rw [if_neg (by omega)]
theorem fg_ps_31 : ∀ q ∈ fw_psT, q.1 < 32 := by decide
theorem fg_th_ptr {c : fw_M} (m : fw_M) (hp : fw_ptr c) : fw_ptr (fg_th c m) := fun q hq => by
  rw [fg_th_c c m _ (Or.inl (fg_ps_31 q hq))]; exact hp q hq
theorem fg_th_AG (c m : fw_M) : fg_AG m (fg_th c m) := fun a j x y _ => fg_th_m c m j ⟨x, y⟩
theorem fg_th_AG' (c m : fw_M) : fg_AG (fg_th c m) m := fun a j x y _ => (fg_th_m c m j ⟨x, y⟩).symm
def fg_AQ (c c' : fw_M) : Prop := ∀ a j, (a < 32 ∨ 48 < a) → fw_r c' a j = fw_r c a j
theorem fg_th_AQ (c m : fw_M) : fg_AQ (fg_th c m) c := fun a j h => (fg_th_c c m j h).symm
theorem fg_AQ_AC {c c' : fw_M} (h : fg_AQ c c') : fg_AC c c' := fun a j ha => h a j (by omega)
theorem fg_AQ_u {c c' : fw_M} (h : fg_AQ c c') (k j v : Int) : fg_AQ (fw_u c k j v) (fw_u c' k j v) := fun a b x => by
  rw [fw_r_u, fw_r_u]
  split
  · rfl
  · exact h a b x
theorem fg_AQ_ptr {c c' : fw_M} (h : fg_AQ c c') (hp : fw_ptr c) : fw_ptr c' := fun q hq => by
  rw [h _ _ (Or.inl (fg_ps_31 q hq))]; exact hp q hq
theorem fg_th_IN {M : Int} {c m : fw_M} (h : fg_IN M c m) : fg_IN M (fg_th c m) (fg_th c m) :=
  fg_IN_eq h (fun a j ha => fg_th_c c m j (by omega)) (fg_th_AG c m) (fg_th_ptr m h.1.1.1.1) (fg_th_ptr m h.1.1.1.1)
theorem fm_setLimit {M p : Int} {c m : fw_M} {a2 : fw_V} (h : fg_IN M c m) (c1 : 1 ≤ p ∧ p ≤ 9) : fw_E 72 0 [(2, 1), (0, p), a2] [] c = some ((0, fw_r m 32 9), fw_u c 11 4 p) ∧ fg_IN M (fw_u c 11 4 p) (fw_u m 32 9 p) := by
  obtain ⟨⟨hp, hk, hpk⟩, ⟨h3, h30, h36⟩, hN, h82, h113, h25, hP⟩ := fg_facts h
  have h114 := h.1.1.2.1.2.2.1
  have hm := h.1.2
  have hcf := h.1.1
  obtain ⟨⟨a1, a2, a3⟩, ⟨b0, b1, b2, b3, b4, b5⟩, ⟨f1, f2, f3, f4⟩, e2, e3, e4, e5⟩ := hcf
  constructor
  · simp (disch := first | assumption | first | omega | assumption | (simp (disch := omega) only [fw_w_id, fw_wl_id, fw_r_k, fw_r_j, fw_r_s]; omega) | (simp only [fw_ptr_32_0, fl_ptr_32_0, fw_ptr_32_1, fl_ptr_32_1, fw_ptr_32_2, fw_ptr_32_3, fw_ptr_32_4, fw_ptr_32_5, fl_ptr_32_5, fw_ptr_32_6, fw_ptr_32_7, fw_ptr_32_8, fw_ptr_32_9, fw_ptr_32_10, fl_ptr_32_10, fw_ptr_32_11, fl_ptr_32_11, fw_ptr_32_12, fw_ptr_32_13, fw_ptr_32_14, fw_ptr_32_15, fw_ptr_32_16, fw_ptr_32_17, fl_ptr_32_17, fw_ptr_32_18, fl_ptr_32_18, fw_ptr_32_19, fl_ptr_32_19, fw_ptr_32_20, fl_ptr_32_20, fw_ptr_32_21, fl_ptr_32_21, fw_ptr_32_22, fl_ptr_32_22, fw_ptr_32_23, fw_ptr_32_24, fw_ptr_32_25, fw_ptr_32_26, fw_ptr_32_27, fw_ptr_32_28, fw_ptr_32_29, fw_ptr_32_30, fw_ptr_32_31, fw_ptr_32_32, fw_ptr_32_33, fw_ptr_32_34, fw_ptr_32_35, fw_ptr_1_8, fw_ptr_2_5, fw_ptr_2_6, fw_ptr_2_7, fw_ptr_2_8, fw_ptr_2_9, fw_ptr_8_2, fw_ptr_8_3, fw_ptr_11_2, fw_ptr_11_3, fw_ptr_11_4, fw_ptr_11_5, fw_ptr_11_6, fw_ptr_17_8, fw_ptr_18_2, fw_ptr_18_3, fw_ptr_25_1, fw_ptr_27_2, fw_ptr_28_1, fl_ptr_33, fl_ptr_34, fl_ptr_35, fl_ptr_36, fl_ptr_38, fl_ptr_39, fl_ptr_40, fl_ptr_41, fl_ptr_42, fl_ptr_43, fl_ptr_44, fl_ptr_45, fl_ptr_46, fl_ptr_47, fl_ptr_48, fl_ptr_49, fl_ptr_50, fw_ptr_3, fw_ptr_4, fw_ptr_5, fw_ptr_6, fw_ptr_7, fw_ptr_9, fw_ptr_10, fw_ptr_13, fw_ptr_15, fw_ptr_16, fw_ptr_19, fw_ptr_20, fw_ptr_21, fw_ptr_22, fw_ptr_23, fw_ptr_24, fw_ptr_26, fw_ptr_29, fw_ptr_30, fw_ptr_31, fw_ptr_33, fw_ptr_34, fw_ptr_35, fw_ptr_36, fw_ptr_37, fw_ptr_38, fw_ptr_39, fw_ptr_40, fw_ptr_41, fw_ptr_42, fw_ptr_43, fw_ptr_44, fw_ptr_45, fw_ptr_46, fw_ptr_47, fw_ptr_48, fw_ptr_49, fw_ptr_50, fw_ptr_51, fw_ptr_52, fw_ptr_53, fw_ptr_54, fw_ptr_55, fw_ptr_12, fw_ptr_x, fw_ptr_hi, fw_ptr_b3, fw_ptr_b1, fw_ptr_b2, fw_ptr_b2_, fl_ptr_x, fl_ptr_hi, fl_ptr_lo, fl_ptr_in]; assumption)) only [fw_b_72_0, fw_b_72_5, fw_b_72_19, fw_b_72_35, fw_b_72_11, fw_c9_72, h114, ↓if_pos, ↓if_neg, if_neg, if_pos, fw_bs, fw_cn_0, fw_cn_1, fw_cn_2, fw_cn_3, fw_cn_4, fw_cn_5, Nat.reduceAdd, fw_w_id, fw_wl_id, fw_r_k, fw_r_j, fw_r_s, fw_r_x, if_true, if_false]
  · have hp1 : fw_ptr (fw_u c 11 4 p) := by rw [fw_ptr_11_4]; exact hp
    have hk1 : fg_cok (fw_u c 11 4 p) := fg_cok_c hk (fw_r_j _ (by decide)) (fun j => fw_r_k _ (by decide)) (fun i hi => fw_r_k _ (by omega)) (fun i hi => fw_r_k _ (by omega))
    refine fg_IN_AE h ?_ ?_ (fun a j ha => by (try simp (disch := omega) only [fw_r_n, fw_r_s])) (fun a j ha => by (try simp (disch := omega) only [fw_r_n, fw_r_s]))
    · refine ⟨⟨⟨hp1, hk1, by (try simp (disch := omega) only [fw_r_n, fw_r_s]); exact a3⟩, ⟨by (try simp (disch := omega) only [fw_r_n, fw_r_s]); exact b0, by (try simp (disch := omega) only [fw_r_n, fw_r_s]); exact b1, by (try simp (disch := omega) only [fw_r_n, fw_r_s]), by (try simp (disch := omega) only [fw_r_n, fw_r_s]); exact b3, by (try simp (disch := omega) only [fw_r_n, fw_r_s]); exact b4, by (try simp (disch := omega) only [fw_r_n, fw_r_s]); exact b5⟩, ⟨by (try simp (disch := omega) only [fw_r_n, fw_r_s]); exact f1, by (try simp (disch := omega) only [fw_r_n, fw_r_s]); exact f2, by (try simp (disch := omega) only [fw_r_n, fw_r_s]); exact c1, by (try simp (disch := omega) only [fw_r_n, fw_r_s]); exact f4⟩, fun i x y => ?_, fun i j x y z w e => ?_, fun r x y => ?_, fun r x y => ?_⟩, by rw [fw_ptr_32_9]; exact hm⟩
      · simp (disch := omega) only [fw_r_n] at y
        (try simp (disch := omega) only [fw_r_n, fw_r_s])
        exact e2 i x y
      · simp (disch := omega) only [fw_r_n] at y w e
        exact e3 i j x y z w e
      · simp (disch := omega) only [fw_r_n] at y
        (try simp (disch := omega) only [fw_r_n, fw_r_s])
        exact e4 r x y
      · (try simp (disch := omega) only [fw_r_n, fw_r_s])
        exact e5 r x y
    · exact fg_gE_c h.2.2.2.2.1 (fun i hi => ⟨by (try simp (disch := omega) only [fw_r_n, fw_r_s]), by (try simp (disch := omega) only [fw_r_n, fw_r_s]), by (try simp (disch := omega) only [fw_r_n, fw_r_s]), fun k => by (try simp (disch := omega) only [fw_r_n, fw_r_s])⟩) (by (try simp (disch := omega) only [fw_r_n, fw_r_s])) (by (try simp (disch := omega) only [fw_r_n, fw_r_s])) (fun j => by (try simp (disch := omega) only [fw_r_n, fw_r_s])) (fun j => by (try simp (disch := omega) only [fw_r_n, fw_r_s])) (fun j => by (try simp (disch := omega) only [fw_r_n, fw_r_s])) (fun j => by (try simp (disch := omega) only [fw_r_n, fw_r_s])) (fun j => by (try simp (disch := omega) only [fw_r_n, fw_r_s])) (fun j => by (try simp (disch := omega) only [fw_r_n, fw_r_s])) (fun j => by (try simp (disch := omega) only [fw_r_n, fw_r_s]))
theorem fm_setCapacity {M p q : Int} {c m : fw_M} {z3 z4 : fw_V} (h : fg_IN M c m) (c1 : 0 ≤ p ∧ p < fw_r m 32 3) (c2 : 1 ≤ q ∧ q ≤ 30) (c3 : fw_r m 42 p ≤ q) : fw_E 71 0 [(2, 1), (0, p), (0, q), z3, z4] [] c = some ((0, fw_r m 35 p), fw_u c (51 + 3 * p) 2 q) ∧ fg_IN M (fw_u c (51 + 3 * p) 2 q) (fw_u m 35 p q) := by
  obtain ⟨⟨hp, hk, hpk⟩, ⟨h3, h30, h36⟩, hN, h82, h113, h25, hP⟩ := fg_facts h
  have hm := h.1.2
  have r1 := fs_rChute_t (r := p) (a2 := (8, 0)) hp hk (by omega)
  have hcw := (hk.2.2 p c1.1 (by omega)).2.1
  have hrw := (hk.2.2 p c1.1 (by omega)).2.2
  have gEp := (h.2.2.2.2.1.1 p c1.1 c1.2).1
  have r2 := fs_isCap_t (σ := c) c2.1 c2.2
  obtain ⟨⟨a1, a2, a3⟩, ⟨b0, b1, b2, b3, b4, b5⟩, ⟨f1, f2, f3, f4⟩, e2, e3, e4, e5⟩ := h.1.1
  have hold := (e2 p c1.1 c1.2).2.1.1
  have hp1 : fw_ptr (fw_u c (51 + 3 * p) 2 q) := by rw [fw_ptr_hi _ (by omega)]; exact hp
  have hk1 : fg_cok (fw_u c (51 + 3 * p) 2 q) := fg_cok_c hk (by (try simp (disch := omega) only [fw_r_n, fw_r_s])) (fun j => by (try simp (disch := omega) only [fw_r_n, fw_r_s])) (fun i hi => by (try simp (disch := omega) only [fw_r_n, fw_r_s])) (fun i hi => by (try simp (disch := omega) only [fw_r_n, fw_r_s]))
  constructor
  · simp (disch := first | assumption | first | omega | assumption | (simp (disch := omega) only [fw_w_id, fw_wl_id, fw_r_k, fw_r_j, fw_r_s]; omega) | (simp only [fw_ptr_32_0, fl_ptr_32_0, fw_ptr_32_1, fl_ptr_32_1, fw_ptr_32_2, fw_ptr_32_3, fw_ptr_32_4, fw_ptr_32_5, fl_ptr_32_5, fw_ptr_32_6, fw_ptr_32_7, fw_ptr_32_8, fw_ptr_32_9, fw_ptr_32_10, fl_ptr_32_10, fw_ptr_32_11, fl_ptr_32_11, fw_ptr_32_12, fw_ptr_32_13, fw_ptr_32_14, fw_ptr_32_15, fw_ptr_32_16, fw_ptr_32_17, fl_ptr_32_17, fw_ptr_32_18, fl_ptr_32_18, fw_ptr_32_19, fl_ptr_32_19, fw_ptr_32_20, fl_ptr_32_20, fw_ptr_32_21, fl_ptr_32_21, fw_ptr_32_22, fl_ptr_32_22, fw_ptr_32_23, fw_ptr_32_24, fw_ptr_32_25, fw_ptr_32_26, fw_ptr_32_27, fw_ptr_32_28, fw_ptr_32_29, fw_ptr_32_30, fw_ptr_32_31, fw_ptr_32_32, fw_ptr_32_33, fw_ptr_32_34, fw_ptr_32_35, fw_ptr_1_8, fw_ptr_2_5, fw_ptr_2_6, fw_ptr_2_7, fw_ptr_2_8, fw_ptr_2_9, fw_ptr_8_2, fw_ptr_8_3, fw_ptr_11_2, fw_ptr_11_3, fw_ptr_11_4, fw_ptr_11_5, fw_ptr_11_6, fw_ptr_17_8, fw_ptr_18_2, fw_ptr_18_3, fw_ptr_25_1, fw_ptr_27_2, fw_ptr_28_1, fl_ptr_33, fl_ptr_34, fl_ptr_35, fl_ptr_36, fl_ptr_38, fl_ptr_39, fl_ptr_40, fl_ptr_41, fl_ptr_42, fl_ptr_43, fl_ptr_44, fl_ptr_45, fl_ptr_46, fl_ptr_47, fl_ptr_48, fl_ptr_49, fl_ptr_50, fw_ptr_3, fw_ptr_4, fw_ptr_5, fw_ptr_6, fw_ptr_7, fw_ptr_9, fw_ptr_10, fw_ptr_13, fw_ptr_15, fw_ptr_16, fw_ptr_19, fw_ptr_20, fw_ptr_21, fw_ptr_22, fw_ptr_23, fw_ptr_24, fw_ptr_26, fw_ptr_29, fw_ptr_30, fw_ptr_31, fw_ptr_33, fw_ptr_34, fw_ptr_35, fw_ptr_36, fw_ptr_37, fw_ptr_38, fw_ptr_39, fw_ptr_40, fw_ptr_41, fw_ptr_42, fw_ptr_43, fw_ptr_44, fw_ptr_45, fw_ptr_46, fw_ptr_47, fw_ptr_48, fw_ptr_49, fw_ptr_50, fw_ptr_51, fw_ptr_52, fw_ptr_53, fw_ptr_54, fw_ptr_55, fw_ptr_12, fw_ptr_x, fw_ptr_hi, fw_ptr_b3, fw_ptr_b1, fw_ptr_b2, fw_ptr_b2_, fl_ptr_x, fl_ptr_hi, fl_ptr_lo, fl_ptr_in]; assumption)) only [fw_b_71_0, fw_b_71_5, fw_b_71_10, fw_b_71_21, fw_b_71_40, fw_b_71_51, fw_b_71_32, fw_b_71_13, fw_c9_71, r1, r2, hold, ↓if_pos, ↓if_neg, if_neg, if_pos, fw_bs, fw_cn_0, fw_cn_1, fw_cn_2, fw_cn_3, fw_cn_4, fw_cn_5, Nat.reduceAdd, fw_w_id, fw_wl_id, fw_r_k, fw_r_j, fw_r_s, fw_r_x, if_true, if_false]
  · refine fg_IN_AE h ?_ ?_ (fun a j ha => by (try simp (disch := omega) only [fw_r_n, fw_r_s])) (fun a j ha => by (try simp (disch := omega) only [fw_r_n, fw_r_s]))
    · refine ⟨⟨⟨hp1, hk1, by (try simp (disch := omega) only [fw_r_n, fw_r_s]); exact a3⟩, ⟨by (try simp (disch := omega) only [fw_r_n, fw_r_s]); exact b0, by (try simp (disch := omega) only [fw_r_n, fw_r_s]); exact b1, by (try simp (disch := omega) only [fw_r_n, fw_r_s]); exact b2, by (try simp (disch := omega) only [fw_r_n, fw_r_s]); exact b3, by (try simp (disch := omega) only [fw_r_n, fw_r_s]); exact b4, by (try simp (disch := omega) only [fw_r_n, fw_r_s]); exact b5⟩, ⟨by (try simp (disch := omega) only [fw_r_n, fw_r_s]); exact f1, by (try simp (disch := omega) only [fw_r_n, fw_r_s]); exact f2, by (try simp (disch := omega) only [fw_r_n, fw_r_s]); exact f3, by (try simp (disch := omega) only [fw_r_n, fw_r_s]); exact f4⟩, fun i x y => ?_, fun i j x y z w e => ?_, fun r x y => ?_, fun r x y => ?_⟩, by rw [fw_ptr_35]; exact hm⟩
      · simp (disch := omega) only [fw_r_n] at y
        have := e2 i x y
        by_cases hi : i = p
        · subst hi
          (try simp (disch := omega) only [fw_r_n, fw_r_s])
          exact ⟨this.1, ⟨trivial, c2⟩, this.2.2⟩
        · (try simp (disch := omega) only [fw_r_n, fw_r_s])
          exact this
      · simp (disch := omega) only [fw_r_n] at y w e
        exact e3 i j x y z w e
      · simp (disch := omega) only [fw_r_n] at y
        (try simp (disch := omega) only [fw_r_n, fw_r_s])
        exact e4 r x y
      · (try simp (disch := omega) only [fw_r_n, fw_r_s])
        exact e5 r x y
    · have gE0 := h.2.2.2.2.1
      refine ⟨fun i x y => ?_, fun i x y => ?_⟩
      · simp (disch := omega) only [fw_r_n] at y
        have g := gE0.1 i x y
        (try simp (disch := omega) only [fw_r_n, fw_r_s])
        by_cases hi : i = p
        · subst hi
          (try simp (disch := omega) only [fw_r_n, fw_r_s])
          exact ⟨⟨g.1.1, g.1.2.1, by omega⟩, g.2⟩
        · (try simp (disch := omega) only [fw_r_n, fw_r_s])
          exact g
      · simp (disch := omega) only [fw_r_n] at x
        (try simp (disch := omega) only [fw_r_n, fw_r_s])
        exact gE0.2 i x y
theorem fg_IN_route {M p q : Int} {c m : fw_M} (h : fg_IN M c m) (c1 : 0 ≤ p ∧ p < 8) (c2 : -1 ≤ q ∧ q < fw_r m 32 3) : fg_IN M (fw_u c 13 p q) (fw_u m 41 p q) := by
  have hp := h.1.1.1.1
  have hm := h.1.2
  obtain ⟨⟨a1, a2, a3⟩, ⟨b0, b1, b2, b3, b4, b5⟩, ⟨f1, f2, f3, f4⟩, e2, e3, e4, e5⟩ := h.1.1
  have hp1 : fw_ptr (fw_u c 13 p q) := by rw [fw_ptr_13]; exact hp
  have hk1 : fg_cok (fw_u c 13 p q) := fg_cok_c a2 (by (try simp (disch := omega) only [fw_r_n, fw_r_s])) (fun j => by (try simp (disch := omega) only [fw_r_n, fw_r_s])) (fun i hi => by (try simp (disch := omega) only [fw_r_n, fw_r_s])) (fun i hi => by (try simp (disch := omega) only [fw_r_n, fw_r_s]))
  refine fg_IN_AE h ?_ ?_ (fun a j ha => by (try simp (disch := omega) only [fw_r_n, fw_r_s])) (fun a j ha => by (try simp (disch := omega) only [fw_r_n, fw_r_s]))
  · refine ⟨⟨⟨hp1, hk1, by (try simp (disch := omega) only [fw_r_n, fw_r_s]); exact a3⟩, ⟨by (try simp (disch := omega) only [fw_r_n, fw_r_s]); exact b0, by (try simp (disch := omega) only [fw_r_n, fw_r_s]); exact b1, by (try simp (disch := omega) only [fw_r_n, fw_r_s]); exact b2, by (try simp (disch := omega) only [fw_r_n, fw_r_s]); exact b3, by (try simp (disch := omega) only [fw_r_n, fw_r_s]); exact b4, by (try simp (disch := omega) only [fw_r_n, fw_r_s]); exact b5⟩, ⟨by (try simp (disch := omega) only [fw_r_n, fw_r_s]); exact f1, by (try simp (disch := omega) only [fw_r_n, fw_r_s]); exact f2, by (try simp (disch := omega) only [fw_r_n, fw_r_s]); exact f3, by (try simp (disch := omega) only [fw_r_n, fw_r_s]); exact f4⟩, fun i x y => ?_, fun i j x y z w e => ?_, fun r x y => ?_, fun r x y => ?_⟩, by rw [fw_ptr_41]; exact hm⟩
    · simp (disch := omega) only [fw_r_n] at y
      (try simp (disch := omega) only [fw_r_n, fw_r_s])
      exact e2 i x y
    · simp (disch := omega) only [fw_r_n] at y w e
      exact e3 i j x y z w e
    · simp (disch := omega) only [fw_r_n] at y
      (try simp (disch := omega) only [fw_r_n, fw_r_s])
      exact e4 r x y
    · by_cases hr : r = p
      · subst hr
        (try simp (disch := omega) only [fw_r_n, fw_r_s])
        exact ⟨trivial, c2⟩
      · (try simp (disch := omega) only [fw_r_n, fw_r_s])
        exact e5 r x y
  · exact fg_gE_c h.2.2.2.2.1 (fun i hi => ⟨by (try simp (disch := omega) only [fw_r_n, fw_r_s]), by (try simp (disch := omega) only [fw_r_n, fw_r_s]), by (try simp (disch := omega) only [fw_r_n, fw_r_s]), fun k => by (try simp (disch := omega) only [fw_r_n, fw_r_s])⟩) (by (try simp (disch := omega) only [fw_r_n, fw_r_s])) (by (try simp (disch := omega) only [fw_r_n, fw_r_s])) (fun j => by (try simp (disch := omega) only [fw_r_n, fw_r_s])) (fun j => by (try simp (disch := omega) only [fw_r_n, fw_r_s])) (fun j => by (try simp (disch := omega) only [fw_r_n, fw_r_s])) (fun j => by (try simp (disch := omega) only [fw_r_n, fw_r_s])) (fun j => by (try simp (disch := omega) only [fw_r_n, fw_r_s])) (fun j => by (try simp (disch := omega) only [fw_r_n, fw_r_s])) (fun j => by (try simp (disch := omega) only [fw_r_n, fw_r_s]))
theorem fm_assign {M p q : Int} {c m : fw_M} {a3 : fw_V} (h : fg_IN M c m) (c1 : 0 ≤ p ∧ p < 8) (c2 : 0 ≤ q ∧ q < fw_r m 32 3) : fw_E 89 0 [(2, 1), (0, p), (0, q), a3] [] c = some ((0, fw_r m 41 p), fw_u c 13 p q) ∧ fg_IN M (fw_u c 13 p q) (fw_u m 41 p q) := by
  obtain ⟨⟨hp, hk, hpk⟩, ⟨h3, h30, h36⟩, hN, h82, h113, h25, hP⟩ := fg_facts h
  have r1 := fs_rRoute_t (σ := c) c1
  have r2 := fs_rChute_t (r := q) (a2 := (8, 0)) hp hk (by omega)
  have r3 := fs_chuteOfRoute hp c1.1 c1.2
  rw [(h.1.1.2.2.2.2.2.2 p c1.1 c1.2).1] at r3
  have r4 := fs_send (c := q) hp c1.1 c1.2
  refine ⟨?_, fg_IN_route h c1 (by omega)⟩
  simp (disch := first | assumption | first | omega | assumption | (simp (disch := omega) only [fw_w_id, fw_wl_id, fw_r_k, fw_r_j, fw_r_s]; omega) | (simp only [fw_ptr_32_0, fl_ptr_32_0, fw_ptr_32_1, fl_ptr_32_1, fw_ptr_32_2, fw_ptr_32_3, fw_ptr_32_4, fw_ptr_32_5, fl_ptr_32_5, fw_ptr_32_6, fw_ptr_32_7, fw_ptr_32_8, fw_ptr_32_9, fw_ptr_32_10, fl_ptr_32_10, fw_ptr_32_11, fl_ptr_32_11, fw_ptr_32_12, fw_ptr_32_13, fw_ptr_32_14, fw_ptr_32_15, fw_ptr_32_16, fw_ptr_32_17, fl_ptr_32_17, fw_ptr_32_18, fl_ptr_32_18, fw_ptr_32_19, fl_ptr_32_19, fw_ptr_32_20, fl_ptr_32_20, fw_ptr_32_21, fl_ptr_32_21, fw_ptr_32_22, fl_ptr_32_22, fw_ptr_32_23, fw_ptr_32_24, fw_ptr_32_25, fw_ptr_32_26, fw_ptr_32_27, fw_ptr_32_28, fw_ptr_32_29, fw_ptr_32_30, fw_ptr_32_31, fw_ptr_32_32, fw_ptr_32_33, fw_ptr_32_34, fw_ptr_32_35, fw_ptr_1_8, fw_ptr_2_5, fw_ptr_2_6, fw_ptr_2_7, fw_ptr_2_8, fw_ptr_2_9, fw_ptr_8_2, fw_ptr_8_3, fw_ptr_11_2, fw_ptr_11_3, fw_ptr_11_4, fw_ptr_11_5, fw_ptr_11_6, fw_ptr_17_8, fw_ptr_18_2, fw_ptr_18_3, fw_ptr_25_1, fw_ptr_27_2, fw_ptr_28_1, fl_ptr_33, fl_ptr_34, fl_ptr_35, fl_ptr_36, fl_ptr_38, fl_ptr_39, fl_ptr_40, fl_ptr_41, fl_ptr_42, fl_ptr_43, fl_ptr_44, fl_ptr_45, fl_ptr_46, fl_ptr_47, fl_ptr_48, fl_ptr_49, fl_ptr_50, fw_ptr_3, fw_ptr_4, fw_ptr_5, fw_ptr_6, fw_ptr_7, fw_ptr_9, fw_ptr_10, fw_ptr_13, fw_ptr_15, fw_ptr_16, fw_ptr_19, fw_ptr_20, fw_ptr_21, fw_ptr_22, fw_ptr_23, fw_ptr_24, fw_ptr_26, fw_ptr_29, fw_ptr_30, fw_ptr_31, fw_ptr_33, fw_ptr_34, fw_ptr_35, fw_ptr_36, fw_ptr_37, fw_ptr_38, fw_ptr_39, fw_ptr_40, fw_ptr_41, fw_ptr_42, fw_ptr_43, fw_ptr_44, fw_ptr_45, fw_ptr_46, fw_ptr_47, fw_ptr_48, fw_ptr_49, fw_ptr_50, fw_ptr_51, fw_ptr_52, fw_ptr_53, fw_ptr_54, fw_ptr_55, fw_ptr_12, fw_ptr_x, fw_ptr_hi, fw_ptr_b3, fw_ptr_b1, fw_ptr_b2, fw_ptr_b2_, fl_ptr_x, fl_ptr_hi, fl_ptr_lo, fl_ptr_in]; assumption)) only [fw_b_89_0, fw_b_89_4, fw_b_89_9, fw_b_89_18, fw_b_89_28, fw_c9_89, r1, r2, r3, r4, ↓if_pos, ↓if_neg, if_neg, if_pos, fw_bs, fw_cn_0, fw_cn_1, fw_cn_2, fw_cn_3, fw_cn_4, fw_cn_5, Nat.reduceAdd, fw_w_id, fw_wl_id, fw_r_k, fw_r_j, fw_r_s, fw_r_x, if_true, if_false]
theorem fm_unassign {M p : Int} {c m : fw_M} {a2 : fw_V} (h : fg_IN M c m) (c1 : 0 ≤ p ∧ p < 8) (c2 : fw_r m 41 p ≠ -1) : fw_E 90 0 [(2, 1), (0, p), a2] [] c = some ((0, fw_r m 41 p), fw_u c 13 p (-1)) ∧ fg_IN M (fw_u c 13 p (-1)) (fw_u m 41 p (-1)) := by
  obtain ⟨⟨hp, hk, hpk⟩, ⟨h3, h30, h36⟩, hN, h82, h113, h25, hP⟩ := fg_facts h
  have r1 := fs_rRoute_t (σ := c) c1
  have r3 := fs_chuteOfRoute hp c1.1 c1.2
  rw [(h.1.1.2.2.2.2.2.2 p c1.1 c1.2).1] at r3
  have r4 := fs_send (c := -1) hp c1.1 c1.2
  refine ⟨?_, fg_IN_route h c1 (by omega)⟩
  simp (disch := first | assumption | first | omega | assumption | (simp (disch := omega) only [fw_w_id, fw_wl_id, fw_r_k, fw_r_j, fw_r_s]; omega) | (simp only [fw_ptr_32_0, fl_ptr_32_0, fw_ptr_32_1, fl_ptr_32_1, fw_ptr_32_2, fw_ptr_32_3, fw_ptr_32_4, fw_ptr_32_5, fl_ptr_32_5, fw_ptr_32_6, fw_ptr_32_7, fw_ptr_32_8, fw_ptr_32_9, fw_ptr_32_10, fl_ptr_32_10, fw_ptr_32_11, fl_ptr_32_11, fw_ptr_32_12, fw_ptr_32_13, fw_ptr_32_14, fw_ptr_32_15, fw_ptr_32_16, fw_ptr_32_17, fl_ptr_32_17, fw_ptr_32_18, fl_ptr_32_18, fw_ptr_32_19, fl_ptr_32_19, fw_ptr_32_20, fl_ptr_32_20, fw_ptr_32_21, fl_ptr_32_21, fw_ptr_32_22, fl_ptr_32_22, fw_ptr_32_23, fw_ptr_32_24, fw_ptr_32_25, fw_ptr_32_26, fw_ptr_32_27, fw_ptr_32_28, fw_ptr_32_29, fw_ptr_32_30, fw_ptr_32_31, fw_ptr_32_32, fw_ptr_32_33, fw_ptr_32_34, fw_ptr_32_35, fw_ptr_1_8, fw_ptr_2_5, fw_ptr_2_6, fw_ptr_2_7, fw_ptr_2_8, fw_ptr_2_9, fw_ptr_8_2, fw_ptr_8_3, fw_ptr_11_2, fw_ptr_11_3, fw_ptr_11_4, fw_ptr_11_5, fw_ptr_11_6, fw_ptr_17_8, fw_ptr_18_2, fw_ptr_18_3, fw_ptr_25_1, fw_ptr_27_2, fw_ptr_28_1, fl_ptr_33, fl_ptr_34, fl_ptr_35, fl_ptr_36, fl_ptr_38, fl_ptr_39, fl_ptr_40, fl_ptr_41, fl_ptr_42, fl_ptr_43, fl_ptr_44, fl_ptr_45, fl_ptr_46, fl_ptr_47, fl_ptr_48, fl_ptr_49, fl_ptr_50, fw_ptr_3, fw_ptr_4, fw_ptr_5, fw_ptr_6, fw_ptr_7, fw_ptr_9, fw_ptr_10, fw_ptr_13, fw_ptr_15, fw_ptr_16, fw_ptr_19, fw_ptr_20, fw_ptr_21, fw_ptr_22, fw_ptr_23, fw_ptr_24, fw_ptr_26, fw_ptr_29, fw_ptr_30, fw_ptr_31, fw_ptr_33, fw_ptr_34, fw_ptr_35, fw_ptr_36, fw_ptr_37, fw_ptr_38, fw_ptr_39, fw_ptr_40, fw_ptr_41, fw_ptr_42, fw_ptr_43, fw_ptr_44, fw_ptr_45, fw_ptr_46, fw_ptr_47, fw_ptr_48, fw_ptr_49, fw_ptr_50, fw_ptr_51, fw_ptr_52, fw_ptr_53, fw_ptr_54, fw_ptr_55, fw_ptr_12, fw_ptr_x, fw_ptr_hi, fw_ptr_b3, fw_ptr_b1, fw_ptr_b2, fw_ptr_b2_, fl_ptr_x, fl_ptr_hi, fl_ptr_lo, fl_ptr_in]; assumption)) only [fw_b_90_0, fw_b_90_4, fw_b_90_12, fw_b_90_26, fw_b_90_35, fw_b_90_18, fw_c9_90, r1, r3, r4, ↓if_pos, ↓if_neg, if_neg, if_pos, fw_bs, fw_cn_0, fw_cn_1, fw_cn_2, fw_cn_3, fw_cn_4, fw_cn_5, Nat.reduceAdd, fw_w_id, fw_wl_id, fw_r_k, fw_r_j, fw_r_s, fw_r_x, if_true, if_false]
def fg_sm (m : fw_M) (p v : Int) : fw_M := if p = 0 then fw_u m 32 7 v else if p = fw_r m 32 1 - 1 then fw_u m 32 8 v else fw_u m 36 (fg_nm m p) v
def fg_jm (m : fw_M) (p : Int) : Int := if p = 0 then fw_r m 32 7 else if p = fw_r m 32 1 - 1 then fw_r m 32 8 else fw_r m 36 (fg_nm m p)
def fg_stn (m : fw_M) (p : Int) : Prop := p = 0 ∨ p = fw_r m 32 1 - 1 ∨ fg_nm m p ≠ -1
theorem fg_IN_jam {M p v : Int} {σ : fw_M} (h : fg_IN M σ σ) (hp : fw_ptr σ) (hv : v = 0 ∨ v = 1) (hs : fg_stn σ p) : fg_IN M (fg_sj σ p v) (fg_sm σ p v) ∧ (∀ a j, (a < 11 ∨ (11 < a ∧ a < 51)) → fw_r (fg_sj σ p v) a j = fw_r σ a j) ∧ fw_ptr (fg_sj σ p v) := by
  have hcf := h.1.1
  have hna := fg_na_m hcf p
  obtain ⟨⟨a1, a2, a3⟩, ⟨b0, b1, b2, b3, b4, b5⟩, ⟨f1, f2, f3, f4⟩, e2, e3, e4, e5⟩ := hcf
  have hgE := h.2.2.2.2.1
  have en : fg_na σ p = fg_nm σ p := hna
  unfold fg_sj fg_sm
  unfold fg_stn at hs
  rw [b1, en]
  by_cases c1 : p = 0
  · simp only [if_pos c1]
    have hp1 : fw_ptr (fw_u σ 11 5 v) := by rw [fw_ptr_11_5]; exact hp
    have hk1 : fg_cok (fw_u σ 11 5 v) := fg_cok_c a2 (by (try simp (disch := omega) only [fw_r_n, fw_r_s])) (fun j => by (try simp (disch := omega) only [fw_r_n, fw_r_s])) (fun i hi => by (try simp (disch := omega) only [fw_r_n, fw_r_s])) (fun i hi => by (try simp (disch := omega) only [fw_r_n, fw_r_s]))
    refine ⟨fg_IN_AE h ?_ ?_ (fun a j ha => by (try simp (disch := omega) only [fw_r_n, fw_r_s])) (fun a j ha => by (try simp (disch := omega) only [fw_r_n, fw_r_s])), fun a j ha => by (try simp (disch := omega) only [fw_r_n, fw_r_s]), hp1⟩
    · refine ⟨⟨⟨hp1, hk1, by (try simp (disch := omega) only [fw_r_n, fw_r_s]); exact a3⟩, ⟨by (try simp (disch := omega) only [fw_r_n, fw_r_s]); exact b0, by (try simp (disch := omega) only [fw_r_n, fw_r_s]); exact b1, by (try simp (disch := omega) only [fw_r_n, fw_r_s]); exact b2, by (try simp (disch := omega) only [fw_r_n, fw_r_s]), by (try simp (disch := omega) only [fw_r_n, fw_r_s]); exact b4, by (try simp (disch := omega) only [fw_r_n, fw_r_s]); exact b5⟩, ⟨by (try simp (disch := omega) only [fw_r_n, fw_r_s]); exact hv, by (try simp (disch := omega) only [fw_r_n, fw_r_s]); exact f2, by (try simp (disch := omega) only [fw_r_n, fw_r_s]); exact f3, by (try simp (disch := omega) only [fw_r_n, fw_r_s]); exact f4⟩, fun i x y => ?_, fun i j x y z w e => ?_, fun r x y => ?_, fun r x y => ?_⟩, by rw [fw_ptr_32_7]; exact hp⟩
      · simp (disch := omega) only [fw_r_n] at y
        (try simp (disch := omega) only [fw_r_n, fw_r_s])
        exact e2 i x y
      · simp (disch := omega) only [fw_r_n] at y w e
        exact e3 i j x y z w e
      · simp (disch := omega) only [fw_r_n] at y
        (try simp (disch := omega) only [fw_r_n, fw_r_s])
        exact e4 r x y
      · (try simp (disch := omega) only [fw_r_n, fw_r_s])
        exact e5 r x y
    · exact fg_gE_c hgE (fun i hi => ⟨by (try simp (disch := omega) only [fw_r_n, fw_r_s]), by (try simp (disch := omega) only [fw_r_n, fw_r_s]), by (try simp (disch := omega) only [fw_r_n, fw_r_s]), fun k => by (try simp (disch := omega) only [fw_r_n, fw_r_s])⟩) (by (try simp (disch := omega) only [fw_r_n, fw_r_s])) (by (try simp (disch := omega) only [fw_r_n, fw_r_s])) (fun j => by (try simp (disch := omega) only [fw_r_n, fw_r_s])) (fun j => by (try simp (disch := omega) only [fw_r_n, fw_r_s])) (fun j => by (try simp (disch := omega) only [fw_r_n, fw_r_s])) (fun j => by (try simp (disch := omega) only [fw_r_n, fw_r_s])) (fun j => by (try simp (disch := omega) only [fw_r_n, fw_r_s])) (fun j => by (try simp (disch := omega) only [fw_r_n, fw_r_s])) (fun j => by (try simp (disch := omega) only [fw_r_n, fw_r_s]))
  · by_cases c2 : p = fw_r σ 32 1 - 1
    · simp only [if_neg c1, if_pos c2]
      have hp1 : fw_ptr (fw_u σ 11 6 v) := by rw [fw_ptr_11_6]; exact hp
      have hk1 : fg_cok (fw_u σ 11 6 v) := fg_cok_c a2 (by (try simp (disch := omega) only [fw_r_n, fw_r_s])) (fun j => by (try simp (disch := omega) only [fw_r_n, fw_r_s])) (fun i hi => by (try simp (disch := omega) only [fw_r_n, fw_r_s])) (fun i hi => by (try simp (disch := omega) only [fw_r_n, fw_r_s]))
      refine ⟨fg_IN_AE h ?_ ?_ (fun a j ha => by (try simp (disch := omega) only [fw_r_n, fw_r_s])) (fun a j ha => by (try simp (disch := omega) only [fw_r_n, fw_r_s])), fun a j ha => by (try simp (disch := omega) only [fw_r_n, fw_r_s]), hp1⟩
      · refine ⟨⟨⟨hp1, hk1, by (try simp (disch := omega) only [fw_r_n, fw_r_s]); exact a3⟩, ⟨by (try simp (disch := omega) only [fw_r_n, fw_r_s]); exact b0, by (try simp (disch := omega) only [fw_r_n, fw_r_s]); exact b1, by (try simp (disch := omega) only [fw_r_n, fw_r_s]); exact b2, by (try simp (disch := omega) only [fw_r_n, fw_r_s]); exact b3, by (try simp (disch := omega) only [fw_r_n, fw_r_s]), by (try simp (disch := omega) only [fw_r_n, fw_r_s]); exact b5⟩, ⟨by (try simp (disch := omega) only [fw_r_n, fw_r_s]); exact f1, by (try simp (disch := omega) only [fw_r_n, fw_r_s]); exact hv, by (try simp (disch := omega) only [fw_r_n, fw_r_s]); exact f3, by (try simp (disch := omega) only [fw_r_n, fw_r_s]); exact f4⟩, fun i x y => ?_, fun i j x y z w e => ?_, fun r x y => ?_, fun r x y => ?_⟩, by rw [fw_ptr_32_8]; exact hp⟩
        · simp (disch := omega) only [fw_r_n] at y
          (try simp (disch := omega) only [fw_r_n, fw_r_s])
          exact e2 i x y
        · simp (disch := omega) only [fw_r_n] at y w e
          exact e3 i j x y z w e
        · simp (disch := omega) only [fw_r_n] at y
          (try simp (disch := omega) only [fw_r_n, fw_r_s])
          exact e4 r x y
        · (try simp (disch := omega) only [fw_r_n, fw_r_s])
          exact e5 r x y
      · exact fg_gE_c hgE (fun i hi => ⟨by (try simp (disch := omega) only [fw_r_n, fw_r_s]), by (try simp (disch := omega) only [fw_r_n, fw_r_s]), by (try simp (disch := omega) only [fw_r_n, fw_r_s]), fun k => by (try simp (disch := omega) only [fw_r_n, fw_r_s])⟩) (by (try simp (disch := omega) only [fw_r_n, fw_r_s])) (by (try simp (disch := omega) only [fw_r_n, fw_r_s])) (fun j => by (try simp (disch := omega) only [fw_r_n, fw_r_s])) (fun j => by (try simp (disch := omega) only [fw_r_n, fw_r_s])) (fun j => by (try simp (disch := omega) only [fw_r_n, fw_r_s])) (fun j => by (try simp (disch := omega) only [fw_r_n, fw_r_s])) (fun j => by (try simp (disch := omega) only [fw_r_n, fw_r_s])) (fun j => by (try simp (disch := omega) only [fw_r_n, fw_r_s])) (fun j => by (try simp (disch := omega) only [fw_r_n, fw_r_s]))
    · simp only [if_neg c1, if_neg c2]
      have hx : 0 ≤ fg_nm σ p ∧ fg_nm σ p < fw_r σ 32 3 := by
        rcases fg_nm_in (p := p) (by have := a2.1; omega : 0 ≤ fw_r σ 32 3) with hx | hx
        · omega
        · exact ⟨hx.1, hx.2.1⟩
      generalize fg_nm σ p = q at *
      have hp1 : fw_ptr (fw_u σ (51 + 3 * q) 3 v) := by rw [fw_ptr_hi _ (by omega)]; exact hp
      have hk1 : fg_cok (fw_u σ (51 + 3 * q) 3 v) := fg_cok_c a2 (by (try simp (disch := omega) only [fw_r_n, fw_r_s])) (fun j => by (try simp (disch := omega) only [fw_r_n, fw_r_s])) (fun i hi => by (try simp (disch := omega) only [fw_r_n, fw_r_s])) (fun i hi => by (try simp (disch := omega) only [fw_r_n, fw_r_s]))
      refine ⟨fg_IN_AE h ?_ ?_ (fun a j ha => by (try simp (disch := omega) only [fw_r_n, fw_r_s])) (fun a j ha => by (try simp (disch := omega) only [fw_r_n, fw_r_s])), fun a j ha => by (try simp (disch := omega) only [fw_r_n, fw_r_s]), hp1⟩
      · refine ⟨⟨⟨hp1, hk1, by (try simp (disch := omega) only [fw_r_n, fw_r_s]); exact a3⟩, ⟨by (try simp (disch := omega) only [fw_r_n, fw_r_s]); exact b0, by (try simp (disch := omega) only [fw_r_n, fw_r_s]); exact b1, by (try simp (disch := omega) only [fw_r_n, fw_r_s]); exact b2, by (try simp (disch := omega) only [fw_r_n, fw_r_s]); exact b3, by (try simp (disch := omega) only [fw_r_n, fw_r_s]); exact b4, by (try simp (disch := omega) only [fw_r_n, fw_r_s]); exact b5⟩, ⟨by (try simp (disch := omega) only [fw_r_n, fw_r_s]); exact f1, by (try simp (disch := omega) only [fw_r_n, fw_r_s]); exact f2, by (try simp (disch := omega) only [fw_r_n, fw_r_s]); exact f3, by (try simp (disch := omega) only [fw_r_n, fw_r_s]); exact f4⟩, fun i x y => ?_, fun i j x y z w e => ?_, fun r x y => ?_, fun r x y => ?_⟩, by rw [fw_ptr_36]; exact hp⟩
        · simp (disch := omega) only [fw_r_n] at y
          have := e2 i x y
          by_cases hi : i = q
          · subst hi
            (try simp (disch := omega) only [fw_r_n, fw_r_s])
            exact ⟨this.1, this.2.1, trivial, hv⟩
          · (try simp (disch := omega) only [fw_r_n, fw_r_s])
            exact this
        · simp (disch := omega) only [fw_r_n] at y w e
          exact e3 i j x y z w e
        · simp (disch := omega) only [fw_r_n] at y
          (try simp (disch := omega) only [fw_r_n, fw_r_s])
          exact e4 r x y
        · (try simp (disch := omega) only [fw_r_n, fw_r_s])
          exact e5 r x y
      · refine ⟨fun i x y => ?_, fun i x y => ?_⟩
        · simp (disch := omega) only [fw_r_n] at y
          have g := hgE.1 i x y
          (try simp (disch := omega) only [fw_r_n, fw_r_s])
          exact g
        · simp (disch := omega) only [fw_r_n] at x
          (try simp (disch := omega) only [fw_r_n, fw_r_s])
          exact hgE.2 i x y
theorem fg_sj_AQ {c c' : fw_M} (h : fg_AQ c c') (p v : Int) : fg_AQ (fg_sj c p v) (fg_sj c' p v) := by
  have e1 : fw_r c' 11 3 = fw_r c 11 3 := h _ _ (by omega)
  have e2 : fg_na c' p = fg_na c p := by
    unfold fg_na
    rw [h 11 2 (by omega)]
    exact fg_fa_ext _ _ (fun j a b => h _ _ (by omega))
  unfold fg_sj
  rw [e1, e2]
  split
  · exact fg_AQ_u h _ _ _
  · split
    · exact fg_AQ_u h _ _ _
    · exact fg_AQ_u h _ _ _
theorem fg_nm_AG {m m' : fw_M} (h : fg_AG m m') (p : Int) : fg_nm m' p = fg_nm m p := fg_nm_eq (h _ _ (by decide) (by decide) (by decide)) (fun j => h _ _ (by decide) (by decide) (Or.inl (by decide))) p
theorem fg_sm_AG {m m' : fw_M} (h : fg_AG m m') (p v : Int) : fg_AG (fg_sm m p v) (fg_sm m' p v) := by
  unfold fg_sm
  rw [h 32 1 (by decide) (by decide) (by decide), fg_nm_AG h]
  split
  · exact fg_AG_u h _ _ _
  · split
    · exact fg_AG_u h _ _ _
    · exact fg_AG_u h _ _ _
theorem fg_sm_ptr {m : fw_M} (p v : Int) (hp : fw_ptr m) : fw_ptr (fg_sm m p v) := by
  unfold fg_sm
  split
  · rw [fw_ptr_32_7]; exact hp
  · split
    · rw [fw_ptr_32_8]; exact hp
    · rw [fw_ptr_36]; exact hp
theorem fg_sj_o {c : fw_M} {p v a j : Int} (hk : fg_cok c) (ha : a < 11 ∨ (11 < a ∧ a < 51)) (hs : fg_na c p ≠ -1 ∨ p = 0 ∨ p = fw_r c 11 3) : fw_r (fg_sj c p v) a j = fw_r c a j := by
  unfold fg_sj
  split
  · (try simp (disch := omega) only [fw_r_n, fw_r_s])
  · split
    · (try simp (disch := omega) only [fw_r_n, fw_r_s])
    · have := fg_na_in (p := p) hk
      rw [fw_r_k _ (by omega)]
theorem fg_IN_jam2 {M p v : Int} {c m : fw_M} (h : fg_IN M c m) (hv : v = 0 ∨ v = 1) (hs : fg_stn m p) : fg_IN M (fg_sj c p v) (fg_sm m p v) ∧ (∀ a j, (a < 11 ∨ (11 < a ∧ a < 51)) → fw_r (fg_sj c p v) a j = fw_r c a j) ∧ fw_ptr (fg_sj c p v) := by
  have hp := h.1.1.1.1
  have hs' : fg_stn (fg_th c m) p := by
    unfold fg_stn at hs ⊢
    rw [fg_nm_AG (fg_th_AG c m), fg_th_m c m 1 (by decide)]; exact hs
  obtain ⟨q1, q2, q3⟩ := fg_IN_jam (fg_th_IN h) (fg_th_ptr m hp) hv hs'
  have qq := fg_sj_AQ (fg_th_AQ c m) p v
  have qp := fg_AQ_ptr qq q3
  refine ⟨fg_IN_eq q1 (fg_AQ_AC qq) (fg_sm_AG (fg_th_AG' c m) p v) qp (fg_sm_ptr p v h.1.2), fun a j ha => ?_, qp⟩
  obtain ⟨⟨-, hk, -⟩, ⟨h3, h30, h36⟩, hN, h82, h113, h25, hP⟩ := fg_facts h
  refine fg_sj_o hk ha ?_
  have e : fg_na c p = fg_nm m p := fg_na_m h.1.1 p
  unfold fg_stn at hs
  rw [e, h113]; omega
def fg_J (m : fw_M) : Int := fw_r m 32 7 + fw_r m 32 8 + fg_sf (fw_r m 36) 0 (fg_n m)
theorem fm_jamx {M p v : Int} {c m : fw_M} (h : fg_IN M c m) (hv : v = 0 ∨ v = 1) (c1 : fg_stn m p) : fw_E 110 0 [(2, 1), (0, p)] [] c = some ((5, 0), c) ∧ fw_E 53 0 [(2, 11), (0, p), (8, 0)] [] c = some ((0, fg_jm m p), c) ∧ fw_E 54 0 [(2, 11), (0, p), (0, v), (8, 0)] [] c = some ((5, 0), fg_sj c p v) ∧ fw_E 55 0 [(2, 11), (8, 0), (8, 0), (8, 0)] [] (fg_sj c p v) = some ((0, fg_J (fg_sm m p v)), fg_sj c p v) ∧ (fg_jm m p = 0 ∨ fg_jm m p = 1) := by
  obtain ⟨⟨hp, hk, hpk⟩, ⟨h3, h30, h36⟩, hN, h82, h113, h25, hP⟩ := fg_facts h
  obtain ⟨b0, b1, b2, b3, b4, b5⟩ := h.1.1.2.1
  obtain ⟨f1, f2, f3, f4⟩ := h.1.1.2.2.1
  have e2 := h.1.1.2.2.2.1
  have en : fg_na c p = fg_nm m p := fg_na_m h.1.1 p
  have hkind : fg_kind c p ≠ 45 := by
    unfold fg_kind
    unfold fg_stn at c1
    rw [h113, en]
    split
    · decide
    · split
      · decide
      · rw [if_neg (by omega)]; decide
  have hjm : ∀ i, 0 ≤ i → i < fw_r m 32 3 → fw_r m 36 i = 0 ∨ fw_r m 36 i = 1 := fun i x y => (e2 i x y).2.2.2
  have r1 := fs_rStation_t (r := p) hp hk hkind
  have r2 := fs_isJammed (p := p) (a2 := (8, 0)) hp hk (by rw [b3]; exact f1) (by rw [b4]; exact f2) (fun i x y => by have := (e2 i x (by omega)).2.2; rw [this.1]; exact this.2) hkind
  have hjj : fg_jmd c p = fg_jm m p := by
    unfold fg_jmd fg_jm
    rw [h113, en, b3, b4]
    split
    · rfl
    · split
      · rfl
      · unfold fg_stn at c1
        rcases fg_nm_in (p := p) h30 with hx | hx
        · omega
        · exact (e2 _ hx.1 hx.2.1).2.2.1
  rw [hjj] at r2
  have hj01 : fg_jm m p = 0 ∨ fg_jm m p = 1 := by
    unfold fg_jm
    split
    · exact f1
    · split
      · exact f2
      · unfold fg_stn at c1
        rcases fg_nm_in (p := p) h30 with hx | hx
        · omega
        · exact hjm _ hx.1 hx.2.1
  obtain ⟨hI2, hsame, hp1⟩ := fg_IN_jam2 (v := v) h hv c1
  have r3 := fs_setJammed (v := v) (a3 := (8, 0)) hp hk hv hkind
  obtain ⟨⟨g1, g2, g3⟩, ⟨-, -, -, gb3, gb4, -⟩, ⟨gf1, gf2, -, -⟩, ge2, -⟩ := hI2.1.1
  have r4 := fs_jams (a1 := (8, 0)) (a2 := (8, 0)) (a3 := (8, 0)) g1 g2 (by rw [gb3]; exact gf1) (by rw [gb4]; exact gf2) (fun i x y => by have := (ge2 i x (by omega)).2.2; rw [this.1]; exact this.2)
  have hJ : fw_r (fg_sj c p v) 11 5 + fw_r (fg_sj c p v) 11 6 + fg_sf (fg_jf (fg_sj c p v)) 0 (fw_r (fg_sj c p v) 11 2).toNat = fg_J (fg_sm m p v) := by
    unfold fg_J
    rw [gb3, gb4]
    congr 1
    unfold fg_n
    rw [g3]
    exact fg_sf_ext _ _ (fun i x y => (ge2 i x (by omega)).2.2.1)
  rw [hJ] at r4
  exact ⟨r1, r2, r3, r4, hj01⟩
theorem fm_jam {M p : Int} {c m : fw_M} (h : fg_IN M c m) (c1 : fg_stn m p) (c2 : fg_jm m p = 0) : fw_E 73 0 [(2, 1), (0, p)] [] c = some ((0, fg_J (fg_sm m p 1)), fg_sj c p 1) := by
  obtain ⟨r1, r2, r3, r4, -⟩ := fm_jamx (v := 1) h (Or.inr rfl) c1
  have hp := h.1.1.1.1
  obtain ⟨-, -, hp1⟩ := fg_IN_jam2 (v := 1) h (Or.inr rfl) c1
  generalize fg_J (fg_sm m p 1) = J at *
  generalize fg_sj c p 1 = c' at *
  simp (disch := first | assumption | first | omega | assumption | (simp (disch := omega) only [fw_w_id, fw_wl_id, fw_r_k, fw_r_j, fw_r_s]; omega) | (simp only [fw_ptr_32_0, fl_ptr_32_0, fw_ptr_32_1, fl_ptr_32_1, fw_ptr_32_2, fw_ptr_32_3, fw_ptr_32_4, fw_ptr_32_5, fl_ptr_32_5, fw_ptr_32_6, fw_ptr_32_7, fw_ptr_32_8, fw_ptr_32_9, fw_ptr_32_10, fl_ptr_32_10, fw_ptr_32_11, fl_ptr_32_11, fw_ptr_32_12, fw_ptr_32_13, fw_ptr_32_14, fw_ptr_32_15, fw_ptr_32_16, fw_ptr_32_17, fl_ptr_32_17, fw_ptr_32_18, fl_ptr_32_18, fw_ptr_32_19, fl_ptr_32_19, fw_ptr_32_20, fl_ptr_32_20, fw_ptr_32_21, fl_ptr_32_21, fw_ptr_32_22, fl_ptr_32_22, fw_ptr_32_23, fw_ptr_32_24, fw_ptr_32_25, fw_ptr_32_26, fw_ptr_32_27, fw_ptr_32_28, fw_ptr_32_29, fw_ptr_32_30, fw_ptr_32_31, fw_ptr_32_32, fw_ptr_32_33, fw_ptr_32_34, fw_ptr_32_35, fw_ptr_1_8, fw_ptr_2_5, fw_ptr_2_6, fw_ptr_2_7, fw_ptr_2_8, fw_ptr_2_9, fw_ptr_8_2, fw_ptr_8_3, fw_ptr_11_2, fw_ptr_11_3, fw_ptr_11_4, fw_ptr_11_5, fw_ptr_11_6, fw_ptr_17_8, fw_ptr_18_2, fw_ptr_18_3, fw_ptr_25_1, fw_ptr_27_2, fw_ptr_28_1, fl_ptr_33, fl_ptr_34, fl_ptr_35, fl_ptr_36, fl_ptr_38, fl_ptr_39, fl_ptr_40, fl_ptr_41, fl_ptr_42, fl_ptr_43, fl_ptr_44, fl_ptr_45, fl_ptr_46, fl_ptr_47, fl_ptr_48, fl_ptr_49, fl_ptr_50, fw_ptr_3, fw_ptr_4, fw_ptr_5, fw_ptr_6, fw_ptr_7, fw_ptr_9, fw_ptr_10, fw_ptr_13, fw_ptr_15, fw_ptr_16, fw_ptr_19, fw_ptr_20, fw_ptr_21, fw_ptr_22, fw_ptr_23, fw_ptr_24, fw_ptr_26, fw_ptr_29, fw_ptr_30, fw_ptr_31, fw_ptr_33, fw_ptr_34, fw_ptr_35, fw_ptr_36, fw_ptr_37, fw_ptr_38, fw_ptr_39, fw_ptr_40, fw_ptr_41, fw_ptr_42, fw_ptr_43, fw_ptr_44, fw_ptr_45, fw_ptr_46, fw_ptr_47, fw_ptr_48, fw_ptr_49, fw_ptr_50, fw_ptr_51, fw_ptr_52, fw_ptr_53, fw_ptr_54, fw_ptr_55, fw_ptr_12, fw_ptr_x, fw_ptr_hi, fw_ptr_b3, fw_ptr_b1, fw_ptr_b2, fw_ptr_b2_, fl_ptr_x, fl_ptr_hi, fl_ptr_lo, fl_ptr_in]; assumption)) only [fw_b_73_0, fw_b_73_5, fw_b_73_13, fw_b_73_16, fw_b_73_24, fw_b_73_33, fw_b_73_40, fw_c9_73, r1, r2, r3, r4, c2, ↓if_pos, ↓if_neg, if_neg, if_pos, fw_bs, fw_cn_0, fw_cn_1, fw_cn_2, fw_cn_3, fw_cn_4, fw_cn_5, Nat.reduceAdd, fw_w_id, fw_wl_id, fw_r_k, fw_r_j, fw_r_s, fw_r_x, if_true, if_false]
theorem fm_free {M p : Int} {c m : fw_M} (h : fg_IN M c m) (c1 : fg_stn m p) (c2 : fg_jm m p = 1) : fw_E 74 0 [(2, 1), (0, p)] [] c = some ((0, fg_J (fg_sm m p 0)), fg_sj c p 0) := by
  obtain ⟨r1, r2, r3, r4, -⟩ := fm_jamx (v := 0) h (Or.inl rfl) c1
  have hp := h.1.1.1.1
  obtain ⟨-, -, hp1⟩ := fg_IN_jam2 (v := 0) h (Or.inl rfl) c1
  generalize fg_J (fg_sm m p 0) = J at *
  generalize fg_sj c p 0 = c' at *
  simp (disch := first | assumption | first | omega | assumption | (simp (disch := omega) only [fw_w_id, fw_wl_id, fw_r_k, fw_r_j, fw_r_s]; omega) | (simp only [fw_ptr_32_0, fl_ptr_32_0, fw_ptr_32_1, fl_ptr_32_1, fw_ptr_32_2, fw_ptr_32_3, fw_ptr_32_4, fw_ptr_32_5, fl_ptr_32_5, fw_ptr_32_6, fw_ptr_32_7, fw_ptr_32_8, fw_ptr_32_9, fw_ptr_32_10, fl_ptr_32_10, fw_ptr_32_11, fl_ptr_32_11, fw_ptr_32_12, fw_ptr_32_13, fw_ptr_32_14, fw_ptr_32_15, fw_ptr_32_16, fw_ptr_32_17, fl_ptr_32_17, fw_ptr_32_18, fl_ptr_32_18, fw_ptr_32_19, fl_ptr_32_19, fw_ptr_32_20, fl_ptr_32_20, fw_ptr_32_21, fl_ptr_32_21, fw_ptr_32_22, fl_ptr_32_22, fw_ptr_32_23, fw_ptr_32_24, fw_ptr_32_25, fw_ptr_32_26, fw_ptr_32_27, fw_ptr_32_28, fw_ptr_32_29, fw_ptr_32_30, fw_ptr_32_31, fw_ptr_32_32, fw_ptr_32_33, fw_ptr_32_34, fw_ptr_32_35, fw_ptr_1_8, fw_ptr_2_5, fw_ptr_2_6, fw_ptr_2_7, fw_ptr_2_8, fw_ptr_2_9, fw_ptr_8_2, fw_ptr_8_3, fw_ptr_11_2, fw_ptr_11_3, fw_ptr_11_4, fw_ptr_11_5, fw_ptr_11_6, fw_ptr_17_8, fw_ptr_18_2, fw_ptr_18_3, fw_ptr_25_1, fw_ptr_27_2, fw_ptr_28_1, fl_ptr_33, fl_ptr_34, fl_ptr_35, fl_ptr_36, fl_ptr_38, fl_ptr_39, fl_ptr_40, fl_ptr_41, fl_ptr_42, fl_ptr_43, fl_ptr_44, fl_ptr_45, fl_ptr_46, fl_ptr_47, fl_ptr_48, fl_ptr_49, fl_ptr_50, fw_ptr_3, fw_ptr_4, fw_ptr_5, fw_ptr_6, fw_ptr_7, fw_ptr_9, fw_ptr_10, fw_ptr_13, fw_ptr_15, fw_ptr_16, fw_ptr_19, fw_ptr_20, fw_ptr_21, fw_ptr_22, fw_ptr_23, fw_ptr_24, fw_ptr_26, fw_ptr_29, fw_ptr_30, fw_ptr_31, fw_ptr_33, fw_ptr_34, fw_ptr_35, fw_ptr_36, fw_ptr_37, fw_ptr_38, fw_ptr_39, fw_ptr_40, fw_ptr_41, fw_ptr_42, fw_ptr_43, fw_ptr_44, fw_ptr_45, fw_ptr_46, fw_ptr_47, fw_ptr_48, fw_ptr_49, fw_ptr_50, fw_ptr_51, fw_ptr_52, fw_ptr_53, fw_ptr_54, fw_ptr_55, fw_ptr_12, fw_ptr_x, fw_ptr_hi, fw_ptr_b3, fw_ptr_b1, fw_ptr_b2, fw_ptr_b2_, fl_ptr_x, fl_ptr_hi, fl_ptr_lo, fl_ptr_in]; assumption)) only [fw_b_74_0, fw_b_74_5, fw_b_74_13, fw_b_74_24, fw_b_74_33, fw_b_74_40, fw_b_74_16, fw_c9_74, r1, r2, r3, r4, c2, ↓if_pos, ↓if_neg, if_neg, if_pos, fw_bs, fw_cn_0, fw_cn_1, fw_cn_2, fw_cn_3, fw_cn_4, fw_cn_5, Nat.reduceAdd, fw_w_id, fw_wl_id, fw_r_k, fw_r_j, fw_r_s, fw_r_x, if_true, if_false]
