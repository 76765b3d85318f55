/-! jams; chutes that are emptied; an act -/
theorem fg_sm_o (m : fw_M) (x v : Int) {a j : Int} (h : a ≠ 36) (h2 : a ≠ 32 ∨ (j ≠ 7 ∧ j ≠ 8)) : fw_r (fg_sm m x v) a j = fw_r m a j := by
  unfold fg_sm
  split
  · rw [fw_r_n _ (by omega)]
  · split
    · rw [fw_r_n _ (by omega)]
    · rw [fw_r_n _ (by omega)]
theorem fl_jm_sm {M x v : Int} {c m : fw_M} (h : fg_IN M c m) (hs : fg_stn m x) (p : Int) : fl_jm (fg_sm m x v) p = if p = x then v else fl_jm m p := by
  have hn := (fg_facts h).2.1
  have hN := (fg_facts h).2.2.1
  have k1 : fw_r (fg_sm m x v) 32 1 = fw_r m 32 1 := fg_sm_o _ _ _ (by omega) (by omega)
  have knm : fg_nm (fg_sm m x v) p = fg_nm m p := fg_nm_eq (fg_sm_o _ _ _ (by omega) (by omega)) (fun j => fg_sm_o _ _ _ (by omega) (by omega)) p
  have last := fl_nm_last (p := fw_r m 32 1 - 1) h (Or.inr (Int.le_refl _))
  have first := fl_nm_last (p := 0) h (Or.inl rfl)
  unfold fl_jm
  rw [k1, knm]
  unfold fg_sm
  unfold fg_stn at hs
  by_cases x0 : x = 0
  · rw [if_pos x0, x0]
    by_cases p0 : p = 0
    · rw [if_pos p0, if_pos p0, fw_r_s]
    · rw [if_neg p0, if_neg p0, if_neg p0, fw_r_n _ (by omega), fw_r_k _ (by decide)]
  · rw [if_neg x0]
    by_cases x1 : x = fw_r m 32 1 - 1
    · rw [if_pos x1]
      by_cases p0 : p = 0
      · rw [if_pos p0, if_pos p0, if_neg (by omega), fw_r_n _ (by omega)]
      · rw [if_neg p0, if_neg p0]
        by_cases p1 : p = fw_r m 32 1 - 1
        · rw [if_pos p1, if_pos (by omega), fw_r_s]
        · rw [if_neg p1, if_neg p1, if_neg (show ¬(p = x) by omega), fw_r_k _ (by decide)]
    · rw [if_neg x1]
      have hx := fl_nm_lt (p := x) rfl hn.2.1 (by omega)
      by_cases p0 : p = 0
      · rw [if_pos p0, if_pos p0, if_neg (by omega), fw_r_n _ (by omega)]
      · rw [if_neg p0, if_neg p0]
        by_cases p1 : p = fw_r m 32 1 - 1
        · rw [if_pos p1, if_pos p1, if_neg (by omega), fw_r_n _ (by omega)]
        · rw [if_neg p1, if_neg p1]
          by_cases px : p = x
          · rw [px, if_neg (by omega), if_pos rfl, fw_r_s]
          · rw [if_neg px]
            by_cases pn : fg_nm m p = -1
            · rw [if_pos pn, if_pos pn]
            · have hp := fl_nm_lt (p := p) rfl hn.2.1 pn
              have ne : fg_nm m p ≠ fg_nm m x := fun e => px (by have a := hp.2.2; have b := hx.2.2; rw [e] at a; omega)
              rw [if_neg pn, if_neg pn, fw_r_n _ (by omega)]
theorem fl_R_jam {M x v : Int} {c c' m : fw_M} (h : fg_IN M c m) (r : fl_R c m) (x0 : 0 ≤ x ∧ x < 20) (hs : fg_stn m x) (hc : ∀ a j, 32 ≤ a → a ≤ 50 → (a ≠ 35 ∨ j ≠ x) → fw_r c' a j = fw_r c a j) (hv : fw_r c' 35 x = v) : fl_R c' (fg_sm m x v) := by
  obtain ⟨⟨hq, hA, h60, h6⟩, hB, hC, hD, hE, ⟨hF1, hF2⟩, hG⟩ := r
  have k := fun a j (h1 : a ≠ 36) (h2 : a ≠ 32 ∨ (j ≠ 7 ∧ j ≠ 8)) => fg_sm_o m x v (a := a) (j := j) h1 h2
  have hj := fun p => fl_jm_sm (v := v) h hs p
  have hn := fun p => fg_nm_eq (m := m) (m' := fg_sm m x v) (k 32 3 (by omega) (by omega)) (fun j => k 34 j (by omega) (by omega)) p
  generalize fg_sm m x v = m' at *
  have o := fun a j (h1 : 32 ≤ a) (h2 : a ≤ 50) (h3 : a ≠ 35) => hc a j h1 h2 (Or.inl h3)
  have q := fun j (h1 : j ≠ 7 ∧ j ≠ 8) => k 32 j (by omega) (Or.inr h1)
  refine ⟨⟨fun y hy => ?_, ?_, by rw [q 10 (by omega)]; exact h60, by rw [q 3 (by omega)]; exact h6⟩, fun p a b => ?_, fun p a b => ?_, ⟨fun i a b => ?_, fun i a b => ?_⟩, fun p a b => ?_, ⟨fun p a b => ?_, fun p a b => ?_⟩, fun i l a b d => ?_⟩
  · have := fl_ps_le y hy
    rw [o _ _ (by omega) (by omega) (by omega)]; exact hq y hy
  · have oo := fun j => o 32 j (by omega) (by omega) (by omega)
    simp only [oo]
    rw [q 1 (by omega), q 16 (by omega), q 3 (by omega), q 9 (by omega), q 10 (by omega), q 15 (by omega), q 17 (by omega), q 19 (by omega), q 18 (by omega), q 25 (by omega), q 29 (by omega)]
    exact hA
  · rw [q 1 (by omega)] at b
    rw [q 1 (by omega), q 16 (by omega), k 33 _ (by omega) (by omega), o _ _ (by omega) (by omega) (by omega)]
    exact hB p a b
  · have g := hC p a b
    rw [o 34 _ (by omega) (by omega) (by omega), hn, hj]
    refine ⟨g.1, ?_⟩
    by_cases hp : p = x
    · rw [if_pos hp, hp]; exact hv
    · rw [if_neg hp, hc 35 p (by omega) (by omega) (Or.inr hp)]; exact g.2
  · rw [q 3 (by omega)] at b
    have g := hD.1 i a b
    rw [k 35 _ (by omega) (by omega), k 42 _ (by omega) (by omega), o 36 _ (by omega) (by omega) (by omega)]
    refine ⟨g.1, fun y y0 y1 => ?_⟩
    rw [k 43 _ (by omega) (by omega), o _ _ (by omega) (by omega) (by omega)]
    exact g.2 y y0 y1
  · rw [k 42 _ (by omega) (by omega), o 44 _ (by omega) (by omega) (by omega)]; exact hD.2 i a b
  · rw [k 41 _ (by omega) (by omega), o 45 _ (by omega) (by omega) (by omega)]; exact hE p a b
  · rw [q 10 (by omega)] at b
    rw [k 37 _ (by omega) (by omega), k 38 _ (by omega) (by omega), k 39 _ (by omega) (by omega), k 47 _ (by omega) (by omega), o 46 _ (by omega) (by omega) (by omega), o 47 _ (by omega) (by omega) (by omega), o 49 _ (by omega) (by omega) (by omega), o 50 _ (by omega) (by omega) (by omega)]
    exact hF1 p a b
  · rw [k 40 _ (by omega) (by omega), o 48 _ (by omega) (by omega) (by omega)]; exact hF2 p a b
  · rw [q 3 (by omega)] at d
    rw [k 34 _ (by omega) (by omega), k 34 _ (by omega) (by omega)]; exact hG i l a b d
theorem fl_jams_act {M x : Int} {c m : fw_M} {a3 : fw_V} (h : fg_IN M c m) (r : fl_R c m) (x0 : 0 ≤ x ∧ x < fw_r m 32 1) : fl_A M c m (fw_E 134 0 [(2, 1), (2, 32), (0, x), a3] [] c) := by
  have hA := r.1.2.1
  have hq := r.1.1
  have hN := (fg_facts h).2.2.1
  have hn := (fg_facts h).2.1
  have z := r.2.2.1 x x0.1 (by omega)
  have w1 : fw_w (fw_r c 32 0 - 1) = fw_r m 32 1 - 1 := by rw [hA.1, fw_w_id (by omega) (by omega)]
  have at49 : fg_stn m x → fl_A M c m (fw_E 134 49 [(2, 1), (2, 32), (0, x), (0, 1)] [] c) := by
    intro hs
    have ejm : fl_jm m x = fg_jm m x := by
      unfold fl_jm fg_jm
      unfold fg_stn at hs
      split
      · rfl
      · split
        · rfl
        · rw [if_neg (by omega)]
    -- behind the toggle
    have go : ∀ v, (v = 0 ∨ v = 1) → fg_jm m x = 1 - v → fl_A M c m (fw_E 134 69 [(2, 1), (2, 32), (0, x), (0, 1)] [] (fw_u c 35 x v)) := by
      intro v hv hjv
      have p1 : fl_ptr (fw_u c 35 x v) := by rw [fl_ptr_35]; exact hq
      have h1 := fl_O_IN (c' := fw_u c 35 x v) h (fun a j ha => by (try simp (disch := omega) only [fw_r_n, fw_r_s]))
      obtain ⟨i2, f2, p2⟩ := fg_IN_jam2 (v := v) h1 hv hs
      have e73 : (v = 1 → fw_E 73 0 [(2, 1), (0, x)] [] (fw_u c 35 x v) = some ((0, fg_J (fg_sm m x v)), fg_sj (fw_u c 35 x v) x v)) := fun e => by
        subst e
        exact fm_jam h1 hs (by omega)
      have e74 : (v = 0 → fw_E 74 0 [(2, 1), (0, x)] [] (fw_u c 35 x v) = some ((0, fg_J (fg_sm m x v)), fg_sj (fw_u c 35 x v) x v)) := fun e => by
        subst e
        exact fm_free h1 hs (by omega)
      have e35 : fw_r (fw_u c 35 x v) 35 x = v := fw_r_s _ _ _ _
      have rr : fl_R (fg_sj (fw_u c 35 x v) x v) (fg_sm m x v) := fl_R_jam h r (by omega) hs (fun a j y u w => by rw [f2 a j (by omega), fw_r_n _ (by omega)]) (by rw [f2 _ _ (by omega), fw_r_s])
      have hneg : fl_N c (fg_sj (fw_u c 35 x v) x v) := fun a j ha => by rw [f2 a j (by omega), fw_r_n _ (by omega)]
      have k3 : fw_r (fg_sm m x v) 32 3 = fw_r m 32 3 := fg_sm_o _ _ _ (by omega) (by omega)
      have k1 : fw_r (fg_sm m x v) 32 1 = fw_r m 32 1 := fg_sm_o _ _ _ (by omega) (by omega)
      have eJ := fl_jams (a1 := (8, 0)) (a2 := (8, 0)) (a3 := (8, 0)) (a4 := (8, 0)) (a5 := (8, 0)) i2 rr.1.1 (fun p a b => (rr.2.2.1 p a b).2)
      have e75 := fm_stationAt (p := x) i2 (by rw [k1]; exact x0)
      have ekd : fg_kd (fg_sm m x v) x = if x = 0 then 105 else if x = fw_r m 32 1 - 1 then 111 else 99 := by
        have e1 : fg_nm (fg_sm m x v) x = fg_nm m x := fg_nm_eq k3 (fun j => fg_sm_o _ _ _ (by omega) (by omega)) x
        unfold fg_kd
        rw [k1, e1]
        unfold fg_stn at hs
        split
        · rfl
        · split
          · rfl
          · rw [if_neg (by omega)]
      rw [ekd] at e75
      have hA' := rr.1.2.1
      have w2 : fw_w (fw_r (fg_sj (fw_u c 35 x v) x v) 32 0 - 1) = fw_r m 32 1 - 1 := by rw [hA'.1, k1, fw_w_id (by omega) (by omega)]
      refine ⟨fg_sj (fw_u c 35 x v) x v, fg_sm m x v, ?_, i2, rr, hneg, k3⟩
      generalize fg_sj (fw_u c 35 x v) x v = c' at *
      generalize fg_J (fg_sm m x v) = J at *
      have tail : fw_E 134 98 [(2, 1), (2, 32), (0, x), (0, 1)] [] c' = some ((0, 1), c') := by
        rw [fw_b_134_98, e75, fw_bs, fw_cn_0, fw_b_134_103]
        by_cases c1 : x = 0
        · rw [if_pos c1, if_pos c1, fw_b_134_107, if_pos rfl, fw_b_134_132]
        · rw [if_neg c1, if_neg c1, fw_b_134_112, w2]
          by_cases c2 : x = fw_r m 32 1 - 1
          · rw [if_pos c2, if_pos c2, fw_b_134_122, if_pos rfl, fw_b_134_132]
          · rw [if_neg c2, if_neg c2, fw_b_134_127, if_pos rfl, fw_b_134_132]
      rw [fw_b_134_69 _ _ _ p1 x0.1 (by omega), e35]
      rcases hv with hv | hv
      · rw [if_pos hv, fw_b_134_86, e74 hv, fw_bs, fw_cn_0, fw_b_134_91, eJ, fw_bs, fw_cn_0, fw_b_134_95, if_pos rfl, tail]
      · rw [if_neg (by omega), fw_b_134_78, e73 hv, fw_bs, fw_cn_0, fw_b_134_83, eJ, fw_bs, fw_cn_0, fw_b_134_95, if_pos rfl, tail]
    have j01 := fl_jm_01 h x
    rw [ejm] at j01 z
    rw [fw_b_134_49 _ _ _ hq x0.1 (by omega), z.2]
    rcases j01 with e | e
    · rw [if_pos e, fw_b_134_63 _ _ _ _ x0.1 (by omega)]
      exact go 1 (Or.inr rfl) (by omega)
    · rw [if_neg (by omega), fw_b_134_67 _ _ _ _ x0.1 (by omega)]
      exact go 0 (Or.inl rfl) (by omega)
  have at23 : fg_stn m x → fl_A M c m (fw_E 134 23 [(2, 1), (2, 32), (0, x), a3] [] c) := fun hs => by
    rw [fw_b_134_23, if_neg (by decide)]; exact at49 hs
  rw [fw_b_134_0]
  by_cases c1 : x = 0
  · rw [if_pos c1]; exact at23 (Or.inl c1)
  · rw [if_neg c1, fw_b_134_4, w1]
    by_cases c2 : x = fw_r m 32 1 - 1
    · rw [if_pos c2]; exact at23 (Or.inr (Or.inl c2))
    · rw [if_neg c2, fw_b_134_14 _ _ _ hq x0.1 (by omega), z.1]
      by_cases c3 : fg_nm m x = -1
      · have ekd : fg_kd m x = 45 := by unfold fg_kd; rw [if_neg c1, if_neg c2, if_pos c3]
        have e75 := fm_stationAt (p := x) h x0
        rw [ekd] at e75
        refine ⟨c, m, ?_, h, r, fl_N_refl c, rfl⟩
        rw [if_pos (by omega), fw_b_134_27, if_pos rfl, fw_b_134_33, e75, fw_bs, fw_cn_0, fw_b_134_38, if_pos rfl, fw_b_134_43]
      · have hx := fl_nm_lt (p := x) rfl hn.2.1 c3
        rw [if_neg (by omega)]
        exact at23 (Or.inr (Or.inr c3))
/-! a chute is emptied -/
def fl_em (c c' : fw_M) (f w : Int → Int) (T k : Int) : Prop := fl_O c c' ∧ (∀ a j, 32 ≤ a → a ≤ 50 → a ≠ 49 → a ≠ 50 → (a ≠ 32 ∨ j ≠ 22) → fw_r c' a j = fw_r c a j) ∧ (∀ j, 0 ≤ j → j < k → fw_r c' 49 (f j) = 116 ∧ fw_r c' 50 (f j) = T) ∧ (∀ p, (∀ j, 0 ≤ j → j < k → f j ≠ p) → fw_r c' 49 p = fw_r c 49 p ∧ fw_r c' 50 p = fw_r c 50 p) ∧ fw_r c' 32 22 = fw_r c 32 22 + fg_sf (fun j => w (f j)) 0 k.toNat
theorem fl_em_ptr {c c' : fw_M} {f w : Int → Int} {T k : Int} (h : fl_em c c' f w T k) (hq : fl_ptr c) : fl_ptr c' := fun x hx => by
  have h11 : ∀ x ∈ fl_psT, (x.1 = 32 ∧ x.2.1 ≠ 22) ∨ x.1 = 37 := by decide
  have := h11 x hx
  rw [h.2.1 _ _ (by omega) (by omega) (by omega) (by omega) (by omega)]; exact hq x hx
theorem fl_em_lp {M x S K T : Int} {c m2 : fw_M} {f w : Int → Int} (h : fg_IN M c m2) (hq : fl_ptr c) (x0 : 0 ≤ x ∧ x < 6) (hK : fw_r c 44 x = K) (K30 : K ≤ 30) (hf : ∀ k, 0 ≤ k → k < K → fw_r c (38 + x) k = f k ∧ 0 ≤ f k ∧ f k < 60) (hT : fw_r c 32 21 = T) (T0 : 0 ≤ T ∧ T < fw_r m2 32 25) (h46 : fw_r m2 46 T = K) (hw : ∀ k, 0 ≤ k → k < K → fw_r c 47 (f k) = w (f k) ∧ 1 ≤ w (f k) ∧ w (f k) ≤ 9) (hp : ∀ k, 0 ≤ k → k < K → fg_pt c T k = f k) (h22 : 0 ≤ fw_r c 32 22 ∧ fw_r c 32 22 ≤ 100000) : ∀ (k : Nat) (i : Int) (ci : fw_M) (a6 : fw_V), 0 ≤ i → i + k = K → fl_em c ci f w T i → ∃ c' b6, fw_E 135 48 [(2, 1), (2, 32), (0, x), (0, S), (0, 1), (0, i), a6] [] ci = fw_E 135 140 [(2, 1), (2, 32), (0, x), (0, S), (0, 1), (0, K), b6] [] c' ∧ fl_em c c' f w T K := by
  intro k
  induction k with
  | zero =>
    intro i ci a6 i0 hi e
    have eK : K = i := by omega
    have q := fl_em_ptr e hq
    have e44 : fw_r ci 44 x = K := by rw [e.2.1 _ _ (by omega) (by omega) (by omega) (by omega) (by omega)]; exact hK
    refine ⟨ci, a6, ?_, by rw [eK]; exact e⟩
    rw [fw_b_135_48 _ _ _ _ _ _ q x0.1 x0.2, e44, if_neg (by omega), eK]
  | succ k ih =>
    intro i ci a6 i0 hi e
    have q := fl_em_ptr e hq
    have e44 : fw_r ci 44 x = K := by rw [e.2.1 _ _ (by omega) (by omega) (by omega) (by omega) (by omega)]; exact hK
    have gf := hf i i0 (by omega)
    have gw := hw i i0 (by omega)
    have ef : fw_r ci (38 + x) i = f i := by rw [e.2.1 _ _ (by omega) (by omega) (by omega) (by omega) (by omega)]; exact gf.1
    have e21 : fw_r ci 32 21 = T := by rw [e.2.1 _ _ (by omega) (by omega) (by omega) (by omega) (by omega)]; exact hT
    have e47 : fw_r ci 47 (f i) = w (f i) := by rw [e.2.1 _ _ (by omega) (by omega) (by omega) (by omega) (by omega)]; exact gw.1
    have hi2 := fl_O_IN h e.1
    have ept : fg_pt ci T i = f i := by
      have z : fg_pt ci T i = fg_pt c T i := by unfold fg_pt; rw [e.1 29 _ (by omega), e.1 30 _ (by omega)]
      rw [z]; exact hp i i0 (by omega)
    have e99 := fm_parcelIn (y := i) hi2 T0 ⟨i0, by omega⟩
    rw [ept] at e99
    have p1 : fl_ptr (fw_u ci 49 (f i) 116) := by rw [fl_ptr_49]; exact q
    have p2 : fl_ptr (fw_u (fw_u ci 49 (f i) 116) 50 (f i) T) := by rw [fl_ptr_50]; exact p1
    have bd := fg_sf_bd (f := fun j => w (f j)) (lo := 0) (hi := 9) i.toNat 0 (fun j j0 j1 => by have := hw j j0 (by omega); (try dsimp only); omega)
    have e22 := e.2.2.2.2
    have ei : i.toNat + 1 = (i + 1).toNat := by omega
    have s := fg_sf_end (fun j => w (f j)) i.toNat 0
    have e0 : (0 : Int) + (i.toNat : Int) = i := by omega
    rw [ei, e0] at s
    have step : fl_em c (fw_u (fw_u (fw_u ci 49 (f i) 116) 50 (f i) T) 32 22 (fw_r ci 32 22 + w (f i))) f w T (i + 1) := by
      refine ⟨fun a j ha => ?_, fun a j a1 a2 a3 a4 a5 => ?_, fun j j0 j1 => ?_, fun p hp => ?_, ?_⟩
      · (try simp (disch := omega) only [fw_r_n, fw_r_s])
        exact e.1 a j ha
      · rw [fw_r_n _ (by omega), fw_r_n _ (by omega), fw_r_n _ (by omega)]
        exact e.2.1 a j a1 a2 a3 a4 a5
      · by_cases hj : f j = f i
        · rw [hj, fw_r_n _ (by omega), fw_r_n _ (by omega), fw_r_s, fw_r_n _ (by omega), fw_r_s]; exact ⟨rfl, rfl⟩
        · have hne : j ≠ i := fun e => hj (by rw [e])
          have := e.2.2.1 j j0 (by omega)
          rw [fw_r_n _ (by omega), fw_r_n _ (by omega), fw_r_n _ (by omega), fw_r_n _ (by omega), fw_r_n _ (by omega), fw_r_n _ (by omega)]
          exact this
      · have z := e.2.2.2.1 p (fun j j0 j1 => hp j j0 (by omega))
        have ne := hp i i0 (by omega)
        rw [fw_r_n _ (by omega), fw_r_n _ (by omega), fw_r_n _ (by omega), fw_r_n _ (by omega), fw_r_n _ (by omega), fw_r_n _ (by omega)]
        exact z
      · rw [fw_r_s, s, e22]; omega
    obtain ⟨c', b6, r1, r2⟩ := ih (i + 1) _ (0, f i) (by omega) (by omega) step
    refine ⟨c', b6, ?_, r2⟩
    rw [fw_b_135_48 _ _ _ _ _ _ q x0.1 x0.2, e44, if_pos (by omega), fw_b_135_59 _ _ _ _ _ _ q x0.1 x0.2 i0 (by omega), if_neg (by decide), ef, fw_b_135_75, e21, e99, fw_bs, fw_cn_0, fw_b_135_85, if_pos rfl, fw_b_135_90 _ _ _ _ _ _ q gf.2.1 gf.2.2, fw_b_135_106 _ _ _ _ _ _ p1 gf.2.1 gf.2.2, fw_r_k _ (by decide), e21, fw_b_135_117 _ _ _ _ _ _ p2 gf.2.1 gf.2.2, fw_r_k _ (by decide), fw_r_k _ (by decide), fw_r_k _ (by decide), fw_r_k _ (by decide), e47, fw_wl_id (by omega) (by omega), fw_b_135_134, fw_w_id (by omega) (by omega), r1]
theorem fl_empties {M x : Int} {c m : fw_M} {a3 a4 a5 a6 : fw_V} (h : fg_IN M c m) (r : fl_R c m) (x0 : 0 ≤ x ∧ x < fw_r m 32 3) : fl_A M c m (fw_E 135 0 [(2, 1), (2, 32), (0, x), a3, a4, a5, a6] [] c) := by
  have hr := r
  have hn := (fg_facts h).2.1
  have hP0 := (fg_facts h).2.2.2.2.2.2
  obtain ⟨⟨hq, hA, h60, h6⟩, hB, hC, hD, hE, ⟨hF1, hF2⟩, hG⟩ := r
  have e44 := hD.2 x x0.1 (by omega)
  have gE := h.2.2.2.2.1.1 x x0.1 x0.2
  have cap := (h.1.1.2.2.2.1 x x0.1 x0.2).2.1
  have hF := h.2.1.2.1.2.1
  rw [fw_b_135_0 _ _ _ _ _ _ hq x0.1 (by omega), e44]
  by_cases c0 : fw_r m 42 x = 0
  · refine ⟨c, m, ?_, h, hr, fl_N_refl c, rfl⟩
    rw [if_pos c0, fw_b_135_9]
  · obtain ⟨c1, e1, i1, f1⟩ := fm_dispatch (a2 := (8, 0)) (a3 := (8, 0)) (a4 := (8, 0)) (a5 := (8, 0)) h x0 (by omega)
    have es := fl_seal (a2 := (8, 0)) (a3 := (8, 0)) (a4 := (8, 0)) (a5 := (8, 0)) (a6 := (8, 0)) h hr x0.1 x0.2
    have md25 := fg_md_25 m x
    have pt := fun j (j0 : 0 ≤ j) (j1 : j < fw_r m 42 x) => fg_md_pt h i1 x0 j0 j1
    have T0 := (fg_T_bd h).1
    have fx := fun j (j0 : 0 ≤ j) (j1 : j < fw_r m 42 x) => gE.2.2 j j0 j1
    have e98 := fm_sealOfTruck (x := fw_r m 32 25) i1 (by rw [md25.1]; omega)
    rw [md25.2.1] at e98
    have ese : fg_se (fg_pt c1 (fw_r m 32 25)) 0 (fw_r m 42 x).toNat (0, 0) = (fw_r m 44 x, fw_r m 45 x) := by
      rw [gE.2.1.2.2]
      exact fg_se_ext _ _ _ (fun j a b => pt j a (by omega))
    rw [ese] at e98
    have f21 : fw_r c1 32 21 = fw_r m 32 25 := by rw [f1 _ _ (by omega)]; exact hA.2.2.2.2.2.2.2.2.2.1
    have f22 : fw_r c1 32 22 = fw_r m 32 29 := by rw [f1 _ _ (by omega)]; exact hA.2.2.2.2.2.2.2.2.2.2
    have hq1 : fl_ptr c1 := fun y hy => by
      have := fl_ps_le y hy
      rw [f1 _ _ (by omega)]; exact hq y hy
    have h29 := h.2.2.2.1.2.2.2
    have hT := fg_T_bd h
    obtain ⟨c2, b6, e2, em⟩ := fl_em_lp (x := x) (S := 10000 * fw_r m 45 x + fw_r m 44 x) (K := fw_r m 42 x) (T := fw_r m 32 25) (f := fun j => fw_r m 43 (30 * x + j)) (w := fun p => fw_r m 38 p) i1 hq1 ⟨x0.1, by omega⟩ (by rw [f1 _ _ (by omega)]; exact e44) (by omega) (fun k k0 k1 => ⟨by rw [f1 _ _ (by omega)]; exact (hD.1 x x0.1 x0.2).2 k k0 k1, by have := fx k k0 k1; (try dsimp only); omega⟩) f21 ⟨T0, by rw [md25.1]; omega⟩ md25.2.1 (fun k k0 k1 => by
      have g := fx k k0 k1
      (try dsimp only)
      rw [f1 _ _ (by omega), (hF1 _ g.2.1 (by omega)).2.1]
      have := (h.2.2.1.2.2.2.1 _ g.2.1 (by omega)).1
      exact ⟨rfl, this.2⟩) pt (by omega) (fw_r m 42 x).toNat 0 c1 a6 (by omega) (by omega) ⟨fl_O_refl c1, fun _ _ _ _ _ _ _ => rfl, fun j j0 j1 => by omega, fun p _ => ⟨rfl, rfl⟩, by simp [fg_sf]⟩
    have q2 := fl_em_ptr em hq1
    have g21 : fw_r c2 32 21 = fw_r m 32 25 := by rw [em.2.1 _ _ (by omega) (by omega) (by omega) (by omega) (by omega)]; exact f21
    have q3 : fl_ptr (fw_u c2 32 21 (fw_r m 32 25 + 1)) := by rw [fl_ptr_32_21]; exact q2
    have i2 := fl_O_IN (c' := fw_u (fw_u c2 32 21 (fw_r m 32 25 + 1)) 44 x 0) i1 (fun a j ha => by (try simp (disch := omega) only [fw_r_n, fw_r_s]); exact em.1 a j ha)
    refine ⟨fw_u (fw_u c2 32 21 (fw_r m 32 25 + 1)) 44 x 0, fg_md m x, ?_, i2, ?_, fun a j ha => ?_, fg_md_o m x (by omega)⟩
    · rw [if_neg c0, fw_b_135_11, es, fw_bs, fw_cn_0, fw_b_135_16, e1, fw_bs, fw_cn_0, fw_b_135_22, if_pos rfl, fw_b_135_26, f21, e98, fw_bs, fw_cn_0, fw_b_135_34, if_pos rfl, fw_b_135_38]
      rw [e2, fw_b_135_140, g21, fw_w_id (by omega) (by omega), fw_b_135_150 _ _ _ _ _ _ q3 x0.1 (by omega), fw_b_135_157 _ _ _ _ _ _ (Or.inr rfl)]
    · have o := fun a j (a1 : 32 ≤ a) (a2 : a ≤ 50) (a3 : a ≠ 49) (a4 : a ≠ 50) (a5 : a ≠ 32 ∨ (j ≠ 22 ∧ j ≠ 21)) (a6 : a ≠ 44 ∨ j ≠ x) => (show fw_r (fw_u (fw_u c2 32 21 (fw_r m 32 25 + 1)) 44 x 0) a j = fw_r c a j by rw [fw_r_n _ (by omega), fw_r_n _ (by omega), em.2.1 a j a1 a2 a3 a4 (by omega), f1 a j (by omega)])
      have o21 : fw_r (fw_u (fw_u c2 32 21 (fw_r m 32 25 + 1)) 44 x 0) 32 21 = fw_r m 32 25 + 1 := by (try simp (disch := omega) only [fw_r_n, fw_r_s])
      have o44 : fw_r (fw_u (fw_u c2 32 21 (fw_r m 32 25 + 1)) 44 x 0) 44 x = 0 := by (try simp (disch := omega) only [fw_r_n, fw_r_s])
      have o22 : fw_r (fw_u (fw_u c2 32 21 (fw_r m 32 25 + 1)) 44 x 0) 32 22 = fw_r m 32 29 + fg_sf (fun j => fw_r m 38 (fw_r m 43 (30 * x + j))) 0 (fw_r m 42 x).toNat := by
        rw [fw_r_n _ (by omega), fw_r_n _ (by omega), em.2.2.2.2, f22]
      have oy := fun j (j0 : 0 ≤ j) (j1 : j < fw_r m 42 x) => (show fw_r (fw_u (fw_u c2 32 21 (fw_r m 32 25 + 1)) 44 x 0) 49 (fw_r m 43 (30 * x + j)) = 116 ∧ fw_r (fw_u (fw_u c2 32 21 (fw_r m 32 25 + 1)) 44 x 0) 50 (fw_r m 43 (30 * x + j)) = fw_r m 32 25 by (try simp (disch := omega) only [fw_r_n, fw_r_s]); exact em.2.2.1 j j0 j1)
      have onn := fun p (hp : ∀ j, 0 ≤ j → j < fw_r m 42 x → fw_r m 43 (30 * x + j) ≠ p) => (show fw_r (fw_u (fw_u c2 32 21 (fw_r m 32 25 + 1)) 44 x 0) 49 p = fw_r c 49 p ∧ fw_r (fw_u (fw_u c2 32 21 (fw_r m 32 25 + 1)) 44 x 0) 50 p = fw_r c 50 p by
        have z := em.2.2.2.1 p hp
        rw [fw_r_n _ (by omega), fw_r_n _ (by omega), fw_r_n _ (by omega), fw_r_n _ (by omega), z.1, z.2, f1 _ _ (by omega), f1 _ _ (by omega)]
        exact ⟨rfl, rfl⟩)
      have k := fun a j (hh : a < 32 ∨ 48 < a ∨ (32 < a ∧ a < 39) ∨ a = 40 ∨ a = 41 ∨ a = 43 ∨ (a = 32 ∧ j ≠ 25 ∧ j ≠ 29)) => fg_md_o m x (a := a) (j := j) hh
      have ky := fun j (j0 : 0 ≤ j) (j1 : j < fw_r m 42 x) => fg_md_y h x0 j0 j1
      have kn := fun p hp => fg_md_n (m := m) (x := x) (p := p) hp
      have k29 := fg_md_29 m x
      have k42 := fun i (hi : i ≠ x) => fg_md_42 m hi
      have q4 : fl_ptr (fw_u (fw_u c2 32 21 (fw_r m 32 25 + 1)) 44 x 0) := by rw [fl_ptr_44]; exact q3
      generalize fw_u (fw_u c2 32 21 (fw_r m 32 25 + 1)) 44 x 0 = c' at *
      generalize fg_md m x = m' at *
      have k1 := k 32 1 (by omega)
      have k3 := k 32 3 (by omega)
      have k16 := k 32 16 (by omega)
      have k10 := k 32 10 (by omega)
      have om := fun p => (Classical.em (∃ j, 0 ≤ j ∧ j < fw_r m 42 x ∧ fw_r m 43 (30 * x + j) = p))
      refine fl_R_up hr ⟨q4, ?_, by rw [k10]; exact h60, by rw [k3]; exact h6⟩ (fun p a b => ?_) ⟨fun i a b => ?_, fun i a b => ?_⟩ ⟨fun p a b => ?_, fun p a b => ?_⟩ k1 k3 (k _ _ (by omega)) (k _ _ (by omega)) (fun j => k _ _ (by omega)) (fun j => k _ _ (by omega)) (fun j => k _ _ (by omega)) (fun j => o _ _ (by omega) (by omega) (by omega) (by omega) (by omega) (by omega)) (fun j => o _ _ (by omega) (by omega) (by omega) (by omega) (by omega) (by omega)) (fun j => o _ _ (by omega) (by omega) (by omega) (by omega) (by omega) (by omega))
      · have hh := fun j (hj : j ≠ 22 ∧ j ≠ 21) => o 32 j (by omega) (by omega) (by omega) (by omega) (Or.inr hj) (by omega)
        rw [o21, o22, md25.1, k29, k1, k3, k16, k10, k 32 9 (by omega), k 32 15 (by omega), k 32 17 (by omega), k 32 18 (by omega), k 32 19 (by omega), hh 0 (by decide), hh 1 (by decide), hh 5 (by decide), hh 10 (by decide), hh 11 (by decide), hh 17 (by decide), hh 18 (by decide), hh 19 (by decide), hh 20 (by decide)]
        exact ⟨hA.1, hA.2.1, hA.2.2.1, hA.2.2.2.1, hA.2.2.2.2.1, hA.2.2.2.2.2.1, hA.2.2.2.2.2.2.1, hA.2.2.2.2.2.2.2.1, hA.2.2.2.2.2.2.2.2.1, rfl, rfl⟩
      · rw [k1] at b
        rw [k1, k16, k 33 _ (by omega), o 33 _ (by omega) (by omega) (by omega) (by omega) (by omega) (by omega)]
        exact hB p a b
      · rw [k3] at b
        have g := hD.1 i a b
        rw [k 35 _ (by omega), o 36 _ (by omega) (by omega) (by omega) (by omega) (by omega) (by omega)]
        refine ⟨g.1, fun y y0 y1 => ?_⟩
        rw [k 43 _ (by omega), o (38 + i) _ (by omega) (by omega) (by omega) (by omega) (by omega) (by omega)]
        by_cases hi : i = x
        · rw [hi, md25.2.2] at y1; omega
        · rw [k42 i hi] at y1
          exact g.2 y y0 y1
      · by_cases hi : i = x
        · rw [hi, o44, md25.2.2]
        · rw [k42 i hi, o 44 _ (by omega) (by omega) (by omega) (by omega) (by omega) (by omega)]; exact hD.2 i a b
      · rw [k10] at b
        have g := hF1 p a b
        rw [k 37 _ (by omega), k 38 _ (by omega), o 46 _ (by omega) (by omega) (by omega) (by omega) (by omega) (by omega), o 47 _ (by omega) (by omega) (by omega) (by omega) (by omega) (by omega)]
        rcases om p with ⟨j, j0, j1, rfl⟩ | hno
        · have z := oy j j0 j1
          have z2 := ky j j0 j1
          rw [z.1, z.2, z2.1, z2.2.1]
          exact ⟨g.1, g.2.1, rfl, fun _ => rfl⟩
        · have z := onn p (fun j j0 j1 e => hno ⟨j, j0, j1, e⟩)
          have z2 := kn p (fun j j0 j1 e => hno ⟨j, j0, j1, e⟩)
          rw [z.1, z.2, z2.1, z2.2]
          exact g
      · rw [k 40 _ (by omega), o 48 _ (by omega) (by omega) (by omega) (by omega) (by omega) (by omega)]; exact hF2 p a b
    · (try simp (disch := omega) only [fw_r_n, fw_r_s])
      rw [em.1 a j (by omega)]; exact f1 a j (by omega)
/-! an act -/
theorem fl_acts {M v : Int} {c m : fw_M} {a3 a4 a5 a6 a7 a8 a9 : fw_V} (hM : 0 ≤ M ∧ M ≤ 300000) (h : fg_IN M c m) (r : fl_R c m) : fl_A (M + 90) c m (fw_E 136 0 [(2, 1), (2, 32), (0, v), a3, a4, a5, a6, a7, a8, a9] [] c) := by
  have hA := r.1.2.1
  have hN := (fg_facts h).2.2.1
  obtain ⟨y, ey, y0, y1⟩ := fl_low (c := c) (x := fw_sh v 3) (n := 8) (by decide)
  have hn : 0 < (if 1 < fw_r m 32 3 then fw_r m 32 3 else 1) := by split <;> omega
  obtain ⟨z, ez, z0, z1⟩ := fl_low (c := c) (x := fw_sh v 6) hn
  obtain ⟨s, es, s0, s1⟩ := fl_low (c := c) (x := v) (n := 9) (by decide)
  have mono : ∀ {x : Option fw_O}, fl_A M c m x → fl_A (M + 90) c m x := fun hh => fl_A_M hh (by omega)
  rw [fw_b_136_0, ey, fw_bs, fw_cn_0, fw_b_136_8, hA.2.2.1, ez, fw_bs, fw_cn_0, fw_b_136_24, es, fw_bs, fw_cn_0]
  have a01 : fl_A (M + 90) c m (fw_E 136 80 [(2, 1), (2, 32), (0, v), (0, y), (0, z), a5, a6, a7, a8, a9] [] c) := by
    obtain ⟨k, ek, k0, k1⟩ := fl_low (c := c) (x := fw_sh v 9) (n := 4) (by decide)
    rw [fw_b_136_80, ek, fw_bs, fw_cn_0, fw_b_136_91]
    exact mono (fl_act_0 ⟨y0, y1⟩ (k + 1).toNat k c m (by omega) (by omega) h r)
  have a24 : fl_A (M + 90) c m (fw_E 136 219 [(2, 1), (2, 32), (0, v), (0, y), (0, z), a5, a6, a7, a8, a9] [] c) := by
    obtain ⟨k, ek, k0, k1⟩ := fl_low (c := c) (x := v) (n := 4) (by decide)
    rw [fw_b_136_219, ek, fw_bs, fw_cn_0, fw_b_136_229]
    by_cases ck : k = 0
    · obtain ⟨t, et, t0, t1⟩ := fl_low (c := c) (x := fw_sh v 9) (n := 90) (by decide)
      rw [if_pos ck, fw_b_136_232, et, fw_bs, fw_cn_0]
      exact fl_act_2 hM h r ⟨t0, t1⟩
    · obtain ⟨t, et, t0, t1⟩ := fl_low (c := c) (x := fw_sh v 9) (n := 20) (by decide)
      rw [if_neg ck, fw_b_136_237, et, fw_bs, fw_cn_0]
      exact fl_act_2 hM h r ⟨t0, by omega⟩
  have hs : s = 0 ∨ s = 1 ∨ s = 2 ∨ s = 3 ∨ s = 4 ∨ s = 5 ∨ s = 6 ∨ s = 7 ∨ 7 < s := by omega
  rcases hs with e | e | e | e | e | e | e | e | e
  · rw [e, fw_sw_0]; exact a01
  · rw [e, fw_sw_1]; exact a01
  · rw [e, fw_sw_2]; exact a24
  · rw [e, fw_sw_3]; exact a24
  · rw [e, fw_sw_4]; exact a24
  · rw [e, fw_sw_5]; exact mono (fl_act_5 h r ⟨y0, y1⟩ ⟨z0, z1⟩)
  · obtain ⟨x, ex, x0, x1⟩ := fl_low (c := c) (x := fw_sh v 6) (n := fw_r m 32 1) (by omega)
    obtain ⟨c', m', e1, i1, r1, n1, k1⟩ := fl_jams_act (a3 := (8, 0)) h r ⟨x0, x1⟩
    rw [e, fw_sw_6, fw_b_136_410, hA.1, ex, fw_bs, fw_cn_0, fw_b_136_423, e1, fw_bs, fw_cn_0, fw_b_136_426 _ _ _ _ _ _ _ _ _ _ (Or.inr rfl)]
    exact ⟨c', m', rfl, fg_IN_M i1 (by omega), r1, n1, k1⟩
  · rw [e, fw_sw_7]; exact mono (fl_act_7 h r ⟨z0, z1⟩)
  · rw [fw_sw_d _ _ _ _ _ _ _ _ _ _ _ _ e, fw_b_136_549, hA.2.2.1]
    by_cases c0 : fw_r m 32 3 = 0
    · refine ⟨c, m, ?_, fg_IN_M h (by omega), r, fl_N_refl c, rfl⟩
      rw [if_pos c0, fw_b_136_566]
    · have hn := (fg_facts h).2.1
      have zz : z < fw_r m 32 3 := by split at z1 <;> omega
      obtain ⟨c', m', e1, i1, r1, n1, k1⟩ := fl_empties (a3 := (8, 0)) (a4 := (8, 0)) (a5 := (8, 0)) (a6 := (8, 0)) h r ⟨z0, zz⟩
      refine ⟨c', m', ?_, fg_IN_M i1 (by omega), r1, n1, k1⟩
      rw [if_neg c0, fw_b_136_556, e1, fw_bs, fw_cn_0, fw_b_136_563, if_neg (by decide), fw_b_136_566]
