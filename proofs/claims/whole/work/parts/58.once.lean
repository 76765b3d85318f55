/-! isOnce -/
def fg_w (c : fw_M) (n : Int → Int) : fw_M := fun a j => if a = 31 ∧ 0 ≤ j ∧ j < 300 then n j else fw_r c a j
theorem fg_w_r (c : fw_M) (n : Int → Int) (a j : Int) : fw_r (fg_w c n) a j = if a = 31 ∧ 0 ≤ j ∧ j < 300 then n j else fw_r c a j := rfl
theorem fg_w_o (c : fw_M) (n : Int → Int) {a : Int} (j : Int) (h : a ≠ 31) : fw_r (fg_w c n) a j = fw_r c a j := by rw [fg_w_r, if_neg (fun x => h x.1)]
theorem fg_w_y (c : fw_M) (n : Int → Int) {j : Int} (h0 : 0 ≤ j) (h1 : j < 300) : fw_r (fg_w c n) 31 j = n j := by rw [fg_w_r, if_pos ⟨rfl, h0, h1⟩]
theorem fg_w_ptr {c : fw_M} (n : Int → Int) (hp : fw_ptr c) : fw_ptr (fg_w c n) := fun q hq => by
  have hd : ∀ q ∈ fw_psT, q.1 ≠ 31 := by decide
  rw [fg_w_o _ _ _ (hd q hq)]; exact hp q hq
theorem fg_w_e (c : fw_M) {n n' : Int → Int} (h : ∀ j, 0 ≤ j → j < 300 → n j = n' j) : fg_w c n = fg_w c n' := by
  funext a j
  show fw_r (fg_w c n) a j = fw_r (fg_w c n') a j
  rw [fg_w_r, fg_w_r]
  by_cases c1 : a = 31 ∧ 0 ≤ j ∧ j < 300
  · rw [if_pos c1, if_pos c1, h j c1.2.1 c1.2.2]
  · rw [if_neg c1, if_neg c1]
def fg_nb (n : Int → Int) (K : Int) : Prop := ∀ j, 0 ≤ j → j < 300 → 0 ≤ n j ∧ n j ≤ K
theorem fs_see {c : fw_M} {n : Int → Int} {p K : Int} (hp : fw_ptr c) (hn : fg_nb n K) (hK : K ≤ 100000) : fw_E 120 0 [(2, 1), (0, p)] [] (fg_w c n) = some ((5, 0), fg_w c (fun j => n j + if p = j then 1 else 0)) := by
  have hp' := fg_w_ptr n hp
  rw [fw_b_120_0]
  by_cases c1 : p < 0
  · rw [if_pos c1, fw_b_120_23]
    congr 2
    exact fg_w_e c (fun j a b => by rw [if_neg (by omega), Int.add_zero])
  · rw [if_neg c1, fw_b_120_4 _ _ hp']
    by_cases c2 : p < 300
    · have z := hn p (by omega) c2
      rw [if_pos c2, fw_b_120_13 _ _ hp' (by omega) c2, fg_w_y c n (by omega) c2, fw_w_id (by omega) (by omega), fw_b_120_23]
      congr 2
      funext a j
      show fw_r (fw_u (fg_w c n) 31 p (n p + 1)) a j = fw_r (fg_w c (fun j => n j + if p = j then 1 else 0)) a j
      rw [fw_r_u, fg_w_r, fg_w_r]
      by_cases c3 : a = 31 ∧ j = p
      · obtain ⟨rfl, rfl⟩ := c3
        rw [if_pos ⟨rfl, rfl⟩, if_pos ⟨rfl, by omega, c2⟩, if_pos rfl]
      · rw [if_neg c3]
        by_cases c4 : a = 31 ∧ 0 ≤ j ∧ j < 300
        · rw [if_pos c4, if_pos c4, if_neg (by omega), Int.add_zero]
        · rw [if_neg c4, if_neg c4]
    · rw [if_neg c2, fw_b_120_23]
      congr 2
      exact fg_w_e c (fun j a b => by rw [if_neg (by omega), Int.add_zero])
theorem fg_nb_1 {n : Int → Int} {K : Int} (hn : fg_nb n K) (p : Int) : fg_nb (fun j => n j + if p = j then 1 else 0) (K + 1) := fun j a b => by
  have := hn j a b
  (try dsimp only)
  split <;> omega
theorem fs_seeAll_lp {c : fw_M} {R : Int} (hp : fw_ptr c) (hr : fw_rw c R) (hR : R ≠ 31) (hR1 : R + 1 ≠ 31) (h2 : fw_r c R 1 ≤ fw_ln (R + 1)) (h3 : fw_ln (R + 1) ≤ 300) : ∀ (k : Nat) (i K : Int) (n : Int → Int), fg_nb n K → K + k ≤ 100000 → 0 ≤ i → i + k = fw_r c R 1 → fw_E 119 2 [(2, 1), (2, R), (0, i)] [] (fg_w c n) = some ((5, 0), fg_w c (fun j => n j + fg_sf (fun x => if fw_r c (R + 1) x = j then 1 else 0) i k)) := by
  intro k
  induction k with
  | zero =>
    intro i K n hn hK h0 h1
    have hr' : fw_rw (fg_w c n) R := ⟨hr.1, hr.2.1, by rw [fg_w_o _ _ _ hR]; exact hr.2.2⟩
    rw [fw_b_119_2 _ _ _ hr', fg_w_o _ _ _ hR, if_neg (by omega), fw_b_119_25]
    congr 2
    exact fg_w_e c (fun j a b => by rw [fg_sf, Int.add_zero])
  | succ k ih =>
    intro i K n hn hK h0 h1
    have hr' : fw_rw (fg_w c n) R := ⟨hr.1, hr.2.1, by rw [fg_w_o _ _ _ hR]; exact hr.2.2⟩
    have ea := fs_at (i := i) hr' h0 (by rw [fg_w_o _ _ _ hR]; omega) (by rw [fg_w_o _ _ _ hR]; exact h2)
    rw [fg_w_o _ _ _ hR1] at ea
    rw [fw_b_119_2 _ _ _ hr', fg_w_o _ _ _ hR, if_pos (by omega), fw_b_119_10 _ _ _ hr', ea, fw_bs, fw_cn_0, fw_b_119_16, fs_see hp hn (by omega), fw_bs, fw_cn_5, fw_b_119_19, fw_w_id (by omega) (by omega), ih (i + 1) (K + 1) _ (fg_nb_1 hn _) (by omega) (by omega) (by omega)]
    congr 2
    exact fg_w_e c (fun j a b => by (try dsimp only); rw [fg_sf]; omega)
theorem fs_seeAll {c : fw_M} {R K : Int} {n : Int → Int} {a2 : fw_V} (hp : fw_ptr c) (hr : fw_rw c R) (hR : R ≠ 31) (hR1 : R + 1 ≠ 31) (h0 : 0 ≤ fw_r c R 1) (h2 : fw_r c R 1 ≤ fw_ln (R + 1)) (h3 : fw_ln (R + 1) ≤ 300) (hn : fg_nb n K) (hK : K ≤ 90000) : fw_E 119 0 [(2, 1), (2, R), a2] [] (fg_w c n) = some ((5, 0), fg_w c (fun j => n j + fg_cnt (fw_r c (R + 1)) (fw_r c R 1) j)) ∧ fg_nb (fun j => n j + fg_cnt (fw_r c (R + 1)) (fw_r c R 1) j) (K + fw_r c R 1) := by
  refine ⟨?_, fun j a b => ?_⟩
  · rw [fw_b_119_0]
    exact fs_seeAll_lp hp hr hR hR1 h2 h3 (fw_r c R 1).toNat 0 K n hn (by omega) (by omega) (by omega)
  · have := hn j a b
    have bd := fg_sf_bd (f := fun x => if fw_r c (R + 1) x = j then 1 else 0) (lo := 0) (hi := 1) (fw_r c R 1).toNat 0 (fun x _ _ => by (try dsimp only); split <;> omega)
    (try dsimp only)
    unfold fg_cnt
    omega
theorem fs_o1 {a2 : fw_V} : ∀ (k : Nat) (i : Int) (c : fw_M), fw_ptr c → 0 ≤ i → i + k = 300 → fw_E 118 2 [(2, 1), (0, i), a2] [] c = fw_E 118 24 [(2, 1), (0, 300), a2] [] (fg_fl c 31 i 300 0) := by
  intro k
  induction k with
  | zero =>
    intro i c hp h0 h1
    have e : i = 300 := by omega
    subst e
    rw [fw_b_118_2 _ _ _ hp, if_neg (by decide), fg_fl_0]
  | succ k ih =>
    intro i c hp h0 h1
    rw [fw_b_118_2 _ _ _ hp, if_pos (by omega), fw_b_118_11 _ _ _ hp h0 (by omega), fw_b_118_18, fw_w_id (by omega) (by omega), ih _ _ (by rw [fw_ptr_31]; exact hp) (by omega) (by omega), fg_fl_u _ (by omega)]
theorem fs_o2 {c : fw_M} {a2 : fw_V} (hp : fw_ptr c) (hP : fw_r c 2 5 ≤ 300) : ∀ (k : Nat) (i K : Int) (n : Int → Int), fg_nb n K → K + k ≤ 100000 → 0 ≤ i → i + k = fw_r c 2 5 → fw_E 118 32 [(2, 1), (0, i), a2] [] (fg_w c n) = fw_E 118 54 [(2, 1), (0, fw_r c 2 5), a2] [] (fg_w c (fun j => n j + if i ≤ j ∧ j < fw_r c 2 5 then 1 else 0)) := by
  intro k
  induction k with
  | zero =>
    intro i K n hn hK h0 h1
    have e : fw_r c 2 5 = i := by omega
    rw [fw_b_118_32 _ _ _ (fg_w_ptr n hp), fg_w_o _ _ _ (by decide), if_neg (by omega), e]
    congr 1
    exact fg_w_e c (fun j a b => by rw [if_neg (by omega), Int.add_zero])
  | succ k ih =>
    intro i K n hn hK h0 h1
    rw [fw_b_118_32 _ _ _ (fg_w_ptr n hp), fg_w_o _ _ _ (by decide), if_pos (by omega), fw_b_118_43, fs_see hp hn (by omega), fw_bs, fw_cn_5, fw_b_118_48, fw_w_id (by omega) (by omega), ih (i + 1) (K + 1) _ (fg_nb_1 hn _) (by omega) (by omega) (by omega)]
    congr 1
    exact fg_w_e c (fun j a b => by
      (try dsimp only)
      by_cases hj : i = j
      · rw [if_pos hj, if_neg (by omega), if_pos (by omega)]; omega
      · rw [if_neg hj]
        by_cases hj2 : i + 1 ≤ j ∧ j < fw_r c 2 5
        · rw [if_pos hj2, if_pos (by omega)]; omega
        · rw [if_neg hj2, if_neg (by omega)]; omega)
theorem fs_o3 {c : fw_M} {a2 : fw_V} (hp : fw_ptr c) (hb : fg_bok c 8) : ∀ (k : Nat) (i K : Int) (n : Int → Int), fg_nb n K → K + k ≤ 100000 → 0 ≤ i → i + k = fw_r c 8 2 → fw_E 118 56 [(2, 1), (0, i), a2] [] (fg_w c n) = fw_E 118 85 [(2, 1), (0, fw_r c 8 2), a2] [] (fg_w c (fun j => n j + fg_sf (fun x => if fg_tr c 8 x = j then 1 else 0) i k)) := by
  intro k
  induction k with
  | zero =>
    intro i K n hn hK h0 h1
    have e : fw_r c 8 2 = i := by omega
    rw [fw_b_118_56 _ _ _ (fg_w_ptr n hp), fg_w_o _ _ _ (by decide), if_neg (by omega), e]
    congr 1
    exact fg_w_e c (fun j a b => by rw [fg_sf, Int.add_zero])
  | succ k ih =>
    intro i K n hn hK h0 h1
    have hN := hb.2.1
    have hb' : fg_bok (fg_w c n) 8 := by unfold fg_bok; rw [fg_w_o _ _ _ (by decide), fg_w_o _ _ _ (by decide)]; exact hb
    have ep := fs_parcelAt (p := i) (a2 := (8, 0)) (Or.inl rfl) (fg_w_ptr n hp) hb' h0 (by rw [fg_w_o _ _ _ (by decide)]; omega)
    have et : fg_tr (fg_w c n) 8 i = fg_tr c 8 i := by
      unfold fg_tr fg_slot
      rw [fg_w_o c n 2 (by decide), fg_w_o c n 3 (by decide), fg_w_o _ _ _ (by decide)]
    rw [et] at ep
    rw [fw_b_118_56 _ _ _ (fg_w_ptr n hp), fg_w_o _ _ _ (by decide), if_pos (by omega), fw_b_118_67 _ _ _ (fg_w_ptr n hp), ep, fw_bs, fw_cn_0, fw_b_118_76, fs_see hp hn (by omega), fw_bs, fw_cn_5, fw_b_118_79, fw_w_id (by omega) (by omega), ih (i + 1) (K + 1) _ (fg_nb_1 hn _) (by omega) (by omega) (by omega)]
    congr 1
    exact fg_w_e c (fun j a b => by (try dsimp only); rw [fg_sf]; omega)
theorem fg_w_cok {c : fw_M} (n : Int → Int) (h : fg_cok c) : fg_cok (fg_w c n) :=
  fg_cok_c h (fg_w_o _ _ _ (by decide)) (fun j => fg_w_o _ _ _ (by decide)) (fun i hi => fg_w_o _ _ _ (by omega)) (fun i hi => fg_w_o _ _ _ (by omega))
theorem fs_o4 {c : fw_M} (hp : fw_ptr c) (hk : fg_cok c) (hr : ∀ i, 0 ≤ i → i < fw_r c 11 2 → 0 ≤ fw_r c (56 + 3 * i + 1) 1 ∧ fw_r c (56 + 3 * i + 1) 1 ≤ 30) : ∀ (k : Nat) (i K : Int) (n : Int → Int) (a2 : fw_V), fg_nb n K → K + 30 * k ≤ 50000 → 0 ≤ i → i + k = fw_r c 11 2 → ∃ b2, fw_E 118 87 [(2, 1), (0, i), a2] [] (fg_w c n) = fw_E 118 125 [(2, 1), (0, fw_r c 11 2), b2] [] (fg_w c (fun j => n j + fg_sf (fun x => fg_cnt (fw_r c (56 + 3 * x + 1 + 1)) (fw_r c (56 + 3 * x + 1) 1) j) i k)) ∧ fg_nb (fun j => n j + fg_sf (fun x => fg_cnt (fw_r c (56 + 3 * x + 1 + 1)) (fw_r c (56 + 3 * x + 1) 1) j) i k) (K + 30 * k) := by
  intro k
  induction k with
  | zero =>
    intro i K n a2 hn hK h0 h1
    have e : fw_r c 11 2 = i := by omega
    refine ⟨a2, ?_, fun j a b => by have := hn j a b; (try dsimp only); rw [fg_sf]; omega⟩
    rw [fw_b_118_87 _ _ _ (fg_w_ptr n hp), fg_w_o _ _ _ (by decide), if_neg (by omega), e]
    congr 1
    exact fg_w_e c (fun j a b => by rw [fg_sf, Int.add_zero])
  | succ k ih =>
    intro i K n a2 hn hK h0 h1
    have hn6 := hk.2.1
    obtain ⟨-, hcw, hrw⟩ := hk.2.2 i h0 (by omega)
    have hri := hr i h0 (by omega)
    have hln := fw_ln_ch h0
    have ec := fs_chute (i := i) (fg_w_ptr n hp) (fg_w_cok n hk) h0 (by rw [fg_w_o _ _ _ (by decide)]; omega)
    have hcw' : fw_chw (fg_w c n) (56 + 3 * i) := ⟨hcw.1, by rw [fg_w_o _ _ _ (by omega)]; exact hcw.2⟩
    obtain ⟨es, hn2⟩ := fs_seeAll (R := 56 + 3 * i + 1) (n := n) (K := K) (a2 := (8, 0)) hp hrw (by omega) (by omega) hri.1 (by rw [hln]; exact hri.2) (by rw [hln]; decide) hn (by omega)
    have hn3 : fg_nb (fun j => n j + fg_cnt (fw_r c (56 + 3 * i + 1 + 1)) (fw_r c (56 + 3 * i + 1) 1) j) (K + 30) := fun j a b => by have := hn2 j a b; (try dsimp only at this ⊢); omega
    obtain ⟨b2, r1, r2⟩ := ih (i + 1) (K + 30) _ (2, 56 + 3 * i) hn3 (by omega) (by omega) (by omega)
    have ee : ∀ j, (fun j => n j + fg_cnt (fw_r c (56 + 3 * i + 1 + 1)) (fw_r c (56 + 3 * i + 1) 1) j) j + fg_sf (fun x => fg_cnt (fw_r c (56 + 3 * x + 1 + 1)) (fw_r c (56 + 3 * x + 1) 1) j) (i + 1) k = n j + fg_sf (fun x => fg_cnt (fw_r c (56 + 3 * x + 1 + 1)) (fw_r c (56 + 3 * x + 1) 1) j) i (k + 1) := fun j => by (try dsimp only); rw [fg_sf]; omega
    refine ⟨b2, ?_, fun j a b => ?_⟩
    · rw [fw_b_118_87 _ _ _ (fg_w_ptr n hp), fg_w_o _ _ _ (by decide), if_pos (by omega), fw_b_118_98 _ _ _ (fg_w_ptr n hp), ec, fw_bs, fw_cn_2, fw_b_118_106, if_neg (by omega), fw_b_118_111 _ _ _ hcw', es, fw_bs, fw_cn_5, fw_b_118_119, fw_w_id (by omega) (by omega), r1]
      congr 1
      exact fg_w_e c (fun j _ _ => ee j)
    · have z := r2 j a b
      have e := ee j
      dsimp only at z e ⊢
      omega
theorem fs_o6 {c : fw_M} {a2 : fw_V} {n : Int → Int} (hp : fw_ptr c) (hk : fg_pok c) (hn : ∀ j, 0 ≤ j → j < 300 → n j = if j < fw_r c 2 5 then 1 else 0) : ∀ (k : Nat) (i : Int), 0 ≤ i → i + k = 300 → fw_E 118 146 [(2, 1), (0, i), a2] [] (fg_w c n) = some ((0, 1), fg_w c n) := by
  have hk' : fg_pok (fg_w c n) := by unfold fg_pok; rw [fg_w_o _ _ _ (by decide), fg_w_o _ _ _ (by decide)]; exact hk
  intro k
  induction k with
  | zero =>
    intro i h0 h1
    rw [fw_b_118_146 _ _ _ (fg_w_ptr n hp), if_neg (by omega), fw_b_118_188]
  | succ k ih =>
    intro i h0 h1
    have r := ih (i + 1) (by omega) (by omega)
    have ni := hn i h0 (by omega)
    rw [fw_b_118_146 _ _ _ (fg_w_ptr n hp), if_pos (by omega), fw_b_118_155 _ _ _ (fg_w_ptr n hp) h0 (by omega), fg_w_y c n h0 (by omega)]
    by_cases c1 : i < fw_r c 2 5
    · rw [if_pos c1] at ni
      rw [fs_pHas_t hk' h0 (by rw [fg_w_o _ _ _ (by decide)]; exact c1), fw_bs, fw_cn_0, fw_b_118_169, if_neg (by decide), fw_b_118_172, if_pos ni, fw_b_118_182, fw_w_id (by omega) (by omega), r]
    · rw [if_neg c1] at ni
      rw [fs_pHas_f (by rw [fg_w_o _ _ _ (by decide)]; omega), fw_bs, fw_cn_0, fw_b_118_169, if_pos rfl, fw_b_118_176, if_pos ni, fw_b_118_182, fw_w_id (by omega) (by omega), r]
theorem fs_once {M : Int} {c m : fw_M} {a1 a2 : fw_V} (h : fg_IN M c m) : ∃ n, fw_E 118 0 [(2, 1), a1, a2] [] c = some ((0, 1), fg_w c n) := by
  obtain ⟨⟨hp, hk, h3⟩, ⟨hN, -, -, -, -, h25⟩, ⟨-, -, -, hP⟩, -⟩ := h.1.1
  have hpk := fg_pok_of h
  have hRB := h.2.1.1
  have hTR := h.2.1.2.1
  have gE := h.2.2.2.2.1
  have gH := h.2.2.2.2.2.2.2.1
  have gD := h.2.2.2.1
  have gI := h.2.2.2.2.2.2.2.2
  have hT := fg_T_bd h
  have h19 := (fg_r19 h).2.2
  have cap := h.1.1.2.2.2.1
  have hr : ∀ i, 0 ≤ i → i < fw_r c 11 2 → 0 ≤ fw_r c (56 + 3 * i + 1) 1 ∧ fw_r c (56 + 3 * i + 1) 1 ≤ 30 := fun i a b => by
    have := (gE.1 i a (by omega)).1
    have := cap i a (by omega)
    omega
  have e1 := fs_o1 (a2 := a2) 300 0 c hp (by decide) (by decide)
  have ew : fg_fl c 31 0 300 0 = fg_w c (fun _ => 0) := by
    funext a j
    show fw_r (fg_fl c 31 0 300 0) a j = fw_r (fg_w c (fun _ => 0)) a j
    rw [fg_fl_r, fg_w_r]
  rw [ew] at e1
  have n0 : fg_nb (fun _ => 0) 0 := fun j _ _ => ⟨Int.le_refl _, Int.le_refl _⟩
  have e2 : fw_E 118 32 [(2, 1), (0, fw_r c 2 6), a2] [] (fg_w c (fun _ => 0)) = fw_E 118 54 [(2, 1), (0, fw_r c 2 5), a2] [] (fg_w c (fun (j : Int) => (0 : Int) + if fw_r c 2 6 ≤ j ∧ j < fw_r c 2 5 then 1 else 0)) := fs_o2 (a2 := a2) hp (by omega) (fw_r c 2 5 - fw_r c 2 6).toNat (fw_r c 2 6) 0 _ n0 (by have := hpk.1; omega) hpk.1 (by have := hpk.2.1; omega)
  have n1 : fg_nb (fun (j : Int) => (0 : Int) + if fw_r c 2 6 ≤ j ∧ j < fw_r c 2 5 then 1 else 0) 1 := fun j _ _ => by (try dsimp only); split <;> omega
  generalize hf1 : (fun (j : Int) => (0 : Int) + if fw_r c 2 6 ≤ j ∧ j < fw_r c 2 5 then 1 else 0) = f1 at e2 n1
  have e3 := fs_o3 (a2 := a2) hp hRB.1 (fw_r c 8 2).toNat 0 1 _ n1 (by have := hRB.1.2.1; omega) (by decide) (by have := hRB.1.1; omega)
  have n2 : fg_nb (fun j => f1 j + fg_sf (fun x => if fg_tr c 8 x = j then 1 else 0) 0 (fw_r c 8 2).toNat) 21 := fun j a b => by
    have := n1 j a b
    have bd := fg_sf_bd (f := fun x => if fg_tr c 8 x = j then 1 else 0) (lo := 0) (hi := 1) (fw_r c 8 2).toNat 0 (fun x _ _ => by (try dsimp only); split <;> omega)
    have := hRB.1.2.1
    (try dsimp only)
    omega
  generalize hf2 : (fun j => f1 j + fg_sf (fun x => if fg_tr c 8 x = j then 1 else 0) 0 (fw_r c 8 2).toNat) = f2 at *
  obtain ⟨b2, e4, n3⟩ := fs_o4 hp hk hr (fw_r c 11 2).toNat 0 21 f2 a2 n2 (by have := hk.2.1; omega) (by decide) (by have := hk.1; omega)
  generalize hf3 : (fun j => f2 j + fg_sf (fun x => fg_cnt (fw_r c (56 + 3 * x + 1 + 1)) (fw_r c (56 + 3 * x + 1) 1) j) 0 (fw_r c 11 2).toNat) = f3 at *
  have hr28 : fw_rw c 28 := ⟨by decide, by decide, hp (28, 0, 29) (by decide)⟩
  have hr25 : fw_rw c 25 := ⟨by decide, by decide, hp (25, 0, 26) (by decide)⟩
  obtain ⟨e5, n4⟩ := fs_seeAll (R := 28) (n := f3) (K := 21 + 30 * ((fw_r c 11 2).toNat : Int)) (a2 := (8, 0)) hp hr28 (by decide) (by decide) (by omega) (by show fw_r c 28 1 ≤ 300; omega) (by decide) n3 (by have := hk.2.1; omega)
  generalize hf4 : (fun j => f3 j + fg_cnt (fw_r c (28 + 1)) (fw_r c 28 1) j) = f4 at *
  have h251 := gD.2.2.1.1
  obtain ⟨e6, n5⟩ := fs_seeAll (R := 25) (n := f4) (K := 21 + 30 * ((fw_r c 11 2).toNat : Int) + fw_r c 28 1) (a2 := (8, 0)) hp hr25 (by decide) (by decide) (by omega) (by show fw_r c 25 1 ≤ 300; omega) (by decide) n4 (by have := hk.2.1; omega)
  generalize hf5 : (fun j => f4 j + fg_cnt (fw_r c (25 + 1)) (fw_r c 25 1) j) = f5 at *
  have hfin : ∀ j, 0 ≤ j → j < 300 → f5 j = if j < fw_r c 2 5 then 1 else 0 := fun j a b => by
    have g := gI j a
    rw [← hf5, ← hf4, ← hf3, ← hf2, ← hf1]
    (try dsimp only)
    have t1 : fg_sf (fun x => if fg_tr c 8 x = j then 1 else 0) 0 (fw_r c 8 2).toNat = fg_cnt (fw_r m 33) (fw_r m 32 1) j := by
      unfold fg_cnt
      rw [hRB.2.1]
      exact fg_sf_ext _ _ (fun x x0 x1 => by rw [(hRB.2.2.1 x x0 (by omega)).1])
    have t2 : fg_sf (fun x => fg_cnt (fw_r c (56 + 3 * x + 1 + 1)) (fw_r c (56 + 3 * x + 1) 1) j) 0 (fw_r c 11 2).toNat = fg_chs m j := by
      unfold fg_chs
      rw [h3]
      exact fg_sf_ext _ _ (fun x x0 x1 => by
        have w := gE.1 x x0 (by omega)
        (try dsimp only)
        rw [w.1.1]
        exact fg_cnt_ext (fun k k0 k1 => (w.2.2 k k0 k1).1))
    rw [t1, t2, h25, h.2.2.1.1, h251]
    have t3 : fg_cnt (fw_r c (28 + 1)) (fw_r c 28 1) j = fg_cnt (fw_r c 29) (fw_r c 28 1) j := rfl
    have t4 : fg_cnt (fw_r c (25 + 1)) (fw_r m 32 19) j = fg_cnt (fw_r c 26) (fw_r m 32 19) j := rfl
    rw [t3, t4]
    omega
  have e7 := fs_o6 (a2 := b2) hp hpk hfin 300 0 (by decide) (by decide)
  refine ⟨f5, ?_⟩
  rw [fw_b_118_0, e1, fw_b_118_24 _ _ _ (fg_w_ptr _ hp), fg_w_o _ _ _ (by decide), e2, fw_b_118_54, e3, fw_b_118_85, e4, fw_b_118_125 _ _ _ (fg_w_ptr _ hp), e5, fw_bs, fw_cn_5, fw_b_118_136 _ _ _ (fg_w_ptr _ hp), e6, fw_bs, fw_cn_5, fw_b_118_144, e7]
/-! calls that the law compares at once -/
def fg_OKv (t : Int) (tg : Nat) (E1 E2 : fw_M → Option fw_O) (σ : fw_M) : Prop := ∃ (v : Int) (σ1 σ2 : fw_M), E1 σ = some ((tg, v), σ1) ∧ E2 σ1 = some ((tg, v), σ2) ∧ fg_INV (t + 1) σ2 ∧ fg_SC σ σ2
theorem fg_INV_0 {t : Int} {σ : fw_M} (h : fg_INV t σ) : fg_INV (t + 1) (fw_u σ 32 0 0) :=
  fg_INV_to h (fun a j ha => by (try simp (disch := omega) only [fw_r_n, fw_r_s])) (fun a j a1 a2 a3 => by (try simp (disch := omega) only [fw_r_n, fw_r_s])) (by rw [fw_ptr_32_0]; exact h.1.1.2) (by (try simp (disch := omega) only [fw_r_n, fw_r_s])) (by (try simp (disch := omega) only [fw_r_n, fw_r_s]); omega) (by (try simp (disch := omega) only [fw_r_n, fw_r_s]); omega)
theorem op_tick {t : Int} {σ : fw_M} (h : fg_INV t σ) : fg_OKv t 1 (fun σ => fw_E 78 0 [(2, 1)] [] σ) (fun σ => fw_E 150 0 [(2, 32)] [] σ) σ := by
  refine ⟨fw_r σ 32 16, σ, fw_u σ 32 0 0, ?_, ?_, fg_INV_0 h, fun a j ha => by (try simp (disch := omega) only [fw_r_n, fw_r_s])⟩
  · (try dsimp only); rw [fw_b_78_0, h.1.2.2.1.2.1]
  · (try dsimp only); rw [fw_b_150_0, fw_b_150_5, fw_r_j _ (by decide)]
theorem op_waiting {t : Int} {σ : fw_M} (h : fg_INV t σ) : fg_OKv t 0 (fun σ => fw_E 83 0 [(2, 1)] [] σ) (fun σ => fw_E 156 0 [(2, 32)] [] σ) σ := by
  refine ⟨fw_w (fw_r σ 32 10 - fw_r σ 32 15), σ, fw_u σ 32 0 0, ?_, ?_, fg_INV_0 h, fun a j ha => by (try simp (disch := omega) only [fw_r_n, fw_r_s])⟩
  · (try dsimp only); rw [fw_b_83_0 _ h.1.1.2, h.1.1.1.2.1.2.2.2.2.2, h.1.2.2.1.1]
  · (try dsimp only); rw [fw_b_156_0, fw_b_156_5, fw_r_j _ (by decide), fw_r_j _ (by decide)]
theorem op_onLoop {t : Int} {σ : fw_M} (h : fg_INV t σ) : fg_OKv t 0 (fun σ => fw_E 84 0 [(2, 1)] [] σ) (fun σ => fw_E 157 0 [(2, 32)] [] σ) σ := by
  refine ⟨fw_w (fw_r σ 32 15 - fw_r σ 32 17), σ, fw_u σ 32 0 0, ?_, ?_, fg_INV_0 h, fun a j ha => by (try simp (disch := omega) only [fw_r_n, fw_r_s])⟩
  · (try dsimp only); rw [fw_b_84_0 _ h.1.1.2, h.1.2.2.1.1, h.1.2.2.2.1.1.1]
  · (try dsimp only); rw [fw_b_157_0, fw_b_157_5, fw_r_j _ (by decide), fw_r_j _ (by decide)]
theorem op_overflowed {t : Int} {σ : fw_M} (h : fg_INV t σ) : fg_OKv t 0 (fun σ => fw_E 85 0 [(2, 1)] [] σ) (fun σ => fw_E 158 0 [(2, 32)] [] σ) σ := by
  refine ⟨fw_r σ 32 19, σ, fw_u σ 32 0 0, ?_, ?_, fg_INV_0 h, fun a j ha => by (try simp (disch := omega) only [fw_r_n, fw_r_s])⟩
  · (try dsimp only); rw [fw_b_85_0 _ h.1.1.2, h.1.2.2.2.1.2.2.1.1]
  · (try dsimp only); rw [fw_b_158_0, fw_b_158_5, fw_r_j _ (by decide)]
theorem op_trucks {t : Int} {σ : fw_M} (h : fg_INV t σ) : fg_OKv t 0 (fun σ => fw_E 97 0 [(2, 1)] [] σ) (fun σ => fw_E 174 0 [(2, 32)] [] σ) σ := by
  refine ⟨fw_r σ 32 25, σ, fw_u σ 32 0 0, ?_, ?_, fg_INV_0 h, fun a j ha => by (try simp (disch := omega) only [fw_r_n, fw_r_s])⟩
  · (try dsimp only); rw [fw_b_97_0 _ h.1.1.2, h.1.2.2.2.2.2.2.2.1.1.1]
  · (try dsimp only); rw [fw_b_174_0, fw_b_174_5, fw_r_j _ (by decide)]
theorem op_shipped {t : Int} {σ : fw_M} (h : fg_INV t σ) : fg_OKv t 1 (fun σ => fw_E 101 0 [(2, 1)] [] σ) (fun σ => fw_E 179 0 [(2, 32)] [] σ) σ := by
  refine ⟨fw_r σ 32 29, σ, fw_u σ 32 0 0, ?_, ?_, fg_INV_0 h, fun a j ha => by (try simp (disch := omega) only [fw_r_n, fw_r_s])⟩
  · (try dsimp only); rw [fw_b_101_0 _ h.1.1.2, h.1.2.2.2.1.2.2.2.1.1]
  · (try dsimp only); rw [fw_b_179_0, fw_b_179_5, fw_r_j _ (by decide)]
theorem op_isOnce {t : Int} {σ : fw_M} (ht : t ≤ 1600) (h : fg_INV t σ) : fg_OKv t 0 (fun σ => fw_E 104 0 [(2, 1)] [] σ) (fun σ => fw_E 182 0 [(2, 32)] [] σ) σ := by
  obtain ⟨⟨hp, hk, hpk⟩, ⟨h3, h30, h36⟩, -⟩ := fg_facts h
  have t0 := h.2.1
  obtain ⟨n, q1⟩ := fs_once (a1 := (8, 0)) (a2 := (8, 0)) h.1
  have hp1 := fg_w_ptr n hp
  have hk1 := fg_w_cok n hk
  have hI1 : fg_IN (200 * t) (fg_w σ n) σ := fg_IN_eq h.1 (fun a j ha => fg_w_o _ _ _ (by omega)) (fg_AG_refl σ) hp1 hp
  have q2 := fs_sealsAgree (a1 := (8, 0)) (a2 := (8, 0)) hp1 hk1 (fun i a b => fg_chok_of hI1 a (by rw [fg_w_o _ _ _ (by decide)] at b; omega))
  obtain ⟨c3, q3, f3, p3⟩ := fs_byOrigin (x := 60) (a2 := (8, 0)) (a3 := (8, 0)) (fg_MN_of hI1) (by omega) (by omega) (by decide)
  have hI3 : fg_IN (200 * t) c3 σ := fg_IN_eq hI1 (fun a j ha => f3 _ _ (by omega)) (fg_AG_refl σ) p3 hp
  obtain ⟨c4, q4, f4, p4⟩ := fs_byTrays (x := 60) (a2 := (8, 0)) (a3 := (8, 0)) (a4 := (8, 0)) (fg_MN_of hI3) (by omega) (by omega) (by decide)
  have fr : ∀ a j, (a < 17 ∨ 24 < a) → a ≠ 31 → fw_r c4 a j = fw_r σ a j := fun a j x y => by rw [f4 _ _ x, f3 _ _ x, fg_w_o _ _ _ y]
  refine ⟨1, c4, fw_u c4 32 0 0, ?_, ?_, fg_INV_to h (fun a j ha => by (try simp (disch := omega) only [fw_r_n, fw_r_s]); exact fr _ _ (by omega) (by omega)) (fun a j a1 a2 a3 => by (try simp (disch := omega) only [fw_r_n, fw_r_s]); exact fr _ _ (by omega) (by omega)) (by rw [fw_ptr_32_0]; exact p4) (by (try simp (disch := omega) only [fw_r_n, fw_r_s]); exact fr _ _ (by decide) (by decide)) (by (try simp (disch := omega) only [fw_r_n, fw_r_s]); rw [fr _ _ (by decide) (by decide)]; omega) (by (try simp (disch := omega) only [fw_r_n, fw_r_s]); rw [fr _ _ (by decide) (by decide)]; omega), fun a j ha => by (try simp (disch := omega) only [fw_r_n, fw_r_s]); exact fr _ _ (by omega) (by omega)⟩
  · (try dsimp only); rw [fw_b_104_0, q1, fw_bs, fw_cn_0, fw_b_104_4, if_neg (by decide), fw_b_104_7 _ hp1, q2, fw_bs, fw_cn_0, fw_b_104_14, if_neg (by decide), fw_b_104_17 _ hp1, q3, fw_bs, fw_cn_0, fw_b_104_26 _ _ p3, q4, fw_bs, fw_cn_0, fw_b_104_35, if_pos rfl, fw_b_104_38]
  · (try dsimp only); rw [fw_b_182_0, fw_b_182_5]
