/-! dispatch: the runs -/
def fg_qa (s : fw_M) (f : Int → Int) (C : Int) : Nat → fw_M
  | 0 => s
  | i + 1 => fw_u (fw_u (fg_qa s f C i) 29 (C + i) (f i)) 28 1 (C + i + 1)
theorem fg_qa_o (s : fw_M) (f : Int → Int) (C : Int) : ∀ (i : Nat) {a j : Int}, a ≠ 29 → (a ≠ 28 ∨ j ≠ 1) → fw_r (fg_qa s f C i) a j = fw_r s a j := by
  intro i
  induction i with
  | zero => intro a j h1 h2; rfl
  | succ i ih => intro a j h1 h2; rw [fg_qa, fw_r_n _ (by omega), fw_r_n _ (by omega), ih h1 h2]
theorem fg_qa_28 {s : fw_M} (f : Int → Int) {C : Int} (h : fw_r s 28 1 = C) : ∀ (i : Nat), fw_r (fg_qa s f C i) 28 1 = C + i := by
  intro i
  cases i with
  | zero => rw [fg_qa, h]; omega
  | succ i => rw [fg_qa, fw_r_s]; omega
theorem fg_qa_lo (s : fw_M) (f : Int → Int) (C : Int) : ∀ (i : Nat) {j : Int}, j < C → fw_r (fg_qa s f C i) 29 j = fw_r s 29 j := by
  intro i
  induction i with
  | zero => intro j h1; rfl
  | succ i ih => intro j h1; rw [fg_qa, fw_r_n _ (by omega), fw_r_n _ (by omega), ih h1]
theorem fg_qa_n (s : fw_M) (f : Int → Int) (C : Int) : ∀ (i : Nat) {j : Int}, 0 ≤ j → j < i → fw_r (fg_qa s f C i) 29 (C + j) = f j := by
  intro i
  induction i with
  | zero => intro j h1 h2; omega
  | succ i ih =>
    intro j h1 h2
    rw [fg_qa, fw_r_k _ (by omega)]
    by_cases hj : j = i
    · subst hj; rw [fw_r_s]
    · rw [fw_r_n _ (by omega), ih h1 (by omega)]
theorem fg_qa_ptr {s : fw_M} (f : Int → Int) (C : Int) (hp : fw_ptr s) (i : Nat) : fw_ptr (fg_qa s f C i) := by
  induction i with
  | zero => exact hp
  | succ i ih => rw [fg_qa, fw_ptr_28_1, fw_ptr_29]; exact ih
theorem fs_take_lp {s : fw_M} {R T K C : Int} {f : Int → Int} (hp : fw_ptr s) (hR : 57 ≤ R) (hr : fw_rw s R) (hcnt : fw_r s R 1 = K) (hln : fw_ln (R + 1) = 30) (hK : K ≤ 30) (hf : ∀ j, f j = fw_r s (R + 1) j) (hC : fw_r s 28 1 = C) (hC0 : 0 ≤ C) (hCK : C + K ≤ 300) : ∀ (k i : Nat), (i : Int) + k = K → fw_E 19 33 [(2, 27), (2, R), (0, T), (0, (i : Int))] [] (fg_qa s f C i) = fw_E 19 59 [(2, 27), (2, R), (0, T), (0, K)] [] (fg_qa s f C K.toNat) := by
  intro k
  induction k with
  | zero =>
    intro i h
    have hr' : fw_rw (fg_qa s f C i) R := ⟨hr.1, hr.2.1, by rw [fg_qa_o _ _ _ _ (by omega) (by omega)]; exact hr.2.2⟩
    have e : (i : Int) = K := by omega
    have e2 : K.toNat = i := by omega
    rw [fw_b_19_33 _ _ _ _ hr', fg_qa_o _ _ _ _ (by omega) (by omega), hcnt, if_neg (by omega), e2, e]
  | succ k ih =>
    intro i h
    have hr' : fw_rw (fg_qa s f C i) R := ⟨hr.1, hr.2.1, by rw [fg_qa_o _ _ _ _ (by omega) (by omega)]; exact hr.2.2⟩
    have hp' := fg_qa_ptr f C hp i
    have hr28 : fw_rw (fg_qa s f C i) 28 := ⟨by decide, by decide, hp' (28, 0, 29) (by decide)⟩
    have e1 : fw_r (fg_qa s f C i) R 1 = K := by rw [fg_qa_o _ _ _ _ (by omega) (by omega)]; exact hcnt
    have e28 := fg_qa_28 (s := s) f hC i
    have ea := fs_at (i := (i : Int)) hr' (by omega) (by omega) (by rw [e1, hln]; exact hK)
    rw [fg_qa_o _ _ _ _ (by omega) (by omega), ← hf] at ea
    have eb := fs_rAdd (v := f i) hr28 (by rw [e28]; omega) (by rw [e28]; show C + (i : Int) < 300; omega) (by decide)
    have ec : fg_ad (fg_qa s f C i) 28 (f i) = fg_qa s f C (i + 1) := by
      show fw_u (fw_u (fg_qa s f C i) 29 (fw_r (fg_qa s f C i) 28 1) (f i)) 28 1 (fw_r (fg_qa s f C i) 28 1 + 1) = _
      rw [e28]; rfl
    have ed : (i : Int) + 1 = ((i + 1 : Nat) : Int) := by omega
    rw [fw_b_19_33 _ _ _ _ hr', e1, if_pos (by omega), fw_b_19_41 _ _ _ _ hp' hr', ea, fw_bs, fw_cn_0, fw_b_19_50, eb, fw_bs, fw_cn_5, fw_b_19_53, fw_w_id (by omega) (by omega), ec, ed]
    exact ih (i + 1) (by omega)
theorem fs_take {s : fw_M} {R T K C : Int} {f : Int → Int} {a2 a3 : fw_V} (hp : fw_ptr s) (hR : 57 ≤ R) (hr : fw_rw s R) (hcnt : fw_r s R 1 = K) (hln : fw_ln (R + 1) = 30) (hK : 0 ≤ K ∧ K ≤ 30) (hf : ∀ j, f j = fw_r s (R + 1) j) (hC : fw_r s 28 1 = C) (hC0 : 0 ≤ C) (hCK : C + K ≤ 300) (hT : fw_r s 27 2 = T) (hT0 : 0 ≤ T ∧ T < 300) : fw_E 19 0 [(2, 27), (2, R), a2, a3] [] s = some ((0, T), fw_u (fg_qa (fw_u s 30 T C) f C K.toNat) 27 2 (T + 1)) := by
  have hp1 : fw_ptr (fw_u s 30 T C) := by rw [fw_ptr_30]; exact hp
  have l := fs_take_lp (s := fw_u s 30 T C) (R := R) (T := T) (K := K) (C := C) (f := f) hp1 hR (fw_rw_u hr (by omega)) (by rw [fw_r_k _ (by omega)]; exact hcnt) hln hK.2 (fun j => by rw [fw_r_k _ (by omega)]; exact hf j) (by rw [fw_r_k _ (by omega)]; exact hC) hC0 hCK K.toNat 0 (by omega)
  rw [fw_b_19_0, hT, if_neg (by omega), fw_b_19_9, if_pos hT0.2, fw_b_19_18 _ _ _ _ hp hT0.1 hT0.2, hC, fw_b_19_31]
  refine Eq.trans l ?_
  rw [fw_b_19_59, fg_qa_o _ _ _ _ (by omega) (by omega), fw_r_k _ (by omega), hT, fw_w_id (by omega) (by omega), fw_b_19_69]
def fg_qe (s : fw_M) (f : Int → Int) (T : Int) : Nat → fw_M
  | 0 => s
  | i + 1 => fw_u (fw_u (fw_u (fg_qe s f T i) 5 (f i) 116) 7 (f i) T) 2 9 (fw_r (fg_qe s f T i) 2 9 + fw_r s 4 (f i))
theorem fg_qe_o (s : fw_M) (f : Int → Int) (T : Int) : ∀ (i : Nat) {a j : Int}, a ≠ 5 → a ≠ 7 → (a ≠ 2 ∨ j ≠ 9) → fw_r (fg_qe s f T i) a j = fw_r s a j := by
  intro i
  induction i with
  | zero => intro a j h1 h2 h3; rfl
  | succ i ih => intro a j h1 h2 h3; rw [fg_qe, fw_r_n _ (by omega), fw_r_n _ (by omega), fw_r_n _ (by omega), ih h1 h2 h3]
theorem fg_qe_9 (s : fw_M) (f : Int → Int) (T : Int) : ∀ (i : Nat), fw_r (fg_qe s f T i) 2 9 = fw_r s 2 9 + fg_sf (fun j => fw_r s 4 (f j)) 0 i := by
  intro i
  induction i with
  | zero => simp only [fg_qe, fg_sf, Int.add_zero]
  | succ i ih => rw [fg_qe, fw_r_s, ih, fg_sf_end, Int.zero_add]; omega
theorem fg_qe_n (s : fw_M) (f : Int → Int) (T : Int) {p : Int} : ∀ (i : Nat), (∀ j : Int, 0 ≤ j → j < i → f j ≠ p) → fw_r (fg_qe s f T i) 5 p = fw_r s 5 p ∧ fw_r (fg_qe s f T i) 7 p = fw_r s 7 p := by
  intro i
  induction i with
  | zero => intro h; exact ⟨rfl, rfl⟩
  | succ i ih =>
    intro h
    have hi := h i (by omega) (by omega)
    have r := ih (fun j a b => h j a (by omega))
    rw [fg_qe, fw_r_n _ (by omega), fw_r_n _ (by omega), fw_r_n _ (by omega), fw_r_n _ (by omega), fw_r_n _ (by omega), fw_r_n _ (by omega)]
    exact r
theorem fg_qe_y (s : fw_M) (f : Int → Int) (T : Int) : ∀ (i : Nat), ∀ j : Int, 0 ≤ j → j < i → fw_r (fg_qe s f T i) 5 (f j) = 116 ∧ fw_r (fg_qe s f T i) 7 (f j) = T := by
  intro i
  induction i with
  | zero => intro j h0 h1; omega
  | succ i ih =>
    intro j h0 h1
    rw [fg_qe]
    by_cases e : f j = f i
    · rw [e]
      (try simp (disch := omega) only [fw_r_n, fw_r_s])
      exact ⟨trivial, trivial⟩
    · have hj : j ≠ i := fun hh => e (by rw [hh])
      (try simp (disch := omega) only [fw_r_n, fw_r_s])
      exact ih j h0 (by omega)
theorem fg_qe_ptr {s : fw_M} (f : Int → Int) (T : Int) (hp : fw_ptr s) (i : Nat) : fw_ptr (fg_qe s f T i) := by
  induction i with
  | zero => exact hp
  | succ i ih => rw [fg_qe, fw_ptr_2_9, fw_ptr_7, fw_ptr_5]; exact ih
theorem fs_enter_lp {s : fw_M} {x B T K v : Int} {f : Int → Int} (hp : fw_ptr s) (hB : 56 ≤ B) (hc : fw_chw s B) (hr : fw_rw s (B + 1)) (hk : fg_pok s) (hcnt : fw_r s (B + 1) 1 = K) (hln : fw_ln (B + 1 + 1) = 30) (hK : K ≤ 30) (hf : ∀ j, f j = fw_r s (B + 1 + 1) j) (hfp : ∀ j, 0 ≤ j → j < K → 0 ≤ f j ∧ f j < fw_r s 2 5 ∧ 1 ≤ fw_r s 4 (f j) ∧ fw_r s 4 (f j) ≤ 9) (h9 : 0 ≤ fw_r s 2 9 ∧ fw_r s 2 9 ≤ 100000) : ∀ (k i : Nat), (i : Int) + k = K → fw_E 96 45 [(2, 1), (0, x), (2, B), (0, v), (0, T), (0, (i : Int))] [] (fg_qe s f T i) = fw_E 96 81 [(2, 1), (0, x), (2, B), (0, v), (0, T), (0, K)] [] (fg_qe s f T K.toNat) := by
  intro k
  induction k with
  | zero =>
    intro i h
    have hc' : fw_chw (fg_qe s f T i) B := ⟨hc.1, by rw [fg_qe_o _ _ _ _ (by omega) (by omega) (by omega)]; exact hc.2⟩
    have hr' : fw_rw (fg_qe s f T i) (B + 1) := ⟨hr.1, hr.2.1, by rw [fg_qe_o _ _ _ _ (by omega) (by omega) (by omega)]; exact hr.2.2⟩
    have e : (i : Int) = K := by omega
    have e2 : K.toNat = i := by omega
    rw [fw_b_96_45 _ _ _ _ _ _ hc' hr', fg_qe_o _ _ _ _ (by omega) (by omega) (by omega), hcnt, if_neg (by omega), e2, e]
  | succ k ih =>
    intro i h
    have hc' : fw_chw (fg_qe s f T i) B := ⟨hc.1, by rw [fg_qe_o _ _ _ _ (by omega) (by omega) (by omega)]; exact hc.2⟩
    have hr' : fw_rw (fg_qe s f T i) (B + 1) := ⟨hr.1, hr.2.1, by rw [fg_qe_o _ _ _ _ (by omega) (by omega) (by omega)]; exact hr.2.2⟩
    have hp' := fg_qe_ptr f T hp i
    have e1 : fw_r (fg_qe s f T i) (B + 1) 1 = K := by rw [fg_qe_o _ _ _ _ (by omega) (by omega) (by omega)]; exact hcnt
    have ea := fs_at (i := (i : Int)) hr' (by omega) (by omega) (by rw [e1, hln]; exact hK)
    rw [fg_qe_o _ _ _ _ (by omega) (by omega) (by omega), ← hf] at ea
    have hk' : fg_pok (fg_qe s f T i) := by
      unfold fg_pok
      rw [fg_qe_o _ _ _ _ (by omega) (by omega) (by omega), fg_qe_o _ _ _ _ (by omega) (by omega) (by omega)]
      exact hk
    have hfi := hfp i (by omega) (by omega)
    have e9 := fg_qe_9 s f T i
    have bd := fg_sf_bd (f := fun j => fw_r s 4 (f j)) (lo := 0) (hi := 9) i 0 (fun j a b => by have := hfp j a (by omega); (try dsimp only); omega)
    have e4 : fw_r (fg_qe s f T i) 4 (f i) = fw_r s 4 (f i) := fg_qe_o _ _ _ _ (by omega) (by omega) (by omega)
    have eb := fs_enterTruck (p := f i) (t := T) hp' hk' hfi.1 (by rw [fg_qe_o _ _ _ _ (by omega) (by omega) (by omega)]; exact hfi.2.1) (by rw [e9]; omega) (by rw [e4]; exact hfi.2.2)
    rw [e4] at eb
    have ed : (i : Int) + 1 = ((i + 1 : Nat) : Int) := by omega
    rw [fw_b_96_45 _ _ _ _ _ _ hc' hr', e1, if_pos (by omega), fw_b_96_57 _ _ _ _ _ _ hp' hc' hr', ea, fw_bs, fw_cn_0, fw_b_96_70, eb, fw_bs, fw_cn_5, fw_b_96_75, fw_w_id (by omega) (by omega), ed]
    exact ih (i + 1) (by omega)
def fg_qm (m : fw_M) (f : Int → Int) (T : Int) : Nat → fw_M
  | 0 => m
  | i + 1 => fw_u (fw_u (fw_u (fw_u (fg_qm m f T i) 39 (f i) 3) 47 (f i) T) 48 (f i) i) 32 29 (fw_r (fg_qm m f T i) 32 29 + fw_r m 38 (f i))
theorem fg_qm_o (m : fw_M) (f : Int → Int) (T : Int) : ∀ (i : Nat) {a j : Int}, a ≠ 39 → a ≠ 47 → a ≠ 48 → (a ≠ 32 ∨ j ≠ 29) → fw_r (fg_qm m f T i) a j = fw_r m a j := by
  intro i
  induction i with
  | zero => intro a j h1 h2 h3 h4; rfl
  | succ i ih => intro a j h1 h2 h3 h4; rw [fg_qm, fw_r_n _ (by omega), fw_r_n _ (by omega), fw_r_n _ (by omega), fw_r_n _ (by omega), ih h1 h2 h3 h4]
theorem fg_qm_9 (m : fw_M) (f : Int → Int) (T : Int) : ∀ (i : Nat), fw_r (fg_qm m f T i) 32 29 = fw_r m 32 29 + fg_sf (fun j => fw_r m 38 (f j)) 0 i := by
  intro i
  induction i with
  | zero => simp only [fg_qm, fg_sf, Int.add_zero]
  | succ i ih => rw [fg_qm, fw_r_s, ih, fg_sf_end, Int.zero_add]; omega
theorem fg_qm_n (m : fw_M) (f : Int → Int) (T : Int) {p : Int} : ∀ (i : Nat), (∀ j : Int, 0 ≤ j → j < i → f j ≠ p) → fw_r (fg_qm m f T i) 39 p = fw_r m 39 p ∧ fw_r (fg_qm m f T i) 47 p = fw_r m 47 p ∧ fw_r (fg_qm m f T i) 48 p = fw_r m 48 p := by
  intro i
  induction i with
  | zero => intro h; exact ⟨rfl, rfl, rfl⟩
  | succ i ih =>
    intro h
    have hi := h i (by omega) (by omega)
    have r := ih (fun j a b => h j a (by omega))
    rw [fg_qm, fw_r_n _ (by omega), fw_r_n _ (by omega), fw_r_n _ (by omega), fw_r_n _ (by omega), fw_r_n _ (by omega), fw_r_n _ (by omega), fw_r_n _ (by omega), fw_r_n _ (by omega), fw_r_n _ (by omega), fw_r_n _ (by omega), fw_r_n _ (by omega), fw_r_n _ (by omega)]
    exact r
theorem fg_qm_y (m : fw_M) {f : Int → Int} (T : Int) {K : Int} (hinj : ∀ i j, 0 ≤ i → i < K → 0 ≤ j → j < K → f i = f j → i = j) : ∀ (i : Nat), (i : Int) ≤ K → ∀ j : Int, 0 ≤ j → j < i → fw_r (fg_qm m f T i) 39 (f j) = 3 ∧ fw_r (fg_qm m f T i) 47 (f j) = T ∧ fw_r (fg_qm m f T i) 48 (f j) = j := by
  intro i
  induction i with
  | zero => intro _ j h0 h1; omega
  | succ i ih =>
    intro hi j h0 h1
    rw [fg_qm]
    by_cases e : j = i
    · subst e
      (try simp (disch := omega) only [fw_r_n, fw_r_s])
      exact ⟨trivial, trivial, trivial⟩
    · have hj : f j ≠ f i := fun hh => e (hinj j i h0 (by omega) (by omega) (by omega) hh)
      (try simp (disch := omega) only [fw_r_n, fw_r_s])
      exact ih (by omega) j h0 (by omega)
theorem fg_qm_sum {m : fw_M} {f : Int → Int} (T : Int) {K F : Int} (hinj : ∀ i j, 0 ≤ i → i < K → 0 ≤ j → j < K → f i = f j → i = j) (hf : ∀ j, 0 ≤ j → j < K → 0 ≤ f j ∧ f j < F ∧ fw_r m 39 (f j) = 2) : ∀ (i : Nat), (i : Int) ≤ K → fg_sf (fg_sv (fg_qm m f T i) 3) 0 F.toNat = fg_sf (fg_sv m 3) 0 F.toNat + i := by
  intro i
  induction i with
  | zero => intro _; simp only [fg_qm]; omega
  | succ i ih =>
    intro hi
    have hfi := hf i (by omega) (by omega)
    have r := fg_sf_upd (f := fg_sv (fg_qm m f T (i + 1)) 3) (g := fg_sv (fg_qm m f T i) 3) (x := f i) F.toNat 0 (fun j a b d => by
      unfold fg_sv
      have : fw_r (fg_qm m f T (i + 1)) 39 j = fw_r (fg_qm m f T i) 39 j := by rw [fg_qm, fw_r_n _ (by omega), fw_r_n _ (by omega), fw_r_n _ (by omega), fw_r_n _ (by omega)]
      rw [this]) hfi.1 (by omega)
    rw [r, ih (by omega)]
    have e1 := (fg_qm_y m T hinj (i + 1) hi i (by omega) (by omega)).1
    have e2 := (fg_qm_n m f T (p := f i) i (fun j a b e => by have := hinj j i a (by omega) (by omega) (by omega) e; omega)).1
    unfold fg_sv
    rw [e1, e2, hfi.2.2, if_pos rfl, if_neg (by omega)]; omega
theorem fg_qm_ptr {m : fw_M} (f : Int → Int) (T : Int) (hp : fw_ptr m) (i : Nat) : fw_ptr (fg_qm m f T i) := by
  induction i with
  | zero => exact hp
  | succ i ih => rw [fg_qm, fw_ptr_32_29, fw_ptr_48, fw_ptr_47, fw_ptr_39]; exact ih
theorem fs_dispM_lp {m : fw_M} {x T K v : Int} {f : Int → Int} (hp : fw_ptr m) (hx : 0 ≤ x ∧ x < 6) (hcnt : fw_r m 42 x = K) (hK : K ≤ 30) (hf : ∀ j, f j = fw_r m 43 (30 * x + j)) (hT : fw_r m 32 25 = T) (hfp : ∀ j, 0 ≤ j → j < K → 0 ≤ f j ∧ f j < 300 ∧ 1 ≤ fw_r m 38 (f j) ∧ fw_r m 38 (f j) ≤ 9) (h9 : 0 ≤ fw_r m 32 29 ∧ fw_r m 32 29 ≤ 100000) : ∀ (k i : Nat) (a4 : fw_V), (i : Int) + k = K → ∃ b4, fw_E 173 43 [(2, 32), (0, x), (0, v), (0, (i : Int)), a4] [] (fg_qm m f T i) = fw_E 173 116 [(2, 32), (0, x), (0, v), (0, K), b4] [] (fg_qm m f T K.toNat) := by
  intro k
  induction k with
  | zero =>
    intro i a4 h
    have e : (i : Int) = K := by omega
    have e2 : K.toNat = i := by omega
    refine ⟨a4, ?_⟩
    rw [fw_b_173_43 _ _ _ _ _ (fg_qm_ptr f T hp i) hx.1 hx.2, fg_qm_o _ _ _ _ (by omega) (by omega) (by omega) (by omega), hcnt, if_neg (by omega), e2, e]
  | succ k ih =>
    intro i a4 h
    have hp' := fg_qm_ptr f T hp i
    have hfi := hfp i (by omega) (by omega)
    have ei : fw_w (fw_w (30 * x) + (i : Int)) = 30 * x + i := by rw [fw_w_id (x := 30 * x) (by omega) (by omega), fw_w_id (by omega) (by omega)]
    have e43 : fw_r (fg_qm m f T i) 43 (30 * x + i) = f i := by rw [fg_qm_o _ _ _ _ (by omega) (by omega) (by omega) (by omega), hf]
    have e9 := fg_qm_9 m f T i
    have bd := fg_sf_bd (f := fun j => fw_r m 38 (f j)) (lo := 0) (hi := 9) i 0 (fun j a b => by have := hfp j a (by omega); (try dsimp only); omega)
    have e38 : ∀ p, fw_r (fg_qm m f T i) 38 p = fw_r m 38 p := fun p => fg_qm_o _ _ _ _ (by omega) (by omega) (by omega) (by omega)
    have eT : fw_r (fg_qm m f T i) 32 25 = T := by rw [fg_qm_o _ _ _ _ (by omega) (by omega) (by omega) (by omega)]; exact hT
    have hp1 : fw_ptr (fw_u (fg_qm m f T i) 39 (f i) 3) := by rw [fw_ptr_39]; exact hp'
    have hp2 : fw_ptr (fw_u (fw_u (fg_qm m f T i) 39 (f i) 3) 47 (f i) T) := by rw [fw_ptr_47]; exact hp1
    have hp3 : fw_ptr (fw_u (fw_u (fw_u (fg_qm m f T i) 39 (f i) 3) 47 (f i) T) 48 (f i) i) := by rw [fw_ptr_48]; exact hp2
    have ed : (i : Int) + 1 = ((i + 1 : Nat) : Int) := by omega
    obtain ⟨b4, r⟩ := ih (i + 1) (0, f i) (by omega)
    refine ⟨b4, Eq.trans ?_ r⟩
    rw [fw_b_173_43 _ _ _ _ _ hp' hx.1 hx.2, fg_qm_o _ _ _ _ (by omega) (by omega) (by omega) (by omega), hcnt, if_pos (by omega), fw_b_173_53 _ _ _ _ _ hp' (by rw [ei]; omega) (by rw [ei]; omega) (by rw [ei, e43]; exact hfi.1) (by rw [ei, e43]; exact hfi.2.1), ei, e43, fw_b_173_74 _ _ _ _ _ hp1 hfi.1 hfi.2.1, fw_r_k _ (by omega), eT, fw_b_173_85 _ _ _ _ _ hp2 hfi.1 hfi.2.1, fw_b_173_93 _ _ _ _ _ hp3 hfi.1 hfi.2.1, fw_r_k _ (by omega), fw_r_k _ (by omega), fw_r_k _ (by omega), fw_r_k _ (by omega), fw_r_k _ (by omega), fw_r_k _ (by omega), e38, fw_wl_id (by omega) (by omega), fw_b_173_110, fw_w_id (by omega) (by omega), ed]
    rfl
theorem fg_disp {M x : Int} {c m : fw_M} {a3 a4 a5 b2 b3 b4 : fw_V} (h : fg_IN M c m) (hx : 0 ≤ x ∧ x < fw_r m 32 3) (hK1 : 1 ≤ fw_r m 42 x) : ∃ c' m' v, fw_E 96 24 [(2, 1), (0, x), (2, 56 + 3 * x), a3, a4, a5] [] c = some ((0, v), c') ∧ fw_E 173 35 [(2, 32), (0, x), b2, b3, b4] [] m = some ((0, v), m') ∧ fg_IN M c' m' ∧ (∀ a j, (a < 0 ∨ (32 ≤ a ∧ a ≤ 55)) → fw_r c' a j = fw_r c a j) ∧ (∀ a j, (a < 32 ∨ 48 < a ∨ (a = 32 ∧ j ≠ 25 ∧ j ≠ 29)) → fw_r m' a j = fw_r m a j) := by
  have hh := h
  obtain ⟨gA, gB, gC, gD, gE, gF, gG, gH, gI⟩ := h
  obtain ⟨⟨a1, a2, a3'⟩, ⟨-, -, -, -, -, q5⟩, -, e2, -⟩ := gA.1
  have hn := a2.2.1
  have hF := gB.2.1.2.1
  have gEx := gE.1 x hx.1 hx.2
  have hcap := (e2 x hx.1 hx.2).2.1
  obtain ⟨-, hcw, hrw⟩ := a2.2.2 x hx.1 (by omega)
  have hck := fg_chok_of hh hx.1 hx.2
  have hin := fg_chok_in hck
  have e1 := fs_kept a2 hx.1 (by omega) hck
  rw [gEx.2.1.1, gEx.2.1.2.1] at e1 hin
  have e170 : fw_E 170 0 [(2, 32), (0, x)] [] m = some ((0, 10000 * fw_r m 45 x + fw_r m 44 x), m) := by
    have hpm := gA.2
    simp (disch := first | assumption | first | omega | assumption | (simp (disch := omega) only [fw_w_id, fw_wl_id, fw_r_k, fw_r_j, fw_r_s]; omega) | (simp only [fw_ptr_1_8, fw_ptr_2_5, fw_ptr_2_6, fw_ptr_2_7, fw_ptr_2_8, fw_ptr_2_9, fw_ptr_8_2, fw_ptr_8_3, fw_ptr_11_2, fw_ptr_11_3, fw_ptr_11_4, fw_ptr_11_5, fw_ptr_11_6, fw_ptr_17_8, fw_ptr_18_2, fw_ptr_18_3, fw_ptr_25_1, fw_ptr_27_2, fw_ptr_28_1, fw_ptr_32_0, fw_ptr_32_1, fw_ptr_32_3, fw_ptr_32_7, fw_ptr_32_8, fw_ptr_32_9, fw_ptr_32_10, fw_ptr_32_15, fw_ptr_32_16, fw_ptr_32_17, fw_ptr_32_18, fw_ptr_32_19, fw_ptr_32_25, fw_ptr_32_29, fw_ptr_3, fw_ptr_4, fw_ptr_5, fw_ptr_6, fw_ptr_7, fw_ptr_9, fw_ptr_10, fw_ptr_13, fw_ptr_15, fw_ptr_16, fw_ptr_19, fw_ptr_20, fw_ptr_21, fw_ptr_22, fw_ptr_23, fw_ptr_24, fw_ptr_26, fw_ptr_29, fw_ptr_30, fw_ptr_31, fw_ptr_33, fw_ptr_34, fw_ptr_35, fw_ptr_36, fw_ptr_37, fw_ptr_38, fw_ptr_39, fw_ptr_40, fw_ptr_41, fw_ptr_42, fw_ptr_43, fw_ptr_44, fw_ptr_45, fw_ptr_46, fw_ptr_47, fw_ptr_48, fw_ptr_49, fw_ptr_50, fw_ptr_51, fw_ptr_52, fw_ptr_53, fw_ptr_54, fw_ptr_55, fw_ptr_12, fw_ptr_x, fw_ptr_hi, fw_ptr_b3, fw_ptr_b1, fw_ptr_b2, fw_ptr_b2_]; assumption)) only [fw_b_170_0, ↓if_pos, ↓if_neg, if_neg, if_pos, fw_bs, fw_cn_0, fw_cn_1, fw_cn_2, fw_cn_3, fw_cn_4, fw_cn_5, Nat.reduceAdd, fw_w_id, fw_wl_id, fw_r_k, fw_r_j, fw_r_s, fw_r_x, if_true, if_false]
  generalize hvv : 10000 * fw_r m 45 x + fw_r m 44 x = v at *
  generalize hK : fw_r m 42 x = K at *
  generalize hT : fw_r m 32 25 = T at *
  generalize hC : fw_r c 28 1 = C at *
  have hH1 := gH.1
  rw [hT, hC] at hH1
  have hfx : ∀ j, 0 ≤ j → j < K → fw_r c (56 + 3 * x + 1 + 1) j = fw_r m 43 (30 * x + j) ∧ 0 ≤ fw_r m 43 (30 * x + j) ∧ fw_r m 43 (30 * x + j) < fw_r m 32 15 ∧ fw_r m 39 (fw_r m 43 (30 * x + j)) = 2 := gEx.2.2
  have hinj : ∀ i j, 0 ≤ i → i < K → 0 ≤ j → j < K → fw_r m 43 (30 * x + i) = fw_r m 43 (30 * x + j) → i = j := by
    intro i j i0 i1 j0 j1 e
    refine Classical.byContradiction (fun hne => ?_)
    have t1 := fg_cnt_two (f := fun k => fw_r m 43 (30 * x + k)) (n := K) (p := fw_r m 43 (30 * x + j)) i0 i1 e j0 j1 rfl hne
    have t2 := fg_chs_one (m := m) (p := fw_r m 43 (30 * x + j)) hx.1 hx.2
    rw [hK] at t2
    have t3 := gI _ (hfx j j0 j1).2.1
    have t4 := fg_cnt_ge (f := fw_r m 33) (n := fw_r m 32 1) (p := fw_r m 43 (30 * x + j))
    have t5 := fg_cnt_ge (f := fw_r c 29) (n := fw_r c 28 1) (p := fw_r m 43 (30 * x + j))
    have t6 := fg_cnt_ge (f := fw_r c 26) (n := fw_r m 32 19) (p := fw_r m 43 (30 * x + j))
    have t7 : (0 : Int) ≤ (if fw_r m 32 15 ≤ fw_r m 43 (30 * x + j) ∧ fw_r m 43 (30 * x + j) < fw_r m 32 10 then 1 else 0) := by split <;> decide
    have t8 : (if fw_r m 43 (30 * x + j) < fw_r m 32 10 then (1 : Int) else 0) ≤ 1 := by split <;> decide
    omega
  -- the model's f on its own row; the class's row agrees below K
  have hfm : ∀ j, (fun j => fw_r m 43 (30 * x + j)) j = fw_r m 43 (30 * x + j) := fun j => rfl
  have hw : ∀ j, 0 ≤ j → j < K → 1 ≤ fw_r m 38 (fw_r m 43 (30 * x + j)) ∧ fw_r m 38 (fw_r m 43 (30 * x + j)) ≤ 9 ∧ fw_r c 4 (fw_r m 43 (30 * x + j)) = fw_r m 38 (fw_r m 43 (30 * x + j)) := fun j j0 j1 => by
    have z := hfx j j0 j1
    have := (gC.2.2.2.1 _ z.2.1 (by omega)).1
    exact ⟨this.2.1, this.2.2, this.1⟩
  have hKn : ((K.toNat : Nat) : Int) = K := by omega
  have hsum := fg_qm_sum (m := m) (f := fun j => fw_r m 43 (30 * x + j)) T (K := K) (F := fw_r m 32 15) hinj (fun j j0 j1 => (hfx j j0 j1).2) K.toNat (by omega)
  have hgD := gD.2.2.2.2
  have hC3 : C = fg_sf (fg_sv m 3) 0 (fw_r m 32 15).toNat := hC.symm.trans hgD
  have hbd := fg_sf_bd (f := fg_sv (fg_qm m (fun j => fw_r m 43 (30 * x + j)) T K.toNat) 3) (lo := 0) (hi := 1) (fw_r m 32 15).toNat 0 (fun j _ _ => by unfold fg_sv; split <;> omega)
  have hCK : C + K ≤ 300 := by omega
  have hg9 := gD.2.2.2.1
  rw [hC] at hg9
  -- class
  have hlnx := fw_ln_ch hx.1
  let fc : Int → Int := fun j => fw_r c (56 + 3 * x + 1 + 1) j
  have hfc : ∀ j, fc j = fw_r c (56 + 3 * x + 1 + 1) j := fun j => rfl
  have hfe : ∀ j, 0 ≤ j → j < K → fc j = fw_r m 43 (30 * x + j) := fun j j0 j1 => (hfx j j0 j1).1
  have hrc : fw_r c (56 + 3 * x + 1) 1 = K := gEx.1.1
  have et := fs_take (s := c) (R := 56 + 3 * x + 1) (T := T) (K := K) (C := C) (f := fc) (a2 := (8, 0)) (a3 := (8, 0)) a1 (by omega) hrw hrc hlnx (by omega) hfc hC (by omega) hCK (by rw [gH.1.1]; exact hT) (by omega)
  have hp2 : fw_ptr (fw_u (fg_qa (fw_u c 30 T C) fc C K.toNat) 27 2 (T + 1)) := by rw [fw_ptr_27_2]; exact fg_qa_ptr _ _ (by rw [fw_ptr_30]; exact a1) _
  have o2 : ∀ a j, a ≠ 29 → (a ≠ 28 ∨ j ≠ 1) → (a ≠ 30 ∨ j ≠ T) → (a ≠ 27 ∨ j ≠ 2) → fw_r (fw_u (fg_qa (fw_u c 30 T C) fc C K.toNat) 27 2 (T + 1)) a j = fw_r c a j := fun a j z1 z2 z3 z4 => by
    rw [fw_r_n _ (by omega), fg_qa_o _ _ _ _ z1 z2, fw_r_n _ (by omega)]
  have o27 : fw_r (fw_u (fg_qa (fw_u c 30 T C) fc C K.toNat) 27 2 (T + 1)) 27 2 = T + 1 := fw_r_s _ _ _ _
  have o28 : fw_r (fw_u (fg_qa (fw_u c 30 T C) fc C K.toNat) 27 2 (T + 1)) 28 1 = C + K := by
    rw [fw_r_k _ (by omega), fg_qa_28 _ (by rw [fw_r_k _ (by omega)]; exact hC), hKn]
  have o29 : ∀ j, j < C → fw_r (fw_u (fg_qa (fw_u c 30 T C) fc C K.toNat) 27 2 (T + 1)) 29 j = fw_r c 29 j := fun j hj => by
    rw [fw_r_k _ (by omega), fg_qa_lo _ _ _ _ hj, fw_r_k _ (by omega)]
  have o29n : ∀ j, 0 ≤ j → j < K → fw_r (fw_u (fg_qa (fw_u c 30 T C) fc C K.toNat) 27 2 (T + 1)) 29 (C + j) = fc j := fun j j0 j1 => by
    rw [fw_r_k _ (by omega), fg_qa_n _ _ _ _ j0 (by omega)]
  have o30 : fw_r (fw_u (fg_qa (fw_u c 30 T C) fc C K.toNat) 27 2 (T + 1)) 30 T = C := by
    rw [fw_r_k _ (by omega), fg_qa_o _ _ _ _ (by omega) (by omega), fw_r_s]
  generalize fw_u (fg_qa (fw_u c 30 T C) fc C K.toNat) 27 2 (T + 1) = s at *
  have hcs : fw_chw s (56 + 3 * x) := ⟨hcw.1, by rw [o2 _ _ (by omega) (by omega) (by omega) (by omega)]; exact hcw.2⟩
  have hrs : fw_rw s (56 + 3 * x + 1) := ⟨hrw.1, hrw.2.1, by rw [o2 _ _ (by omega) (by omega) (by omega) (by omega)]; exact hrw.2.2⟩
  have hpk := fg_pok_of hh
  have hks : fg_pok s := by
    unfold fg_pok
    rw [o2 2 6 (by omega) (by omega) (by omega) (by omega), o2 2 5 (by omega) (by omega) (by omega) (by omega)]
    exact hpk
  have en := fs_enter_lp (s := s) (x := x) (B := 56 + 3 * x) (T := T) (K := K) (v := v) (f := fc) hp2 (by omega) hcs hrs hks (by rw [o2 _ _ (by omega) (by omega) (by omega) (by omega)]; exact hrc) hlnx (by omega) (fun j => by rw [o2 _ _ (by omega) (by omega) (by omega) (by omega)]) (fun j j0 j1 => by
    rw [hfe j j0 j1, o2 2 5 (by omega) (by omega) (by omega) (by omega), o2 4 _ (by omega) (by omega) (by omega) (by omega), (hw j j0 j1).2.2, q5]
    have z := hfx j j0 j1
    have z2 := hw j j0 j1
    omega) (by rw [o2 2 9 (by omega) (by omega) (by omega) (by omega)]; omega) K.toNat 0 (by omega)
  have hp3 := fg_qe_ptr fc T hp2 K.toNat
  have q_o := fun {a j : Int} => fg_qe_o s fc T K.toNat (a := a) (j := j)
  have q_9 := fg_qe_9 s fc T K.toNat
  have q_n := fun {p : Int} => fg_qe_n s fc T (p := p) K.toNat
  have q_y := fg_qe_y s fc T K.toNat
  have hSc : fg_sf (fun j => fw_r s 4 (fc j)) 0 K.toNat = fg_sf (fun j => fw_r m 38 (fw_r m 43 (30 * x + j))) 0 K.toNat := fg_sf_ext _ _ (fun j j0 j1 => by
    (try dsimp only)
    rw [o2 4 _ (by omega) (by omega) (by omega) (by omega), hfe j j0 (by omega), (hw j j0 (by omega)).2.2])
  rw [hSc] at q_9
  have e0 : ((0 : Nat) : Int) = 0 := rfl
  rw [e0] at en
  have en' : fw_E 96 45 [(2, 1), (0, x), (2, 56 + 3 * x), (0, v), (0, T), (0, 0)] [] s = fw_E 96 81 [(2, 1), (0, x), (2, 56 + 3 * x), (0, v), (0, T), (0, K)] [] (fg_qe s fc T K.toNat) := en
  generalize fg_qe s fc T K.toNat = s2 at *
  have hc2 : fw_chw s2 (56 + 3 * x) := ⟨hcs.1, by rw [q_o (by omega) (by omega) (by omega)]; exact hcs.2⟩
  have hr2 : fw_rw s2 (56 + 3 * x + 1) := ⟨hrs.1, hrs.2.1, by rw [q_o (by omega) (by omega) (by omega)]; exact hrs.2.2⟩
  have ec := fs_clear hc2 hr2
  -- model
  obtain ⟨d4, em⟩ := fs_dispM_lp (m := m) (x := x) (T := T) (K := K) (v := v) (f := fun j => fw_r m 43 (30 * x + j)) gA.2 (by omega) hK (by omega) (fun j => rfl) hT (fun j j0 j1 => by
    have z := hfx j j0 j1
    have z2 := hw j j0 j1
    (try dsimp only)
    omega) (by omega) K.toNat 0 b4 (by omega)
  rw [e0] at em
  have em' : fw_E 173 43 [(2, 32), (0, x), (0, v), (0, 0), b4] [] m = fw_E 173 116 [(2, 32), (0, x), (0, v), (0, K), d4] [] (fg_qm m (fun j => fw_r m 43 (30 * x + j)) T K.toNat) := em
  have p_o := fun {a j : Int} => fg_qm_o m (fun j => fw_r m 43 (30 * x + j)) T K.toNat (a := a) (j := j)
  have p_9 := fg_qm_9 m (fun j => fw_r m 43 (30 * x + j)) T K.toNat
  have p_n := fun {p : Int} => fg_qm_n m (fun j => fw_r m 43 (30 * x + j)) T (p := p) K.toNat
  have p_y := fg_qm_y m (f := fun j => fw_r m 43 (30 * x + j)) T (K := K) hinj K.toNat (by omega)
  have hpm := fg_qm_ptr (m := m) (fun j => fw_r m 43 (30 * x + j)) T gA.2 K.toNat
  have hSb := fg_sf_bd (f := fun j => fw_r m 38 (fw_r m 43 (30 * x + j))) (lo := 0) (hi := 9) K.toNat 0 (fun j j0 j1 => by have := hw j j0 (by omega); (try dsimp only); omega)
  generalize fg_sf (fun j => fw_r m 38 (fw_r m 43 (30 * x + j))) 0 K.toNat = S at *
  generalize fg_qm m (fun j => fw_r m 43 (30 * x + j)) T K.toNat = m1 at *
  have m25 : fw_r m1 32 25 = T := by rw [p_o (by omega) (by omega) (by omega) (by omega)]; exact hT
  have m42 : fw_r m1 42 x = K := by rw [p_o (by omega) (by omega) (by omega) (by omega)]; exact hK
  have pp1 : fw_ptr (fw_u m1 46 T K) := by rw [fw_ptr_46]; exact hpm
  have pp2 : fw_ptr (fw_u (fw_u m1 46 T K) 32 25 (T + 1)) := by rw [fw_ptr_32_25]; exact pp1
  have pp3 : fw_ptr (fw_u (fw_u (fw_u m1 46 T K) 32 25 (T + 1)) 42 x 0) := by rw [fw_ptr_42]; exact pp2
  have pp4 : fw_ptr (fw_u (fw_u (fw_u (fw_u m1 46 T K) 32 25 (T + 1)) 42 x 0) 44 x 0) := by rw [fw_ptr_44]; exact pp3
  refine ⟨fg_cl s2 (56 + 3 * x), fw_u (fw_u (fw_u (fw_u (fw_u m1 46 T K) 32 25 (T + 1)) 42 x 0) 44 x 0) 45 x 0, v, ?_, ?_, ?_, fun a j ha => ?_, fun a j ha => ?_⟩
  · rw [fw_b_96_24 _ _ _ _ _ _ hcw, e1, fw_bs, fw_cn_0, fw_b_96_28 _ _ _ _ _ _ _ a1 hcw, et, fw_bs, fw_cn_0, fw_b_96_40, en', fw_b_96_81 _ _ _ _ _ _ hc2, ec, fw_bs, fw_cn_5, fw_b_96_85]
  · rw [fw_b_173_35, e170, fw_bs, fw_cn_0, fw_b_173_40, em', fw_b_173_116 _ _ _ _ _ hpm (by omega) (by omega) (by omega) (by omega), m25, m42, fw_b_173_131, fw_r_k _ (by omega), m25, fw_w_id (by omega) (by omega), fw_b_173_141 _ _ _ _ _ pp2 (by omega) (by omega), fw_b_173_148 _ _ _ _ _ pp3 (by omega) (by omega), fw_b_173_155 _ _ _ _ _ pp4 (by omega) (by omega), fw_b_173_162]
  · refine fg_IN_disp (x := x) (K := K) (T := T) (C := C) (S := S) (f := fun j => fw_r m 43 (30 * x + j)) hh hx hK hK1 (fun j => rfl) hT hC ?_ (fun a j z1 z2 z3 z4 z5 z6 z7 z8 z9 => ?_) (fun j z => ?_) ?_ (fun p hp => ?_) (fun j j0 j1 => ?_) ?_ ?_ (fun j hj => ?_) (fun j j0 j1 => ?_) ?_ (fun u hu => ?_) (fun j z1 z2 => ?_) ?_ ?_ ?_ ?_ (by rw [fw_ptr_45]; exact pp4) (fun a j z1 z2 z3 z4 z5 z6 z7 z8 => ?_) (fun j z1 z2 => ?_) ?_ ?_ (fun p hp => ?_) (fun j j0 j1 => ?_) (fun i hi => ?_) ?_ ?_ (fun u hu => ?_) (by omega) ?_
    · unfold fg_cl; rw [fw_ptr_hi _ (by omega), fw_ptr_hi _ (by omega), fw_ptr_hi _ (by omega)]; exact hp3
    · unfold fg_cl; rw [fw_r_n _ (by omega), fw_r_n _ (by omega), fw_r_n _ (by omega), q_o z2 z3 (Or.inl z1), o2 _ _ z6 (Or.inl z5) (Or.inl z7) (Or.inl z4)]
    · unfold fg_cl; rw [fw_r_n _ (by omega), fw_r_n _ (by omega), fw_r_n _ (by omega), q_o (by omega) (by omega) (Or.inr z), o2 _ _ (by omega) (by omega) (by omega) (by omega)]
    · unfold fg_cl; rw [fw_r_n _ (by omega), fw_r_n _ (by omega), fw_r_n _ (by omega), q_9, o2 _ _ (by omega) (by omega) (by omega) (by omega)]
    · have z := q_n (p := p) (fun j j0 j1 => by rw [hfe j j0 (by omega)]; exact hp j j0 (by omega))
      unfold fg_cl; rw [fw_r_n _ (by omega), fw_r_n _ (by omega), fw_r_n _ (by omega), fw_r_n _ (by omega), fw_r_n _ (by omega), fw_r_n _ (by omega), z.1, z.2, o2 _ _ (by omega) (by omega) (by omega) (by omega), o2 _ _ (by omega) (by omega) (by omega) (by omega)]
      exact ⟨rfl, rfl⟩
    · have z := q_y j j0 (by omega)
      rw [hfe j j0 j1] at z
      unfold fg_cl; rw [fw_r_n _ (by omega), fw_r_n _ (by omega), fw_r_n _ (by omega), fw_r_n _ (by omega), fw_r_n _ (by omega), fw_r_n _ (by omega)]
      exact z
    · unfold fg_cl; rw [fw_r_n _ (by omega), fw_r_n _ (by omega), fw_r_n _ (by omega), q_o (by omega) (by omega) (by omega)]; exact o27
    · unfold fg_cl; rw [fw_r_n _ (by omega), fw_r_n _ (by omega), fw_r_n _ (by omega), q_o (by omega) (by omega) (by omega)]; exact o28
    · unfold fg_cl; rw [fw_r_n _ (by omega), fw_r_n _ (by omega), fw_r_n _ (by omega), q_o (by omega) (by omega) (by omega)]; exact o29 j hj
    · unfold fg_cl; rw [fw_r_n _ (by omega), fw_r_n _ (by omega), fw_r_n _ (by omega), q_o (by omega) (by omega) (by omega), o29n j j0 j1]; exact hfe j j0 j1
    · unfold fg_cl; rw [fw_r_n _ (by omega), fw_r_n _ (by omega), fw_r_n _ (by omega), q_o (by omega) (by omega) (by omega)]; exact o30
    · unfold fg_cl; rw [fw_r_n _ (by omega), fw_r_n _ (by omega), fw_r_n _ (by omega), q_o (by omega) (by omega) (by omega), o2 _ _ (by omega) (by omega) (Or.inr hu) (by omega)]
    · unfold fg_cl; rw [fw_r_n _ (by omega), fw_r_n _ (by omega), fw_r_n _ (by omega), q_o (by omega) (by omega) (by omega), o2 _ _ (by omega) (by omega) (by omega) (by omega)]
    · unfold fg_cl; rw [fw_r_n _ (by omega), fw_r_s]
    · unfold fg_cl; rw [fw_r_s]
    · unfold fg_cl; rw [fw_r_n _ (by omega), fw_r_n _ (by omega), fw_r_s]
    · unfold fg_cl; rw [fw_r_n _ (by omega), fw_r_n _ (by omega), fw_r_n _ (by omega), q_o (by omega) (by omega) (by omega), o2 _ _ (by omega) (by omega) (by omega) (by omega)]
    · (try simp (disch := omega) only [fw_r_n, fw_r_s])
      exact p_o z2 z7 z8 (Or.inl z1)
    · (try simp (disch := omega) only [fw_r_n, fw_r_s])
      exact p_o (by omega) (by omega) (by omega) (Or.inr z2)
    · (try simp (disch := omega) only [fw_r_n, fw_r_s])
      exact p_9
    · (try simp (disch := omega) only [fw_r_n, fw_r_s])
    · have z := p_n (p := p) (fun j j0 j1 => hp j j0 (by omega))
      (try simp (disch := omega) only [fw_r_n, fw_r_s])
      exact z
    · have z := p_y j j0 (by omega)
      (try simp (disch := omega) only [fw_r_n, fw_r_s])
      exact z
    · (try simp (disch := omega) only [fw_r_n, fw_r_s])
      exact ⟨p_o (by omega) (by omega) (by omega) (by omega), p_o (by omega) (by omega) (by omega) (by omega), p_o (by omega) (by omega) (by omega) (by omega)⟩
    · (try simp (disch := omega) only [fw_r_n, fw_r_s])
      exact ⟨trivial, trivial, trivial⟩
    · (try simp (disch := omega) only [fw_r_n, fw_r_s])
    · (try simp (disch := omega) only [fw_r_n, fw_r_s])
      exact p_o (by omega) (by omega) (by omega) (by omega)
    · rw [hKn] at hsum
      rw [← hsum]
      exact fg_sf_ext _ _ (fun j _ _ => by unfold fg_sv; (try simp (disch := omega) only [fw_r_n, fw_r_s]))
  · unfold fg_cl; rw [fw_r_n _ (by omega), fw_r_n _ (by omega), fw_r_n _ (by omega), q_o (by omega) (by omega) (by omega), o2 _ _ (by omega) (by omega) (by omega) (by omega)]
  · (try simp (disch := omega) only [fw_r_n, fw_r_s])
    exact p_o (by omega) (by omega) (by omega) (by omega)
theorem op_dispatch {t x : Int} {σ : fw_M} (h : fg_INV t σ) : fg_OK t (fun σ => fw_E 206 0 [(2, 1), (0, x), (2, 54), (8, 0)] [] σ) (fun σ => fw_E 173 0 [(2, 32), (0, x), (8, 0), (8, 0), (8, 0)] [] σ) σ := by
  obtain ⟨⟨hp, hk, hpk⟩, ⟨h3, h30, h36⟩, hN, h82, h113, h25, hP⟩ := fg_facts h
  by_cases c1 : 0 ≤ x ∧ x < fw_r σ 32 3
  · have e1 := fs_rChute_t (r := x) (a2 := (8, 0)) hp hk (by omega)
    obtain ⟨-, hcw, hrw⟩ := hk.2.2 x c1.1 (by omega)
    have gx := (h.1.2.2.2.2.1.1 x c1.1 c1.2).1
    by_cases c2 : fw_r σ 42 x = 0
    · have hx0 : fw_r σ (56 + 3 * x + 1) 1 = 0 := gx.1.trans c2
      refine fg_OK_err (k := 2) (b := 0) h (by omega) ?_ ?_
      · simp (disch := first | assumption | first | omega | assumption | (simp (disch := omega) only [fw_w_id, fw_wl_id, fw_r_k, fw_r_j, fw_r_s]; omega) | (simp only [fw_ptr_1_8, fw_ptr_2_5, fw_ptr_2_6, fw_ptr_2_7, fw_ptr_2_8, fw_ptr_2_9, fw_ptr_8_2, fw_ptr_8_3, fw_ptr_11_2, fw_ptr_11_3, fw_ptr_11_4, fw_ptr_11_5, fw_ptr_11_6, fw_ptr_17_8, fw_ptr_18_2, fw_ptr_18_3, fw_ptr_25_1, fw_ptr_27_2, fw_ptr_28_1, fw_ptr_32_0, fw_ptr_32_1, fw_ptr_32_3, fw_ptr_32_7, fw_ptr_32_8, fw_ptr_32_9, fw_ptr_32_10, fw_ptr_32_15, fw_ptr_32_16, fw_ptr_32_17, fw_ptr_32_18, fw_ptr_32_19, fw_ptr_32_25, fw_ptr_32_29, fw_ptr_3, fw_ptr_4, fw_ptr_5, fw_ptr_6, fw_ptr_7, fw_ptr_9, fw_ptr_10, fw_ptr_13, fw_ptr_15, fw_ptr_16, fw_ptr_19, fw_ptr_20, fw_ptr_21, fw_ptr_22, fw_ptr_23, fw_ptr_24, fw_ptr_26, fw_ptr_29, fw_ptr_30, fw_ptr_31, fw_ptr_33, fw_ptr_34, fw_ptr_35, fw_ptr_36, fw_ptr_37, fw_ptr_38, fw_ptr_39, fw_ptr_40, fw_ptr_41, fw_ptr_42, fw_ptr_43, fw_ptr_44, fw_ptr_45, fw_ptr_46, fw_ptr_47, fw_ptr_48, fw_ptr_49, fw_ptr_50, fw_ptr_51, fw_ptr_52, fw_ptr_53, fw_ptr_54, fw_ptr_55, fw_ptr_12, fw_ptr_x, fw_ptr_hi, fw_ptr_b3, fw_ptr_b1, fw_ptr_b2, fw_ptr_b2_]; assumption)) only [fw_b_206_0, fw_b_206_15, fw_b_206_12, fw_b_206_7, fw_b_206_9, fw_h206_3, fw_h206_1, fw_b_96_0, fw_b_96_5, fw_b_96_24, fw_b_96_28, fw_b_96_40, fw_b_96_45, fw_b_96_81, fw_b_96_85, fw_b_96_57, fw_b_96_70, fw_b_96_75, fw_b_96_16, fw_c9_96, e1, ↓if_pos, ↓if_neg, if_neg, if_pos, fw_bs, fw_cn_0, fw_cn_1, fw_cn_2, fw_cn_3, fw_cn_4, fw_cn_5, Nat.reduceAdd, fw_w_id, fw_wl_id, fw_r_k, fw_r_j, fw_r_s, fw_r_x, if_true, if_false]
      · have m1 := fs_isChute_t (m := fw_ex σ) (i := x) (by rw [fw_r_x _ _ _ (by omega)]; exact ⟨h30, h36⟩) (by rw [fw_r_x _ _ _ (by omega)]; exact c1)
        have g2 := fs_goesOn_n (m := fw_ex σ) (v := 2) (by omega)
        simp (disch := first | assumption | first | omega | assumption | (simp (disch := omega) only [fw_w_id, fw_wl_id, fw_r_k, fw_r_j, fw_r_s]; omega) | (simp only [fw_ptr_1_8, fw_ptr_2_5, fw_ptr_2_6, fw_ptr_2_7, fw_ptr_2_8, fw_ptr_2_9, fw_ptr_8_2, fw_ptr_8_3, fw_ptr_11_2, fw_ptr_11_3, fw_ptr_11_4, fw_ptr_11_5, fw_ptr_11_6, fw_ptr_17_8, fw_ptr_18_2, fw_ptr_18_3, fw_ptr_25_1, fw_ptr_27_2, fw_ptr_28_1, fw_ptr_32_0, fw_ptr_32_1, fw_ptr_32_3, fw_ptr_32_7, fw_ptr_32_8, fw_ptr_32_9, fw_ptr_32_10, fw_ptr_32_15, fw_ptr_32_16, fw_ptr_32_17, fw_ptr_32_18, fw_ptr_32_19, fw_ptr_32_25, fw_ptr_32_29, fw_ptr_3, fw_ptr_4, fw_ptr_5, fw_ptr_6, fw_ptr_7, fw_ptr_9, fw_ptr_10, fw_ptr_13, fw_ptr_15, fw_ptr_16, fw_ptr_19, fw_ptr_20, fw_ptr_21, fw_ptr_22, fw_ptr_23, fw_ptr_24, fw_ptr_26, fw_ptr_29, fw_ptr_30, fw_ptr_31, fw_ptr_33, fw_ptr_34, fw_ptr_35, fw_ptr_36, fw_ptr_37, fw_ptr_38, fw_ptr_39, fw_ptr_40, fw_ptr_41, fw_ptr_42, fw_ptr_43, fw_ptr_44, fw_ptr_45, fw_ptr_46, fw_ptr_47, fw_ptr_48, fw_ptr_49, fw_ptr_50, fw_ptr_51, fw_ptr_52, fw_ptr_53, fw_ptr_54, fw_ptr_55, fw_ptr_12, fw_ptr_x, fw_ptr_hi, fw_ptr_b3, fw_ptr_b1, fw_ptr_b2, fw_ptr_b2_]; assumption)) only [fw_b_173_0, fw_b_173_6, fw_b_173_13, fw_b_173_26, fw_b_173_30, fw_b_173_35, fw_b_173_40, fw_b_173_43, fw_b_173_116, fw_b_173_131, fw_b_173_141, fw_b_173_148, fw_b_173_155, fw_b_173_162, fw_b_173_53, fw_b_173_74, fw_b_173_85, fw_b_173_93, fw_b_173_110, fw_b_173_33, fw_b_173_22, fw_b_173_9, m1, g2, ↓if_pos, ↓if_neg, if_neg, if_pos, fw_bs, fw_cn_0, fw_cn_1, fw_cn_2, fw_cn_3, fw_cn_4, fw_cn_5, Nat.reduceAdd, fw_w_id, fw_wl_id, fw_r_k, fw_r_j, fw_r_s, fw_r_x, if_true, if_false]
    · have hK1 : 1 ≤ fw_r σ 42 x := by omega
      have hx1 : fw_r σ (56 + 3 * x + 1) 1 ≠ 0 := by omega
      obtain ⟨c', mq, v, q1, -, q3, q4, -⟩ := fg_disp (a3 := (8, 0)) (a4 := (8, 0)) (a5 := (8, 0)) (b2 := (8, 0)) (b3 := (8, 0)) (b4 := (8, 0)) h.1 c1 hK1
      have hpc := q3.1.1.1.1
      have hps : fw_ptr (fw_u (fw_u c' 54 0 v) 32 0 0) := by rw [fw_ptr_32_0, fw_ptr_54]; exact hpc
      have hI : fg_IN (200 * t) σ (fw_u (fw_u c' 54 0 v) 32 0 0) := fg_IN_eq h.1 (fg_AC_refl σ) (fun a j u w z => by (try simp (disch := omega) only [fw_r_n, fw_r_s]); exact q4 _ _ (by omega)) hp hps
      have s3 : fw_r (fw_u (fw_u c' 54 0 v) 32 0 0) 32 3 = fw_r σ 32 3 := by (try simp (disch := omega) only [fw_r_n, fw_r_s]); exact q4 _ _ (by omega)
      have s42 : fw_r (fw_u (fw_u c' 54 0 v) 32 0 0) 42 x = fw_r σ 42 x := by (try simp (disch := omega) only [fw_r_n, fw_r_s]); exact q4 _ _ (by omega)
      obtain ⟨c2', m', v2, w1, w2, w3, w4, w5⟩ := fg_disp (a3 := (8, 0)) (a4 := (8, 0)) (a5 := (8, 0)) (b2 := (8, 0)) (b3 := (8, 0)) (b4 := (8, 0)) hI (by rw [s3]; exact c1) (by rw [s42]; exact hK1)
      rw [q1] at w1
      injection w1 with w1
      have z1 := congrArg Prod.snd w1
      have z2 := congrArg (fun o => o.1.2) w1
      dsimp only at z1 z2
      subst z1
      subst z2
      have fr : ∀ a j, (a < 32 ∨ 54 < a ∨ (a = 32 ∧ j ≠ 0 ∧ j ≠ 25 ∧ j ≠ 29)) → fw_r m' a j = fw_r c' a j := fun a j ha => by rw [w5 a j (by omega)]; (try simp (disch := omega) only [fw_r_n, fw_r_s])
      refine fg_OK_fin (v := v) (σ1 := fw_u c' 54 0 v) (σ2 := m') h ?_ ?_ ?_ ?_ (fg_IN_M w3 (by omega)) (fun a j ha => fr _ _ (by omega)) (fg_AG_refl _) w3.1.2 ?_ ?_ ?_ ?_ (fun a j ha => ?_) (fun a j ha => by rw [fw_r_k _ (by omega)]; exact q4 a j (by omega))
      · simp (disch := first | assumption | omega) only [fw_b_206_0, fw_b_206_7, fw_b_206_9, fw_b_96_0, fw_b_96_5, e1, q1, ↓if_pos, ↓if_neg, fw_bs, fw_cn_0, fw_cn_2, Nat.reduceAdd]
      · have m1 := fs_isChute_t (m := fw_u c' 54 0 v) (i := x) (by rw [fw_r_k _ (by omega), q4 _ _ (by omega)]; exact ⟨h30, h36⟩) (by rw [fw_r_k _ (by omega), q4 _ _ (by omega)]; exact c1)
        have g0 := fs_goesOn_0 (m := fw_u c' 54 0 v)
        have m2 : fw_r (fw_u c' 54 0 v) 42 x ≠ 0 := by rw [fw_r_k _ (by omega), q4 _ _ (by omega)]; exact c2
        have hp4 : fw_ptr (fw_u c' 54 0 v) := by rw [fw_ptr_54]; exact hpc
        simp (disch := first | assumption | omega) only [fw_b_173_0, fw_b_173_6, fw_b_173_13, fw_b_173_26, fw_b_173_30, m1, g0, w2, ↓if_pos, ↓if_neg, fw_bs, fw_cn_0, Nat.reduceAdd]
      · rw [w5 _ _ (by omega), fw_r_s]
      · rw [w5 _ _ (by omega)]; (try simp (disch := omega) only [fw_r_n, fw_r_s])
      · rw [fr _ _ (by omega), q4 _ _ (by omega)]
      · rw [fr _ _ (by omega), q4 _ _ (by omega)]
      · rw [fr _ _ (by omega), q4 _ _ (by omega)]
      · rw [fr _ _ (by omega), q4 _ _ (by omega)]
      · rw [fr _ _ (by omega), q4 _ _ (by omega)]
  · refine fg_OK_err (k := 1) (b := 0) h (by omega) ?_ ?_
    · have e1 := fs_rChute_f (r := x) (a2 := (8, 0)) hp (by omega)
      simp (disch := first | assumption | first | omega | assumption | (simp (disch := omega) only [fw_w_id, fw_wl_id, fw_r_k, fw_r_j, fw_r_s]; omega) | (simp only [fw_ptr_1_8, fw_ptr_2_5, fw_ptr_2_6, fw_ptr_2_7, fw_ptr_2_8, fw_ptr_2_9, fw_ptr_8_2, fw_ptr_8_3, fw_ptr_11_2, fw_ptr_11_3, fw_ptr_11_4, fw_ptr_11_5, fw_ptr_11_6, fw_ptr_17_8, fw_ptr_18_2, fw_ptr_18_3, fw_ptr_25_1, fw_ptr_27_2, fw_ptr_28_1, fw_ptr_32_0, fw_ptr_32_1, fw_ptr_32_3, fw_ptr_32_7, fw_ptr_32_8, fw_ptr_32_9, fw_ptr_32_10, fw_ptr_32_15, fw_ptr_32_16, fw_ptr_32_17, fw_ptr_32_18, fw_ptr_32_19, fw_ptr_32_25, fw_ptr_32_29, fw_ptr_3, fw_ptr_4, fw_ptr_5, fw_ptr_6, fw_ptr_7, fw_ptr_9, fw_ptr_10, fw_ptr_13, fw_ptr_15, fw_ptr_16, fw_ptr_19, fw_ptr_20, fw_ptr_21, fw_ptr_22, fw_ptr_23, fw_ptr_24, fw_ptr_26, fw_ptr_29, fw_ptr_30, fw_ptr_31, fw_ptr_33, fw_ptr_34, fw_ptr_35, fw_ptr_36, fw_ptr_37, fw_ptr_38, fw_ptr_39, fw_ptr_40, fw_ptr_41, fw_ptr_42, fw_ptr_43, fw_ptr_44, fw_ptr_45, fw_ptr_46, fw_ptr_47, fw_ptr_48, fw_ptr_49, fw_ptr_50, fw_ptr_51, fw_ptr_52, fw_ptr_53, fw_ptr_54, fw_ptr_55, fw_ptr_12, fw_ptr_x, fw_ptr_hi, fw_ptr_b3, fw_ptr_b1, fw_ptr_b2, fw_ptr_b2_]; assumption)) only [fw_b_206_0, fw_b_206_15, fw_b_206_12, fw_b_206_7, fw_b_206_9, fw_h206_3, fw_h206_1, fw_b_96_0, fw_b_96_5, fw_b_96_24, fw_b_96_28, fw_b_96_40, fw_b_96_45, fw_b_96_81, fw_b_96_85, fw_b_96_57, fw_b_96_70, fw_b_96_75, fw_b_96_16, fw_c9_96, e1, ↓if_pos, ↓if_neg, if_neg, if_pos, fw_bs, fw_cn_0, fw_cn_1, fw_cn_2, fw_cn_3, fw_cn_4, fw_cn_5, Nat.reduceAdd, fw_w_id, fw_wl_id, fw_r_k, fw_r_j, fw_r_s, fw_r_x, if_true, if_false]
    · have e1 := fs_isChute_f (m := fw_ex σ) (i := x) (by rw [fw_r_x _ _ _ (by omega)]; exact ⟨h30, h36⟩) (by rw [fw_r_x _ _ _ (by omega)]; exact c1)
      have e4 := fs_goesOn_n (m := fw_ex σ) (v := 1) (by omega)
      simp (disch := first | assumption | first | omega | assumption | (simp (disch := omega) only [fw_w_id, fw_wl_id, fw_r_k, fw_r_j, fw_r_s]; omega) | (simp only [fw_ptr_1_8, fw_ptr_2_5, fw_ptr_2_6, fw_ptr_2_7, fw_ptr_2_8, fw_ptr_2_9, fw_ptr_8_2, fw_ptr_8_3, fw_ptr_11_2, fw_ptr_11_3, fw_ptr_11_4, fw_ptr_11_5, fw_ptr_11_6, fw_ptr_17_8, fw_ptr_18_2, fw_ptr_18_3, fw_ptr_25_1, fw_ptr_27_2, fw_ptr_28_1, fw_ptr_32_0, fw_ptr_32_1, fw_ptr_32_3, fw_ptr_32_7, fw_ptr_32_8, fw_ptr_32_9, fw_ptr_32_10, fw_ptr_32_15, fw_ptr_32_16, fw_ptr_32_17, fw_ptr_32_18, fw_ptr_32_19, fw_ptr_32_25, fw_ptr_32_29, fw_ptr_3, fw_ptr_4, fw_ptr_5, fw_ptr_6, fw_ptr_7, fw_ptr_9, fw_ptr_10, fw_ptr_13, fw_ptr_15, fw_ptr_16, fw_ptr_19, fw_ptr_20, fw_ptr_21, fw_ptr_22, fw_ptr_23, fw_ptr_24, fw_ptr_26, fw_ptr_29, fw_ptr_30, fw_ptr_31, fw_ptr_33, fw_ptr_34, fw_ptr_35, fw_ptr_36, fw_ptr_37, fw_ptr_38, fw_ptr_39, fw_ptr_40, fw_ptr_41, fw_ptr_42, fw_ptr_43, fw_ptr_44, fw_ptr_45, fw_ptr_46, fw_ptr_47, fw_ptr_48, fw_ptr_49, fw_ptr_50, fw_ptr_51, fw_ptr_52, fw_ptr_53, fw_ptr_54, fw_ptr_55, fw_ptr_12, fw_ptr_x, fw_ptr_hi, fw_ptr_b3, fw_ptr_b1, fw_ptr_b2, fw_ptr_b2_]; assumption)) only [fw_b_173_0, fw_b_173_6, fw_b_173_13, fw_b_173_26, fw_b_173_30, fw_b_173_35, fw_b_173_40, fw_b_173_43, fw_b_173_116, fw_b_173_131, fw_b_173_141, fw_b_173_148, fw_b_173_155, fw_b_173_162, fw_b_173_53, fw_b_173_74, fw_b_173_85, fw_b_173_93, fw_b_173_110, fw_b_173_33, fw_b_173_22, fw_b_173_9, e1, e4, ↓if_pos, ↓if_neg, if_neg, if_pos, fw_bs, fw_cn_0, fw_cn_1, fw_cn_2, fw_cn_3, fw_cn_4, fw_cn_5, Nat.reduceAdd, fw_w_id, fw_wl_id, fw_r_k, fw_r_j, fw_r_s, fw_r_x, if_true, if_false]
