/-! a wave: the two scans -/
def fg_gr (f : Int → Int) : Int → Int → Nat → Int
  | b, _, 0 => b
  | b, i, k + 1 => fg_gr f (if f b < f i then i else b) (i + 1) k
def fg_lt (f J : Int → Int) : Int → Int → Nat → Int
  | b, _, 0 => b
  | b, i, k + 1 => fg_lt f J (if J i = 0 ∧ (b = -1 ∨ f i < f b) then i else b) (i + 1) k
theorem fg_gr_in (f : Int → Int) : ∀ (k : Nat) (b i : Int), 0 ≤ b → b < 8 → 0 ≤ i → i + k = 8 → 0 ≤ fg_gr f b i k ∧ fg_gr f b i k < 8 := by
  intro k
  induction k with
  | zero => intro b i h0 h1 h2 h3; exact ⟨h0, h1⟩
  | succ k ih =>
    intro b i h0 h1 h2 h3
    rw [fg_gr]
    split
    · exact ih _ _ (by omega) (by omega) (by omega) (by omega)
    · exact ih _ _ (by omega) (by omega) (by omega) (by omega)
theorem fg_gr_ext {f g : Int → Int} (h : ∀ j, 0 ≤ j → j < 8 → f j = g j) : ∀ (k : Nat) (b i : Int), 0 ≤ b → b < 8 → 0 ≤ i → i + k = 8 → fg_gr f b i k = fg_gr g b i k := by
  intro k
  induction k with
  | zero => intro b i h0 h1 h2 h3; rfl
  | succ k ih =>
    intro b i h0 h1 h2 h3
    rw [fg_gr, fg_gr, h b h0 h1, h i h2 (by omega)]
    split
    · exact ih _ _ (by omega) (by omega) (by omega) (by omega)
    · exact ih _ _ (by omega) (by omega) (by omega) (by omega)
theorem fg_gr_mx (f : Int → Int) : ∀ (k : Nat) (b i : Int), f b ≤ f (fg_gr f b i k) ∧ ∀ j, i ≤ j → j < i + k → f j ≤ f (fg_gr f b i k) := by
  intro k
  induction k with
  | zero => intro b i; exact ⟨Int.le_refl _, fun j a b => by omega⟩
  | succ k ih =>
    intro b i
    rw [fg_gr]
    by_cases c : f b < f i
    · rw [if_pos c]
      have r := ih i (i + 1)
      refine ⟨by omega, fun j x y => ?_⟩
      by_cases hj : j = i
      · subst hj; exact r.1
      · exact r.2 j (by omega) (by omega)
    · rw [if_neg c]
      have r := ih b (i + 1)
      refine ⟨r.1, fun j x y => ?_⟩
      by_cases hj : j = i
      · subst hj; omega
      · exact r.2 j (by omega) (by omega)
theorem fg_gr_max (f : Int → Int) (j : Int) (h0 : 0 ≤ j) (h1 : j < 8) : f j ≤ f (fg_gr f 0 1 7) := by
  have r := fg_gr_mx f 7 0 1
  by_cases hj : j = 0
  · subst hj; exact r.1
  · exact r.2 j (by omega) (by omega)
theorem fg_lt_in (f J : Int → Int) (n : Int) : ∀ (k : Nat) (b i : Int), (b = -1 ∨ (0 ≤ b ∧ b < n)) → 0 ≤ i → i + k = n → fg_lt f J b i k = -1 ∨ (0 ≤ fg_lt f J b i k ∧ fg_lt f J b i k < n) := by
  intro k
  induction k with
  | zero => intro b i h0 h2 h3; exact h0
  | succ k ih =>
    intro b i h0 h2 h3
    rw [fg_lt]
    split
    · exact ih _ _ (by omega) (by omega) (by omega)
    · exact ih _ _ h0 (by omega) (by omega)
theorem fg_lt_ne (f J : Int → Int) : ∀ (k : Nat) (b i : Int), 0 ≤ i → (b ≠ -1 ∨ fg_ex J i k = 1) → fg_lt f J b i k ≠ -1 := by
  intro k
  induction k with
  | zero =>
    intro b i h0 h1
    rcases h1 with h1 | h1
    · exact h1
    · simp only [fg_ex] at h1; omega
  | succ k ih =>
    intro b i h0 h1
    rw [fg_lt]
    by_cases c : J i = 0 ∧ (b = -1 ∨ f i < f b)
    · rw [if_pos c]; exact ih _ _ (by omega) (Or.inl (by omega))
    · rw [if_neg c]
      refine ih _ _ (by omega) ?_
      rcases h1 with h1 | h1
      · exact Or.inl h1
      · rw [fg_ex] at h1
        by_cases c2 : J i = 0
        · left; intro hb; exact c ⟨c2, Or.inl hb⟩
        · rw [if_neg c2] at h1; exact Or.inr h1
theorem fg_lt_ext {f g J K : Int → Int} {n : Int} (hn : n ≤ 6) (h : ∀ j, 0 ≤ j → j < 6 → f j = g j) (h2 : ∀ j, 0 ≤ j → j < n → J j = K j) : ∀ (k : Nat) (b i : Int), (b = -1 ∨ (0 ≤ b ∧ b < n)) → 0 ≤ i → i + k = n → fg_lt f J b i k = fg_lt g K b i k := by
  intro k
  induction k with
  | zero => intro b i h0 h1 h3; rfl
  | succ k ih =>
    intro b i h0 h1 h3
    rw [fg_lt, fg_lt, h2 i h1 (by omega)]
    have e : (K i = 0 ∧ (b = -1 ∨ f i < f b)) = (K i = 0 ∧ (b = -1 ∨ g i < g b)) := by
      rcases h0 with h0 | h0
      · simp only [h0, true_or]
      · rw [h b h0.1 (by omega), h i h1 (by omega)]
    simp only [e]
    split
    · exact ih _ _ (by omega) (by omega) (by omega)
    · exact ih _ _ h0 (by omega) (by omega)
theorem fg_ex_b01 (f : Int → Int) : ∀ (k : Nat) (i : Int), fg_ex f i k = 0 ∨ fg_ex f i k = 1 := by
  intro k
  induction k with
  | zero => intro i; exact Or.inl rfl
  | succ k ih =>
    intro i
    rw [fg_ex]
    split
    · exact Or.inr rfl
    · exact ih _
/-! the class -/
theorem fs_heavy_lp {c : fw_M} (hp : fw_ptr c) : ∀ (k : Nat) (b i : Int), 0 ≤ b → b < 8 → 0 ≤ i → i + k = 8 → fw_E 66 6 [(2, 14), (0, if 0 < fw_r c 15 b then b else -1), (0, fw_r c 15 b), (0, i)] [] c = some ((0, if 0 < fw_r c 15 (fg_gr (fw_r c 15) b i k) then fg_gr (fw_r c 15) b i k else -1), c) ∨ fw_r c 15 b < 0 := by
  intro k
  induction k with
  | zero =>
    intro b i h0 h1 h2 h3
    left
    rw [fw_b_66_6, if_neg (by omega), fw_b_66_37, fg_gr]
  | succ k ih =>
    intro b i h0 h1 h2 h3
    by_cases hb : fw_r c 15 b < 0
    · exact Or.inr hb
    left
    rw [fw_b_66_6, if_pos (by omega), fw_b_66_12 _ _ _ _ hp h2 (by omega), fg_gr]
    by_cases c1 : fw_r c 15 b < fw_r c 15 i
    · rw [if_pos c1, if_pos c1, fw_b_66_22 _ _ _ _ hp h2 (by omega), fw_w_id (by omega) (by omega)]
      rcases ih i (i + 1) h2 (by omega) (by omega) (by omega) with r | r
      · rw [if_pos (by omega : 0 < fw_r c 15 i)] at r; exact r
      · omega
    · rw [if_neg c1, if_neg c1, fw_b_66_31, fw_w_id (by omega) (by omega)]
      rcases ih b (i + 1) h0 h1 (by omega) (by omega) with r | r
      · exact r
      · omega
theorem fs_heavy {c : fw_M} {a1 a2 a3 : fw_V} (hp : fw_ptr c) (hf : 0 ≤ fw_r c 15 0) : fw_E 66 0 [(2, 14), a1, a2, a3] [] c = some ((0, if 0 < fw_r c 15 (fg_gr (fw_r c 15) 0 1 7) then fg_gr (fw_r c 15) 0 1 7 else -1), c) := by
  rw [fw_b_66_0, fw_b_66_6, if_pos (by decide), fw_b_66_12 _ _ _ _ hp (by decide) (by decide)]
  rcases fs_heavy_lp hp 7 0 1 (by decide) (by decide) (by decide) (by decide) with r | r
  · by_cases c1 : 0 < fw_r c 15 0
    · rw [if_pos c1] at r
      rw [if_pos c1, fw_b_66_22 _ _ _ _ hp (by decide) (by decide), fw_w_id (by decide) (by decide)]
      exact r
    · rw [if_neg c1, (by omega : fw_r c 15 0 = 0)] at r
      rw [if_neg c1, fw_b_66_31, fw_w_id (by decide) (by decide)]
      exact r
  · omega
theorem fs_light_sk {c : fw_M} {b x2 : Int} (hp : fw_ptr c) (hk : fg_cok c) : ∀ (k : Nat) (i : Int) (a4 : fw_V), fw_r c 11 2 ≤ i → i + k = 6 → fw_E 67 7 [(2, 14), (0, b), (0, x2), (0, i), a4] [] c = some ((0, b), c) := by
  intro k
  induction k with
  | zero =>
    intro i a4 h0 h1
    rw [fw_b_67_7, if_neg (by omega), fw_b_67_61]
  | succ k ih =>
    intro i a4 h0 h1
    rw [fw_b_67_7, if_pos (by omega), fw_b_67_13 _ _ _ _ _ hp, fs_chute_f (by omega), fw_bs, fw_cn_2, fw_b_67_21, if_pos rfl, fw_b_67_55, fw_w_id (by have := hk.1; omega) (by omega)]
    exact ih _ _ (by omega) (by omega)
theorem fs_light_lp {c : fw_M} (hp : fw_ptr c) (hk : fg_cok c) (hs : ∀ i, 0 ≤ i → i < 6 → fw_r c 16 i < 2147483647) : ∀ (k : Nat) (b i : Int) (a4 : fw_V), (b = -1 ∨ (0 ≤ b ∧ b < fw_r c 11 2)) → 0 ≤ i → i + k = fw_r c 11 2 → fw_E 67 7 [(2, 14), (0, b), (0, if b = -1 then 2147483647 else fw_r c 16 b), (0, i), a4] [] c = some ((0, fg_lt (fw_r c 16) (fg_jf c) b i k), c) := by
  intro k
  induction k with
  | zero =>
    intro b i a4 h0 h1 h2
    rw [fg_lt]
    exact fs_light_sk hp hk (6 - i).toNat i a4 (by omega) (by have := hk.2.1; omega)
  | succ k ih =>
    intro b i a4 h0 h1 h2
    have hn := hk.2.1
    have hcw := (hk.2.2 i h1 (by omega)).2.1
    have hsi := hs i h1 (by omega)
    rw [fg_lt, fw_b_67_7, if_pos (by omega), fw_b_67_13 _ _ _ _ _ hp, fs_chute hp hk h1 (by omega), fw_bs, fw_cn_2, fw_b_67_21, if_neg (by omega), fw_b_67_28 _ _ _ _ _ hcw]
    have ej : fg_jf c i = fw_r c (56 + 3 * i) 3 := rfl
    by_cases c1 : fw_r c (56 + 3 * i) 3 = 0
    · rw [if_pos c1, fw_b_67_36 _ _ _ _ _ hp h1 (by omega)]
      by_cases c2 : b = -1
      · rw [if_pos c2, if_pos hsi, fw_b_67_46 _ _ _ _ _ hp h1 (by omega), if_pos ⟨ej.trans c1, Or.inl c2⟩, fw_w_id (by omega) (by omega)]
        have r := ih i (i + 1) (2, 56 + 3 * i) (Or.inr ⟨h1, by omega⟩) (by omega) (by omega)
        rw [if_neg (by omega)] at r
        exact r
      · rw [if_neg c2]
        by_cases c3 : fw_r c 16 i < fw_r c 16 b
        · rw [if_pos c3, fw_b_67_46 _ _ _ _ _ hp h1 (by omega), if_pos ⟨ej.trans c1, Or.inr c3⟩, fw_w_id (by omega) (by omega)]
          have r := ih i (i + 1) (2, 56 + 3 * i) (Or.inr ⟨h1, by omega⟩) (by omega) (by omega)
          rw [if_neg (by omega)] at r
          exact r
        · rw [if_neg c3, fw_b_67_55, if_neg (fun hx => hx.2.elim c2 c3), fw_w_id (by omega) (by omega)]
          have r := ih b (i + 1) (2, 56 + 3 * i) h0 (by omega) (by omega)
          rw [if_neg c2] at r
          exact r
    · have en : ¬(fg_jf c i = 0 ∧ (b = -1 ∨ fw_r c 16 i < fw_r c 16 b)) := fun hx => c1 (ej.symm.trans hx.1)
      rw [if_neg c1, fw_b_67_55, if_neg en, fw_w_id (by omega) (by omega)]
      exact ih b (i + 1) (2, 56 + 3 * i) h0 (by omega) (by omega)
theorem fs_light {c : fw_M} {a1 a2 a3 a4 : fw_V} (hp : fw_ptr c) (hk : fg_cok c) (hs : ∀ i, 0 ≤ i → i < 6 → fw_r c 16 i < 2147483647) : fw_E 67 0 [(2, 14), a1, a2, a3, a4] [] c = some ((0, fg_lt (fw_r c 16) (fg_jf c) (-1) 0 (fw_r c 11 2).toNat), c) := by
  rw [fw_b_67_0]
  exact fs_light_lp hp hk hs (fw_r c 11 2).toNat (-1) 0 a4 (Or.inl rfl) (by decide) (by have := hk.1; omega)
/-! the reference -/
theorem fs_greatM_lp {m : fw_M} (hp : fw_ptr m) : ∀ (k : Nat) (b i : Int), 0 ≤ b → b < 8 → 0 ≤ i → i + k = 8 → fw_E 162 4 [(2, 32), (0, b), (0, i)] [] m = some ((0, fg_gr (fw_r m 53) b i k), m) := by
  intro k
  induction k with
  | zero =>
    intro b i h0 h1 h2 h3
    rw [fw_b_162_4, if_neg (by omega), fw_b_162_37, fg_gr]
  | succ k ih =>
    intro b i h0 h1 h2 h3
    rw [fw_b_162_4, if_pos (by omega), fw_b_162_10 _ _ _ hp h2 (by omega) h0 h1, fg_gr]
    by_cases c1 : fw_r m 53 b < fw_r m 53 i
    · rw [if_pos c1, if_pos c1, fw_b_162_25, fw_w_id (by omega) (by omega)]
      exact ih _ _ (by omega) (by omega) (by omega) (by omega)
    · rw [if_neg c1, if_neg c1, fw_b_162_29, fw_w_id (by omega) (by omega)]
      exact ih _ _ (by omega) (by omega) (by omega) (by omega)
theorem fs_greatM {m : fw_M} {a1 a2 : fw_V} (hp : fw_ptr m) : fw_E 162 0 [(2, 32), a1, a2] [] m = some ((0, fg_gr (fw_r m 53) 0 1 7), m) := by
  rw [fw_b_162_0]
  exact fs_greatM_lp hp 7 0 1 (by decide) (by decide) (by decide) (by decide)
theorem fs_leastM_lp {m : fw_M} (hp : fw_ptr m) (hn : fw_r m 32 3 ≤ 6) : ∀ (k : Nat) (b i : Int), (b = -1 ∨ (0 ≤ b ∧ b < fw_r m 32 3)) → 0 ≤ i → i + k = fw_r m 32 3 → fw_E 161 4 [(2, 32), (0, b), (0, i)] [] m = some ((0, fg_lt (fw_r m 52) (fw_r m 36) b i k), m) := by
  intro k
  induction k with
  | zero =>
    intro b i h0 h2 h3
    rw [fw_b_161_4, if_neg (by omega), fw_b_161_53, fg_lt]
  | succ k ih =>
    intro b i h0 h2 h3
    rw [fw_b_161_4, if_pos (by omega), fw_b_161_12 _ _ _ hp h2 (by omega), fg_lt]
    by_cases c1 : fw_r m 36 i = 0
    · rw [if_pos c1, fw_b_161_21]
      by_cases c2 : b = -1
      · rw [if_pos c2, fw_b_161_41, if_pos ⟨c1, Or.inl c2⟩, fw_w_id (by omega) (by omega)]
        exact ih _ _ (by omega) (by omega) (by omega)
      · rw [if_neg c2, fw_b_161_26 _ _ _ hp h2 (by omega) (by omega) (by omega)]
        by_cases c3 : fw_r m 52 i < fw_r m 52 b
        · rw [if_pos c3, fw_b_161_41, if_pos ⟨c1, Or.inr c3⟩, fw_w_id (by omega) (by omega)]
          exact ih _ _ (by omega) (by omega) (by omega)
        · rw [if_neg c3, fw_b_161_45, if_neg (fun hx => hx.2.elim c2 c3), fw_w_id (by omega) (by omega)]
          exact ih _ _ h0 (by omega) (by omega)
    · rw [if_neg c1, fw_b_161_45, if_neg (fun hx => c1 hx.1), fw_w_id (by omega) (by omega)]
      exact ih _ _ h0 (by omega) (by omega)
theorem fs_leastM {m : fw_M} {a1 a2 : fw_V} (hp : fw_ptr m) (hn : 0 ≤ fw_r m 32 3 ∧ fw_r m 32 3 ≤ 6) : fw_E 161 0 [(2, 32), a1, a2] [] m = some ((0, fg_lt (fw_r m 52) (fw_r m 36) (-1) 0 (fw_r m 32 3).toNat), m) := by
  rw [fw_b_161_0]
  exact fs_leastM_lp hp hn.2 _ (-1) 0 (Or.inl rfl) (by decide) (by omega)
theorem fs_someFree_lp {m : fw_M} (hp : fw_ptr m) (hn : fw_r m 32 3 ≤ 6) : ∀ (k : Nat) (x i : Int), (x = 0 ∨ x = 1) → 0 ≤ i → i + k = fw_r m 32 3 → fw_E 160 4 [(2, 32), (0, x), (0, i)] [] m = some ((0, if x = 1 then 1 else fg_ex (fw_r m 36) i k), m) := by
  intro k
  induction k with
  | zero =>
    intro x i h0 h1 h2
    rw [fw_b_160_4, if_neg (by omega), fw_b_160_37 _ _ _ h0, fg_ex]
    rcases h0 with rfl | rfl <;> rfl
  | succ k ih =>
    intro x i h0 h1 h2
    rw [fw_b_160_4, if_pos (by omega), fw_b_160_12, fg_ex]
    rcases h0 with rfl | rfl
    · rw [if_pos rfl, fw_b_160_16 _ _ _ hp h1 (by omega), if_neg (by decide : ¬(0 : Int) = 1)]
      by_cases c1 : fw_r m 36 i = 0
      · rw [if_pos c1, if_pos c1, fw_b_160_25, fw_w_id (by omega) (by omega), ih 1 _ (Or.inr rfl) (by omega) (by omega), if_pos rfl]
      · rw [if_neg c1, if_neg c1, fw_b_160_29, fw_w_id (by omega) (by omega), ih 0 _ (Or.inl rfl) (by omega) (by omega), if_neg (by decide)]
    · rw [if_neg (by decide), if_pos rfl, fw_b_160_25, fw_w_id (by omega) (by omega), ih 1 _ (Or.inr rfl) (by omega) (by omega), if_pos rfl]
theorem fs_someFree {m : fw_M} {a1 a2 : fw_V} (hp : fw_ptr m) (hn : 0 ≤ fw_r m 32 3 ∧ fw_r m 32 3 ≤ 6) : fw_E 160 0 [(2, 32), a1, a2] [] m = some ((0, fg_ex (fw_r m 36) 0 (fg_n m)), m) := by
  rw [fw_b_160_0, fs_someFree_lp hp hn.2 (fg_n m) 0 0 (Or.inl rfl) (by decide) (by unfold fg_n; omega), if_neg (by decide)]
/-! both side by side -/
def fg_W (n B : Int) (c m : fw_M) : Prop := (fw_ptr c ∧ fg_cok c ∧ fw_r c 11 2 = n) ∧ (fw_ptr m ∧ fw_r m 32 3 = n ∧ 0 ≤ n ∧ n ≤ 6) ∧ (∀ i, 0 ≤ i → i < n → fg_jf c i = fw_r m 36 i) ∧ fg_ex (fw_r m 36) 0 n.toNat = 1 ∧ (∀ r, 0 ≤ r → r < 8 → fw_r c 15 r = fw_r m 53 r ∧ (0 ≤ fw_r m 53 r ∧ fw_r m 53 r ≤ 2700) ∧ fw_r c 13 r = fw_r m 41 r ∧ (-1 ≤ fw_r m 41 r ∧ fw_r m 41 r < n)) ∧ (∀ i, 0 ≤ i → i < 6 → fw_r c 16 i = fw_r m 52 i ∧ 0 ≤ fw_r m 52 i ∧ fw_r m 52 i ≤ B)
def fg_ps (m : fw_M) : Int := fg_sf (fun r => if 0 < fw_r m 53 r then 1 else 0) 0 8
def fg_wc (c : fw_M) (g l s : Int) : fw_M := fw_u (fw_u (fw_u c 13 g l) 16 l s) 15 g 0
def fg_wm (m : fw_M) (g l s : Int) : fw_M := fw_u (fw_u (fw_u m 41 g l) 52 l s) 53 g 0
theorem fg_W_step {n B g l s : Int} {c m : fw_M} (h : fg_W n B c m) (hg : 0 ≤ g ∧ g < 8) (hl : 0 ≤ l ∧ l < n) (hs : s = fw_r m 52 l + fw_r m 53 g) (hB : 0 ≤ B) : fg_W n (B + 2700) (fg_wc c g l s) (fg_wm m g l s) := by
  obtain ⟨⟨p1, p2, p3⟩, ⟨q1, q2, q3, q4⟩, w3, w4, w5, w6⟩ := h
  have pc : fw_ptr (fg_wc c g l s) := by unfold fg_wc; rw [fw_ptr_15, fw_ptr_16, fw_ptr_13]; exact p1
  have pm : fw_ptr (fg_wm m g l s) := by unfold fg_wm; rw [fw_ptr_53, fw_ptr_52, fw_ptr_41]; exact q1
  have oc : ∀ a j, a ≠ 13 → a ≠ 15 → a ≠ 16 → fw_r (fg_wc c g l s) a j = fw_r c a j := fun a j x y z => by unfold fg_wc; (try simp (disch := omega) only [fw_r_n, fw_r_s])
  have om : ∀ a j, a ≠ 41 → a ≠ 52 → a ≠ 53 → fw_r (fg_wm m g l s) a j = fw_r m a j := fun a j x y z => by unfold fg_wm; (try simp (disch := omega) only [fw_r_n, fw_r_s])
  refine ⟨⟨pc, fg_cok_c p2 (oc _ _ (by decide) (by decide) (by decide)) (fun j => oc _ _ (by decide) (by decide) (by decide)) (fun i hi => oc _ _ (by omega) (by omega) (by omega)) (fun i hi => oc _ _ (by omega) (by omega) (by omega)), by rw [oc _ _ (by decide) (by decide) (by decide)]; exact p3⟩, ⟨pm, by rw [om _ _ (by decide) (by decide) (by decide)]; exact q2, q3, q4⟩, fun i a b => ?_, ?_, fun r a b => ?_, fun i a b => ?_⟩
  · have := w3 i a b
    unfold fg_jf at this ⊢
    rw [oc _ _ (by omega) (by omega) (by omega), om _ _ (by decide) (by decide) (by decide)]
    exact this
  · rw [fg_ex_ext (f := fw_r (fg_wm m g l s) 36) (g := fw_r m 36) _ _ (fun j _ _ => om _ _ (by decide) (by decide) (by decide))]
    exact w4
  · have z := w5 r a b
    by_cases hr : r = g
    · subst hr
      unfold fg_wc fg_wm
      (try simp (disch := omega) only [fw_r_n, fw_r_s])
      refine ⟨trivial, by omega, trivial, by omega, hl.2⟩
    · unfold fg_wc fg_wm
      (try simp (disch := omega) only [fw_r_n, fw_r_s])
      exact z
  · have z := w6 i a b
    have z2 := w5 g hg.1 hg.2
    by_cases hi : i = l
    · subst hi
      unfold fg_wc fg_wm
      (try simp (disch := omega) only [fw_r_n, fw_r_s])
      refine ⟨trivial, by omega, by omega⟩
    · unfold fg_wc fg_wm
      (try simp (disch := omega) only [fw_r_n, fw_r_s])
      omega
theorem fg_ps_step {g l s : Int} {m : fw_M} (hg : 0 ≤ g ∧ g < 8) (hpos : 0 < fw_r m 53 g) : fg_ps (fg_wm m g l s) = fg_ps m - 1 := by
  unfold fg_ps
  rw [fg_sf_upd (f := fun r => if 0 < fw_r (fg_wm m g l s) 53 r then 1 else 0) (g := fun r => if 0 < fw_r m 53 r then 1 else 0) (x := g) 8 0 (fun j a b d => by
    (try dsimp only)
    have : fw_r (fg_wm m g l s) 53 j = fw_r m 53 j := by unfold fg_wm; (try simp (disch := omega) only [fw_r_n, fw_r_s])
    rw [this]) hg.1 (by omega)]
  have e : fw_r (fg_wm m g l s) 53 g = 0 := by unfold fg_wm; (try simp (disch := omega) only [fw_r_n, fw_r_s])
  rw [e, if_neg (by decide), if_pos hpos]; omega
theorem fs_one_no {c : fw_M} {l : Int} : fw_E 65 0 [(2, 14), (0, -1), (0, l)] [] c = some ((0, 0), c) := by
  rw [fw_b_65_0, fs_isRoute_f (by decide), fw_bs, fw_cn_0, fw_b_65_4, if_pos rfl, fw_b_65_17]
theorem fs_one {c : fw_M} {g l s : Int} (hp : fw_ptr c) (hg : 0 ≤ g ∧ g < 8) (hl : 0 ≤ l ∧ l < 6) (hs : s = fw_r c 16 l + fw_r c 15 g) (h0 : 0 ≤ s) (h1 : s ≤ 1000000) : fw_E 65 0 [(2, 14), (0, g), (0, l)] [] c = some ((0, 1), fg_wc c g l s) := by
  have e := fs_send (c := l) hp hg.1 hg.2
  have hp1 : fw_ptr (fw_u c 13 g l) := by rw [fw_ptr_13]; exact hp
  have hp2 : fw_ptr (fw_u (fw_u c 13 g l) 16 l s) := by rw [fw_ptr_16]; exact hp1
  have e2 : fw_r (fw_u c 13 g l) 16 l + fw_r (fw_u c 13 g l) 15 g = s := by rw [fw_r_k _ (by decide), fw_r_k _ (by decide)]; exact hs.symm
  rw [fw_b_65_0, fs_isRoute_t hg.1 hg.2, fw_bs, fw_cn_0, fw_b_65_4, if_neg (by decide), fw_b_65_7, if_neg (by omega), fw_b_65_11, if_pos hl.2, fw_b_65_19 _ _ _ hp, e, fw_bs, fw_cn_5, fw_b_65_28 _ _ _ hp1 hl.1 hl.2 hg.1 hg.2, e2, fw_w_id (by omega) (by omega), fw_b_65_43 _ _ _ hp2 hg.1 hg.2, fw_b_65_50]
  rfl
def fg_WF (c c' m m' : fw_M) (n : Int) : Prop := (∀ a j, a ≠ 13 → a ≠ 15 → a ≠ 16 → fw_r c' a j = fw_r c a j) ∧ (∀ a j, a ≠ 41 → a ≠ 52 → a ≠ 53 → fw_r m' a j = fw_r m a j) ∧ (∀ r, 0 ≤ r → r < 8 → fw_r c' 13 r = fw_r m' 41 r ∧ -1 ≤ fw_r m' 41 r ∧ fw_r m' 41 r < n) ∧ fw_ptr c' ∧ fw_ptr m'
theorem fs_wave_lp {n : Int} : ∀ (k : Nat) (c m : fw_M) (x y i : Int) (a3 : fw_V), fg_W n (2700 * i) c m → fg_ps m ≤ k → 0 ≤ i → i + k = 8 → 0 ≤ x → x ≤ i → 0 ≤ y → y ≤ i → ∃ c' m' d, fw_E 64 62 [(2, 14), (0, x), (0, i)] [] c = some ((0, x + d), c') ∧ fw_E 163 81 [(2, 32), (0, y), (0, fg_gr (fw_r m 53) 0 1 7), a3] [] m = some ((0, y + d), m') ∧ fg_WF c c' m m' n := by
  intro k
  induction k with
  | zero =>
    intro c m x y i a3 h hps h0 h1 hx0 hx hy0 hy
    obtain ⟨⟨p1, p2, p3⟩, ⟨q1, q2, q3, q4⟩, w3, w4, w5, w6⟩ := h
    have gi := fg_gr_in (fw_r m 53) 7 0 1 (by decide) (by decide) (by decide) (by decide)
    have z : ¬0 < fw_r m 53 (fg_gr (fw_r m 53) 0 1 7) := by
      intro hpos
      have e := fg_ps_step (g := fg_gr (fw_r m 53) 0 1 7) (l := 0) (s := 0) gi hpos
      have := fg_sf_bd (f := fun r => if 0 < fw_r (fg_wm m (fg_gr (fw_r m 53) 0 1 7) 0 0) 53 r then 1 else 0) (lo := 0) (hi := 1) 8 0 (fun j _ _ => by (try dsimp only); split <;> omega)
      unfold fg_ps at e hps
      omega
    refine ⟨c, m, 0, ?_, ?_, fun _ _ _ _ _ => rfl, fun _ _ _ _ _ => rfl, fun r a b => (w5 r a b).2.2, p1, q1⟩
    · rw [fw_b_64_62, if_neg (by omega), fw_b_64_89, Int.add_zero]
    · rw [fw_b_163_81 _ _ _ _ q1 gi.1 gi.2, if_neg z, fw_b_163_135, Int.add_zero]
  | succ k ih =>
    intro c m x y i a3 h hps h0 h1 hx0 hx hy0 hy
    have hh := h
    obtain ⟨⟨p1, p2, p3⟩, ⟨q1, q2, q3, q4⟩, w3, w4, w5, w6⟩ := h
    have gi := fg_gr_in (fw_r m 53) 7 0 1 (by decide) (by decide) (by decide) (by decide)
    have eg : fg_gr (fw_r c 15) 0 1 7 = fg_gr (fw_r m 53) 0 1 7 := fg_gr_ext (fun j a b => (w5 j a b).1) 7 0 1 (by decide) (by decide) (by decide) (by decide)
    have hvy := fs_heavy (a1 := (8, 0)) (a2 := (8, 0)) (a3 := (8, 0)) p1 (by have := w5 0 (by decide) (by decide); omega)
    have hlt := fs_light (a1 := (8, 0)) (a2 := (8, 0)) (a3 := (8, 0)) (a4 := (8, 0)) p1 p2 (fun i a b => by have := w6 i a b; omega)
    rw [eg, (w5 _ gi.1 gi.2).1] at hvy
    rw [p3, fg_lt_ext (f := fw_r c 16) (g := fw_r m 52) (J := fg_jf c) (K := fw_r m 36) q4 (fun j a b => (w6 j a b).1) (fun j a b => w3 j a b) n.toNat (-1) 0 (Or.inl rfl) (by decide) (by omega)] at hlt
    have hls := fs_leastM (a1 := (8, 0)) (a2 := (8, 0)) q1 (by omega)
    rw [q2] at hls
    have li := fg_lt_in (fw_r m 52) (fw_r m 36) n n.toNat (-1) 0 (Or.inl rfl) (by decide) (by omega)
    have ln := fg_lt_ne (fw_r m 52) (fw_r m 36) n.toNat (-1) 0 (by decide) (Or.inr w4)
    have hl : 0 ≤ fg_lt (fw_r m 52) (fw_r m 36) (-1) 0 n.toNat ∧ fg_lt (fw_r m 52) (fw_r m 36) (-1) 0 n.toNat < n := by rcases li with li | li; exact absurd li ln; exact li
    generalize fg_lt (fw_r m 52) (fw_r m 36) (-1) 0 n.toNat = l at *
    generalize hg : fg_gr (fw_r m 53) 0 1 7 = g at *
    have wg := w5 g gi.1 gi.2
    have wl := w6 l hl.1 (by omega)
    by_cases hpos : 0 < fw_r m 53 g
    · rw [if_pos hpos] at hvy
      have hW := fg_W_step (s := fw_r m 52 l + fw_r m 53 g) hh gi hl rfl (by omega)
      have e1 := fs_one (g := g) (l := l) (s := fw_r m 52 l + fw_r m 53 g) p1 gi (by omega) (by omega) (by omega) (by omega)
      have eps := fg_ps_step (g := g) (l := l) (s := fw_r m 52 l + fw_r m 53 g) gi hpos
      have hgm := fs_greatM (a1 := (8, 0)) (a2 := (8, 0)) hW.2.1.1
      have hp1 : fw_ptr (fw_u m 41 g l) := by rw [fw_ptr_41]; exact q1
      have hp2 : fw_ptr (fw_u (fw_u m 41 g l) 52 l (fw_r m 52 l + fw_r m 53 g)) := by rw [fw_ptr_52]; exact hp1
      have eB : 2700 * i + 2700 = 2700 * (i + 1) := by omega
      rw [eB] at hW
      obtain ⟨c', m', d, r1, r2, ⟨f1, f2, f3, f4, f5⟩⟩ := ih _ _ (x + 1) (y + 1) (i + 1) (0, l) hW (by omega) (by omega) (by omega) (by omega) (by omega) (by omega) (by omega)
      refine ⟨c', m', d + 1, ?_, ?_, fun a j u v w => ?_, fun a j u v w => ?_, f3, f4, f5⟩
      · rw [fw_b_64_62, if_pos (by omega), fw_b_64_68, hvy, fw_bs, fw_cn_0, fw_b_64_74, hlt, fw_bs, fw_cn_0, fw_b_64_78, e1, fw_bs, fw_cn_0, fw_b_64_81, fw_w_id (by omega) (by omega), fw_w_id (by omega) (by omega), r1]
        congr 3; omega
      · rw [fw_b_163_81 _ _ _ _ q1 gi.1 gi.2, if_pos hpos, fw_b_163_90, hls, fw_bs, fw_cn_0, fw_b_163_94 _ _ _ _ _ q1 gi.1 gi.2, fw_b_163_102 _ _ _ _ hp1 hl.1 (by omega) gi.1 gi.2, fw_r_k _ (by decide), fw_r_k _ (by decide), fw_w_id (by omega) (by omega), fw_b_163_117 _ _ _ _ hp2 gi.1 gi.2]
        show fw_E 163 124 [(2, 32), (0, y), (0, g), (0, l)] [] (fg_wm m g l (fw_r m 52 l + fw_r m 53 g)) = _
        rw [fw_b_163_124, hgm, fw_bs, fw_cn_0, fw_b_163_131, fw_w_id (by omega) (by omega), r2]
        congr 3; omega
      · rw [f1 a j u v w]; unfold fg_wc; (try simp (disch := omega) only [fw_r_n, fw_r_s])
      · rw [f2 a j u v w]; unfold fg_wm; (try simp (disch := omega) only [fw_r_n, fw_r_s])
    · rw [if_neg hpos] at hvy
      have hW : fg_W n (2700 * (i + 1)) c m := ⟨⟨p1, p2, p3⟩, ⟨q1, q2, q3, q4⟩, w3, w4, w5, fun i a b => by have := w6 i a b; omega⟩
      have hz : fg_ps m ≤ k := by
        have := fg_sf_bd (f := fun r => if 0 < fw_r m 53 r then 1 else 0) (lo := 0) (hi := 1) 8 0 (fun j _ _ => by (try dsimp only); split <;> omega)
        have e0 : fg_ps m = 0 := by
          unfold fg_ps
          refine fg_sf_0 _ _ (fun j a b => if_neg ?_)
          have mx := fg_gr_max (fw_r m 53) j (by omega) (by omega)
          rw [hg] at mx
          omega
        omega
      obtain ⟨c', m', d, r1, r2, f⟩ := ih c m x y (i + 1) a3 hW hz (by omega) (by omega) (by omega) (by omega) (by omega) (by omega)
      rw [hg] at r2
      refine ⟨c', m', d, ?_, r2, f⟩
      rw [fw_b_64_62, if_pos (by omega), fw_b_64_68, hvy, fw_bs, fw_cn_0, fw_b_64_74, hlt, fw_bs, fw_cn_0, fw_b_64_78, fs_one_no, fw_bs, fw_cn_0, fw_b_64_81, fw_w_id (by omega) (by omega), fw_w_id (by omega) (by omega), Int.add_zero, r1]
/-! what comes before: the rows are filled -/
def fg_fl (σ : fw_M) (a lo hi v : Int) : fw_M := fun x j => if x = a ∧ lo ≤ j ∧ j < hi then v else fw_r σ x j
theorem fg_fl_r (σ : fw_M) (a lo hi v x j : Int) : fw_r (fg_fl σ a lo hi v) x j = if x = a ∧ lo ≤ j ∧ j < hi then v else fw_r σ x j := rfl
theorem fg_fl_u (σ : fw_M) {a lo hi v : Int} (h : lo < hi) : fg_fl (fw_u σ a lo v) a (lo + 1) hi v = fg_fl σ a lo hi v := by
  funext x j
  show fw_r (fg_fl (fw_u σ a lo v) a (lo + 1) hi v) x j = fw_r (fg_fl σ a lo hi v) x j
  rw [fg_fl_r, fg_fl_r, fw_r_u]
  repeat' split
  all_goals first | rfl | omega
theorem fg_fl_0 (σ : fw_M) (a lo v : Int) : fg_fl σ a lo lo v = σ := by
  funext x j
  show fw_r (fg_fl σ a lo lo v) x j = fw_r σ x j
  rw [fg_fl_r, if_neg (by omega)]
theorem fg_fl_ptr {σ : fw_M} {a lo hi v : Int} (ha : ∀ q ∈ fw_psT, q.1 ≠ a) (hp : fw_ptr σ) : fw_ptr (fg_fl σ a lo hi v) := fun q hq => by
  rw [fg_fl_r, if_neg (fun h => ha q hq h.1)]
  exact hp q hq
def fg_f2 (L : Int → Int) (σ : fw_M) (a b lo : Int) : fw_M := fun x j => if x = a ∧ lo ≤ j ∧ j < 8 then L j else if x = b ∧ lo ≤ j ∧ j < 8 then -1 else fw_r σ x j
theorem fg_f2_r (L : Int → Int) (σ : fw_M) (a b lo x j : Int) : fw_r (fg_f2 L σ a b lo) x j = if x = a ∧ lo ≤ j ∧ j < 8 then L j else if x = b ∧ lo ≤ j ∧ j < 8 then -1 else fw_r σ x j := rfl
theorem fg_f2_u (L : Int → Int) (σ : fw_M) {a b lo : Int} (hab : a ≠ b) (h : lo < 8) : fg_f2 L (fw_u (fw_u σ a lo (L lo)) b lo (-1)) a b (lo + 1) = fg_f2 L σ a b lo := by
  funext x j
  show fw_r (fg_f2 L (fw_u (fw_u σ a lo (L lo)) b lo (-1)) a b (lo + 1)) x j = fw_r (fg_f2 L σ a b lo) x j
  rw [fg_f2_r, fg_f2_r, fw_r_u, fw_r_u]
  by_cases hj : j = lo
  · subst hj
    repeat' split
    all_goals first | rfl | omega
  · repeat' split
    all_goals first | rfl | omega
theorem fg_f2_0 (L : Int → Int) (σ : fw_M) (a b : Int) : fg_f2 L σ a b 8 = σ := by
  funext x j
  show fw_r (fg_f2 L σ a b 8) x j = fw_r σ x j
  rw [fg_f2_r, if_neg (by omega), if_neg (by omega)]
theorem fs_w1 {a2 : fw_V} : ∀ (k : Nat) (i : Int) (c : fw_M), fw_ptr c → 0 ≤ i → i + k = 6 → fw_E 64 2 [(2, 14), (0, i), a2] [] c = fw_E 64 23 [(2, 14), (0, 0), a2] [] (fg_fl c 16 i 6 0) := by
  intro k
  induction k with
  | zero =>
    intro i c hp h0 h1
    have e : i = 6 := by omega
    subst e
    rw [fw_b_64_2, if_neg (by decide), fw_b_64_21, fg_fl_0]
  | succ k ih =>
    intro i c hp h0 h1
    rw [fw_b_64_2, if_pos (by omega), fw_b_64_8 _ _ _ hp h0 (by omega), fw_b_64_15, fw_w_id (by omega) (by omega), ih _ _ (by rw [fw_ptr_16]; exact hp) (by omega) (by omega), fg_fl_u _ (by omega)]
def fg_WC (L : Int → Int) (c : fw_M) : Prop := fw_ptr c ∧ fg_pok c ∧ (∀ j, 0 ≤ j → j < fw_r c 2 5 → 1 ≤ fw_r c 4 j ∧ fw_r c 4 j ≤ 9) ∧ ∀ r, fg_sf (fg_ldf c r) 0 (fw_r c 2 5).toNat = L r
theorem fg_WC_c {L : Int → Int} {c c' : fw_M} (h : fg_WC L c) (hp : fw_ptr c') (hc : ∀ a j, (a = 2 ∨ a = 3 ∨ a = 4 ∨ a = 5) → fw_r c' a j = fw_r c a j) : fg_WC L c' := by
  obtain ⟨h1, h2, h3, h4⟩ := h
  have e2 := fun j => hc 2 j (by decide)
  have e3 := fun j => hc 3 j (by decide)
  have e4 := fun j => hc 4 j (by decide)
  have e5 := fun j => hc 5 j (by decide)
  unfold fg_pok at h2
  unfold fg_ldf at h4
  refine ⟨hp, ?_, ?_, ?_⟩
  · unfold fg_pok; simp only [e2]; exact h2
  · simp only [e2, e4]; exact h3
  · unfold fg_ldf; simp only [e2, e3, e4, e5]; exact h4
theorem fs_w2 {L : Int → Int} {a2 : fw_V} : ∀ (k : Nat) (i : Int) (c : fw_M), fg_WC L c → 0 ≤ i → i + k = 8 → fw_E 64 23 [(2, 14), (0, i), a2] [] c = fw_E 64 62 [(2, 14), (0, 0), (0, 0)] [] (fg_f2 L c 15 13 i) := by
  intro k
  induction k with
  | zero =>
    intro i c hp h0 h1
    have e : i = 8 := by omega
    subst e
    rw [fw_b_64_23, if_neg (by decide), fw_b_64_58, fg_f2_0]
  | succ k ih =>
    intro i c h h0 h1
    have r := fs_loadOf (r := i) (a2 := (8, 0)) (a3 := (8, 0)) (a4 := (8, 0)) h.1 h.2.1 h.2.2.1
    rw [h.2.2.2 i] at r
    have hp1 : fw_ptr (fw_u c 15 i (L i)) := by rw [fw_ptr_15]; exact h.1
    have r2 := fs_send (c := -1) hp1 h0 (by omega : i < 8)
    rw [fw_b_64_23, if_pos (by omega), fw_b_64_29 _ _ _ h.1, r, fw_bs, fw_cn_0, fw_b_64_42 _ _ _ _ _ h0 (by omega), fw_b_64_43 _ _ _ hp1, r2, fw_bs, fw_cn_5, fw_b_64_52, fw_w_id (by omega) (by omega), ih _ _ (fg_WC_c h (by rw [fw_ptr_13]; exact hp1) (fun a j ha => by (try simp (disch := omega) only [fw_r_n, fw_r_s]))) (by omega) (by omega), fg_f2_u L c (by decide) (by omega)]
theorem fs_m1 {a2 a3 : fw_V} : ∀ (k : Nat) (i : Int) (m : fw_M), fw_ptr m → 0 ≤ i → i + k = 6 → fw_E 163 23 [(2, 32), (0, i), a2, a3] [] m = fw_E 163 44 [(2, 32), (0, 0), a2, a3] [] (fg_fl m 52 i 6 0) := by
  intro k
  induction k with
  | zero =>
    intro i c hp h0 h1
    have e : i = 6 := by omega
    subst e
    rw [fw_b_163_23, if_neg (by decide), fw_b_163_42, fg_fl_0]
  | succ k ih =>
    intro i c hp h0 h1
    rw [fw_b_163_23, if_pos (by omega), fw_b_163_29 _ _ _ _ hp h0 (by omega), fw_b_163_36, fw_w_id (by omega) (by omega), ih _ _ (by rw [fw_ptr_52]; exact hp) (by omega) (by omega), fg_fl_u _ (by omega)]
def fg_WM (L : Int → Int) (m : fw_M) : Prop := fw_ptr m ∧ (0 ≤ fw_r m 32 10 ∧ fw_r m 32 10 ≤ 300) ∧ (∀ j, 0 ≤ j → j < fw_r m 32 10 → 1 ≤ fw_r m 38 j ∧ fw_r m 38 j ≤ 9) ∧ ∀ r, fg_ld m r = L r
theorem fg_WM_c {L : Int → Int} {m m' : fw_M} (h : fg_WM L m) (hp : fw_ptr m') (hc : ∀ a j, (a = 32 ∨ a = 37 ∨ a = 38 ∨ a = 39) → fw_r m' a j = fw_r m a j) : fg_WM L m' := by
  obtain ⟨h1, h2, h3, h4⟩ := h
  have e2 := fun j => hc 32 j (by decide)
  have e3 := fun j => hc 37 j (by decide)
  have e4 := fun j => hc 38 j (by decide)
  have e5 := fun j => hc 39 j (by decide)
  refine ⟨hp, ?_, ?_, fun r => ?_⟩
  · rw [e2]; exact h2
  · simp only [e2, e4]; exact h3
  · rw [fg_ld_eq (e2 10) e3 e4 e5]; exact h4 r
theorem fs_m2 {L : Int → Int} {a2 a3 : fw_V} : ∀ (k : Nat) (i : Int) (m : fw_M), fg_WM L m → 0 ≤ i → i + k = 8 → fw_E 163 44 [(2, 32), (0, i), a2, a3] [] m = fw_E 163 74 [(2, 32), (0, 8), a2, a3] [] (fg_f2 L m 53 41 i) := by
  intro k
  induction k with
  | zero =>
    intro i c hp h0 h1
    have e : i = 8 := by omega
    subst e
    rw [fw_b_163_44, if_neg (by decide), fg_f2_0]
  | succ k ih =>
    intro i m h h0 h1
    have r := fs_loadOfM (r := i) (a2 := (8, 0)) (a3 := (8, 0)) h.1 h.2.1 h.2.2.1
    rw [h.2.2.2 i] at r
    have hp1 : fw_ptr (fw_u m 53 i (L i)) := by rw [fw_ptr_53]; exact h.1
    rw [fw_b_163_44, if_pos (by omega), fw_b_163_50 _ _ _ _ h.1, r, fw_bs, fw_cn_0, fw_b_163_60 _ _ _ _ _ _ h0 (by omega), fw_b_163_61 _ _ _ _ hp1 h0 (by omega), fw_b_163_68, fw_w_id (by omega) (by omega), ih _ _ (fg_WM_c h (by rw [fw_ptr_41]; exact hp1) (fun a j ha => by (try simp (disch := omega) only [fw_r_n, fw_r_s]))) (by omega) (by omega), fg_f2_u L m (by decide) (by omega)]
theorem fg_f2_ptr {L : Int → Int} {σ : fw_M} {a b lo : Int} (ha : ∀ q ∈ fw_psT, q.1 ≠ a ∧ q.1 ≠ b) (hp : fw_ptr σ) : fw_ptr (fg_f2 L σ a b lo) := fun q hq => by
  rw [fg_f2_r, if_neg (fun h => (ha q hq).1 h.1), if_neg (fun h => (ha q hq).2 h.1)]
  exact hp q hq
theorem fs_wave {M : Int} {c m : fw_M} {a1 a2 b1 b2 b3 : fw_V} (h : fg_IN M c m) (hf : fg_ex (fw_r m 36) 0 (fg_n m) = 1) : ∃ c' m' d, fw_E 64 0 [(2, 14), a1, a2] [] c = some ((0, d), c') ∧ fw_E 163 21 [(2, 32), b1, b2, b3] [] m = some ((0, d), m') ∧ fg_WF c c' m m' (fw_r m 32 3) := by
  have hcf := h.1.1
  obtain ⟨⟨p1, p2, p3⟩, -, ⟨-, -, -, hP⟩, e2, -, -, e5⟩ := hcf
  have pm := h.1.2
  have hn := p2.1
  have hn2 := p2.2.1
  have hL := fg_ld_bd h
  have wc0 : fg_WC (fg_ld m) c := ⟨p1, fg_pok_of h, (fg_hw h).1, fg_ld_c h⟩
  have wm0 : fg_WM (fg_ld m) m := ⟨pm, hP, (fg_hw h).2, fun r => rfl⟩
  generalize fg_ld m = L at *
  have pc1 : fw_ptr (fg_fl c 16 0 6 0) := fg_fl_ptr (by decide) p1
  have pm1 : fw_ptr (fg_fl m 52 0 6 0) := fg_fl_ptr (by decide) pm
  have wc1 : fg_WC L (fg_fl c 16 0 6 0) := fg_WC_c wc0 pc1 (fun a j ha => by rw [fg_fl_r, if_neg (by omega)])
  have wm1 : fg_WM L (fg_fl m 52 0 6 0) := fg_WM_c wm0 pm1 (fun a j ha => by rw [fg_fl_r, if_neg (by omega)])
  have r1 := fs_w1 (a2 := a2) 6 0 c p1 (by decide) (by decide)
  have r2 := fs_w2 (a2 := a2) 8 0 _ wc1 (by decide) (by decide)
  have s1 := fs_m1 (a2 := b2) (a3 := b3) 6 0 m pm (by decide) (by decide)
  have s2 := fs_m2 (a2 := b2) (a3 := b3) 8 0 _ wm1 (by decide) (by decide)
  have pc2 : fw_ptr (fg_f2 L (fg_fl c 16 0 6 0) 15 13 0) := fg_f2_ptr (by decide) pc1
  have pm2 : fw_ptr (fg_f2 L (fg_fl m 52 0 6 0) 53 41 0) := fg_f2_ptr (by decide) pm1
  have oc : ∀ a j, a ≠ 13 → a ≠ 15 → a ≠ 16 → fw_r (fg_f2 L (fg_fl c 16 0 6 0) 15 13 0) a j = fw_r c a j := fun a j x y z => by rw [fg_f2_r, if_neg (by omega), if_neg (by omega), fg_fl_r, if_neg (by omega)]
  have om : ∀ a j, a ≠ 41 → a ≠ 52 → a ≠ 53 → fw_r (fg_f2 L (fg_fl m 52 0 6 0) 53 41 0) a j = fw_r m a j := fun a j x y z => by rw [fg_f2_r, if_neg (by omega), if_neg (by omega), fg_fl_r, if_neg (by omega)]
  have hW : fg_W (fw_r m 32 3) (2700 * 0) (fg_f2 L (fg_fl c 16 0 6 0) 15 13 0) (fg_f2 L (fg_fl m 52 0 6 0) 53 41 0) := by
    refine ⟨⟨pc2, fg_cok_c p2 (oc _ _ (by decide) (by decide) (by decide)) (fun j => oc _ _ (by decide) (by decide) (by decide)) (fun i hi => oc _ _ (by omega) (by omega) (by omega)) (fun i hi => oc _ _ (by omega) (by omega) (by omega)), by rw [oc _ _ (by decide) (by decide) (by decide)]; exact p3⟩, ⟨pm2, by rw [om _ _ (by decide) (by decide) (by decide)], by omega, by omega⟩, fun i a b => ?_, ?_, fun r a b => ?_, fun i a b => ?_⟩
    · unfold fg_jf
      rw [oc _ _ (by omega) (by omega) (by omega), om _ _ (by decide) (by decide) (by decide)]
      exact (e2 i a b).2.2.1
    · rw [fg_ex_ext (f := fw_r (fg_f2 L (fg_fl m 52 0 6 0) 53 41 0) 36) (g := fw_r m 36) _ _ (fun j _ _ => om _ _ (by decide) (by decide) (by decide))]
      exact hf
    · rw [fg_f2_r, if_pos ⟨rfl, a, b⟩, fg_f2_r, if_pos ⟨rfl, a, b⟩, fg_f2_r, if_neg (by omega), if_pos ⟨rfl, a, b⟩, fg_f2_r, if_neg (by omega), if_pos ⟨rfl, a, b⟩]
      exact ⟨rfl, hL r, rfl, by omega, by omega⟩
    · rw [fg_f2_r, if_neg (by omega), if_neg (by omega), fg_fl_r, if_pos ⟨rfl, a, b⟩, fg_f2_r, if_neg (by omega), if_neg (by omega), fg_fl_r, if_pos ⟨rfl, a, b⟩]
      exact ⟨rfl, by decide, by decide⟩
  have hps : fg_ps (fg_f2 L (fg_fl m 52 0 6 0) 53 41 0) ≤ ((8 : Nat) : Int) := by
    have := fg_sf_bd (f := fun r => if 0 < fw_r (fg_f2 L (fg_fl m 52 0 6 0) 53 41 0) 53 r then 1 else 0) (lo := 0) (hi := 1) 8 0 (fun j _ _ => by (try dsimp only); split <;> omega)
    unfold fg_ps; omega
  have hgm := fs_greatM (a1 := (8, 0)) (a2 := (8, 0)) pm2
  obtain ⟨c', m', d, q1, q2, f1, f2, f3, f4, f5⟩ := fs_wave_lp 8 _ _ 0 0 0 b3 hW hps (by decide) (by decide) (by decide) (by decide) (by decide) (by decide)
  rw [Int.zero_add] at q1 q2
  refine ⟨c', m', d, ?_, ?_, fun a j u v w => ?_, fun a j u v w => ?_, f3, f4, f5⟩
  · rw [fw_b_64_0, r1, r2, q1]
  · rw [fw_b_163_21, s1, s2, fw_b_163_74, hgm, fw_bs, fw_cn_0, fw_b_163_80, q2]
  · rw [f1 a j u v w, oc a j u v w]
  · rw [f2 a j u v w, om a j u v w]
theorem op_startWave {t : Int} {σ : fw_M} (h : fg_INV t σ) : fg_OK t (fun σ => fw_E 198 0 [(2, 1), (2, 54), (8, 0)] [] σ) (fun σ => fw_E 163 0 [(2, 32), (8, 0), (8, 0), (8, 0)] [] σ) σ := by
  obtain ⟨⟨hp, hk, hpk⟩, ⟨h3, h30, h36⟩, hN, h82, h113, h25, hP⟩ := fg_facts h
  have r1 := fs_hasFree (a1 := (8, 0)) (a2 := (8, 0)) hp hk
  have ej : fg_ex (fg_jf σ) 0 (fw_r σ 11 2).toNat = fg_ex (fw_r σ 36) 0 (fg_n σ) := by
    unfold fg_n
    rw [h3]
    exact fg_ex_ext _ _ (fun j a b => (h.1.1.1.2.2.2.1 j a (by omega)).2.2.1)
  rw [ej] at r1
  rcases fg_ex_b01 (fw_r σ 36) (fg_n σ) 0 with hf | hf
  · rw [hf] at r1
    have m1 := fs_someFree (m := fw_ex σ) (a1 := (8, 0)) (a2 := (8, 0)) (by rw [fw_ptr_x]; exact hp) (by rw [fw_r_x _ _ _ (by decide)]; exact ⟨h30, h36⟩)
    have m2 : fg_ex (fw_r (fw_ex σ) 36) 0 (fg_n (fw_ex σ)) = 0 := Eq.trans (by unfold fg_n; rw [fw_r_x _ _ _ (by decide)]; exact fg_ex_ext (f := fw_r (fw_ex σ) 36) (g := fw_r σ 36) _ _ (fun j a b => fw_r_x _ _ _ (by decide))) hf
    rw [m2] at m1
    have g1 := fs_goesOn_n (m := fw_ex σ) (v := 1) (by decide)
    refine fg_OK_err (k := 1) (b := 0) h (by decide) ?_ ?_
    · simp (disch := first | assumption | first | omega | assumption | (simp (disch := omega) only [fw_w_id, fw_wl_id, fw_r_k, fw_r_j, fw_r_s]; omega) | (simp only [fw_ptr_1_8, fw_ptr_2_5, fw_ptr_2_6, fw_ptr_2_7, fw_ptr_2_8, fw_ptr_2_9, fw_ptr_8_2, fw_ptr_8_3, fw_ptr_11_2, fw_ptr_11_3, fw_ptr_11_4, fw_ptr_11_5, fw_ptr_11_6, fw_ptr_17_8, fw_ptr_18_2, fw_ptr_18_3, fw_ptr_25_1, fw_ptr_27_2, fw_ptr_28_1, fw_ptr_32_0, fw_ptr_32_1, fw_ptr_32_3, fw_ptr_32_7, fw_ptr_32_8, fw_ptr_32_9, fw_ptr_32_10, fw_ptr_32_15, fw_ptr_32_16, fw_ptr_32_17, fw_ptr_32_18, fw_ptr_32_19, fw_ptr_32_25, fw_ptr_32_29, fw_ptr_3, fw_ptr_4, fw_ptr_5, fw_ptr_6, fw_ptr_7, fw_ptr_9, fw_ptr_10, fw_ptr_13, fw_ptr_15, fw_ptr_16, fw_ptr_19, fw_ptr_20, fw_ptr_21, fw_ptr_22, fw_ptr_23, fw_ptr_24, fw_ptr_26, fw_ptr_29, fw_ptr_30, fw_ptr_31, fw_ptr_33, fw_ptr_34, fw_ptr_35, fw_ptr_36, fw_ptr_37, fw_ptr_38, fw_ptr_39, fw_ptr_40, fw_ptr_41, fw_ptr_42, fw_ptr_43, fw_ptr_44, fw_ptr_45, fw_ptr_46, fw_ptr_47, fw_ptr_48, fw_ptr_49, fw_ptr_50, fw_ptr_51, fw_ptr_52, fw_ptr_53, fw_ptr_54, fw_ptr_55, fw_ptr_12, fw_ptr_x, fw_ptr_hi, fw_ptr_b3, fw_ptr_b1, fw_ptr_b2, fw_ptr_b2_]; assumption)) only [fw_b_198_0, fw_b_198_11, fw_b_198_6, fw_b_198_8, fw_h198_1, fw_b_88_0, fw_b_88_7, fw_b_88_18, fw_b_88_25, fw_b_88_10, fw_c9_88, r1, ↓if_pos, ↓if_neg, if_neg, if_pos, fw_bs, fw_cn_0, fw_cn_1, fw_cn_2, fw_cn_3, fw_cn_4, fw_cn_5, Nat.reduceAdd, fw_w_id, fw_wl_id, fw_r_k, fw_r_j, fw_r_s, fw_r_x, if_true, if_false]
    · simp (disch := first | assumption | first | omega | assumption | (simp (disch := omega) only [fw_w_id, fw_wl_id, fw_r_k, fw_r_j, fw_r_s]; omega) | (simp only [fw_ptr_1_8, fw_ptr_2_5, fw_ptr_2_6, fw_ptr_2_7, fw_ptr_2_8, fw_ptr_2_9, fw_ptr_8_2, fw_ptr_8_3, fw_ptr_11_2, fw_ptr_11_3, fw_ptr_11_4, fw_ptr_11_5, fw_ptr_11_6, fw_ptr_17_8, fw_ptr_18_2, fw_ptr_18_3, fw_ptr_25_1, fw_ptr_27_2, fw_ptr_28_1, fw_ptr_32_0, fw_ptr_32_1, fw_ptr_32_3, fw_ptr_32_7, fw_ptr_32_8, fw_ptr_32_9, fw_ptr_32_10, fw_ptr_32_15, fw_ptr_32_16, fw_ptr_32_17, fw_ptr_32_18, fw_ptr_32_19, fw_ptr_32_25, fw_ptr_32_29, fw_ptr_3, fw_ptr_4, fw_ptr_5, fw_ptr_6, fw_ptr_7, fw_ptr_9, fw_ptr_10, fw_ptr_13, fw_ptr_15, fw_ptr_16, fw_ptr_19, fw_ptr_20, fw_ptr_21, fw_ptr_22, fw_ptr_23, fw_ptr_24, fw_ptr_26, fw_ptr_29, fw_ptr_30, fw_ptr_31, fw_ptr_33, fw_ptr_34, fw_ptr_35, fw_ptr_36, fw_ptr_37, fw_ptr_38, fw_ptr_39, fw_ptr_40, fw_ptr_41, fw_ptr_42, fw_ptr_43, fw_ptr_44, fw_ptr_45, fw_ptr_46, fw_ptr_47, fw_ptr_48, fw_ptr_49, fw_ptr_50, fw_ptr_51, fw_ptr_52, fw_ptr_53, fw_ptr_54, fw_ptr_55, fw_ptr_12, fw_ptr_x, fw_ptr_hi, fw_ptr_b3, fw_ptr_b1, fw_ptr_b2, fw_ptr_b2_]; assumption)) only [fw_b_163_0, fw_b_163_5, fw_b_163_12, fw_b_163_16, fw_b_163_19, m1, g1, ↓if_pos, ↓if_neg, if_neg, if_pos, fw_bs, fw_cn_0, fw_cn_1, fw_cn_2, fw_cn_3, fw_cn_4, fw_cn_5, Nat.reduceAdd, fw_w_id, fw_wl_id, fw_r_k, fw_r_j, fw_r_s, fw_r_x, if_true, if_false]
  · rw [hf] at r1
    obtain ⟨c', -, d, q1, -, ⟨f1, -, -, f4, -⟩⟩ := fs_wave (a1 := (8, 0)) (a2 := (8, 0)) (b1 := (8, 0)) (b2 := (8, 0)) (b3 := (8, 0)) h.1 hf
    have hps : fw_ptr (fw_u (fw_u c' 54 0 d) 32 0 0) := by rw [fw_ptr_32_0, fw_ptr_54]; exact f4
    have hI : fg_IN (200 * t) σ (fw_u (fw_u c' 54 0 d) 32 0 0) := fg_IN_eq h.1 (fg_AC_refl σ) (fun a j u v w => by (try simp (disch := omega) only [fw_r_n, fw_r_s]); exact f1 _ _ (by omega) (by omega) (by omega)) hp hps
    have s3 : fw_r (fw_u (fw_u c' 54 0 d) 32 0 0) 32 3 = fw_r σ 32 3 := by (try simp (disch := omega) only [fw_r_n, fw_r_s]); exact f1 _ _ (by decide) (by decide) (by decide)
    have s36 : ∀ j, fw_r (fw_u (fw_u c' 54 0 d) 32 0 0) 36 j = fw_r σ 36 j := fun j => by (try simp (disch := omega) only [fw_r_n, fw_r_s]); exact f1 _ _ (by decide) (by decide) (by decide)
    have hf2 : fg_ex (fw_r (fw_u (fw_u c' 54 0 d) 32 0 0) 36) 0 (fg_n (fw_u (fw_u c' 54 0 d) 32 0 0)) = 1 := Eq.trans (by unfold fg_n; rw [s3]; exact fg_ex_ext _ _ (fun j a b => s36 j)) hf
    obtain ⟨c2, m', d2, w1, w2, ⟨k1, k2, k3, k4, k5⟩⟩ := fs_wave (a1 := (8, 0)) (a2 := (8, 0)) (b1 := (8, 0)) (b2 := (8, 0)) (b3 := (8, 0)) hI hf2
    rw [q1] at w1
    injection w1 with w1
    have w3 := congrArg Prod.snd w1
    have w4 := congrArg (fun o => o.1.2) w1
    dsimp only at w3 w4
    subst w3
    subst w4
    rw [s3] at k3
    have hI2 : fg_IN (200 * (t + 1)) c' m' := by
      have hIM := fg_IN_M hI (by omega : 200 * t ≤ 200 * (t + 1))
      have hcf := hI.1.1
      obtain ⟨⟨a1, a2, a3⟩, ⟨b0, b1, b2, b3, b4, b5⟩, ⟨f1', f2', f3', f4'⟩, e2, e3, e4, e5⟩ := hcf
      have hk1 : fg_cok c' := fg_cok_c a2 (k1 _ _ (by decide) (by decide) (by decide)) (fun j => k1 _ _ (by decide) (by decide) (by decide)) (fun i hi => k1 _ _ (by omega) (by omega) (by omega)) (fun i hi => k1 _ _ (by omega) (by omega) (by omega))
      have c11 : ∀ j, fw_r c' 11 j = fw_r σ 11 j := fun j => k1 _ _ (by decide) (by decide) (by decide)
      have m32 : ∀ j, fw_r m' 32 j = fw_r (fw_u (fw_u c' 54 0 d) 32 0 0) 32 j := fun j => k2 _ _ (by decide) (by decide) (by decide)
      generalize fw_u (fw_u c' 54 0 d) 32 0 0 = s at *
      refine fg_IN_AE hIM ⟨⟨⟨k4, hk1, by rw [c11, m32]; exact a3⟩, ⟨by rw [m32]; exact b0, by rw [c11, m32]; exact b1, by rw [c11, m32]; exact b2, by rw [c11, m32]; exact b3, by rw [c11, m32]; exact b4, by rw [k1 _ _ (by decide) (by decide) (by decide), m32]; exact b5⟩, ⟨by rw [m32]; exact f1', by rw [m32]; exact f2', by rw [m32]; exact f3', by rw [m32]; exact f4'⟩, fun i x y => ?_, fun i j x y z w e => ?_, fun r x y => ?_, fun r x y => ?_⟩, k5⟩ ?_ (fun a j ha => k1 _ _ (by omega) (by omega) (by omega)) (fun a j ha => k2 _ _ (by omega) (by omega) (by omega))
      · rw [m32] at y
        rw [k1 _ _ (by omega) (by omega) (by omega), k1 _ _ (by omega) (by omega) (by omega), k1 _ _ (by omega) (by omega) (by omega), k2 34 _ (by decide) (by decide) (by decide), k2 35 _ (by decide) (by decide) (by decide), k2 36 _ (by decide) (by decide) (by decide), m32]
        exact e2 i x y
      · rw [m32] at y w
        rw [k2 34 _ (by decide) (by decide) (by decide), k2 34 _ (by decide) (by decide) (by decide)] at e
        exact e3 i j x y z w e
      · rw [m32] at y
        rw [k1 3 _ (by decide) (by decide) (by decide), k2 37 _ (by decide) (by decide) (by decide)]
        exact e4 r x y
      · rw [m32, s3]
        exact k3 r x y
      · exact fg_gE_c hI.2.2.2.2.1 (fun i hi => ⟨k1 _ _ (by omega) (by omega) (by omega), k1 _ _ (by omega) (by omega) (by omega), k1 _ _ (by omega) (by omega) (by omega), fun k => k1 _ _ (by omega) (by omega) (by omega)⟩) (m32 3) (m32 15) (fun j => k2 _ _ (by decide) (by decide) (by decide)) (fun j => k2 _ _ (by decide) (by decide) (by decide)) (fun j => k2 _ _ (by decide) (by decide) (by decide)) (fun j => k2 _ _ (by decide) (by decide) (by decide)) (fun j => k2 _ _ (by decide) (by decide) (by decide)) (fun j => k2 _ _ (by decide) (by decide) (by decide)) (fun j => k2 _ _ (by decide) (by decide) (by decide))
    have fr : ∀ a j, a ≠ 41 → a ≠ 52 → a ≠ 53 → a ≠ 54 → (a ≠ 32 ∨ j ≠ 0) → fw_r m' a j = fw_r c' a j := fun a j x y z u v => by rw [k2 a j x y z]; (try simp (disch := omega) only [fw_r_n, fw_r_s])
    refine fg_OK_fin (v := d) (σ1 := fw_u c' 54 0 d) (σ2 := m') h ?_ ?_ ?_ ?_ hI2 (fun a j ha => fr _ _ (by omega) (by omega) (by omega) (by omega) (by omega)) (fg_AG_refl _) k5 ?_ ?_ ?_ ?_ (fun a j ha => ?_) (fun a j ha => by rw [fw_r_k _ (by omega)]; exact f1 a j (by omega) (by omega) (by omega))
    · simp (disch := first | assumption | first | omega | assumption | (simp (disch := omega) only [fw_w_id, fw_wl_id, fw_r_k, fw_r_j, fw_r_s]; omega) | (simp only [fw_ptr_1_8, fw_ptr_2_5, fw_ptr_2_6, fw_ptr_2_7, fw_ptr_2_8, fw_ptr_2_9, fw_ptr_8_2, fw_ptr_8_3, fw_ptr_11_2, fw_ptr_11_3, fw_ptr_11_4, fw_ptr_11_5, fw_ptr_11_6, fw_ptr_17_8, fw_ptr_18_2, fw_ptr_18_3, fw_ptr_25_1, fw_ptr_27_2, fw_ptr_28_1, fw_ptr_32_0, fw_ptr_32_1, fw_ptr_32_3, fw_ptr_32_7, fw_ptr_32_8, fw_ptr_32_9, fw_ptr_32_10, fw_ptr_32_15, fw_ptr_32_16, fw_ptr_32_17, fw_ptr_32_18, fw_ptr_32_19, fw_ptr_32_25, fw_ptr_32_29, fw_ptr_3, fw_ptr_4, fw_ptr_5, fw_ptr_6, fw_ptr_7, fw_ptr_9, fw_ptr_10, fw_ptr_13, fw_ptr_15, fw_ptr_16, fw_ptr_19, fw_ptr_20, fw_ptr_21, fw_ptr_22, fw_ptr_23, fw_ptr_24, fw_ptr_26, fw_ptr_29, fw_ptr_30, fw_ptr_31, fw_ptr_33, fw_ptr_34, fw_ptr_35, fw_ptr_36, fw_ptr_37, fw_ptr_38, fw_ptr_39, fw_ptr_40, fw_ptr_41, fw_ptr_42, fw_ptr_43, fw_ptr_44, fw_ptr_45, fw_ptr_46, fw_ptr_47, fw_ptr_48, fw_ptr_49, fw_ptr_50, fw_ptr_51, fw_ptr_52, fw_ptr_53, fw_ptr_54, fw_ptr_55, fw_ptr_12, fw_ptr_x, fw_ptr_hi, fw_ptr_b3, fw_ptr_b1, fw_ptr_b2, fw_ptr_b2_]; assumption)) only [fw_b_198_0, fw_b_198_11, fw_b_198_6, fw_b_198_8, fw_h198_1, fw_b_88_0, fw_b_88_7, fw_b_88_18, fw_b_88_25, fw_b_88_10, fw_c9_88, r1, q1, ↓if_pos, ↓if_neg, if_neg, if_pos, fw_bs, fw_cn_0, fw_cn_1, fw_cn_2, fw_cn_3, fw_cn_4, fw_cn_5, Nat.reduceAdd, fw_w_id, fw_wl_id, fw_r_k, fw_r_j, fw_r_s, fw_r_x, if_true, if_false]
    · have m1 := fs_someFree (m := fw_u c' 54 0 d) (a1 := (8, 0)) (a2 := (8, 0)) (by rw [fw_ptr_54]; exact f4) (by rw [fw_r_k _ (by decide), f1 _ _ (by decide) (by decide) (by decide)]; exact ⟨h30, h36⟩)
      have m2 : fg_ex (fw_r (fw_u c' 54 0 d) 36) 0 (fg_n (fw_u c' 54 0 d)) = 1 := by
        refine Eq.trans ?_ hf
        unfold fg_n; rw [fw_r_k _ (by decide), f1 _ _ (by decide) (by decide) (by decide)]
        exact fg_ex_ext _ _ (fun j a b => by rw [fw_r_k _ (by decide), f1 _ _ (by decide) (by decide) (by decide)])
      rw [m2] at m1
      have g0 := fs_goesOn_0 (m := fw_u c' 54 0 d)
      simp (disch := first | assumption | omega) only [fw_b_163_0, fw_b_163_5, fw_b_163_8, fw_b_163_16, m1, g0, w2, ↓if_pos, ↓if_neg, fw_bs, fw_cn_0, Nat.reduceAdd]
    · rw [k2 _ _ (by decide) (by decide) (by decide), fw_r_s]
    · rw [k2 _ _ (by decide) (by decide) (by decide)]; (try simp (disch := omega) only [fw_r_n, fw_r_s])
    · rw [fr _ _ (by decide) (by decide) (by decide) (by decide) (by decide), k1 _ _ (by decide) (by decide) (by decide)]
    · rw [fr _ _ (by decide) (by decide) (by decide) (by decide) (by decide), k1 _ _ (by decide) (by decide) (by decide)]
    · rw [fr _ _ (by decide) (by decide) (by decide) (by decide) (by decide), k1 _ _ (by decide) (by decide) (by decide)]
    · rw [fr _ _ (by decide) (by decide) (by decide) (by decide) (by decide), k1 _ _ (by decide) (by decide) (by decide)]
    · rw [fr _ _ (by omega) (by omega) (by omega) (by omega) (by omega), k1 _ _ (by omega) (by omega) (by omega)]
