/-! addChute -/
theorem fw_r_nw (σ : fw_M) (n a b : Int) : fw_r (fw_nw σ n) a b = if a = fw_r σ (-1) 0 then 0 else if a = -1 then (if b = 0 then fw_r σ (-1) 0 + 1 else if b = 1 then fw_r σ (-1) 1 + 1 else if b = 2 then fw_r σ (-1) 2 + n else fw_r σ a b) else fw_r σ a b := rfl
theorem fw_r_nwo (σ : fw_M) (n : Int) {a b : Int} (h : a ≠ fw_r σ (-1) 0) (h1 : a ≠ -1) : fw_r (fw_nw σ n) a b = fw_r σ a b := by rw [fw_r_nw, if_neg h, if_neg h1]
theorem fw_r_nwz (σ : fw_M) (n : Int) {a b : Int} (h : a = fw_r σ (-1) 0) : fw_r (fw_nw σ n) a b = 0 := by rw [fw_r_nw, if_pos h]
theorem fw_r_nw0 {σ : fw_M} (n : Int) (h : 0 ≤ fw_r σ (-1) 0) : fw_r (fw_nw σ n) (-1) 0 = fw_r σ (-1) 0 + 1 := by rw [fw_r_nw, if_neg (by omega), if_pos rfl, if_pos rfl]
theorem fw_r_nw1 {σ : fw_M} (n : Int) (h : 0 ≤ fw_r σ (-1) 0) : fw_r (fw_nw σ n) (-1) 1 = fw_r σ (-1) 1 + 1 := by rw [fw_r_nw, if_neg (by omega), if_pos rfl, if_neg (by decide), if_pos rfl]
theorem fw_r_nw2 {σ : fw_M} (n : Int) (h : 0 ≤ fw_r σ (-1) 0) : fw_r (fw_nw σ n) (-1) 2 = fw_r σ (-1) 2 + n := by rw [fw_r_nw, if_neg (by omega), if_pos rfl, if_neg (by decide), if_neg (by decide), if_pos rfl]
theorem fw_ptr_nw {σ : fw_M} (n : Int) (h : 55 < fw_r σ (-1) 0) : fw_ptr (fw_nw σ n) = fw_ptr σ := by
  apply propext
  constructor
  · intro hp q hq
    have h1 := hp q hq
    rwa [fw_r_nwo _ _ (by have := fw_ps_le q hq; omega) (by have := fw_ps_le q hq; omega)] at h1
  · intro hp q hq
    rw [fw_r_nwo _ _ (by have := fw_ps_le q hq; omega) (by have := fw_ps_le q hq; omega)]
    exact hp q hq
theorem fw_kd_hi {i : Int} (h : 0 ≤ i) : fw_kd (56 + 3 * i) = 4 ∧ fw_kd (56 + 3 * i + 1) = 8 ∧ fw_kd (56 + 3 * i + 1 + 1) = 100 := by
  unfold fw_kd
  refine ⟨?_, ?_, ?_⟩
  · rw [if_neg (by omega), if_neg (by omega), if_pos (by omega)]
  · rw [if_neg (by omega), if_neg (by omega), if_neg (by omega), if_pos (by omega)]
  · rw [if_neg (by omega), if_neg (by omega), if_neg (by omega), if_neg (by omega)]
def fg_s3 (σ : fw_M) (B x y : Int) : fw_M := fw_u (fw_u (fw_nw σ 6) B 0 x) B 2 y
def fg_s8 (σ : fw_M) (B x y : Int) : fw_M := fw_u (fw_u (fw_nw (fw_nw (fg_s3 σ B x y) 2) 30) (B + 1) 0 (B + 1 + 1)) B 1 (B + 1)
def fg_cac (σ : fw_M) (n B x y : Int) : fw_M := fw_u (fw_u (fg_s8 σ B x y) 12 n B) 11 2 (n + 1)
def fg_mac (σ : fw_M) (n x y : Int) : fw_M := fw_u (fw_u (fw_u σ 34 n x) 35 n y) 32 3 (n + 1)
theorem fg_s3_0 {σ : fw_M} {B x y : Int} (hB : fw_r σ (-1) 0 = B) (h : 55 < B) : fw_r (fg_s3 σ B x y) (-1) 0 = B + 1 := by
  unfold fg_s3
  rw [fw_r_k _ (by omega), fw_r_k _ (by omega), fw_r_nw0 _ (by omega), hB]
theorem fg_s4_0 {σ : fw_M} {B x y : Int} (hB : fw_r σ (-1) 0 = B) (h : 55 < B) : fw_r (fw_nw (fg_s3 σ B x y) 2) (-1) 0 = B + 1 + 1 := by
  rw [fw_r_nw0 _ (by rw [fg_s3_0 hB h]; omega), fg_s3_0 hB h]
theorem fg_s8_o {σ : fw_M} {B x y a j : Int} (hB : fw_r σ (-1) 0 = B) (h : 55 < B) (h1 : a ≠ -1) (h2 : a ≠ B) (h3 : a ≠ B + 1) (h4 : a ≠ B + 1 + 1) : fw_r (fg_s8 σ B x y) a j = fw_r σ a j := by
  unfold fg_s8
  rw [fw_r_k _ h2, fw_r_k _ h3, fw_r_nwo _ _ (by rw [fg_s4_0 hB h]; exact h4) h1, fw_r_nwo _ _ (by rw [fg_s3_0 hB h]; exact h3) h1]
  unfold fg_s3
  rw [fw_r_k _ h2, fw_r_k _ h2, fw_r_nwo _ _ (by rw [hB]; exact h2) h1]
theorem fg_s8_B {σ : fw_M} {B x y j : Int} (hB : fw_r σ (-1) 0 = B) (h : 55 < B) : fw_r (fg_s8 σ B x y) B j = if j = 1 then B + 1 else if j = 2 then y else if j = 0 then x else 0 := by
  unfold fg_s8
  rw [fw_r_u]
  by_cases h1 : j = 1
  · rw [if_pos ⟨rfl, h1⟩, if_pos h1]
  · rw [if_neg (fun hx => h1 hx.2), if_neg h1, fw_r_k _ (by omega), fw_r_nwo _ _ (by rw [fg_s4_0 hB h]; omega) (by omega), fw_r_nwo _ _ (by rw [fg_s3_0 hB h]; omega) (by omega)]
    unfold fg_s3
    rw [fw_r_u]
    by_cases h2 : j = 2
    · rw [if_pos ⟨rfl, h2⟩, if_pos h2]
    · rw [if_neg (fun hx => h2 hx.2), if_neg h2, fw_r_u]
      by_cases h3 : j = 0
      · rw [if_pos ⟨rfl, h3⟩, if_pos h3]
      · rw [if_neg (fun hx => h3 hx.2), if_neg h3, fw_r_nwz _ _ hB.symm]
theorem fg_s8_B1 {σ : fw_M} {B x y j : Int} (hB : fw_r σ (-1) 0 = B) (h : 55 < B) : fw_r (fg_s8 σ B x y) (B + 1) j = if j = 0 then B + 1 + 1 else 0 := by
  unfold fg_s8
  rw [fw_r_k _ (by omega), fw_r_u]
  by_cases h1 : j = 0
  · rw [if_pos ⟨rfl, h1⟩, if_pos h1]
  · rw [if_neg (fun hx => h1 hx.2), if_neg h1, fw_r_nwo _ _ (by rw [fg_s4_0 hB h]; omega) (by omega), fw_r_nwz _ _ (fg_s3_0 hB h).symm]
theorem fg_s8_m {σ : fw_M} {B x y : Int} (hB : fw_r σ (-1) 0 = B) (h : 55 < B) : fw_r (fg_s8 σ B x y) (-1) 0 = B + 3 ∧ fw_r (fg_s8 σ B x y) (-1) 1 = fw_r σ (-1) 1 + 3 ∧ fw_r (fg_s8 σ B x y) (-1) 2 = fw_r σ (-1) 2 + 38 := by
  have z3 := fg_s3_0 (x := x) (y := y) hB h
  have z4 := fg_s4_0 (x := x) (y := y) hB h
  unfold fg_s8
  refine ⟨?_, ?_, ?_⟩
  · rw [fw_r_k _ (by omega), fw_r_k _ (by omega), fw_r_nw0 _ (by omega), z4]; omega
  · rw [fw_r_k _ (by omega), fw_r_k _ (by omega), fw_r_nw1 _ (by omega), fw_r_nw1 _ (by omega)]
    unfold fg_s3
    rw [fw_r_k _ (by omega), fw_r_k _ (by omega), fw_r_nw1 _ (by omega)]; omega
  · rw [fw_r_k _ (by omega), fw_r_k _ (by omega), fw_r_nw2 _ (by omega), fw_r_nw2 _ (by omega)]
    unfold fg_s3
    rw [fw_r_k _ (by omega), fw_r_k _ (by omega), fw_r_nw2 _ (by omega)]; omega
theorem fg_s8_ptr {σ : fw_M} {B x y : Int} (hB : fw_r σ (-1) 0 = B) (h : 55 < B) (hp : fw_ptr σ) : fw_ptr (fg_s8 σ B x y) := by
  have z3 := fg_s3_0 (x := x) (y := y) hB h
  have z4 := fg_s4_0 (x := x) (y := y) hB h
  unfold fg_s8
  rw [fw_ptr_hi _ (by omega), fw_ptr_hi _ (by omega), fw_ptr_nw _ (by omega), fw_ptr_nw _ (by omega)]
  unfold fg_s3
  rw [fw_ptr_hi _ (by omega), fw_ptr_hi _ (by omega), fw_ptr_nw _ (by omega)]
  exact hp
theorem fs_build {σ : fw_M} {n x y : Int} {a3 : fw_V} (hp : fw_ptr σ) (hn : 0 ≤ n ∧ n < 6) (h11 : fw_r σ 11 2 = n) (hB : fw_r σ (-1) 0 = 56 + 3 * n) : fw_E 48 0 [(2, 11), (0, x), (0, y), a3] [] σ = some ((0, n), fg_cac σ n (56 + 3 * n) x y) := by
  have kd := fw_kd_hi hn.1
  have lnn := fw_ln_ch hn.1
  have z3 := fg_s3_0 (x := x) (y := y) hB (by omega)
  have z4 := fg_s4_0 (x := x) (y := y) hB (by omega)
  have zo : fw_r (fw_u (fg_s8 σ (56 + 3 * n) x y) 12 n (56 + 3 * n)) 11 2 = n := by rw [fw_r_k _ (by decide), fg_s8_o hB (by omega) (by omega) (by omega) (by omega) (by omega)]; exact h11
  have ri : fw_E 43 0 [(2, 56 + 3 * n + 1), (0, 30)] [] (fw_nw (fg_s3 σ (56 + 3 * n) x y) 2) = some ((5, 0), fw_u (fw_nw (fw_nw (fg_s3 σ (56 + 3 * n) x y) 2) 30) (56 + 3 * n + 1) 0 (56 + 3 * n + 1 + 1)) := by
    rw [fw_b_43_0 _ _ _ (by omega) (by decide) (by decide) (by rw [z4]; exact kd.2.2) (by rw [z4, lnn]; decide), z4, fw_b_43_12 _ _ _ _ _ kd.2.1, fw_b_43_15]
    rfl
  have rc : fw_E 12 0 [(2, 56 + 3 * n), (0, x), (0, y)] [] (fw_nw σ 6) = some ((5, 0), fg_s8 σ (56 + 3 * n) x y) := by
    rw [fw_b_12_0 _ _ _ _ (by omega) kd.1, fw_b_12_9 _ _ _ _ kd.1]
    show fw_E 12 14 [(2, 56 + 3 * n), (0, x), (0, y)] [] (fg_s3 σ (56 + 3 * n) x y) = _
    rw [fw_b_12_14 _ _ _ _ (by rw [z3]; exact kd.2.1), z3, fw_b_12_18 _ _ _ _ _ _ kd.2.1, ri, fw_bs, fw_cn_5, fw_b_12_24 _ _ _ _ _ _ kd.1, fw_b_12_27]
    rfl
  rw [fw_b_48_0, h11, if_neg (by omega), fw_b_48_9, if_pos (by omega), fw_b_48_17 _ _ _ _ hp (by rw [hB]; exact kd.1), hB, fw_b_48_25 _ _ _ _ _ _ kd.1, rc, fw_bs, fw_cn_5, fw_b_48_31 _ _ _ _ _ _ kd.1 (by omega) (by omega), fw_b_48_32, zo, fw_w_id (by omega) (by omega), fw_b_48_42]
  rfl
theorem fg_IN_chute {M n x y : Int} {σ : fw_M} (h : fg_IN M σ σ) (hn : 0 ≤ n ∧ n < 6) (h3 : fw_r σ 32 3 = n) (hB : fw_r σ (-1) 0 = 56 + 3 * n) (hx : 1 ≤ x ∧ x ≤ fw_r σ 32 1 - 2) (hy : 1 ≤ y ∧ y ≤ 30) (hno : fg_nm σ x = -1) : fg_IN M (fg_cac σ n (56 + 3 * n) x y) (fg_mac σ n x y) ∧ fw_ptr (fg_cac σ n (56 + 3 * n) x y) ∧ (∀ a j, a ≠ -1 → a < 56 → a ≠ 12 → a ≠ 11 → fw_r (fg_cac σ n (56 + 3 * n) x y) a j = fw_r σ a j) := by
  obtain ⟨gA, gB, gC, gD, gE, gF, gG, gH, gI⟩ := h
  obtain ⟨⟨a1, a2, a3⟩, ⟨b0, b1, b2, b3, b4, b5⟩, ⟨f1, f2, f3, f4⟩, e2, e3, e4, e5⟩ := gA.1
  have kd := fw_kd_hi hn.1
  have hno' : ∀ j, 0 ≤ j → j < n → fw_r σ 34 j ≠ x := fun j u v => by
    have hk : ((fg_n σ : Nat) : Int) = fw_r σ 32 3 := by unfold fg_n; omega
    rcases fg_fa_in (fun j => fw_r σ 34 j) x (fg_n σ) 0 with hh | hh
    · exact hh.2 j u (by omega)
    · unfold fg_nm at hno; omega
  have hp1 : fw_ptr (fg_cac σ n (56 + 3 * n) x y) := by unfold fg_cac; rw [fw_ptr_11_2, fw_ptr_12]; exact fg_s8_ptr hB (by omega) a1
  have hp2 : fw_ptr (fg_mac σ n x y) := by unfold fg_mac; rw [fw_ptr_32_3, fw_ptr_35, fw_ptr_34]; exact a1
  have oc : ∀ a j, a ≠ -1 → (a < 56 + 3 * n ∨ 58 + 3 * n < a) → (a ≠ 12 ∨ j ≠ n) → (a ≠ 11 ∨ j ≠ 2) → fw_r (fg_cac σ n (56 + 3 * n) x y) a j = fw_r σ a j := fun a j p q r s => by
    unfold fg_cac
    rw [fw_r_n _ (by omega), fw_r_n _ (by omega), fg_s8_o hB (by omega) p (by omega) (by omega) (by omega)]
  have cB : ∀ j, fw_r (fg_cac σ n (56 + 3 * n) x y) (56 + 3 * n) j = if j = 1 then 56 + 3 * n + 1 else if j = 2 then y else if j = 0 then x else 0 := fun j => by
    unfold fg_cac
    rw [fw_r_k _ (by omega), fw_r_k _ (by omega)]; exact fg_s8_B hB (by omega)
  have cB1 : ∀ j, fw_r (fg_cac σ n (56 + 3 * n) x y) (56 + 3 * n + 1) j = if j = 0 then 56 + 3 * n + 1 + 1 else 0 := fun j => by
    unfold fg_cac
    rw [fw_r_k _ (by omega), fw_r_k _ (by omega)]; exact fg_s8_B1 hB (by omega)
  have c12 : fw_r (fg_cac σ n (56 + 3 * n) x y) 12 n = 56 + 3 * n := by unfold fg_cac; rw [fw_r_k _ (by decide), fw_r_s]
  have c11 : fw_r (fg_cac σ n (56 + 3 * n) x y) 11 2 = n + 1 := by unfold fg_cac; rw [fw_r_s]
  have om : ∀ a j, (a ≠ 34 ∨ j ≠ n) → (a ≠ 35 ∨ j ≠ n) → (a ≠ 32 ∨ j ≠ 3) → fw_r (fg_mac σ n x y) a j = fw_r σ a j := fun a j p q r => by unfold fg_mac; (try simp (disch := omega) only [fw_r_n, fw_r_s])
  have m34 : fw_r (fg_mac σ n x y) 34 n = x := by unfold fg_mac; (try simp (disch := omega) only [fw_r_n, fw_r_s])
  have m35 : fw_r (fg_mac σ n x y) 35 n = y := by unfold fg_mac; (try simp (disch := omega) only [fw_r_n, fw_r_s])
  have m3 : fw_r (fg_mac σ n x y) 32 3 = n + 1 := by unfold fg_mac; (try simp (disch := omega) only [fw_r_n, fw_r_s])
  generalize fg_cac σ n (56 + 3 * n) x y = c at *
  generalize fg_mac σ n x y = m at *
  have oc' : ∀ a j, a ≠ -1 → a < 56 → a ≠ 12 → a ≠ 11 → fw_r c a j = fw_r σ a j := fun a j p q r s => oc a j p (by omega) (Or.inl r) (Or.inl s)
  have o11 : ∀ j, j ≠ 2 → fw_r c 11 j = fw_r σ 11 j := fun j p => oc 11 j (by decide) (by omega) (Or.inl (by decide)) (Or.inr p)
  have oh : ∀ i j, 0 ≤ i → i < n → fw_r c (56 + 3 * i) j = fw_r σ (56 + 3 * i) j ∧ fw_r c (56 + 3 * i + 1) j = fw_r σ (56 + 3 * i + 1) j ∧ fw_r c (56 + 3 * i + 1 + 1) j = fw_r σ (56 + 3 * i + 1 + 1) j := fun i j p q => ⟨oc _ j (by omega) (by omega) (by omega) (by omega), oc _ j (by omega) (by omega) (by omega) (by omega), oc _ j (by omega) (by omega) (by omega) (by omega)⟩
  have om' : ∀ a, a ≠ 32 → a ≠ 34 → a ≠ 35 → ∀ j, fw_r m a j = fw_r σ a j := fun a p q r j => om a j (Or.inl q) (Or.inl r) (Or.inl p)
  have om2 : ∀ j, j ≠ 3 → fw_r m 32 j = fw_r σ 32 j := fun j p => om 32 j (Or.inl (by decide)) (Or.inl (by decide)) (Or.inr p)
  have x1 := om2 1 (by decide)
  have x10 := om2 10 (by decide)
  have x15 := om2 15 (by decide)
  have hk1 : fg_cok c := by
    refine ⟨by omega, by omega, fun i p q => ?_⟩
    by_cases hi : i = n
    · subst hi
      refine ⟨c12, ⟨kd.1, by rw [cB]; rfl⟩, kd.2.1, kd.2.2, by rw [cB1]; rfl⟩
    · obtain ⟨w1, w2, w3⟩ := a2.2.2 i p (by omega)
      have z := fun j => oh i j p (by omega)
      refine ⟨by rw [oc 12 i (by decide) (by omega) (Or.inr hi) (Or.inl (by decide))]; exact w1, ⟨w2.1, by rw [(z _).1]; exact w2.2⟩, w3.1, w3.2.1, by rw [(z _).2.1]; exact w3.2.2⟩
  refine ⟨⟨?_, ?_, ?_, ?_, ?_, ?_, ?_, ?_, ?_⟩, hp1, oc'⟩
  · refine ⟨⟨⟨hp1, hk1, by rw [c11, m3]⟩, ⟨by rw [x1]; exact b0, by rw [o11 3 (by decide), x1]; exact b1, by rw [o11 4 (by decide), om2 9 (by decide)]; exact b2, by rw [o11 5 (by decide), om2 7 (by decide)]; exact b3, by rw [o11 6 (by decide), om2 8 (by decide)]; exact b4, by rw [oc' 2 5 (by decide) (by decide) (by decide) (by decide), x10]; exact b5⟩, ⟨by rw [om2 7 (by decide)]; exact f1, by rw [om2 8 (by decide)]; exact f2, by rw [om2 9 (by decide)]; exact f3, by rw [x10]; exact f4⟩, fun i p q => ?_, fun i j p q r s e => ?_, fun r p q => ?_, fun r p q => ?_⟩, hp2⟩
    · rw [m3] at q
      by_cases hi : i = n
      · subst hi
        rw [cB, cB, cB, m34, m35, om' 36 (by decide) (by decide) (by decide), x1]
        have z := (gE.2 i (by omega) (by omega)).2.1
        exact ⟨⟨rfl, hx⟩, ⟨rfl, hy⟩, by rw [z]; rfl, Or.inl z⟩
      · have z := fun j => (oh i j p (by omega)).1
        rw [z, z, z, om 34 i (Or.inr hi) (Or.inl (by decide)) (Or.inl (by decide)), om 35 i (Or.inl (by decide)) (Or.inr hi) (Or.inl (by decide)), om' 36 (by decide) (by decide) (by decide), x1]
        exact e2 i p (by omega)
    · rw [m3] at q s
      by_cases hi : i = n
      · subst hi
        by_cases hj : j = i
        · exact hj.symm
        · rw [m34, om 34 j (Or.inr hj) (Or.inl (by decide)) (Or.inl (by decide))] at e
          exact absurd e.symm (hno' j r (by omega))
      · by_cases hj : j = n
        · subst hj
          rw [m34, om 34 i (Or.inr hi) (Or.inl (by decide)) (Or.inl (by decide))] at e
          exact absurd e (hno' i p (by omega))
        · rw [om 34 i (Or.inr hi) (Or.inl (by decide)) (Or.inl (by decide)), om 34 j (Or.inr hj) (Or.inl (by decide)) (Or.inl (by decide))] at e
          exact e3 i j p (by omega) r (by omega) e
    · rw [x10] at q
      rw [oc' 3 _ (by decide) (by decide) (by decide) (by decide), om' 37 (by decide) (by decide) (by decide)]
      exact e4 r p q
    · rw [oc' 13 _ (by decide) (by decide) (by decide) (by decide), om' 41 (by decide) (by decide) (by decide), m3]
      have := e5 r p q
      exact ⟨this.1, this.2.1, by omega⟩
  · exact fg_gB_c gB (fun j => oc' _ _ (by decide) (by decide) (by decide) (by decide)) (fun j => oc' _ _ (by decide) (by decide) (by decide) (by decide)) (fun j => oc' _ _ (by decide) (by decide) (by decide) (by decide)) x1 x10 x15 (om' _ (by decide) (by decide) (by decide)) (om' _ (by decide) (by decide) (by decide))
  · exact fg_gC_c gC (oc' _ _ (by decide) (by decide) (by decide) (by decide)) (oc' _ _ (by decide) (by decide) (by decide) (by decide)) (fun j => oc' _ _ (by decide) (by decide) (by decide) (by decide)) (fun j => oc' _ _ (by decide) (by decide) (by decide) (by decide)) (fun j => oc' _ _ (by decide) (by decide) (by decide) (by decide)) (fun j => oc' _ _ (by decide) (by decide) (by decide) (by decide)) x10 x15 (om2 _ (by decide)) (om' _ (by decide) (by decide) (by decide)) (om' _ (by decide) (by decide) (by decide)) (om' _ (by decide) (by decide) (by decide)) (om' _ (by decide) (by decide) (by decide))
  · exact fg_gD_c gD (oc' _ _ (by decide) (by decide) (by decide) (by decide)) (oc' _ _ (by decide) (by decide) (by decide) (by decide)) (oc' _ _ (by decide) (by decide) (by decide) (by decide)) (oc' _ _ (by decide) (by decide) (by decide) (by decide)) (oc' _ _ (by decide) (by decide) (by decide) (by decide)) x15 (om2 _ (by decide)) (om2 _ (by decide)) (om2 _ (by decide)) (om2 _ (by decide)) (om' _ (by decide) (by decide) (by decide))
  · refine ⟨fun i p q => ?_, fun i p q => ?_⟩
    · rw [m3] at q
      rw [om' 42 (by decide) (by decide) (by decide), om' 44 (by decide) (by decide) (by decide), om' 45 (by decide) (by decide) (by decide), x15]
      simp only [om' 43 (by decide) (by decide) (by decide), om' 39 (by decide) (by decide) (by decide)]
      by_cases hi : i = n
      · subst hi
        obtain ⟨z1, z2, z3, z4⟩ := gE.2 i (by omega) (by omega)
        rw [cB1, cB, cB, m35, z1, z3, z4]
        exact ⟨⟨rfl, by omega, by omega⟩, ⟨rfl, rfl, rfl⟩, fun k u v => by omega⟩
      · have z := fun j => oh i j p (by omega)
        rw [(z _).2.1, (z _).1, (z _).1, om 35 i (Or.inl (by decide)) (Or.inr hi) (Or.inl (by decide))]
        have w := gE.1 i p (by omega)
        exact ⟨w.1, w.2.1, fun k u v => by rw [(z _).2.2]; exact w.2.2 k u v⟩
    · rw [m3] at p
      rw [om' 42 (by decide) (by decide) (by decide), om' 36 (by decide) (by decide) (by decide), om' 44 (by decide) (by decide) (by decide), om' 45 (by decide) (by decide) (by decide)]
      exact gE.2 i (by omega) q
  · exact fg_gF_c gF x1 (om' _ (by decide) (by decide) (by decide)) (om' _ (by decide) (by decide) (by decide))
  · exact fg_gG_c gG (fun j => oc' _ _ (by decide) (by decide) (by decide) (by decide)) x15 (om2 _ (by decide)) (om' _ (by decide) (by decide) (by decide))
  · exact fg_gH_c gH (oc' _ _ (by decide) (by decide) (by decide) (by decide)) (oc' _ _ (by decide) (by decide) (by decide) (by decide)) (fun j => oc' _ _ (by decide) (by decide) (by decide) (by decide)) (fun j => oc' _ _ (by decide) (by decide) (by decide) (by decide)) x15 (om2 _ (by decide)) (om' _ (by decide) (by decide) (by decide)) (om' _ (by decide) (by decide) (by decide)) (om' _ (by decide) (by decide) (by decide)) (om' _ (by decide) (by decide) (by decide))
  · intro q hq
    have g := gI q hq
    have ech : fg_chs m q = fg_chs σ q := by
      unfold fg_chs
      rw [m3, h3]
      have e : (n + 1).toNat = n.toNat + 1 := by omega
      have en : (0 : Int) + ((n.toNat : Nat) : Int) = n := by omega
      simp only [om' 42 (by decide) (by decide) (by decide), om' 43 (by decide) (by decide) (by decide)]
      rw [e, fg_sf_end, en, (gE.2 n (by omega) (by omega)).1, fg_cnt_0 (fun j u v => by omega)]
      exact Int.add_zero _
    rw [ech, fg_cnt_c (om' 33 (by decide) (by decide) (by decide)), fg_cnt_c (fun j => oc' 29 j (by decide) (by decide) (by decide) (by decide)), fg_cnt_c (fun j => oc' 26 j (by decide) (by decide) (by decide) (by decide)), oc' 28 1 (by decide) (by decide) (by decide) (by decide), x15, om2 19 (by decide), x10, x1]
    exact g
theorem fg_OK_add {t v : Int} {E1 E2 : fw_M → Option fw_O} {σ σ1 σ2 c' m' : fw_M} (h : fg_INV t σ) (e1 : E1 σ = some ((0, 0), σ1)) (e2 : E2 σ1 = some ((0, v), σ2)) (hk : fw_r σ2 32 0 = 0) (hv : fw_r σ2 54 0 = v) (hi : fg_IN (200 * (t + 1)) c' m') (hc : fg_AC c' σ2) (hm : fg_AG m' σ2) (hp : fw_ptr σ2) (h0 : fw_r σ2 (-1) 0 = fw_r σ (-1) 0 + 3) (h1 : fw_r σ2 (-1) 1 = fw_r σ (-1) 1 + 3) (h2 : fw_r σ2 (-1) 2 = fw_r σ (-1) 2 + 38) (h3 : fw_r σ2 32 3 = fw_r σ 32 3 + 1) (hs : fg_SC σ σ2) (hs1 : fg_SC σ σ1) : fg_OK t E1 E2 σ := by
  obtain ⟨hi0, a1, a2, a3, a4⟩ := h
  exact ⟨0, v, σ1, σ2, e1, e2, hk, fun _ => hv, ⟨fg_IN_eq hi hc hm hp hp, by omega, by rw [h0, h3]; omega, by omega, by omega⟩, hs, hs1⟩
theorem op_addChute {t x y : Int} {σ : fw_M} (h : fg_INV t σ) : fg_OK t (fun σ => fw_E 184 0 [(2, 1), (0, x), (0, y), (2, 54), (8, 0)] [] σ) (fun σ => fw_E 130 0 [(2, 32), (0, x), (0, y), (8, 0)] [] σ) σ := by
  obtain ⟨⟨hp, hk, hpk⟩, ⟨h3, h30, h36⟩, hN, h82, h113, h25, hP⟩ := fg_facts h
  have hIN := fg_IN_M h.1 (by omega : 200 * t ≤ 200 * (t + 1))
  have hB := h.2.2.1
  have g1 := fs_goesOn_n (m := fw_ex σ) (v := 1) (by decide)
  have g2 := fs_goesOn_n (m := fw_ex σ) (v := 2) (by decide)
  have g3 := fs_goesOn_n (m := fw_ex σ) (v := 3) (by decide)
  have hpx : fw_ptr (fw_ex σ) := by rw [fw_ptr_x]; exact hp
  have w2 : fw_w (fw_r σ 32 1 - 2) = fw_r σ 32 1 - 2 := fw_w_id (by omega) (by omega)
  by_cases c1 : 1 ≤ x ∧ x ≤ fw_r σ 32 1 - 2
  · have m1 := fs_isIn_t (m := fw_ex σ) c1
    by_cases c2 : 1 ≤ y ∧ y ≤ 30
    · have r1 := fs_isCap_t (σ := σ) c2.1 c2.2
      have m2 := fs_isIn_t (m := fw_ex σ) c2
      have m3 := fs_chuteAtM (m := fw_ex σ) (p := x) (a2 := (8, 0)) hpx (by rw [fw_r_x _ _ _ (by decide)]; exact ⟨h30, h36⟩)
      rw [fg_nm_eq (m := σ) (m' := fw_ex σ) (fw_r_x _ _ _ (by decide)) (fun j => fw_r_x _ _ _ (by decide))] at m3
      have hna : fg_na σ x = fg_nm σ x := fg_na_m h.1.1.1 x
      by_cases c3 : fg_nm σ x = -1
      · have r2 := fs_chuteAt_f (p := x) hp hk (hna.trans c3)
        rw [c3] at m3
        by_cases c4 : fw_r σ 32 3 = 6
        · refine fg_OK_err (k := 3) (b := 0) h (by decide) ?_ ?_
          · simp (disch := first | assumption | first | omega | assumption | (simp (disch := omega) only [fw_w_id, fw_wl_id, fw_r_k, fw_r_j, fw_r_s]; omega) | (simp only [fw_ptr_1_8, fw_ptr_2_5, fw_ptr_2_6, fw_ptr_2_7, fw_ptr_2_8, fw_ptr_2_9, fw_ptr_8_2, fw_ptr_8_3, fw_ptr_11_2, fw_ptr_11_3, fw_ptr_11_4, fw_ptr_11_5, fw_ptr_11_6, fw_ptr_17_8, fw_ptr_18_2, fw_ptr_18_3, fw_ptr_25_1, fw_ptr_27_2, fw_ptr_28_1, fw_ptr_32_0, fw_ptr_32_1, fw_ptr_32_3, fw_ptr_32_7, fw_ptr_32_8, fw_ptr_32_9, fw_ptr_32_10, fw_ptr_32_15, fw_ptr_32_16, fw_ptr_32_17, fw_ptr_32_18, fw_ptr_32_19, fw_ptr_32_25, fw_ptr_32_29, fw_ptr_3, fw_ptr_4, fw_ptr_5, fw_ptr_6, fw_ptr_7, fw_ptr_9, fw_ptr_10, fw_ptr_13, fw_ptr_15, fw_ptr_16, fw_ptr_19, fw_ptr_20, fw_ptr_21, fw_ptr_22, fw_ptr_23, fw_ptr_24, fw_ptr_26, fw_ptr_29, fw_ptr_30, fw_ptr_31, fw_ptr_33, fw_ptr_34, fw_ptr_35, fw_ptr_36, fw_ptr_37, fw_ptr_38, fw_ptr_39, fw_ptr_40, fw_ptr_41, fw_ptr_42, fw_ptr_43, fw_ptr_44, fw_ptr_45, fw_ptr_46, fw_ptr_47, fw_ptr_48, fw_ptr_49, fw_ptr_50, fw_ptr_51, fw_ptr_52, fw_ptr_53, fw_ptr_54, fw_ptr_55, fw_ptr_12, fw_ptr_x, fw_ptr_hi, fw_ptr_b3, fw_ptr_b1, fw_ptr_b2, fw_ptr_b2_]; assumption)) only [fw_b_184_0, fw_b_184_21, fw_b_184_17, fw_b_184_13, fw_b_184_8, fw_b_184_10, fw_h184_0, fw_h184_2, fw_h184_1, fw_b_70_0, fw_b_70_5, fw_b_70_23, fw_b_70_16, fw_b_70_20, fw_b_70_31, fw_b_70_39, fw_b_70_42, fw_b_70_50, fw_b_70_62, fw_b_70_70, fw_b_70_79, fw_c9_70, r1, r2, ↓if_pos, ↓if_neg, if_neg, if_pos, fw_bs, fw_cn_0, fw_cn_1, fw_cn_2, fw_cn_3, fw_cn_4, fw_cn_5, Nat.reduceAdd, fw_w_id, fw_wl_id, fw_r_k, fw_r_j, fw_r_s, fw_r_x, if_true, if_false]
          · simp (disch := first | assumption | first | omega | assumption | (simp (disch := omega) only [fw_w_id, fw_wl_id, fw_r_k, fw_r_j, fw_r_s]; omega) | (simp only [fw_ptr_1_8, fw_ptr_2_5, fw_ptr_2_6, fw_ptr_2_7, fw_ptr_2_8, fw_ptr_2_9, fw_ptr_8_2, fw_ptr_8_3, fw_ptr_11_2, fw_ptr_11_3, fw_ptr_11_4, fw_ptr_11_5, fw_ptr_11_6, fw_ptr_17_8, fw_ptr_18_2, fw_ptr_18_3, fw_ptr_25_1, fw_ptr_27_2, fw_ptr_28_1, fw_ptr_32_0, fw_ptr_32_1, fw_ptr_32_3, fw_ptr_32_7, fw_ptr_32_8, fw_ptr_32_9, fw_ptr_32_10, fw_ptr_32_15, fw_ptr_32_16, fw_ptr_32_17, fw_ptr_32_18, fw_ptr_32_19, fw_ptr_32_25, fw_ptr_32_29, fw_ptr_3, fw_ptr_4, fw_ptr_5, fw_ptr_6, fw_ptr_7, fw_ptr_9, fw_ptr_10, fw_ptr_13, fw_ptr_15, fw_ptr_16, fw_ptr_19, fw_ptr_20, fw_ptr_21, fw_ptr_22, fw_ptr_23, fw_ptr_24, fw_ptr_26, fw_ptr_29, fw_ptr_30, fw_ptr_31, fw_ptr_33, fw_ptr_34, fw_ptr_35, fw_ptr_36, fw_ptr_37, fw_ptr_38, fw_ptr_39, fw_ptr_40, fw_ptr_41, fw_ptr_42, fw_ptr_43, fw_ptr_44, fw_ptr_45, fw_ptr_46, fw_ptr_47, fw_ptr_48, fw_ptr_49, fw_ptr_50, fw_ptr_51, fw_ptr_52, fw_ptr_53, fw_ptr_54, fw_ptr_55, fw_ptr_12, fw_ptr_x, fw_ptr_hi, fw_ptr_b3, fw_ptr_b1, fw_ptr_b2, fw_ptr_b2_]; assumption)) only [fw_b_130_0, fw_b_130_11, fw_b_130_14, fw_b_130_21, fw_b_130_28, fw_b_130_33, fw_b_130_37, fw_b_130_61, fw_b_130_66, fw_b_130_76, fw_b_130_86, fw_b_130_96, fw_b_130_64, fw_b_130_41, fw_b_130_54, fw_b_130_50, fw_b_130_24, m1, m2, m3, g3, w2, ↓if_pos, ↓if_neg, if_neg, if_pos, fw_bs, fw_cn_0, fw_cn_1, fw_cn_2, fw_cn_3, fw_cn_4, fw_cn_5, Nat.reduceAdd, fw_w_id, fw_wl_id, fw_r_k, fw_r_j, fw_r_s, fw_r_x, if_true, if_false]
        · have hn : 0 ≤ fw_r σ 32 3 ∧ fw_r σ 32 3 < 6 := by omega
          obtain ⟨hI2, hp1, hoc⟩ := fg_IN_chute hIN hn rfl hB c1 c2 c3
          have r3 := fs_build (x := x) (y := y) (a3 := (8, 0)) hp hn h3 hB
          have hoc2 : ∀ a j, 12 < a → a < 56 → fw_r (fg_cac σ (fw_r σ 32 3) (56 + 3 * fw_r σ 32 3) x y) a j = fw_r σ a j := fun a j p q => hoc a j (by omega) q (by omega) (by omega)
          have hsm : fw_r (fg_cac σ (fw_r σ 32 3) (56 + 3 * fw_r σ 32 3) x y) (-1) 0 = fw_r σ (-1) 0 + 3 ∧ fw_r (fg_cac σ (fw_r σ 32 3) (56 + 3 * fw_r σ 32 3) x y) (-1) 1 = fw_r σ (-1) 1 + 3 ∧ fw_r (fg_cac σ (fw_r σ 32 3) (56 + 3 * fw_r σ 32 3) x y) (-1) 2 = fw_r σ (-1) 2 + 38 := by
            have z := fg_s8_m (x := x) (y := y) hB (by omega)
            unfold fg_cac
            rw [fw_r_k _ (by decide), fw_r_k _ (by decide), fw_r_k _ (by decide), fw_r_k _ (by decide), fw_r_k _ (by decide), fw_r_k _ (by decide)]
            omega
          have hss : ∀ a j, a ≤ -2 → fw_r (fg_cac σ (fw_r σ 32 3) (56 + 3 * fw_r σ 32 3) x y) a j = fw_r σ a j := fun a j p => hoc a j (by omega) (by omega) (by omega) (by omega)
          generalize hcc : fg_cac σ (fw_r σ 32 3) (56 + 3 * fw_r σ 32 3) x y = c at *
          have hp3 : fw_ptr (fw_u (fw_u c 54 0 (fw_r σ 32 3)) 32 0 0) := by rw [fw_ptr_32_0, fw_ptr_54]; exact hp1
          refine fg_OK_add (v := fw_r σ 32 3) (σ1 := fw_u c 54 0 (fw_r σ 32 3)) (σ2 := fg_mac (fw_u (fw_u c 54 0 (fw_r σ 32 3)) 32 0 0) (fw_r σ 32 3) x y) h ?_ ?_ ?_ ?_ hI2 (fun a j ha => by unfold fg_mac; (try simp (disch := omega) only [fw_r_n, fw_r_s])) (fg_AG_u (fg_AG_u (fg_AG_u (fun a j u v w => by (try simp (disch := omega) only [fw_r_n, fw_r_s]); exact hoc2 _ _ (by omega) (by omega)) _ _ _) _ _ _) _ _ _) (by unfold fg_mac; rw [fw_ptr_32_3, fw_ptr_35, fw_ptr_34]; exact hp3) (by unfold fg_mac; (try simp (disch := omega) only [fw_r_n, fw_r_s]); exact hsm.1) (by unfold fg_mac; (try simp (disch := omega) only [fw_r_n, fw_r_s]); exact hsm.2.1) (by unfold fg_mac; (try simp (disch := omega) only [fw_r_n, fw_r_s]); exact hsm.2.2) (by unfold fg_mac; (try simp (disch := omega) only [fw_r_n, fw_r_s])) (fun a j ha => by unfold fg_mac; (try simp (disch := omega) only [fw_r_n, fw_r_s]); exact hss a j ha) (fun a j ha => by rw [fw_r_k _ (by omega)]; exact hss a j ha)
          · simp (disch := first | assumption | first | omega | assumption | (simp (disch := omega) only [fw_w_id, fw_wl_id, fw_r_k, fw_r_j, fw_r_s]; omega) | (simp only [fw_ptr_1_8, fw_ptr_2_5, fw_ptr_2_6, fw_ptr_2_7, fw_ptr_2_8, fw_ptr_2_9, fw_ptr_8_2, fw_ptr_8_3, fw_ptr_11_2, fw_ptr_11_3, fw_ptr_11_4, fw_ptr_11_5, fw_ptr_11_6, fw_ptr_17_8, fw_ptr_18_2, fw_ptr_18_3, fw_ptr_25_1, fw_ptr_27_2, fw_ptr_28_1, fw_ptr_32_0, fw_ptr_32_1, fw_ptr_32_3, fw_ptr_32_7, fw_ptr_32_8, fw_ptr_32_9, fw_ptr_32_10, fw_ptr_32_15, fw_ptr_32_16, fw_ptr_32_17, fw_ptr_32_18, fw_ptr_32_19, fw_ptr_32_25, fw_ptr_32_29, fw_ptr_3, fw_ptr_4, fw_ptr_5, fw_ptr_6, fw_ptr_7, fw_ptr_9, fw_ptr_10, fw_ptr_13, fw_ptr_15, fw_ptr_16, fw_ptr_19, fw_ptr_20, fw_ptr_21, fw_ptr_22, fw_ptr_23, fw_ptr_24, fw_ptr_26, fw_ptr_29, fw_ptr_30, fw_ptr_31, fw_ptr_33, fw_ptr_34, fw_ptr_35, fw_ptr_36, fw_ptr_37, fw_ptr_38, fw_ptr_39, fw_ptr_40, fw_ptr_41, fw_ptr_42, fw_ptr_43, fw_ptr_44, fw_ptr_45, fw_ptr_46, fw_ptr_47, fw_ptr_48, fw_ptr_49, fw_ptr_50, fw_ptr_51, fw_ptr_52, fw_ptr_53, fw_ptr_54, fw_ptr_55, fw_ptr_12, fw_ptr_x, fw_ptr_hi, fw_ptr_b3, fw_ptr_b1, fw_ptr_b2, fw_ptr_b2_]; assumption)) only [fw_b_184_0, fw_b_184_21, fw_b_184_17, fw_b_184_13, fw_b_184_8, fw_b_184_10, fw_h184_0, fw_h184_2, fw_h184_1, fw_b_70_0, fw_b_70_5, fw_b_70_23, fw_b_70_16, fw_b_70_20, fw_b_70_31, fw_b_70_39, fw_b_70_42, fw_b_70_50, fw_b_70_62, fw_b_70_70, fw_b_70_79, fw_c9_70, r1, r2, r3, ↓if_pos, ↓if_neg, if_neg, if_pos, fw_bs, fw_cn_0, fw_cn_1, fw_cn_2, fw_cn_3, fw_cn_4, fw_cn_5, Nat.reduceAdd, fw_w_id, fw_wl_id, fw_r_k, fw_r_j, fw_r_s, fw_r_x, if_true, if_false]
          · have y3 : fw_r (fw_u c 54 0 (fw_r σ 32 3)) 32 3 = fw_r σ 32 3 := by (try simp (disch := omega) only [fw_r_n, fw_r_s]); exact hoc2 _ _ (by decide) (by decide)
            have y1 : fw_r (fw_u c 54 0 (fw_r σ 32 3)) 32 1 = fw_r σ 32 1 := by (try simp (disch := omega) only [fw_r_n, fw_r_s]); exact hoc2 _ _ (by decide) (by decide)
            have y3b : fw_r (fw_u (fw_u c 54 0 (fw_r σ 32 3)) 32 0 0) 32 3 = fw_r σ 32 3 := by (try simp (disch := omega) only [fw_r_n, fw_r_s]); exact hoc2 _ _ (by decide) (by decide)
            have m1 := fs_isIn_t (m := fw_u c 54 0 (fw_r σ 32 3)) c1
            have m2 := fs_isIn_t (m := fw_u c 54 0 (fw_r σ 32 3)) c2
            have m4 := fs_goesOn_0 (m := fw_u c 54 0 (fw_r σ 32 3))
            have m3 := fs_chuteAtM (m := fw_u c 54 0 (fw_r σ 32 3)) (p := x) (a2 := (8, 0)) (by rw [fw_ptr_54]; exact hp1) (by rw [y3]; exact ⟨h30, h36⟩)
            rw [fg_nm_eq (m := σ) (m' := fw_u c 54 0 (fw_r σ 32 3)) y3 (fun j => by (try simp (disch := omega) only [fw_r_n, fw_r_s]); exact hoc2 _ _ (by decide) (by decide)), c3] at m3
            unfold fg_mac
            generalize fw_u c 54 0 (fw_r σ 32 3) = s at *
            generalize fw_r σ 32 3 = n at *
            simp (disch := first | assumption | omega) only [fw_b_130_0, fw_b_130_11, fw_b_130_14, fw_b_130_21, fw_b_130_28, fw_b_130_33, fw_b_130_41, fw_b_130_54, fw_b_130_61, m1, m2, m3, m4, y3, y1, w2, ↓if_pos, ↓if_neg, fw_bs, fw_cn_0, Nat.reduceAdd]
            have hp5 : fw_ptr (fw_u (fw_u s 32 0 0) 34 n x) := by rw [fw_ptr_34]; exact hp3
            rw [fw_b_130_66 _ _ _ _ hp3 (by rw [y3b]; omega) (by rw [y3b]; omega), y3b, fw_b_130_76 _ _ _ _ hp5 (by rw [fw_r_k _ (by decide), y3b]; omega) (by rw [fw_r_k _ (by decide), y3b]; omega), fw_r_k _ (by decide), y3b, fw_b_130_86, fw_r_k _ (by decide), fw_r_k _ (by decide), y3b, fw_w_id (by omega) (by omega), fw_b_130_96, fw_r_s, fw_w_id (by omega) (by omega)]
            congr 3; omega
          · unfold fg_mac; (try simp (disch := omega) only [fw_r_n, fw_r_s])
          · unfold fg_mac; (try simp (disch := omega) only [fw_r_n, fw_r_s])
      · have r2 := fs_chuteAt (p := x) hp hk (fun hx => c3 (hna.symm.trans hx))
        have hcn := fg_na_in (p := x) hk
        refine fg_OK_err (k := 2) (b := 0) h (by decide) ?_ ?_
        · simp (disch := first | assumption | first | omega | assumption | (simp (disch := omega) only [fw_w_id, fw_wl_id, fw_r_k, fw_r_j, fw_r_s]; omega) | (simp only [fw_ptr_1_8, fw_ptr_2_5, fw_ptr_2_6, fw_ptr_2_7, fw_ptr_2_8, fw_ptr_2_9, fw_ptr_8_2, fw_ptr_8_3, fw_ptr_11_2, fw_ptr_11_3, fw_ptr_11_4, fw_ptr_11_5, fw_ptr_11_6, fw_ptr_17_8, fw_ptr_18_2, fw_ptr_18_3, fw_ptr_25_1, fw_ptr_27_2, fw_ptr_28_1, fw_ptr_32_0, fw_ptr_32_1, fw_ptr_32_3, fw_ptr_32_7, fw_ptr_32_8, fw_ptr_32_9, fw_ptr_32_10, fw_ptr_32_15, fw_ptr_32_16, fw_ptr_32_17, fw_ptr_32_18, fw_ptr_32_19, fw_ptr_32_25, fw_ptr_32_29, fw_ptr_3, fw_ptr_4, fw_ptr_5, fw_ptr_6, fw_ptr_7, fw_ptr_9, fw_ptr_10, fw_ptr_13, fw_ptr_15, fw_ptr_16, fw_ptr_19, fw_ptr_20, fw_ptr_21, fw_ptr_22, fw_ptr_23, fw_ptr_24, fw_ptr_26, fw_ptr_29, fw_ptr_30, fw_ptr_31, fw_ptr_33, fw_ptr_34, fw_ptr_35, fw_ptr_36, fw_ptr_37, fw_ptr_38, fw_ptr_39, fw_ptr_40, fw_ptr_41, fw_ptr_42, fw_ptr_43, fw_ptr_44, fw_ptr_45, fw_ptr_46, fw_ptr_47, fw_ptr_48, fw_ptr_49, fw_ptr_50, fw_ptr_51, fw_ptr_52, fw_ptr_53, fw_ptr_54, fw_ptr_55, fw_ptr_12, fw_ptr_x, fw_ptr_hi, fw_ptr_b3, fw_ptr_b1, fw_ptr_b2, fw_ptr_b2_]; assumption)) only [fw_b_184_0, fw_b_184_21, fw_b_184_17, fw_b_184_13, fw_b_184_8, fw_b_184_10, fw_h184_0, fw_h184_2, fw_h184_1, fw_b_70_0, fw_b_70_5, fw_b_70_23, fw_b_70_16, fw_b_70_20, fw_b_70_31, fw_b_70_39, fw_b_70_42, fw_b_70_50, fw_b_70_62, fw_b_70_70, fw_b_70_79, fw_c9_70, r1, r2, ↓if_pos, ↓if_neg, if_neg, if_pos, fw_bs, fw_cn_0, fw_cn_1, fw_cn_2, fw_cn_3, fw_cn_4, fw_cn_5, Nat.reduceAdd, fw_w_id, fw_wl_id, fw_r_k, fw_r_j, fw_r_s, fw_r_x, if_true, if_false]
        · simp (disch := first | assumption | first | omega | assumption | (simp (disch := omega) only [fw_w_id, fw_wl_id, fw_r_k, fw_r_j, fw_r_s]; omega) | (simp only [fw_ptr_1_8, fw_ptr_2_5, fw_ptr_2_6, fw_ptr_2_7, fw_ptr_2_8, fw_ptr_2_9, fw_ptr_8_2, fw_ptr_8_3, fw_ptr_11_2, fw_ptr_11_3, fw_ptr_11_4, fw_ptr_11_5, fw_ptr_11_6, fw_ptr_17_8, fw_ptr_18_2, fw_ptr_18_3, fw_ptr_25_1, fw_ptr_27_2, fw_ptr_28_1, fw_ptr_32_0, fw_ptr_32_1, fw_ptr_32_3, fw_ptr_32_7, fw_ptr_32_8, fw_ptr_32_9, fw_ptr_32_10, fw_ptr_32_15, fw_ptr_32_16, fw_ptr_32_17, fw_ptr_32_18, fw_ptr_32_19, fw_ptr_32_25, fw_ptr_32_29, fw_ptr_3, fw_ptr_4, fw_ptr_5, fw_ptr_6, fw_ptr_7, fw_ptr_9, fw_ptr_10, fw_ptr_13, fw_ptr_15, fw_ptr_16, fw_ptr_19, fw_ptr_20, fw_ptr_21, fw_ptr_22, fw_ptr_23, fw_ptr_24, fw_ptr_26, fw_ptr_29, fw_ptr_30, fw_ptr_31, fw_ptr_33, fw_ptr_34, fw_ptr_35, fw_ptr_36, fw_ptr_37, fw_ptr_38, fw_ptr_39, fw_ptr_40, fw_ptr_41, fw_ptr_42, fw_ptr_43, fw_ptr_44, fw_ptr_45, fw_ptr_46, fw_ptr_47, fw_ptr_48, fw_ptr_49, fw_ptr_50, fw_ptr_51, fw_ptr_52, fw_ptr_53, fw_ptr_54, fw_ptr_55, fw_ptr_12, fw_ptr_x, fw_ptr_hi, fw_ptr_b3, fw_ptr_b1, fw_ptr_b2, fw_ptr_b2_]; assumption)) only [fw_b_130_0, fw_b_130_11, fw_b_130_14, fw_b_130_21, fw_b_130_28, fw_b_130_33, fw_b_130_37, fw_b_130_61, fw_b_130_66, fw_b_130_76, fw_b_130_86, fw_b_130_96, fw_b_130_64, fw_b_130_41, fw_b_130_54, fw_b_130_50, fw_b_130_24, m1, m2, m3, g2, w2, ↓if_pos, ↓if_neg, if_neg, if_pos, fw_bs, fw_cn_0, fw_cn_1, fw_cn_2, fw_cn_3, fw_cn_4, fw_cn_5, Nat.reduceAdd, fw_w_id, fw_wl_id, fw_r_k, fw_r_j, fw_r_s, fw_r_x, if_true, if_false]
    · have r1 := fs_isCap_f (σ := σ) c2
      have m2 := fs_isIn_f (m := fw_ex σ) c2
      refine fg_OK_err (k := 1) (b := 0) h (by decide) ?_ ?_
      · simp (disch := first | assumption | first | omega | assumption | (simp (disch := omega) only [fw_w_id, fw_wl_id, fw_r_k, fw_r_j, fw_r_s]; omega) | (simp only [fw_ptr_1_8, fw_ptr_2_5, fw_ptr_2_6, fw_ptr_2_7, fw_ptr_2_8, fw_ptr_2_9, fw_ptr_8_2, fw_ptr_8_3, fw_ptr_11_2, fw_ptr_11_3, fw_ptr_11_4, fw_ptr_11_5, fw_ptr_11_6, fw_ptr_17_8, fw_ptr_18_2, fw_ptr_18_3, fw_ptr_25_1, fw_ptr_27_2, fw_ptr_28_1, fw_ptr_32_0, fw_ptr_32_1, fw_ptr_32_3, fw_ptr_32_7, fw_ptr_32_8, fw_ptr_32_9, fw_ptr_32_10, fw_ptr_32_15, fw_ptr_32_16, fw_ptr_32_17, fw_ptr_32_18, fw_ptr_32_19, fw_ptr_32_25, fw_ptr_32_29, fw_ptr_3, fw_ptr_4, fw_ptr_5, fw_ptr_6, fw_ptr_7, fw_ptr_9, fw_ptr_10, fw_ptr_13, fw_ptr_15, fw_ptr_16, fw_ptr_19, fw_ptr_20, fw_ptr_21, fw_ptr_22, fw_ptr_23, fw_ptr_24, fw_ptr_26, fw_ptr_29, fw_ptr_30, fw_ptr_31, fw_ptr_33, fw_ptr_34, fw_ptr_35, fw_ptr_36, fw_ptr_37, fw_ptr_38, fw_ptr_39, fw_ptr_40, fw_ptr_41, fw_ptr_42, fw_ptr_43, fw_ptr_44, fw_ptr_45, fw_ptr_46, fw_ptr_47, fw_ptr_48, fw_ptr_49, fw_ptr_50, fw_ptr_51, fw_ptr_52, fw_ptr_53, fw_ptr_54, fw_ptr_55, fw_ptr_12, fw_ptr_x, fw_ptr_hi, fw_ptr_b3, fw_ptr_b1, fw_ptr_b2, fw_ptr_b2_]; assumption)) only [fw_b_184_0, fw_b_184_21, fw_b_184_17, fw_b_184_13, fw_b_184_8, fw_b_184_10, fw_h184_0, fw_h184_2, fw_h184_1, fw_b_70_0, fw_b_70_5, fw_b_70_23, fw_b_70_16, fw_b_70_20, fw_b_70_31, fw_b_70_39, fw_b_70_42, fw_b_70_50, fw_b_70_62, fw_b_70_70, fw_b_70_79, fw_c9_70, r1, ↓if_pos, ↓if_neg, if_neg, if_pos, fw_bs, fw_cn_0, fw_cn_1, fw_cn_2, fw_cn_3, fw_cn_4, fw_cn_5, Nat.reduceAdd, fw_w_id, fw_wl_id, fw_r_k, fw_r_j, fw_r_s, fw_r_x, if_true, if_false]
      · simp (disch := first | assumption | first | omega | assumption | (simp (disch := omega) only [fw_w_id, fw_wl_id, fw_r_k, fw_r_j, fw_r_s]; omega) | (simp only [fw_ptr_1_8, fw_ptr_2_5, fw_ptr_2_6, fw_ptr_2_7, fw_ptr_2_8, fw_ptr_2_9, fw_ptr_8_2, fw_ptr_8_3, fw_ptr_11_2, fw_ptr_11_3, fw_ptr_11_4, fw_ptr_11_5, fw_ptr_11_6, fw_ptr_17_8, fw_ptr_18_2, fw_ptr_18_3, fw_ptr_25_1, fw_ptr_27_2, fw_ptr_28_1, fw_ptr_32_0, fw_ptr_32_1, fw_ptr_32_3, fw_ptr_32_7, fw_ptr_32_8, fw_ptr_32_9, fw_ptr_32_10, fw_ptr_32_15, fw_ptr_32_16, fw_ptr_32_17, fw_ptr_32_18, fw_ptr_32_19, fw_ptr_32_25, fw_ptr_32_29, fw_ptr_3, fw_ptr_4, fw_ptr_5, fw_ptr_6, fw_ptr_7, fw_ptr_9, fw_ptr_10, fw_ptr_13, fw_ptr_15, fw_ptr_16, fw_ptr_19, fw_ptr_20, fw_ptr_21, fw_ptr_22, fw_ptr_23, fw_ptr_24, fw_ptr_26, fw_ptr_29, fw_ptr_30, fw_ptr_31, fw_ptr_33, fw_ptr_34, fw_ptr_35, fw_ptr_36, fw_ptr_37, fw_ptr_38, fw_ptr_39, fw_ptr_40, fw_ptr_41, fw_ptr_42, fw_ptr_43, fw_ptr_44, fw_ptr_45, fw_ptr_46, fw_ptr_47, fw_ptr_48, fw_ptr_49, fw_ptr_50, fw_ptr_51, fw_ptr_52, fw_ptr_53, fw_ptr_54, fw_ptr_55, fw_ptr_12, fw_ptr_x, fw_ptr_hi, fw_ptr_b3, fw_ptr_b1, fw_ptr_b2, fw_ptr_b2_]; assumption)) only [fw_b_130_0, fw_b_130_11, fw_b_130_14, fw_b_130_21, fw_b_130_28, fw_b_130_33, fw_b_130_37, fw_b_130_61, fw_b_130_66, fw_b_130_76, fw_b_130_86, fw_b_130_96, fw_b_130_64, fw_b_130_41, fw_b_130_54, fw_b_130_50, fw_b_130_24, m1, m2, g1, w2, ↓if_pos, ↓if_neg, if_neg, if_pos, fw_bs, fw_cn_0, fw_cn_1, fw_cn_2, fw_cn_3, fw_cn_4, fw_cn_5, Nat.reduceAdd, fw_w_id, fw_wl_id, fw_r_k, fw_r_j, fw_r_s, fw_r_x, if_true, if_false]
  · have m1 := fs_isIn_f (m := fw_ex σ) c1
    refine fg_OK_err (k := 1) (b := 0) h (by decide) ?_ ?_
    · by_cases c2 : x < 1
      · simp (disch := first | assumption | first | omega | assumption | (simp (disch := omega) only [fw_w_id, fw_wl_id, fw_r_k, fw_r_j, fw_r_s]; omega) | (simp only [fw_ptr_1_8, fw_ptr_2_5, fw_ptr_2_6, fw_ptr_2_7, fw_ptr_2_8, fw_ptr_2_9, fw_ptr_8_2, fw_ptr_8_3, fw_ptr_11_2, fw_ptr_11_3, fw_ptr_11_4, fw_ptr_11_5, fw_ptr_11_6, fw_ptr_17_8, fw_ptr_18_2, fw_ptr_18_3, fw_ptr_25_1, fw_ptr_27_2, fw_ptr_28_1, fw_ptr_32_0, fw_ptr_32_1, fw_ptr_32_3, fw_ptr_32_7, fw_ptr_32_8, fw_ptr_32_9, fw_ptr_32_10, fw_ptr_32_15, fw_ptr_32_16, fw_ptr_32_17, fw_ptr_32_18, fw_ptr_32_19, fw_ptr_32_25, fw_ptr_32_29, fw_ptr_3, fw_ptr_4, fw_ptr_5, fw_ptr_6, fw_ptr_7, fw_ptr_9, fw_ptr_10, fw_ptr_13, fw_ptr_15, fw_ptr_16, fw_ptr_19, fw_ptr_20, fw_ptr_21, fw_ptr_22, fw_ptr_23, fw_ptr_24, fw_ptr_26, fw_ptr_29, fw_ptr_30, fw_ptr_31, fw_ptr_33, fw_ptr_34, fw_ptr_35, fw_ptr_36, fw_ptr_37, fw_ptr_38, fw_ptr_39, fw_ptr_40, fw_ptr_41, fw_ptr_42, fw_ptr_43, fw_ptr_44, fw_ptr_45, fw_ptr_46, fw_ptr_47, fw_ptr_48, fw_ptr_49, fw_ptr_50, fw_ptr_51, fw_ptr_52, fw_ptr_53, fw_ptr_54, fw_ptr_55, fw_ptr_12, fw_ptr_x, fw_ptr_hi, fw_ptr_b3, fw_ptr_b1, fw_ptr_b2, fw_ptr_b2_]; assumption)) only [fw_b_184_0, fw_b_184_21, fw_b_184_17, fw_b_184_13, fw_b_184_8, fw_b_184_10, fw_h184_0, fw_h184_2, fw_h184_1, fw_b_70_0, fw_b_70_5, fw_b_70_23, fw_b_70_16, fw_b_70_20, fw_b_70_31, fw_b_70_39, fw_b_70_42, fw_b_70_50, fw_b_70_62, fw_b_70_70, fw_b_70_79, fw_c9_70, ↓if_pos, ↓if_neg, if_neg, if_pos, fw_bs, fw_cn_0, fw_cn_1, fw_cn_2, fw_cn_3, fw_cn_4, fw_cn_5, Nat.reduceAdd, fw_w_id, fw_wl_id, fw_r_k, fw_r_j, fw_r_s, fw_r_x, if_true, if_false]
      · simp (disch := first | assumption | first | omega | assumption | (simp (disch := omega) only [fw_w_id, fw_wl_id, fw_r_k, fw_r_j, fw_r_s]; omega) | (simp only [fw_ptr_1_8, fw_ptr_2_5, fw_ptr_2_6, fw_ptr_2_7, fw_ptr_2_8, fw_ptr_2_9, fw_ptr_8_2, fw_ptr_8_3, fw_ptr_11_2, fw_ptr_11_3, fw_ptr_11_4, fw_ptr_11_5, fw_ptr_11_6, fw_ptr_17_8, fw_ptr_18_2, fw_ptr_18_3, fw_ptr_25_1, fw_ptr_27_2, fw_ptr_28_1, fw_ptr_32_0, fw_ptr_32_1, fw_ptr_32_3, fw_ptr_32_7, fw_ptr_32_8, fw_ptr_32_9, fw_ptr_32_10, fw_ptr_32_15, fw_ptr_32_16, fw_ptr_32_17, fw_ptr_32_18, fw_ptr_32_19, fw_ptr_32_25, fw_ptr_32_29, fw_ptr_3, fw_ptr_4, fw_ptr_5, fw_ptr_6, fw_ptr_7, fw_ptr_9, fw_ptr_10, fw_ptr_13, fw_ptr_15, fw_ptr_16, fw_ptr_19, fw_ptr_20, fw_ptr_21, fw_ptr_22, fw_ptr_23, fw_ptr_24, fw_ptr_26, fw_ptr_29, fw_ptr_30, fw_ptr_31, fw_ptr_33, fw_ptr_34, fw_ptr_35, fw_ptr_36, fw_ptr_37, fw_ptr_38, fw_ptr_39, fw_ptr_40, fw_ptr_41, fw_ptr_42, fw_ptr_43, fw_ptr_44, fw_ptr_45, fw_ptr_46, fw_ptr_47, fw_ptr_48, fw_ptr_49, fw_ptr_50, fw_ptr_51, fw_ptr_52, fw_ptr_53, fw_ptr_54, fw_ptr_55, fw_ptr_12, fw_ptr_x, fw_ptr_hi, fw_ptr_b3, fw_ptr_b1, fw_ptr_b2, fw_ptr_b2_]; assumption)) only [fw_b_184_0, fw_b_184_21, fw_b_184_17, fw_b_184_13, fw_b_184_8, fw_b_184_10, fw_h184_0, fw_h184_2, fw_h184_1, fw_b_70_0, fw_b_70_5, fw_b_70_23, fw_b_70_16, fw_b_70_20, fw_b_70_31, fw_b_70_39, fw_b_70_42, fw_b_70_50, fw_b_70_62, fw_b_70_70, fw_b_70_79, fw_c9_70, ↓if_pos, ↓if_neg, if_neg, if_pos, fw_bs, fw_cn_0, fw_cn_1, fw_cn_2, fw_cn_3, fw_cn_4, fw_cn_5, Nat.reduceAdd, fw_w_id, fw_wl_id, fw_r_k, fw_r_j, fw_r_s, fw_r_x, if_true, if_false]
    · simp (disch := first | assumption | first | omega | assumption | (simp (disch := omega) only [fw_w_id, fw_wl_id, fw_r_k, fw_r_j, fw_r_s]; omega) | (simp only [fw_ptr_1_8, fw_ptr_2_5, fw_ptr_2_6, fw_ptr_2_7, fw_ptr_2_8, fw_ptr_2_9, fw_ptr_8_2, fw_ptr_8_3, fw_ptr_11_2, fw_ptr_11_3, fw_ptr_11_4, fw_ptr_11_5, fw_ptr_11_6, fw_ptr_17_8, fw_ptr_18_2, fw_ptr_18_3, fw_ptr_25_1, fw_ptr_27_2, fw_ptr_28_1, fw_ptr_32_0, fw_ptr_32_1, fw_ptr_32_3, fw_ptr_32_7, fw_ptr_32_8, fw_ptr_32_9, fw_ptr_32_10, fw_ptr_32_15, fw_ptr_32_16, fw_ptr_32_17, fw_ptr_32_18, fw_ptr_32_19, fw_ptr_32_25, fw_ptr_32_29, fw_ptr_3, fw_ptr_4, fw_ptr_5, fw_ptr_6, fw_ptr_7, fw_ptr_9, fw_ptr_10, fw_ptr_13, fw_ptr_15, fw_ptr_16, fw_ptr_19, fw_ptr_20, fw_ptr_21, fw_ptr_22, fw_ptr_23, fw_ptr_24, fw_ptr_26, fw_ptr_29, fw_ptr_30, fw_ptr_31, fw_ptr_33, fw_ptr_34, fw_ptr_35, fw_ptr_36, fw_ptr_37, fw_ptr_38, fw_ptr_39, fw_ptr_40, fw_ptr_41, fw_ptr_42, fw_ptr_43, fw_ptr_44, fw_ptr_45, fw_ptr_46, fw_ptr_47, fw_ptr_48, fw_ptr_49, fw_ptr_50, fw_ptr_51, fw_ptr_52, fw_ptr_53, fw_ptr_54, fw_ptr_55, fw_ptr_12, fw_ptr_x, fw_ptr_hi, fw_ptr_b3, fw_ptr_b1, fw_ptr_b2, fw_ptr_b2_]; assumption)) only [fw_b_130_0, fw_b_130_11, fw_b_130_14, fw_b_130_21, fw_b_130_28, fw_b_130_33, fw_b_130_37, fw_b_130_61, fw_b_130_66, fw_b_130_76, fw_b_130_86, fw_b_130_96, fw_b_130_64, fw_b_130_41, fw_b_130_54, fw_b_130_50, fw_b_130_24, m1, g1, w2, ↓if_pos, ↓if_neg, if_neg, if_pos, fw_bs, fw_cn_0, fw_cn_1, fw_cn_2, fw_cn_3, fw_cn_4, fw_cn_5, Nat.reduceAdd, fw_w_id, fw_wl_id, fw_r_k, fw_r_j, fw_r_s, fw_r_x, if_true, if_false]
