/-! the belt -/
def fg_bok (σ : fw_M) (b : Int) : Prop := 4 ≤ fw_r σ b 2 ∧ fw_r σ b 2 ≤ 20 ∧ 0 ≤ fw_r σ b 3 ∧ fw_r σ b 3 < fw_r σ b 2
def fg_slot (σ : fw_M) (b p : Int) : Int := if fw_r σ b 2 ≤ fw_r σ b 3 + p then fw_r σ b 3 + p - fw_r σ b 2 else fw_r σ b 3 + p
theorem fg_slot_in {σ : fw_M} {b p : Int} (h : fg_bok σ b) (h0 : 0 ≤ p) (h1 : p < fw_r σ b 2) : 0 ≤ fg_slot σ b p ∧ fg_slot σ b p < fw_r σ b 2 := by
  unfold fg_bok at h; unfold fg_slot; split <;> omega
theorem fs_has_t {σ : fw_M} {b p : Int} (hb : b = 8 ∨ b = 18) (h0 : 0 ≤ p) (h1 : p < fw_r σ b 2) : fw_E 4 0 [(2, b), (0, p)] [] σ = some ((0, 1), σ) := by
  simp (disch := first | omega | assumption) only [fw_b_4_0, fw_b_4_4, fw_b_4_16, fw_b_4_12, if_neg, if_pos]
theorem fs_has_f {σ : fw_M} {b p : Int} (hb : b = 8 ∨ b = 18) (h : ¬(0 ≤ p ∧ p < fw_r σ b 2)) : fw_E 4 0 [(2, b), (0, p)] [] σ = some ((0, 0), σ) := by
  by_cases h0 : p < 0
  · simp (disch := first | omega | assumption) only [fw_b_4_0, fw_b_4_4, fw_b_4_16, fw_b_4_12, if_neg, if_pos]
  · simp (disch := first | omega | assumption) only [fw_b_4_0, fw_b_4_4, fw_b_4_16, fw_b_4_12, if_neg, if_pos]
theorem fs_slot {σ : fw_M} {b p : Int} {a2 : fw_V} (hb : b = 8 ∨ b = 18) (hp : fw_ptr σ) (h : fg_bok σ b) (h0 : 0 ≤ p) (h1 : p < fw_r σ b 2) : fw_E 5 0 [(2, b), (0, p), a2] [] σ = some ((0, fg_slot σ b p), σ) := by
  have hs := fg_slot_in h h0 h1
  unfold fg_bok at h
  unfold fg_slot at hs ⊢
  by_cases hc : fw_r σ b 2 ≤ fw_r σ b 3 + p
  · rw [if_pos hc] at hs ⊢
    simp (disch := first | omega | assumption) only [fw_b_5_0, fw_b_5_5, fw_b_5_10, fw_b_5_25, fw_b_5_42, fw_b_5_38, fw_b_5_32, fw_b_5_8, if_neg, if_pos, fs_has_t, fw_bs, fw_cn_0, Nat.reduceAdd, fw_w_id]
  · rw [if_neg hc] at hs ⊢
    simp (disch := first | omega | assumption) only [fw_b_5_0, fw_b_5_5, fw_b_5_10, fw_b_5_25, fw_b_5_42, fw_b_5_38, fw_b_5_32, fw_b_5_8, if_neg, if_pos, fs_has_t, fw_bs, fw_cn_0, Nat.reduceAdd, fw_w_id]
def fg_tr (σ : fw_M) (b p : Int) : Int := fw_r σ (b + 1) (fg_slot σ b p)
def fg_rd (σ : fw_M) (b p : Int) : Int := fw_r σ (b + 2) (fg_slot σ b p)
theorem fs_slot_f {σ : fw_M} {b p : Int} {a2 : fw_V} (hb : b = 8 ∨ b = 18) (h : ¬(0 ≤ p ∧ p < fw_r σ b 2)) : fw_E 5 0 [(2, b), (0, p), a2] [] σ = some ((0, -1), σ) := by
  simp (disch := first | omega | assumption) only [fw_b_5_0, fw_b_5_5, fw_b_5_10, fw_b_5_25, fw_b_5_42, fw_b_5_38, fw_b_5_32, fw_b_5_8, if_neg, if_pos, fs_has_f, fw_bs, fw_cn_0, Nat.reduceAdd, fw_w_id, if_true]
theorem fs_parcelAt {σ : fw_M} {b p : Int} {a2 : fw_V} (hb : b = 8 ∨ b = 18) (hp : fw_ptr σ) (h : fg_bok σ b) (h0 : 0 ≤ p) (h1 : p < fw_r σ b 2) : fw_E 7 0 [(2, b), (0, p), a2] [] σ = some ((0, fg_tr σ b p), σ) := by
  have hs := fg_slot_in h h0 h1
  have hN := h.2.1
  unfold fg_tr
  simp (disch := first | omega | assumption) only [fw_b_7_0, fw_b_7_5, fw_b_7_10, fw_b_7_19, if_neg, if_pos, fs_slot, fw_bs, fw_cn_0, Nat.reduceAdd]
theorem fs_parcelAt_f {σ : fw_M} {b p : Int} {a2 : fw_V} (hb : b = 8 ∨ b = 18) (h : ¬(0 ≤ p ∧ p < fw_r σ b 2)) : fw_E 7 0 [(2, b), (0, p), a2] [] σ = some ((0, -1), σ) := by
  simp (disch := first | omega | assumption) only [fw_b_7_0, fw_b_7_5, fw_b_7_10, fw_b_7_19, if_neg, if_pos, fs_slot_f, fw_bs, fw_cn_0, Nat.reduceAdd]
theorem fs_roundsAt {σ : fw_M} {b p : Int} {a2 : fw_V} (hb : b = 8 ∨ b = 18) (hp : fw_ptr σ) (h : fg_bok σ b) (h0 : 0 ≤ p) (h1 : p < fw_r σ b 2) : fw_E 8 0 [(2, b), (0, p), a2] [] σ = some ((0, fg_rd σ b p), σ) := by
  have hs := fg_slot_in h h0 h1
  have hN := h.2.1
  unfold fg_rd
  simp (disch := first | omega | assumption) only [fw_b_8_0, fw_b_8_5, fw_b_8_10, fw_b_8_19, if_neg, if_pos, fs_slot, fw_bs, fw_cn_0, Nat.reduceAdd]
theorem fs_roundsAt_f {σ : fw_M} {b p : Int} {a2 : fw_V} (hb : b = 8 ∨ b = 18) (h : ¬(0 ≤ p ∧ p < fw_r σ b 2)) : fw_E 8 0 [(2, b), (0, p), a2] [] σ = some ((0, 0), σ) := by
  simp (disch := first | omega | assumption) only [fw_b_8_0, fw_b_8_5, fw_b_8_10, fw_b_8_19, if_neg, if_pos, fs_slot_f, fw_bs, fw_cn_0, Nat.reduceAdd]
/-- a parcel put on the tray at p, its rounds 0 -/
def fg_put (σ : fw_M) (b p v : Int) : fw_M := fw_u (fw_u σ (b + 1) (fg_slot σ b p) v) (b + 2) (fg_slot σ b p) 0
theorem fs_put {σ : fw_M} {b p v : Int} {a3 : fw_V} (hb : b = 8 ∨ b = 18) (hp : fw_ptr σ) (h : fg_bok σ b) (h0 : 0 ≤ p) (h1 : p < fw_r σ b 2) : fw_E 10 0 [(2, b), (0, p), (0, v), a3] [] σ = some ((5, 0), fg_put σ b p v) := by
  have hs := fg_slot_in h h0 h1
  have hN := h.2.1
  unfold fg_put
  have hp2 : fw_ptr (fw_u σ (b + 1) (fg_slot σ b p) v) := by rw [fw_ptr_b1 σ hb]; exact hp
  simp (disch := first | omega | assumption) only [fw_b_10_0, fw_b_10_5, fw_b_10_10, fw_b_10_17, fw_b_10_24, if_neg, if_pos, fs_slot, fw_bs, fw_cn_0, Nat.reduceAdd]
theorem fs_takeFrom {σ : fw_M} {b p : Int} (hb : b = 8 ∨ b = 18) (hp : fw_ptr σ) (h : fg_bok σ b) (h0 : 0 ≤ p) (h1 : p < fw_r σ b 2) : fw_E 11 0 [(2, b), (0, p)] [] σ = some ((5, 0), fg_put σ b p (-1)) := by
  simp (disch := first | omega | assumption) only [fw_b_11_0, fw_b_11_6, if_neg, if_pos, fs_put, fw_bs, fw_cn_5, Nat.reduceAdd]
/-- the belt moved by one -/
def fg_or (σ : fw_M) (b : Int) : Int := if 0 < fw_r σ b 3 then fw_r σ b 3 - 1 else fw_r σ b 2 - 1
def fg_mv (σ : fw_M) (b : Int) : fw_M := fw_u (fw_u σ b 3 (fg_or σ b)) (b + 2) (fg_or σ b) (if fw_r σ (b + 1) (fg_or σ b) = -1 then fw_r σ (b + 2) (fg_or σ b) else fw_r σ (b + 2) (fg_or σ b) + 1)
theorem fs_move {σ : fw_M} {b : Int} {a1 : fw_V} (hb : b = 8 ∨ b = 18) (hp : fw_ptr σ) (h : fg_bok σ b) (hr : ∀ j, 0 ≤ j → j < fw_r σ b 2 → 0 ≤ fw_r σ (b + 2) j ∧ fw_r σ (b + 2) j ≤ 2000000000) : fw_E 6 0 [(2, b), a1] [] σ = some ((5, 0), fg_mv σ b) := by
  have ho : 0 ≤ fg_or σ b ∧ fg_or σ b < fw_r σ b 2 := by unfold fg_bok at h; unfold fg_or; split <;> omega
  have hp1 : fw_ptr (fw_u σ b 3 (fg_or σ b)) := by rw [fw_ptr_b3 σ hb]; exact hp
  have e2 : fw_r (fw_u σ b 3 (fg_or σ b)) b 2 = fw_r σ b 2 := fw_r_j _ (by omega)
  have e3 : fw_r (fw_u σ b 3 (fg_or σ b)) b 3 = fg_or σ b := fw_r_s _ _ _ _
  have hb1 : fg_bok (fw_u σ b 3 (fg_or σ b)) b := by unfold fg_bok at h ⊢; rw [e2, e3]; omega
  have hsl : fg_slot (fw_u σ b 3 (fg_or σ b)) b 0 = fg_or σ b := by unfold fg_slot; rw [e2, e3, if_neg (by omega)]; omega
  have f1 : ∀ j, fw_r (fw_u σ b 3 (fg_or σ b)) (b + 1) j = fw_r σ (b + 1) j := fun j => fw_r_k _ (by omega)
  have f2 : ∀ j, fw_r (fw_u σ b 3 (fg_or σ b)) (b + 2) j = fw_r σ (b + 2) j := fun j => fw_r_k _ (by omega)
  have hN := h.2.1
  have hr1 := hr _ ho.1 ho.2
  have e26 : fw_E 6 0 [(2, b), a1] [] σ = fw_E 6 26 [(2, b), a1] [] (fw_u σ b 3 (fg_or σ b)) := by
    unfold fg_bok at h
    unfold fg_or
    by_cases hc : 0 < fw_r σ b 3
    · simp (disch := first | omega | assumption) only [fw_b_6_0, fw_b_6_8, if_pos, if_neg, fw_w_id]
    · simp (disch := first | omega | assumption) only [fw_b_6_0, fw_b_6_17, if_pos, if_neg, fw_w_id]
  have hs0 : fw_E 5 0 [(2, b), (0, 0), (8, 0)] [] (fw_u σ b 3 (fg_or σ b)) = some ((0, fg_or σ b), fw_u σ b 3 (fg_or σ b)) := by
    rw [fs_slot hb hp1 hb1 (by omega) (by rw [e2]; omega), hsl]
  rw [e26]
  unfold fg_mv
  by_cases hc : fw_r σ (b + 1) (fg_or σ b) = -1
  · rw [if_pos hc, ← f2, fw_u_self]
    simp (disch := first | omega | assumption) only [fw_b_6_26, hs0, fw_bs, fw_cn_0, Nat.reduceAdd, fw_b_6_31, fw_b_6_36, fw_b_6_46, fw_b_6_56, if_pos, if_neg, f1]
  · rw [if_neg hc]
    simp (disch := first | omega | assumption) only [fw_b_6_26, hs0, fw_bs, fw_cn_0, Nat.reduceAdd, fw_b_6_31, fw_b_6_36, fw_b_6_46, fw_b_6_56, if_pos, if_neg, f1, f2, fw_w_id]
/-! the belt's own functions through its changes -/
theorem fg_slot_inj {σ : fw_M} {b p q : Int} (h : fg_bok σ b) (h0 : 0 ≤ p) (h1 : p < fw_r σ b 2) (h2 : 0 ≤ q) (h3 : q < fw_r σ b 2) (e : fg_slot σ b p = fg_slot σ b q) : p = q := by
  unfold fg_bok at h; unfold fg_slot at e; split at e <;> split at e <;> omega
theorem fg_put_N (σ : fw_M) (b p v : Int) (j : Int) : fw_r (fg_put σ b p v) b j = fw_r σ b j := by
  unfold fg_put; rw [fw_r_k _ (by omega), fw_r_k _ (by omega)]
theorem fg_put_o (σ : fw_M) (b p v : Int) {a j : Int} (h1 : a ≠ b + 1) (h2 : a ≠ b + 2) : fw_r (fg_put σ b p v) a j = fw_r σ a j := by
  unfold fg_put; rw [fw_r_k _ h2, fw_r_k _ h1]
theorem fg_put_slot (σ : fw_M) (b p v q : Int) : fg_slot (fg_put σ b p v) b q = fg_slot σ b q := by
  unfold fg_slot; rw [fg_put_N, fg_put_N]
theorem fg_put_ok {σ : fw_M} {b p v : Int} (h : fg_bok σ b) : fg_bok (fg_put σ b p v) b := by
  unfold fg_bok at h ⊢; rw [fg_put_N, fg_put_N]; exact h
theorem fg_put_ptr {σ : fw_M} {b p v : Int} (hb : b = 8 ∨ b = 18) (h : fw_ptr σ) : fw_ptr (fg_put σ b p v) := by
  unfold fg_put; rw [fw_ptr_b2 _ hb, fw_ptr_b1 _ hb]; exact h
theorem fg_put_tr {σ : fw_M} {b p v q : Int} (h : fg_bok σ b) (h0 : 0 ≤ p) (h1 : p < fw_r σ b 2) (h2 : 0 ≤ q) (h3 : q < fw_r σ b 2) : fg_tr (fg_put σ b p v) b q = if q = p then v else fg_tr σ b q := by
  unfold fg_tr; rw [fg_put_slot]; unfold fg_put
  rw [fw_r_k _ (by omega)]
  by_cases hq : q = p
  · subst hq; rw [if_pos rfl, fw_r_s]
  · rw [if_neg hq, fw_r_j _ (fun e => hq (fg_slot_inj h h2 h3 h0 h1 e))]
theorem fg_put_rd {σ : fw_M} {b p v q : Int} (h : fg_bok σ b) (h0 : 0 ≤ p) (h1 : p < fw_r σ b 2) (h2 : 0 ≤ q) (h3 : q < fw_r σ b 2) : fg_rd (fg_put σ b p v) b q = if q = p then 0 else fg_rd σ b q := by
  unfold fg_rd; rw [fg_put_slot]; unfold fg_put
  by_cases hq : q = p
  · subst hq; rw [if_pos rfl, fw_r_s]
  · rw [if_neg hq, fw_r_j _ (fun e => hq (fg_slot_inj h h2 h3 h0 h1 e)), fw_r_k _ (by omega)]
theorem fg_or_in {σ : fw_M} {b : Int} (h : fg_bok σ b) : 0 ≤ fg_or σ b ∧ fg_or σ b < fw_r σ b 2 := by
  unfold fg_bok at h; unfold fg_or; split <;> omega
theorem fg_mv_2 (σ : fw_M) (b : Int) : fw_r (fg_mv σ b) b 2 = fw_r σ b 2 := by
  unfold fg_mv; rw [fw_r_k _ (by omega), fw_r_j _ (by omega)]
theorem fg_mv_3 (σ : fw_M) (b : Int) : fw_r (fg_mv σ b) b 3 = fg_or σ b := by
  unfold fg_mv; rw [fw_r_k _ (by omega), fw_r_s]
theorem fg_mv_o (σ : fw_M) (b : Int) {a j : Int} (h1 : a ≠ b) (h2 : a ≠ b + 2) : fw_r (fg_mv σ b) a j = fw_r σ a j := by
  unfold fg_mv; rw [fw_r_k _ h2, fw_r_k _ h1]
theorem fg_mv_ok {σ : fw_M} {b : Int} (h : fg_bok σ b) : fg_bok (fg_mv σ b) b := by
  have := fg_or_in h
  unfold fg_bok at h ⊢; rw [fg_mv_2, fg_mv_3]; omega
theorem fg_mv_ptr {σ : fw_M} {b : Int} (hb : b = 8 ∨ b = 18) (h : fw_ptr σ) : fw_ptr (fg_mv σ b) := by
  unfold fg_mv; rw [fw_ptr_b2 _ hb, fw_ptr_b3 _ hb]; exact h
/-- which position a position's parcel comes from -/
def fg_bk (N p : Int) : Int := if p = 0 then N - 1 else p - 1
theorem fg_mv_slot {σ : fw_M} {b q : Int} (h : fg_bok σ b) (h2 : 0 ≤ q) (h3 : q < fw_r σ b 2) : fg_slot (fg_mv σ b) b q = fg_slot σ b (fg_bk (fw_r σ b 2) q) := by
  unfold fg_slot fg_bk; rw [fg_mv_2, fg_mv_3]
  unfold fg_bok at h; unfold fg_or
  split <;> split <;> split <;> split <;> omega
theorem fg_mv_tr {σ : fw_M} {b q : Int} (h : fg_bok σ b) (h2 : 0 ≤ q) (h3 : q < fw_r σ b 2) : fg_tr (fg_mv σ b) b q = fg_tr σ b (fg_bk (fw_r σ b 2) q) := by
  unfold fg_tr; rw [fg_mv_slot h h2 h3]
  unfold fg_mv; rw [fw_r_k _ (by omega), fw_r_k _ (by omega)]
theorem fg_or_slot {σ : fw_M} {b : Int} (h : fg_bok σ b) : fg_or σ b = fg_slot σ b (fw_r σ b 2 - 1) := by
  unfold fg_slot fg_or; unfold fg_bok at h; split <;> split <;> omega
theorem fg_mv_rd {σ : fw_M} {b q : Int} (h : fg_bok σ b) (h2 : 0 ≤ q) (h3 : q < fw_r σ b 2) : fg_rd (fg_mv σ b) b q = if q = 0 ∧ fg_tr σ b (fw_r σ b 2 - 1) ≠ -1 then fg_rd σ b (fw_r σ b 2 - 1) + 1 else fg_rd σ b (fg_bk (fw_r σ b 2) q) := by
  unfold fg_rd; rw [fg_mv_slot h h2 h3]
  have hN := h.1
  have ho := fg_or_slot h
  unfold fg_tr
  rw [← ho]
  unfold fg_mv
  by_cases hq : q = 0
  · subst hq
    have e : fg_bk (fw_r σ b 2) 0 = fw_r σ b 2 - 1 := if_pos rfl
    rw [e, ← ho, fw_r_s]
    by_cases hc : fw_r σ (b + 1) (fg_or σ b) = -1
    · rw [if_pos hc, if_neg (fun h : 0 = 0 ∧ fw_r σ (b + 1) (fg_or σ b) ≠ -1 => h.2 hc)]
    · rw [if_neg hc, if_pos ⟨rfl, hc⟩]
  · have e : fg_bk (fw_r σ b 2) q = q - 1 := if_neg hq
    have e3 : ¬(q = 0 ∧ fw_r σ (b + 1) (fg_or σ b) ≠ -1) := fun h => hq h.1
    rw [if_neg e3, e, fw_r_j, fw_r_k _ (by omega)]
    intro e2
    rw [ho] at e2
    have := fg_slot_inj h (by omega) (by omega) (by omega) (by omega) e2
    omega
