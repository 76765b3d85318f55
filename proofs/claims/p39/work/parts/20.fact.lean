/-! facts for the pieces of methods -/
def fw_psT : List (Int × Int × Int) := [(1, 0, 2), (1, 1, 8), (1, 2, 11), (1, 3, 14), (1, 4, 17), (1, 5, 25), (1, 6, 27), (1, 7, 31), (2, 0, 3), (2, 1, 4), (2, 2, 5), (2, 3, 6), (2, 4, 7), (8, 0, 9), (8, 1, 10), (11, 0, 12), (11, 1, 13), (14, 0, 11), (14, 1, 2), (14, 2, 15), (14, 3, 16), (17, 0, 11), (17, 1, 2), (17, 2, 8), (17, 3, 18), (17, 4, 21), (17, 5, 22), (17, 6, 23), (17, 7, 24), (18, 0, 19), (18, 1, 20), (25, 0, 26), (27, 0, 28), (27, 1, 30), (28, 0, 29)]
def fw_ptr (σ : fw_M) : Prop := ∀ q ∈ fw_psT, fw_r σ q.1 q.2.1 = q.2.2
def fl_psT : List (Int × Int × Int) := [(32, 2, 33), (32, 3, 34), (32, 4, 35), (32, 6, 36), (32, 7, 37), (32, 8, 44), (32, 9, 45), (32, 12, 46), (32, 13, 47), (32, 14, 48), (32, 15, 49), (32, 16, 50), (37, 0, 38), (37, 1, 39), (37, 2, 40), (37, 3, 41), (37, 4, 42), (37, 5, 43)]
def fl_ptr (σ : fw_M) : Prop := ∀ q ∈ fl_psT, fw_r σ q.1 q.2.1 = q.2.2
theorem fl_p_32_2 {σ : fw_M} (h : fl_ptr σ) : fw_r σ 32 ((2 : Nat) : Int) = 33 := h (32, 2, 33) (by decide)
theorem fl_p_32_3 {σ : fw_M} (h : fl_ptr σ) : fw_r σ 32 ((3 : Nat) : Int) = 34 := h (32, 3, 34) (by decide)
theorem fl_p_32_4 {σ : fw_M} (h : fl_ptr σ) : fw_r σ 32 ((4 : Nat) : Int) = 35 := h (32, 4, 35) (by decide)
theorem fl_p_32_6 {σ : fw_M} (h : fl_ptr σ) : fw_r σ 32 ((6 : Nat) : Int) = 36 := h (32, 6, 36) (by decide)
theorem fl_p_32_7 {σ : fw_M} (h : fl_ptr σ) : fw_r σ 32 ((7 : Nat) : Int) = 37 := h (32, 7, 37) (by decide)
theorem fl_p_32_8 {σ : fw_M} (h : fl_ptr σ) : fw_r σ 32 ((8 : Nat) : Int) = 44 := h (32, 8, 44) (by decide)
theorem fl_p_32_9 {σ : fw_M} (h : fl_ptr σ) : fw_r σ 32 ((9 : Nat) : Int) = 45 := h (32, 9, 45) (by decide)
theorem fl_p_32_12 {σ : fw_M} (h : fl_ptr σ) : fw_r σ 32 ((12 : Nat) : Int) = 46 := h (32, 12, 46) (by decide)
theorem fl_p_32_13 {σ : fw_M} (h : fl_ptr σ) : fw_r σ 32 ((13 : Nat) : Int) = 47 := h (32, 13, 47) (by decide)
theorem fl_p_32_14 {σ : fw_M} (h : fl_ptr σ) : fw_r σ 32 ((14 : Nat) : Int) = 48 := h (32, 14, 48) (by decide)
theorem fl_p_32_15 {σ : fw_M} (h : fl_ptr σ) : fw_r σ 32 ((15 : Nat) : Int) = 49 := h (32, 15, 49) (by decide)
theorem fl_p_32_16 {σ : fw_M} (h : fl_ptr σ) : fw_r σ 32 ((16 : Nat) : Int) = 50 := h (32, 16, 50) (by decide)
theorem fl_p37 {σ : fw_M} {i : Int} (h : fl_ptr σ) (h0 : 0 ≤ i) (h1 : i < 6) : fw_r σ 37 i = 38 + i := by
  have e : i = 0 ∨ i = 1 ∨ i = 2 ∨ i = 3 ∨ i = 4 ∨ i = 5 := by omega
  rcases e with rfl | rfl | rfl | rfl | rfl | rfl
  · exact h (37, 0, 38) (by decide)
  · exact h (37, 1, 39) (by decide)
  · exact h (37, 2, 40) (by decide)
  · exact h (37, 3, 41) (by decide)
  · exact h (37, 4, 42) (by decide)
  · exact h (37, 5, 43) (by decide)
theorem fl_kd38 {i : Int} (h0 : 0 ≤ i) (h1 : i < 6) : fw_kd (38 + i) = 100 := by
  have e : i = 0 ∨ i = 1 ∨ i = 2 ∨ i = 3 ∨ i = 4 ∨ i = 5 := by omega
  rcases e with rfl | rfl | rfl | rfl | rfl | rfl <;> rfl
theorem fl_ln38 {i : Int} (h0 : 0 ≤ i) (h1 : i < 6) : fw_ln (38 + i) = 30 := by
  have e : i = 0 ∨ i = 1 ∨ i = 2 ∨ i = 3 ∨ i = 4 ∨ i = 5 := by omega
  rcases e with rfl | rfl | rfl | rfl | rfl | rfl <;> rfl
theorem fw_ckv {k o n : Nat} {v : Int} (ho : fw_oc k = o) (h : fw_ck o n = some v) : fw_ck (fw_oc k) n = some v := by rw [ho]; exact h
theorem fw_cl2v {k o n : Nat} {v : Int} (ho : fw_oc k = o) (h : fw_cl2 o n = some v) : fw_cl2 (fw_oc k) n = some v := by rw [ho]; exact h
theorem fw_e_aaload6v {k pc : Nat} {ll st : List fw_V} {σ : fw_M} {i : Int} (hd : fw_dec k pc = some (.aaload, 1)) (hq : fl_ptr σ) (h0 : 0 ≤ i) (h1 : i < 6) : fw_E k pc ll ((0, i) :: (2, 37) :: st) σ = fw_E k (pc + 1) ll ((2, 38 + i) :: st) σ := by
  rw [fw_e_aaload6 hd (show fw_kd 37 = 106 by decide) (show fw_ln 37 = 6 by decide) h0 h1, fl_p37 hq h0 h1]
theorem fw_p_1_0 {σ : fw_M} (h : fw_ptr σ) : fw_r σ 1 ((0 : Nat) : Int) = 2 := h (1, 0, 2) (by decide)
theorem fw_p_1_1 {σ : fw_M} (h : fw_ptr σ) : fw_r σ 1 ((1 : Nat) : Int) = 8 := h (1, 1, 8) (by decide)
theorem fw_p_1_2 {σ : fw_M} (h : fw_ptr σ) : fw_r σ 1 ((2 : Nat) : Int) = 11 := h (1, 2, 11) (by decide)
theorem fw_p_1_3 {σ : fw_M} (h : fw_ptr σ) : fw_r σ 1 ((3 : Nat) : Int) = 14 := h (1, 3, 14) (by decide)
theorem fw_p_1_4 {σ : fw_M} (h : fw_ptr σ) : fw_r σ 1 ((4 : Nat) : Int) = 17 := h (1, 4, 17) (by decide)
theorem fw_p_1_5 {σ : fw_M} (h : fw_ptr σ) : fw_r σ 1 ((5 : Nat) : Int) = 25 := h (1, 5, 25) (by decide)
theorem fw_p_1_6 {σ : fw_M} (h : fw_ptr σ) : fw_r σ 1 ((6 : Nat) : Int) = 27 := h (1, 6, 27) (by decide)
theorem fw_p_1_7 {σ : fw_M} (h : fw_ptr σ) : fw_r σ 1 ((7 : Nat) : Int) = 31 := h (1, 7, 31) (by decide)
theorem fw_p_2_0 {σ : fw_M} (h : fw_ptr σ) : fw_r σ 2 ((0 : Nat) : Int) = 3 := h (2, 0, 3) (by decide)
theorem fw_p_2_1 {σ : fw_M} (h : fw_ptr σ) : fw_r σ 2 ((1 : Nat) : Int) = 4 := h (2, 1, 4) (by decide)
theorem fw_p_2_2 {σ : fw_M} (h : fw_ptr σ) : fw_r σ 2 ((2 : Nat) : Int) = 5 := h (2, 2, 5) (by decide)
theorem fw_p_2_3 {σ : fw_M} (h : fw_ptr σ) : fw_r σ 2 ((3 : Nat) : Int) = 6 := h (2, 3, 6) (by decide)
theorem fw_p_2_4 {σ : fw_M} (h : fw_ptr σ) : fw_r σ 2 ((4 : Nat) : Int) = 7 := h (2, 4, 7) (by decide)
theorem fw_p_8_0 {σ : fw_M} (h : fw_ptr σ) : fw_r σ 8 ((0 : Nat) : Int) = 9 := h (8, 0, 9) (by decide)
theorem fw_p_8_1 {σ : fw_M} (h : fw_ptr σ) : fw_r σ 8 ((1 : Nat) : Int) = 10 := h (8, 1, 10) (by decide)
theorem fw_p_11_0 {σ : fw_M} (h : fw_ptr σ) : fw_r σ 11 ((0 : Nat) : Int) = 12 := h (11, 0, 12) (by decide)
theorem fw_p_11_1 {σ : fw_M} (h : fw_ptr σ) : fw_r σ 11 ((1 : Nat) : Int) = 13 := h (11, 1, 13) (by decide)
theorem fw_p_14_0 {σ : fw_M} (h : fw_ptr σ) : fw_r σ 14 ((0 : Nat) : Int) = 11 := h (14, 0, 11) (by decide)
theorem fw_p_14_1 {σ : fw_M} (h : fw_ptr σ) : fw_r σ 14 ((1 : Nat) : Int) = 2 := h (14, 1, 2) (by decide)
theorem fw_p_14_2 {σ : fw_M} (h : fw_ptr σ) : fw_r σ 14 ((2 : Nat) : Int) = 15 := h (14, 2, 15) (by decide)
theorem fw_p_14_3 {σ : fw_M} (h : fw_ptr σ) : fw_r σ 14 ((3 : Nat) : Int) = 16 := h (14, 3, 16) (by decide)
theorem fw_p_17_0 {σ : fw_M} (h : fw_ptr σ) : fw_r σ 17 ((0 : Nat) : Int) = 11 := h (17, 0, 11) (by decide)
theorem fw_p_17_1 {σ : fw_M} (h : fw_ptr σ) : fw_r σ 17 ((1 : Nat) : Int) = 2 := h (17, 1, 2) (by decide)
theorem fw_p_17_2 {σ : fw_M} (h : fw_ptr σ) : fw_r σ 17 ((2 : Nat) : Int) = 8 := h (17, 2, 8) (by decide)
theorem fw_p_17_3 {σ : fw_M} (h : fw_ptr σ) : fw_r σ 17 ((3 : Nat) : Int) = 18 := h (17, 3, 18) (by decide)
theorem fw_p_17_4 {σ : fw_M} (h : fw_ptr σ) : fw_r σ 17 ((4 : Nat) : Int) = 21 := h (17, 4, 21) (by decide)
theorem fw_p_17_5 {σ : fw_M} (h : fw_ptr σ) : fw_r σ 17 ((5 : Nat) : Int) = 22 := h (17, 5, 22) (by decide)
theorem fw_p_17_6 {σ : fw_M} (h : fw_ptr σ) : fw_r σ 17 ((6 : Nat) : Int) = 23 := h (17, 6, 23) (by decide)
theorem fw_p_17_7 {σ : fw_M} (h : fw_ptr σ) : fw_r σ 17 ((7 : Nat) : Int) = 24 := h (17, 7, 24) (by decide)
theorem fw_p_18_0 {σ : fw_M} (h : fw_ptr σ) : fw_r σ 18 ((0 : Nat) : Int) = 19 := h (18, 0, 19) (by decide)
theorem fw_p_18_1 {σ : fw_M} (h : fw_ptr σ) : fw_r σ 18 ((1 : Nat) : Int) = 20 := h (18, 1, 20) (by decide)
theorem fw_p_25_0 {σ : fw_M} (h : fw_ptr σ) : fw_r σ 25 ((0 : Nat) : Int) = 26 := h (25, 0, 26) (by decide)
theorem fw_p_27_0 {σ : fw_M} (h : fw_ptr σ) : fw_r σ 27 ((0 : Nat) : Int) = 28 := h (27, 0, 28) (by decide)
theorem fw_p_27_1 {σ : fw_M} (h : fw_ptr σ) : fw_r σ 27 ((1 : Nat) : Int) = 30 := h (27, 1, 30) (by decide)
theorem fw_p_28_0 {σ : fw_M} (h : fw_ptr σ) : fw_r σ 28 ((0 : Nat) : Int) = 29 := h (28, 0, 29) (by decide)
def fw_rw (σ : fw_M) (r : Int) : Prop := fw_kd r = 8 ∧ fw_kd (r + 1) = 100 ∧ fw_r σ r ((0 : Nat) : Int) = r + 1
def fw_chw (σ : fw_M) (c : Int) : Prop := fw_kd c = 4 ∧ fw_r σ c ((1 : Nat) : Int) = c + 1
theorem fw_kd_b {b : Int} (h : b = 8 ∨ b = 18) : fw_kd b = 3 := by rcases h with rfl | rfl <;> rfl
theorem fw_kd_b1 {b : Int} (h : b = 8 ∨ b = 18) : fw_kd (b + 1) = 100 := by rcases h with rfl | rfl <;> rfl
theorem fw_kd_b2 {b : Int} (h : b = 8 ∨ b = 18) : fw_kd (b + 2) = 100 := by rcases h with rfl | rfl <;> rfl
theorem fw_ln_b1 {b : Int} (h : b = 8 ∨ b = 18) : fw_ln (b + 1) = 20 := by rcases h with rfl | rfl <;> rfl
theorem fw_ln_b2 {b : Int} (h : b = 8 ∨ b = 18) : fw_ln (b + 2) = 20 := by rcases h with rfl | rfl <;> rfl
theorem fw_p_b1 {σ : fw_M} {b : Int} (h : b = 8 ∨ b = 18) (hp : fw_ptr σ) : fw_r σ b ((0 : Nat) : Int) = b + 1 := by
  rcases h with rfl | rfl
  · exact hp (8, 0, 9) (by decide)
  · exact hp (18, 0, 19) (by decide)
theorem fw_p_b2 {σ : fw_M} {b : Int} (h : b = 8 ∨ b = 18) (hp : fw_ptr σ) : fw_r σ b ((1 : Nat) : Int) = b + 2 := by
  rcases h with rfl | rfl
  · exact hp (8, 1, 10) (by decide)
  · exact hp (18, 1, 20) (by decide)
theorem fw_so_ok {k n m : Nat} {ll : List fw_V} (hm : fw_mL k = m) (h1 : Nat.blt n m = true) (h2 : Nat.beq k 126 = false) : fw_so k ll n = true := by
  unfold fw_so
  have a : n < fw_mL k := by rw [hm]; exact Nat.le_of_ble_eq_true h1
  have b : k ≠ fw_KS := fun h => by rw [h] at h2; cases h2
  simp [a, b]
theorem fw_e_getv {k pc : Nat} {ll st : List fw_V} {σ : fw_M} {a v : Int} {n c j t o : Nat} {kd : Int} (hd : fw_dec k pc = some (.getfield n, 3)) (ho : fw_oc k = o) (hf : fw_fr o n = some (c, j)) (ht : fw_tg (fw_fk c j) = t) (hk : fw_kd a = kd) (hc : kd = (c : Int) + 3) (hv : fw_r σ a (j : Int) = v) : fw_E k pc ll ((2, a) :: st) σ = fw_E k (pc + 3) ll ((t, v) :: st) σ := by
  subst ho; subst hv; exact fw_e_get hd hf ht hk hc
theorem fw_e_putv {k pc : Nat} {ll st : List fw_V} {σ : fw_M} {a v : Int} {n c j t o : Nat} {kd : Int} (hd : fw_dec k pc = some (.putfield n, 3)) (ho : fw_oc k = o) (hf : fw_fr o n = some (c, j)) (ht : fw_tg (fw_fk c j) = t) (hk : fw_kd a = kd) (hc : kd = (c : Int) + 3) (hb : fw_fk c j = 10 → v = 0 ∨ v = 1) (hfin : (fw_CT c j).2.2.2 = true → fw_ki k = 2 ∧ fw_oc k = c) : fw_E k pc ll ((t, v) :: (2, a) :: st) σ = fw_E k (pc + 3) ll st (fw_u σ a (j : Int) v) := by
  subst ho; exact fw_e_put hd hf ht.symm hk hc hb hfin
theorem fw_e_newv {k pc : Nat} {ll st : List fw_V} {σ : fw_M} {n c o nf : Nat} {kd : Int} (hd : fw_dec k pc = some (.new n, 3)) (ho : fw_oc k = o) (hc : fw_cr o n = some c) (hk : fw_kd (fw_r σ (-1) 0) = kd) (hkd : kd = (c : Int) + 3) (hn : fw_nf c = nf) : fw_E k pc ll st σ = fw_E k (pc + 3) ll ((2, fw_r σ (-1) 0) :: st) (fw_nw σ nf) := by
  subst ho; subst hn; exact fw_e_new hd hc (hk.trans hkd)
theorem fw_e_throwv {k pc : Nat} {ll : List fw_V} {σ : fw_M} {n ic x o : Nat} (hd : fw_dec k pc = some (.new n, 3)) (ho : fw_oc k = o) (hc : fw_cr o n = none) (hx : fw_xr n = some (ic, x)) (h8 : o = 8) (hh : fw_hs k = []) (h4r : 4 ≤ fw_rk k) (d1 : fw_dec k (pc + 3) = some (.dup, 1)) (d2 : fw_dec k (pc + 4) = some (.invokespecial ic, 3)) (d3 : fw_dec k (pc + 7) = some (.athrow, 1)) : fw_E k pc ll [] σ = some ((9, (x : Int)), fw_ex σ) := by
  subst ho; exact fw_e_throw hd hc hx h8 hh h4r d1 d2 d3
theorem fw_e_arraylength_l {k pc : Nat} {ll st : List fw_V} {σ : fw_M} {a l kd : Int} (hd : fw_dec k pc = some (.arraylength, 1)) (hk : fw_kd a = kd) (h : 100 ≤ kd) (hl : fw_ln a = l) : fw_E k pc ll ((2, a) :: st) σ = fw_E k (pc + 1) ll ((0, l) :: st) σ := by
  subst hl; exact fw_e_arraylength hd (by rw [hk]; exact h)
theorem fw_e_objv {k pc : Nat} {ll st : List fw_V} {σ : fw_M} {n o : Nat} {x : Int} (hd : fw_dec k pc = some (.invokespecial n, 3)) (ho : fw_oc k = o) (hm : fw_mr o n = some (1002, 0)) (hx : x ≠ 0) (hr : st.length ≤ 4) : fw_E k pc ll ((2, x) :: st) σ = fw_E k (pc + 3) ll st σ := by
  subst ho; exact fw_e_obj hd hm hx hr
theorem fw_e_maxv {k pc : Nat} {ll st : List fw_V} {σ : fw_M} {n o : Nat} {x y : Int} (hd : fw_dec k pc = some (.invokestatic n, 3)) (ho : fw_oc k = o) (hm : fw_mr o n = some (1000, 0)) (hr : st.length ≤ 4) : fw_E k pc ll ((0, y) :: (0, x) :: st) σ = fw_E k (pc + 3) ll ((0, if x < y then y else x) :: st) σ := by
  subst ho; exact fw_e_max hd hm hr
theorem fw_e_minv {k pc : Nat} {ll st : List fw_V} {σ : fw_M} {n o : Nat} {x y : Int} (hd : fw_dec k pc = some (.invokestatic n, 3)) (ho : fw_oc k = o) (hm : fw_mr o n = some (1001, 0)) (hr : st.length ≤ 4) : fw_E k pc ll ((0, y) :: (0, x) :: st) σ = fw_E k (pc + 3) ll ((0, if y < x then y else x) :: st) σ := by
  subst ho; exact fw_e_min hd hm hr
theorem fw_q3 {a b c k : Nat} (hc : fw_rk c = a) (hk : fw_rk k = b) (h1 : Nat.blt a b = true) (h2 : Nat.blt c 137 = true) (h3 : Nat.beq c 0 = false) : fw_rk c < fw_rk k ∧ c < 137 ∧ c ≠ 0 := by
  subst hc; subst hk
  exact ⟨Nat.le_of_ble_eq_true h1, Nat.le_of_ble_eq_true h2, fun h => by subst h; cases h3⟩
theorem fw_e_virv {k pc n cal o rc rk oc m : Nat} {ll st as en : List fw_V} {pt : List Nat} {σ : fw_M} {r kd : Int} (hd : fw_dec k pc = some (.invokevirtual n, 3)) (ho : fw_oc k = o) (hm : fw_mr o n = some (cal, 0)) (hi : fw_ki cal = 0) (hpt : fw_pt cal = pt) (hn : as.length = pt.length) (ht : as.reverse.map Prod.fst = pt) (h1 : fw_rk cal = rc) (h2 : fw_rk k = rk) (h3 : Nat.blt rc rk = true) (h4 : Nat.blt cal 137 = true) (h5 : Nat.beq cal 0 = false) (hoc : fw_oc cal = oc) (hk : fw_kd r = kd) (hkd : kd = (oc : Int) + 3) (hr : st.length ≤ 4) (hmL : fw_mL cal = m) (he : ((2, r) :: as.reverse) ++ List.replicate (m - ((2, r) :: as.reverse).length) (8, 0) = en) : fw_E k pc ll (as ++ (2, r) :: st) σ = (fw_E cal 0 en [] σ).bind (fw_cn k pc ll st) := by
  subst ho; subst hpt; subst hmL; subst hoc
  exact fw_e_virtual hd hm hi hn ht (fw_q3 h1 h2 h3 h4 h5) (hk.trans hkd) hr he
theorem fw_e_spev {k pc n cal e o rc rk oc m : Nat} {ll st as en : List fw_V} {pt : List Nat} {σ : fw_M} {r kd : Int} (hd : fw_dec k pc = some (.invokespecial n, 3)) (ho : fw_oc k = o) (hm : fw_mr o n = some (cal, e)) (hi : fw_ki cal = 2) (hpt : fw_pt cal = pt) (hn : as.length = pt.length) (ht : as.reverse.map Prod.fst = pt) (h1 : fw_rk cal = rc) (h2 : fw_rk k = rk) (h3 : Nat.blt rc rk = true) (h4 : Nat.blt cal 137 = true) (h5 : Nat.beq cal 0 = false) (hoc : fw_oc cal = oc) (hk : fw_kd r = kd) (hkd : kd = (oc : Int) + 3) (hr : st.length ≤ 4) (hmL : fw_mL cal = m) (he : ((2, r) :: as.reverse) ++ List.replicate (m - ((2, r) :: as.reverse).length) (8, 0) = en) : fw_E k pc ll (as ++ (2, r) :: st) σ = (fw_E cal 0 en [] σ).bind (fw_cn k pc ll st) := by
  subst ho; subst hpt; subst hmL; subst hoc
  have hq := fw_q3 h1 h2 h3 h4 h5
  exact fw_e_special hd hm (by omega) hi hn ht hq (hk.trans hkd) hr he
theorem fw_e_stav {k pc n cal e o rc rk ki m : Nat} {ll st as en : List fw_V} {pt : List Nat} {σ : fw_M} (hd : fw_dec k pc = some (.invokestatic n, 3)) (ho : fw_oc k = o) (hm : fw_mr o n = some (cal, e)) (hb : Nat.blt cal 1000 = true) (hi : fw_ki cal = ki) (hki : ki = 1 ∨ ki = 3) (hpt : fw_pt cal = pt) (hn : as.length = pt.length) (ht : as.reverse.map Prod.fst = pt) (h1 : fw_rk cal = rc) (h2 : fw_rk k = rk) (h3 : Nat.blt rc rk = true) (h4 : Nat.blt cal 137 = true) (h5 : Nat.beq cal 0 = false) (hr : st.length ≤ 4) (hmL : fw_mL cal = m) (he : as.reverse ++ List.replicate (m - as.reverse.length) (8, 0) = en) : fw_E k pc ll (as ++ st) σ = (fw_E cal 0 en [] σ).bind (fw_cn k pc ll st) := by
  subst ho; subst hpt; subst hmL; subst hi
  exact fw_e_static hd hm (Nat.le_of_ble_eq_true hb) hki hn ht (fw_q3 h1 h2 h3 h4 h5) hr he
theorem fw_B0 : fw_B 0 = cL_law := rfl
theorem fw_mL0 : fw_mL 0 = 5 := rfl
theorem fw_rt0 : fw_rt 0 = (some .boolean) := rfl
theorem fw_oc0 : fw_oc 0 = 10 := rfl
theorem fw_rk0 : fw_rk 0 = 8 := rfl
theorem fw_ki0 : fw_ki 0 = 4 := rfl
theorem fw_pt0 : fw_pt 0 = [6] := rfl
theorem fw_hs0 : fw_hs 0 = [] := rfl
theorem fw_B1 : fw_B 1 = cX0_init := rfl
theorem fw_mL1 : fw_mL 1 = 1 := rfl
theorem fw_rt1 : fw_rt 1 = none := rfl
theorem fw_oc1 : fw_oc 1 = 0 := rfl
theorem fw_rk1 : fw_rk 1 = 1 := rfl
theorem fw_ki1 : fw_ki 1 = 2 := rfl
theorem fw_pt1 : fw_pt 1 = [] := rfl
theorem fw_hs1 : fw_hs 1 = [] := rfl
theorem fw_B2 : fw_B 2 = cX0_makeEmpty := rfl
theorem fw_mL2 : fw_mL 2 = 3 := rfl
theorem fw_rt2 : fw_rt 2 = none := rfl
theorem fw_oc2 : fw_oc 2 = 0 := rfl
theorem fw_rk2 : fw_rk 2 = 0 := rfl
theorem fw_ki2 : fw_ki 2 = 0 := rfl
theorem fw_pt2 : fw_pt 2 = [0] := rfl
theorem fw_hs2 : fw_hs 2 = [] := rfl
theorem fw_B3 : fw_B 3 = cX0_copyFrom := rfl
theorem fw_mL3 : fw_mL 3 = 3 := rfl
theorem fw_rt3 : fw_rt 3 = none := rfl
theorem fw_oc3 : fw_oc 3 = 0 := rfl
theorem fw_rk3 : fw_rk 3 = 0 := rfl
theorem fw_ki3 : fw_ki 3 = 0 := rfl
theorem fw_pt3 : fw_pt 3 = [2] := rfl
theorem fw_hs3 : fw_hs 3 = [] := rfl
theorem fw_B4 : fw_B 4 = cX0_has := rfl
theorem fw_mL4 : fw_mL 4 = 2 := rfl
theorem fw_rt4 : fw_rt 4 = (some (.boolean)) := rfl
theorem fw_oc4 : fw_oc 4 = 0 := rfl
theorem fw_rk4 : fw_rk 4 = 0 := rfl
theorem fw_ki4 : fw_ki 4 = 0 := rfl
theorem fw_pt4 : fw_pt 4 = [0] := rfl
theorem fw_hs4 : fw_hs 4 = [] := rfl
theorem fw_B5 : fw_B 5 = cX0_slotOf := rfl
theorem fw_mL5 : fw_mL 5 = 3 := rfl
theorem fw_rt5 : fw_rt 5 = (some (.int)) := rfl
theorem fw_oc5 : fw_oc 5 = 0 := rfl
theorem fw_rk5 : fw_rk 5 = 1 := rfl
theorem fw_ki5 : fw_ki 5 = 0 := rfl
theorem fw_pt5 : fw_pt 5 = [0] := rfl
theorem fw_hs5 : fw_hs 5 = [] := rfl
theorem fw_B6 : fw_B 6 = cX0_move := rfl
theorem fw_mL6 : fw_mL 6 = 2 := rfl
theorem fw_rt6 : fw_rt 6 = none := rfl
theorem fw_oc6 : fw_oc 6 = 0 := rfl
theorem fw_rk6 : fw_rk 6 = 2 := rfl
theorem fw_ki6 : fw_ki 6 = 0 := rfl
theorem fw_pt6 : fw_pt 6 = [] := rfl
theorem fw_hs6 : fw_hs 6 = [] := rfl
theorem fw_B7 : fw_B 7 = cX0_parcelAt := rfl
theorem fw_mL7 : fw_mL 7 = 3 := rfl
theorem fw_rt7 : fw_rt 7 = (some (.int)) := rfl
theorem fw_oc7 : fw_oc 7 = 0 := rfl
theorem fw_rk7 : fw_rk 7 = 2 := rfl
theorem fw_ki7 : fw_ki 7 = 0 := rfl
theorem fw_pt7 : fw_pt 7 = [0] := rfl
theorem fw_hs7 : fw_hs 7 = [] := rfl
theorem fw_B8 : fw_B 8 = cX0_roundsAt := rfl
theorem fw_mL8 : fw_mL 8 = 3 := rfl
theorem fw_rt8 : fw_rt 8 = (some (.int)) := rfl
theorem fw_oc8 : fw_oc 8 = 0 := rfl
theorem fw_rk8 : fw_rk 8 = 2 := rfl
theorem fw_ki8 : fw_ki 8 = 0 := rfl
theorem fw_pt8 : fw_pt 8 = [0] := rfl
theorem fw_hs8 : fw_hs 8 = [] := rfl
theorem fw_B9 : fw_B 9 = cX0_positionWith := rfl
theorem fw_mL9 : fw_mL 9 = 3 := rfl
theorem fw_rt9 : fw_rt 9 = (some (.int)) := rfl
theorem fw_oc9 : fw_oc 9 = 0 := rfl
theorem fw_rk9 : fw_rk 9 = 3 := rfl
theorem fw_ki9 : fw_ki 9 = 0 := rfl
theorem fw_pt9 : fw_pt 9 = [0] := rfl
theorem fw_hs9 : fw_hs 9 = [] := rfl
theorem fw_B10 : fw_B 10 = cX0_put := rfl
theorem fw_mL10 : fw_mL 10 = 4 := rfl
theorem fw_rt10 : fw_rt 10 = none := rfl
theorem fw_oc10 : fw_oc 10 = 0 := rfl
theorem fw_rk10 : fw_rk 10 = 2 := rfl
theorem fw_ki10 : fw_ki 10 = 0 := rfl
theorem fw_pt10 : fw_pt 10 = [0, 0] := rfl
theorem fw_hs10 : fw_hs 10 = [] := rfl
theorem fw_B11 : fw_B 11 = cX0_takeFrom := rfl
theorem fw_mL11 : fw_mL 11 = 2 := rfl
theorem fw_rt11 : fw_rt 11 = none := rfl
theorem fw_oc11 : fw_oc 11 = 0 := rfl
theorem fw_rk11 : fw_rk 11 = 3 := rfl
theorem fw_ki11 : fw_ki 11 = 0 := rfl
theorem fw_pt11 : fw_pt 11 = [0] := rfl
theorem fw_hs11 : fw_hs 11 = [] := rfl
theorem fw_B12 : fw_B 12 = cX1_init := rfl
theorem fw_mL12 : fw_mL 12 = 3 := rfl
theorem fw_rt12 : fw_rt 12 = none := rfl
theorem fw_oc12 : fw_oc 12 = 1 := rfl
theorem fw_rk12 : fw_rk 12 = 1 := rfl
theorem fw_ki12 : fw_ki 12 = 2 := rfl
theorem fw_pt12 : fw_pt 12 = [0, 0] := rfl
theorem fw_hs12 : fw_hs 12 = [] := rfl
theorem fw_B13 : fw_B 13 = cX1_drop := rfl
theorem fw_mL13 : fw_mL 13 = 2 := rfl
theorem fw_rt13 : fw_rt 13 = none := rfl
theorem fw_oc13 : fw_oc 13 = 1 := rfl
theorem fw_rk13 : fw_rk 13 = 1 := rfl
theorem fw_ki13 : fw_ki 13 = 0 := rfl
theorem fw_pt13 : fw_pt 13 = [0] := rfl
theorem fw_hs13 : fw_hs 13 = [] := rfl
theorem fw_B14 : fw_B 14 = cX1_clear := rfl
theorem fw_mL14 : fw_mL 14 = 1 := rfl
theorem fw_rt14 : fw_rt 14 = none := rfl
theorem fw_oc14 : fw_oc 14 = 1 := rfl
theorem fw_rk14 : fw_rk 14 = 0 := rfl
theorem fw_ki14 : fw_ki 14 = 0 := rfl
theorem fw_pt14 : fw_pt 14 = [] := rfl
theorem fw_hs14 : fw_hs 14 = [] := rfl
theorem fw_B15 : fw_B 15 = cX1_keptSeal := rfl
theorem fw_mL15 : fw_mL 15 = 1 := rfl
theorem fw_rt15 : fw_rt 15 = (some (.int)) := rfl
theorem fw_oc15 : fw_oc 15 = 1 := rfl
theorem fw_rk15 : fw_rk 15 = 0 := rfl
theorem fw_ki15 : fw_ki 15 = 0 := rfl
theorem fw_pt15 : fw_pt 15 = [] := rfl
theorem fw_hs15 : fw_hs 15 = [] := rfl
theorem fw_B16 : fw_B 16 = cX1_sealOfContent := rfl
theorem fw_mL16 : fw_mL 16 = 1 := rfl
theorem fw_rt16 : fw_rt 16 = (some (.int)) := rfl
theorem fw_oc16 : fw_oc 16 = 1 := rfl
theorem fw_rk16 : fw_rk 16 = 2 := rfl
theorem fw_ki16 : fw_ki 16 = 0 := rfl
theorem fw_pt16 : fw_pt 16 = [] := rfl
theorem fw_hs16 : fw_hs 16 = [] := rfl
theorem fw_B17 : fw_B 17 = cX2_init := rfl
theorem fw_mL17 : fw_mL 17 = 1 := rfl
theorem fw_rt17 : fw_rt 17 = none := rfl
theorem fw_oc17 : fw_oc 17 = 2 := rfl
theorem fw_rk17 : fw_rk 17 = 1 := rfl
theorem fw_ki17 : fw_ki 17 = 2 := rfl
theorem fw_pt17 : fw_pt 17 = [] := rfl
theorem fw_hs17 : fw_hs 17 = [] := rfl
theorem fw_B18 : fw_B 18 = cX2_has := rfl
theorem fw_mL18 : fw_mL 18 = 2 := rfl
theorem fw_rt18 : fw_rt 18 = (some (.boolean)) := rfl
theorem fw_oc18 : fw_oc 18 = 2 := rfl
theorem fw_rk18 : fw_rk 18 = 0 := rfl
theorem fw_ki18 : fw_ki 18 = 0 := rfl
theorem fw_pt18 : fw_pt 18 = [0] := rfl
theorem fw_hs18 : fw_hs 18 = [] := rfl
theorem fw_B19 : fw_B 19 = cX2_take := rfl
theorem fw_mL19 : fw_mL 19 = 4 := rfl
theorem fw_rt19 : fw_rt 19 = (some (.int)) := rfl
theorem fw_oc19 : fw_oc 19 = 2 := rfl
theorem fw_rk19 : fw_rk 19 = 1 := rfl
theorem fw_ki19 : fw_ki 19 = 0 := rfl
theorem fw_pt19 : fw_pt 19 = [2] := rfl
theorem fw_hs19 : fw_hs 19 = [] := rfl
theorem fw_B20 : fw_B 20 = cX2_startOf := rfl
theorem fw_mL20 : fw_mL 20 = 2 := rfl
theorem fw_rt20 : fw_rt 20 = (some (.int)) := rfl
theorem fw_oc20 : fw_oc 20 = 2 := rfl
theorem fw_rk20 : fw_rk 20 = 1 := rfl
theorem fw_ki20 : fw_ki 20 = 0 := rfl
theorem fw_pt20 : fw_pt 20 = [0] := rfl
theorem fw_hs20 : fw_hs 20 = [] := rfl
theorem fw_B21 : fw_B 21 = cX2_sizeOf := rfl
theorem fw_mL21 : fw_mL 21 = 2 := rfl
theorem fw_rt21 : fw_rt 21 = (some (.int)) := rfl
theorem fw_oc21 : fw_oc 21 = 2 := rfl
theorem fw_rk21 : fw_rk 21 = 2 := rfl
theorem fw_ki21 : fw_ki 21 = 0 := rfl
theorem fw_pt21 : fw_pt 21 = [0] := rfl
theorem fw_hs21 : fw_hs 21 = [] := rfl
theorem fw_B22 : fw_B 22 = cX2_parcelAt := rfl
theorem fw_mL22 : fw_mL 22 = 3 := rfl
theorem fw_rt22 : fw_rt 22 = (some (.int)) := rfl
theorem fw_oc22 : fw_oc 22 = 2 := rfl
theorem fw_rk22 : fw_rk 22 = 2 := rfl
theorem fw_ki22 : fw_ki 22 = 0 := rfl
theorem fw_pt22 : fw_pt 22 = [0, 0] := rfl
theorem fw_hs22 : fw_hs 22 = [] := rfl
theorem fw_B23 : fw_B 23 = cX2_sealOf := rfl
theorem fw_mL23 : fw_mL 23 = 2 := rfl
theorem fw_rt23 : fw_rt 23 = (some (.int)) := rfl
theorem fw_oc23 : fw_oc 23 = 2 := rfl
theorem fw_rk23 : fw_rk 23 = 3 := rfl
theorem fw_ki23 : fw_ki 23 = 0 := rfl
theorem fw_pt23 : fw_pt 23 = [0] := rfl
theorem fw_hs23 : fw_hs 23 = [] := rfl
theorem fw_B24 : fw_B 24 = cX3_init := rfl
theorem fw_mL24 : fw_mL 24 = 4 := rfl
theorem fw_rt24 : fw_rt 24 = none := rfl
theorem fw_oc24 : fw_oc 24 = 3 := rfl
theorem fw_rk24 : fw_rk 24 = 2 := rfl
theorem fw_ki24 : fw_ki 24 = 2 := rfl
theorem fw_pt24 : fw_pt 24 = [2, 2, 2] := rfl
theorem fw_hs24 : fw_hs 24 = [] := rfl
theorem fw_B25 : fw_B 25 = cX3_byOrigin := rfl
theorem fw_mL25 : fw_mL 25 = 4 := rfl
theorem fw_rt25 : fw_rt 25 = (some (.int)) := rfl
theorem fw_oc25 : fw_oc 25 = 3 := rfl
theorem fw_rk25 : fw_rk 25 = 5 := rfl
theorem fw_ki25 : fw_ki 25 = 0 := rfl
theorem fw_pt25 : fw_pt 25 = [0] := rfl
theorem fw_hs25 : fw_hs 25 = [] := rfl
theorem fw_B26 : fw_B 26 = cX3_byTrays := rfl
theorem fw_mL26 : fw_mL 26 = 5 := rfl
theorem fw_rt26 : fw_rt 26 = (some (.int)) := rfl
theorem fw_oc26 : fw_oc 26 = 3 := rfl
theorem fw_rk26 : fw_rk 26 = 5 := rfl
theorem fw_ki26 : fw_ki 26 = 0 := rfl
theorem fw_pt26 : fw_pt 26 = [0] := rfl
theorem fw_hs26 : fw_hs 26 = [] := rfl
theorem fw_B27 : fw_B 27 = cX3_begin := rfl
theorem fw_mL27 : fw_mL 27 = 3 := rfl
theorem fw_rt27 : fw_rt 27 = none := rfl
theorem fw_oc27 : fw_oc 27 = 3 := rfl
theorem fw_rk27 : fw_rk 27 = 1 := rfl
theorem fw_ki27 : fw_ki 27 = 0 := rfl
theorem fw_pt27 : fw_pt 27 = [] := rfl
theorem fw_hs27 : fw_hs 27 = [] := rfl
theorem fw_B28 : fw_B 28 = cX3_moveOrigin := rfl
theorem fw_mL28 : fw_mL 28 = 4 := rfl
theorem fw_rt28 : fw_rt 28 = (some (.int)) := rfl
theorem fw_oc28 : fw_oc 28 = 3 := rfl
theorem fw_rk28 : fw_rk 28 = 4 := rfl
theorem fw_ki28 : fw_ki 28 = 0 := rfl
theorem fw_pt28 : fw_pt 28 = [] := rfl
theorem fw_hs28 : fw_hs 28 = [] := rfl
theorem fw_B29 : fw_B 29 = cX3_moveTray := rfl
theorem fw_mL29 : fw_mL 29 = 4 := rfl
theorem fw_rt29 : fw_rt 29 = (some (.int)) := rfl
theorem fw_oc29 : fw_oc 29 = 3 := rfl
theorem fw_rk29 : fw_rk 29 = 4 := rfl
theorem fw_ki29 : fw_ki 29 = 0 := rfl
theorem fw_pt29 : fw_pt 29 = [0] := rfl
theorem fw_hs29 : fw_hs 29 = [] := rfl
theorem fw_B30 : fw_B 30 = cX3_loadTray := rfl
theorem fw_mL30 : fw_mL 30 = 2 := rfl
theorem fw_rt30 : fw_rt 30 = none := rfl
theorem fw_oc30 : fw_oc 30 = 3 := rfl
theorem fw_rk30 : fw_rk 30 = 1 := rfl
theorem fw_ki30 : fw_ki 30 = 0 := rfl
theorem fw_pt30 : fw_pt 30 = [0] := rfl
theorem fw_hs30 : fw_hs 30 = [] := rfl
theorem fw_B31 : fw_B 31 = cX3_chuteGets := rfl
theorem fw_mL31 : fw_mL 31 = 3 := rfl
theorem fw_rt31 : fw_rt 31 = (some (.boolean)) := rfl
theorem fw_oc31 : fw_oc 31 = 3 := rfl
theorem fw_rk31 : fw_rk 31 = 3 := rfl
theorem fw_ki31 : fw_ki 31 = 0 := rfl
theorem fw_pt31 : fw_pt 31 = [0, 0] := rfl
theorem fw_hs31 : fw_hs 31 = [] := rfl
theorem fw_B32 : fw_B 32 = cX4_init := rfl
theorem fw_mL32 : fw_mL 32 = 1 := rfl
theorem fw_rt32 : fw_rt 32 = none := rfl
theorem fw_oc32 : fw_oc 32 = 4 := rfl
theorem fw_rk32 : fw_rk 32 = 0 := rfl
theorem fw_ki32 : fw_ki 32 = 2 := rfl
theorem fw_pt32 : fw_pt 32 = [] := rfl
theorem fw_hs32 : fw_hs 32 = [] := rfl
theorem fw_B33 : fw_B 33 = cX4_has := rfl
theorem fw_mL33 : fw_mL 33 = 2 := rfl
theorem fw_rt33 : fw_rt 33 = (some (.boolean)) := rfl
theorem fw_oc33 : fw_oc 33 = 4 := rfl
theorem fw_rk33 : fw_rk 33 = 0 := rfl
theorem fw_ki33 : fw_ki 33 = 0 := rfl
theorem fw_pt33 : fw_pt 33 = [0] := rfl
theorem fw_hs33 : fw_hs 33 = [] := rfl
theorem fw_B34 : fw_B 34 = cX4_add := rfl
theorem fw_mL34 : fw_mL 34 = 4 := rfl
theorem fw_rt34 : fw_rt 34 = (some (.int)) := rfl
theorem fw_oc34 : fw_oc 34 = 4 := rfl
theorem fw_rk34 : fw_rk 34 = 0 := rfl
theorem fw_ki34 : fw_ki 34 = 0 := rfl
theorem fw_pt34 : fw_pt 34 = [0, 0] := rfl
theorem fw_hs34 : fw_hs 34 = [] := rfl
theorem fw_B35 : fw_B 35 = cX4_loadFirst := rfl
theorem fw_mL35 : fw_mL 35 = 2 := rfl
theorem fw_rt35 : fw_rt 35 = (some (.int)) := rfl
theorem fw_oc35 : fw_oc 35 = 4 := rfl
theorem fw_rk35 : fw_rk 35 = 1 := rfl
theorem fw_ki35 : fw_ki 35 = 0 := rfl
theorem fw_pt35 : fw_pt 35 = [] := rfl
theorem fw_hs35 : fw_hs 35 = [] := rfl
theorem fw_B36 : fw_B 36 = cX4_leave := rfl
theorem fw_mL36 : fw_mL 36 = 4 := rfl
theorem fw_rt36 : fw_rt 36 = none := rfl
theorem fw_oc36 : fw_oc 36 = 4 := rfl
theorem fw_rk36 : fw_rk 36 = 1 := rfl
theorem fw_ki36 : fw_ki 36 = 0 := rfl
theorem fw_pt36 : fw_pt 36 = [0, 0, 0] := rfl
theorem fw_hs36 : fw_hs 36 = [] := rfl
theorem fw_B37 : fw_B 37 = cX4_enterTruck := rfl
theorem fw_mL37 : fw_mL 37 = 3 := rfl
theorem fw_rt37 : fw_rt 37 = none := rfl
theorem fw_oc37 : fw_oc 37 = 4 := rfl
theorem fw_rk37 : fw_rk 37 = 1 := rfl
theorem fw_ki37 : fw_ki 37 = 0 := rfl
theorem fw_pt37 : fw_pt 37 = [0, 0] := rfl
theorem fw_hs37 : fw_hs 37 = [] := rfl
theorem fw_B38 : fw_B 38 = cX4_routeAt := rfl
theorem fw_mL38 : fw_mL 38 = 2 := rfl
theorem fw_rt38 : fw_rt 38 = (some (.int)) := rfl
theorem fw_oc38 : fw_oc 38 = 4 := rfl
theorem fw_rk38 : fw_rk 38 = 1 := rfl
theorem fw_ki38 : fw_ki 38 = 0 := rfl
theorem fw_pt38 : fw_pt 38 = [0] := rfl
theorem fw_hs38 : fw_hs 38 = [] := rfl
theorem fw_B39 : fw_B 39 = cX4_stateAt := rfl
theorem fw_mL39 : fw_mL 39 = 2 := rfl
theorem fw_rt39 : fw_rt 39 = (some (.char)) := rfl
theorem fw_oc39 : fw_oc 39 = 4 := rfl
theorem fw_rk39 : fw_rk 39 = 1 := rfl
theorem fw_ki39 : fw_ki 39 = 0 := rfl
theorem fw_pt39 : fw_pt 39 = [0] := rfl
theorem fw_hs39 : fw_hs 39 = [] := rfl
theorem fw_B40 : fw_B 40 = cX4_lastRoundsAt := rfl
theorem fw_mL40 : fw_mL 40 = 2 := rfl
theorem fw_rt40 : fw_rt 40 = (some (.int)) := rfl
theorem fw_oc40 : fw_oc 40 = 4 := rfl
theorem fw_rk40 : fw_rk 40 = 1 := rfl
theorem fw_ki40 : fw_ki 40 = 0 := rfl
theorem fw_pt40 : fw_pt 40 = [0] := rfl
theorem fw_hs40 : fw_hs 40 = [] := rfl
theorem fw_B41 : fw_B 41 = cX4_truckAt := rfl
theorem fw_mL41 : fw_mL 41 = 2 := rfl
theorem fw_rt41 : fw_rt 41 = (some (.int)) := rfl
theorem fw_oc41 : fw_oc 41 = 4 := rfl
theorem fw_rk41 : fw_rk 41 = 1 := rfl
theorem fw_ki41 : fw_ki 41 = 0 := rfl
theorem fw_pt41 : fw_pt 41 = [0] := rfl
theorem fw_hs41 : fw_hs 41 = [] := rfl
theorem fw_B42 : fw_B 42 = cX4_loadOf := rfl
theorem fw_mL42 : fw_mL 42 = 5 := rfl
theorem fw_rt42 : fw_rt 42 = (some (.int)) := rfl
theorem fw_oc42 : fw_oc 42 = 4 := rfl
theorem fw_rk42 : fw_rk 42 = 0 := rfl
theorem fw_ki42 : fw_ki 42 = 0 := rfl
theorem fw_pt42 : fw_pt 42 = [0] := rfl
theorem fw_hs42 : fw_hs 42 = [] := rfl
theorem fw_B43 : fw_B 43 = cX5_init := rfl
theorem fw_mL43 : fw_mL 43 = 2 := rfl
theorem fw_rt43 : fw_rt 43 = none := rfl
theorem fw_oc43 : fw_oc 43 = 5 := rfl
theorem fw_rk43 : fw_rk 43 = 0 := rfl
theorem fw_ki43 : fw_ki 43 = 2 := rfl
theorem fw_pt43 : fw_pt 43 = [0] := rfl
theorem fw_hs43 : fw_hs 43 = [] := rfl
theorem fw_B44 : fw_B 44 = cX5_at := rfl
theorem fw_mL44 : fw_mL 44 = 2 := rfl
theorem fw_rt44 : fw_rt 44 = (some (.int)) := rfl
theorem fw_oc44 : fw_oc 44 = 5 := rfl
theorem fw_rk44 : fw_rk 44 = 0 := rfl
theorem fw_ki44 : fw_ki 44 = 0 := rfl
theorem fw_pt44 : fw_pt 44 = [0] := rfl
theorem fw_hs44 : fw_hs 44 = [] := rfl
theorem fw_B45 : fw_B 45 = cX5_add := rfl
theorem fw_mL45 : fw_mL 45 = 2 := rfl
theorem fw_rt45 : fw_rt 45 = none := rfl
theorem fw_oc45 : fw_oc 45 = 5 := rfl
theorem fw_rk45 : fw_rk 45 = 0 := rfl
theorem fw_ki45 : fw_ki 45 = 0 := rfl
theorem fw_pt45 : fw_pt 45 = [0] := rfl
theorem fw_hs45 : fw_hs 45 = [] := rfl
theorem fw_B46 : fw_B 46 = cX5_sealOf := rfl
theorem fw_mL46 : fw_mL 46 = 6 := rfl
theorem fw_rt46 : fw_rt 46 = (some (.int)) := rfl
theorem fw_oc46 : fw_oc 46 = 5 := rfl
theorem fw_rk46 : fw_rk 46 = 1 := rfl
theorem fw_ki46 : fw_ki 46 = 0 := rfl
theorem fw_pt46 : fw_pt 46 = [0, 0] := rfl
theorem fw_hs46 : fw_hs 46 = [] := rfl
theorem fw_B47 : fw_B 47 = cX6_init := rfl
theorem fw_mL47 : fw_mL 47 = 2 := rfl
theorem fw_rt47 : fw_rt 47 = none := rfl
theorem fw_oc47 : fw_oc 47 = 6 := rfl
theorem fw_rk47 : fw_rk 47 = 0 := rfl
theorem fw_ki47 : fw_ki 47 = 2 := rfl
theorem fw_pt47 : fw_pt 47 = [] := rfl
theorem fw_hs47 : fw_hs 47 = [] := rfl
theorem fw_B48 : fw_B 48 = cX6_build := rfl
theorem fw_mL48 : fw_mL 48 = 4 := rfl
theorem fw_rt48 : fw_rt 48 = (some (.int)) := rfl
theorem fw_oc48 : fw_oc 48 = 6 := rfl
theorem fw_rk48 : fw_rk 48 = 2 := rfl
theorem fw_ki48 : fw_ki 48 = 0 := rfl
theorem fw_pt48 : fw_pt 48 = [0, 0] := rfl
theorem fw_hs48 : fw_hs 48 = [] := rfl
theorem fw_B49 : fw_B 49 = cX6_chute := rfl
theorem fw_mL49 : fw_mL 49 = 2 := rfl
theorem fw_rt49 : fw_rt 49 = (some (.object "CrossdockSorter$Chute")) := rfl
theorem fw_oc49 : fw_oc 49 = 6 := rfl
theorem fw_rk49 : fw_rk 49 = 0 := rfl
theorem fw_ki49 : fw_ki 49 = 0 := rfl
theorem fw_pt49 : fw_pt 49 = [0] := rfl
theorem fw_hs49 : fw_hs 49 = [] := rfl
theorem fw_B50 : fw_B 50 = cX6_numberAt := rfl
theorem fw_mL50 : fw_mL 50 = 4 := rfl
theorem fw_rt50 : fw_rt 50 = (some (.int)) := rfl
theorem fw_oc50 : fw_oc 50 = 6 := rfl
theorem fw_rk50 : fw_rk 50 = 1 := rfl
theorem fw_ki50 : fw_ki 50 = 0 := rfl
theorem fw_pt50 : fw_pt 50 = [0] := rfl
theorem fw_hs50 : fw_hs 50 = [] := rfl
theorem fw_B51 : fw_B 51 = cX6_chuteAt := rfl
theorem fw_mL51 : fw_mL 51 = 2 := rfl
theorem fw_rt51 : fw_rt 51 = (some (.object "CrossdockSorter$Chute")) := rfl
theorem fw_oc51 : fw_oc 51 = 6 := rfl
theorem fw_rk51 : fw_rk 51 = 2 := rfl
theorem fw_ki51 : fw_ki 51 = 0 := rfl
theorem fw_pt51 : fw_pt 51 = [0] := rfl
theorem fw_hs51 : fw_hs 51 = [] := rfl
theorem fw_B52 : fw_B 52 = cX6_kindAt := rfl
theorem fw_mL52 : fw_mL 52 = 2 := rfl
theorem fw_rt52 : fw_rt 52 = (some (.char)) := rfl
theorem fw_oc52 : fw_oc 52 = 6 := rfl
theorem fw_rk52 : fw_rk 52 = 3 := rfl
theorem fw_ki52 : fw_ki 52 = 0 := rfl
theorem fw_pt52 : fw_pt 52 = [0] := rfl
theorem fw_hs52 : fw_hs 52 = [] := rfl
theorem fw_B53 : fw_B 53 = cX6_isJammed := rfl
theorem fw_mL53 : fw_mL 53 = 3 := rfl
theorem fw_rt53 : fw_rt 53 = (some (.boolean)) := rfl
theorem fw_oc53 : fw_oc 53 = 6 := rfl
theorem fw_rk53 : fw_rk 53 = 3 := rfl
theorem fw_ki53 : fw_ki 53 = 0 := rfl
theorem fw_pt53 : fw_pt 53 = [0] := rfl
theorem fw_hs53 : fw_hs 53 = [] := rfl
theorem fw_B54 : fw_B 54 = cX6_setJammed := rfl
theorem fw_mL54 : fw_mL 54 = 4 := rfl
theorem fw_rt54 : fw_rt 54 = none := rfl
theorem fw_oc54 : fw_oc 54 = 6 := rfl
theorem fw_rk54 : fw_rk 54 = 3 := rfl
theorem fw_ki54 : fw_ki 54 = 0 := rfl
theorem fw_pt54 : fw_pt 54 = [0, 0] := rfl
theorem fw_hs54 : fw_hs 54 = [] := rfl
theorem fw_B55 : fw_B 55 = cX6_jams := rfl
theorem fw_mL55 : fw_mL 55 = 4 := rfl
theorem fw_rt55 : fw_rt 55 = (some (.int)) := rfl
theorem fw_oc55 : fw_oc 55 = 6 := rfl
theorem fw_rk55 : fw_rk 55 = 1 := rfl
theorem fw_ki55 : fw_ki 55 = 0 := rfl
theorem fw_pt55 : fw_pt 55 = [] := rfl
theorem fw_hs55 : fw_hs 55 = [] := rfl
theorem fw_B57 : fw_B 57 = cX6_chuteOfRoute := rfl
theorem fw_mL57 : fw_mL 57 = 2 := rfl
theorem fw_rt57 : fw_rt 57 = (some (.int)) := rfl
theorem fw_oc57 : fw_oc 57 = 6 := rfl
theorem fw_rk57 : fw_rk 57 = 1 := rfl
theorem fw_ki57 : fw_ki 57 = 0 := rfl
theorem fw_pt57 : fw_pt 57 = [0] := rfl
theorem fw_hs57 : fw_hs 57 = [] := rfl
theorem fw_B58 : fw_B 58 = cX6_send := rfl
theorem fw_mL58 : fw_mL 58 = 3 := rfl
theorem fw_rt58 : fw_rt 58 = none := rfl
theorem fw_oc58 : fw_oc 58 = 6 := rfl
theorem fw_rk58 : fw_rk 58 = 1 := rfl
theorem fw_ki58 : fw_ki 58 = 0 := rfl
theorem fw_pt58 : fw_pt 58 = [0, 0] := rfl
theorem fw_hs58 : fw_hs 58 = [] := rfl
theorem fw_B59 : fw_B 59 = cX6_loaderPuts := rfl
theorem fw_mL59 : fw_mL 59 = 4 := rfl
theorem fw_rt59 : fw_rt 59 = (some (.boolean)) := rfl
theorem fw_oc59 : fw_oc 59 = 6 := rfl
theorem fw_rk59 : fw_rk 59 = 0 := rfl
theorem fw_ki59 : fw_ki 59 = 0 := rfl
theorem fw_pt59 : fw_pt 59 = [0, 0, 0] := rfl
theorem fw_hs59 : fw_hs 59 = [] := rfl
theorem fw_B60 : fw_B 60 = cX6_chuteTakes := rfl
theorem fw_mL60 : fw_mL 60 = 5 := rfl
theorem fw_rt60 : fw_rt 60 = (some (.boolean)) := rfl
theorem fw_oc60 : fw_oc 60 = 6 := rfl
theorem fw_rk60 : fw_rk 60 = 2 := rfl
theorem fw_ki60 : fw_ki 60 = 0 := rfl
theorem fw_pt60 : fw_pt 60 = [0, 0, 0] := rfl
theorem fw_hs60 : fw_hs 60 = [] := rfl
theorem fw_B61 : fw_B 61 = cX6_overflowTakes := rfl
theorem fw_mL61 : fw_mL 61 = 3 := rfl
theorem fw_rt61 : fw_rt 61 = (some (.boolean)) := rfl
theorem fw_oc61 : fw_oc 61 = 6 := rfl
theorem fw_rk61 : fw_rk 61 = 0 := rfl
theorem fw_ki61 : fw_ki 61 = 0 := rfl
theorem fw_pt61 : fw_pt 61 = [0, 0] := rfl
theorem fw_hs61 : fw_hs 61 = [] := rfl
theorem fw_B62 : fw_B 62 = cX6_sealsAgree := rfl
theorem fw_mL62 : fw_mL 62 = 3 := rfl
theorem fw_rt62 : fw_rt 62 = (some (.boolean)) := rfl
theorem fw_oc62 : fw_oc 62 = 6 := rfl
theorem fw_rk62 : fw_rk 62 = 3 := rfl
theorem fw_ki62 : fw_ki 62 = 0 := rfl
theorem fw_pt62 : fw_pt 62 = [] := rfl
theorem fw_hs62 : fw_hs 62 = [] := rfl
theorem fw_B63 : fw_B 63 = cX7_init := rfl
theorem fw_mL63 : fw_mL 63 = 3 := rfl
theorem fw_rt63 : fw_rt 63 = none := rfl
theorem fw_oc63 : fw_oc 63 = 7 := rfl
theorem fw_rk63 : fw_rk 63 = 0 := rfl
theorem fw_ki63 : fw_ki 63 = 2 := rfl
theorem fw_pt63 : fw_pt 63 = [2, 2] := rfl
theorem fw_hs63 : fw_hs 63 = [] := rfl
theorem fw_B68 : fw_B 68 = cX8_init := rfl
theorem fw_mL68 : fw_mL 68 = 1 := rfl
theorem fw_rt68 : fw_rt 68 = none := rfl
theorem fw_oc68 : fw_oc 68 = 8 := rfl
theorem fw_rk68 : fw_rk 68 = 3 := rfl
theorem fw_ki68 : fw_ki 68 = 2 := rfl
theorem fw_pt68 : fw_pt 68 = [] := rfl
theorem fw_hs68 : fw_hs 68 = [] := rfl
theorem fw_B69 : fw_B 69 = cX8_setLoop := rfl
theorem fw_mL69 : fw_mL 69 = 3 := rfl
theorem fw_rt69 : fw_rt 69 = (some (.int)) := rfl
theorem fw_oc69 : fw_oc 69 = 8 := rfl
theorem fw_rk69 : fw_rk 69 = 4 := rfl
theorem fw_ki69 : fw_ki 69 = 0 := rfl
theorem fw_pt69 : fw_pt 69 = [0] := rfl
theorem fw_hs69 : fw_hs 69 = [] := rfl
theorem fw_B70 : fw_B 70 = cX8_addChute := rfl
theorem fw_mL70 : fw_mL 70 = 3 := rfl
theorem fw_rt70 : fw_rt 70 = (some (.int)) := rfl
theorem fw_oc70 : fw_oc 70 = 8 := rfl
theorem fw_rk70 : fw_rk 70 = 4 := rfl
theorem fw_ki70 : fw_ki 70 = 0 := rfl
theorem fw_pt70 : fw_pt 70 = [0, 0] := rfl
theorem fw_hs70 : fw_hs 70 = [] := rfl
theorem fw_B71 : fw_B 71 = cX8_setCapacity := rfl
theorem fw_mL71 : fw_mL 71 = 5 := rfl
theorem fw_rt71 : fw_rt 71 = (some (.int)) := rfl
theorem fw_oc71 : fw_oc 71 = 8 := rfl
theorem fw_rk71 : fw_rk 71 = 5 := rfl
theorem fw_ki71 : fw_ki 71 = 0 := rfl
theorem fw_pt71 : fw_pt 71 = [0, 0] := rfl
theorem fw_hs71 : fw_hs 71 = [] := rfl
theorem fw_B72 : fw_B 72 = cX8_setLimit := rfl
theorem fw_mL72 : fw_mL 72 = 3 := rfl
theorem fw_rt72 : fw_rt 72 = (some (.int)) := rfl
theorem fw_oc72 : fw_oc 72 = 8 := rfl
theorem fw_rk72 : fw_rk 72 = 4 := rfl
theorem fw_ki72 : fw_ki 72 = 0 := rfl
theorem fw_pt72 : fw_pt 72 = [0] := rfl
theorem fw_hs72 : fw_hs 72 = [] := rfl
theorem fw_B73 : fw_B 73 = cX8_jam := rfl
theorem fw_mL73 : fw_mL 73 = 2 := rfl
theorem fw_rt73 : fw_rt 73 = (some (.int)) := rfl
theorem fw_oc73 : fw_oc 73 = 8 := rfl
theorem fw_rk73 : fw_rk 73 = 5 := rfl
theorem fw_ki73 : fw_ki 73 = 0 := rfl
theorem fw_pt73 : fw_pt 73 = [0] := rfl
theorem fw_hs73 : fw_hs 73 = [] := rfl
theorem fw_B74 : fw_B 74 = cX8_free := rfl
theorem fw_mL74 : fw_mL 74 = 2 := rfl
theorem fw_rt74 : fw_rt 74 = (some (.int)) := rfl
theorem fw_oc74 : fw_oc 74 = 8 := rfl
theorem fw_rk74 : fw_rk 74 = 5 := rfl
theorem fw_ki74 : fw_ki 74 = 0 := rfl
theorem fw_pt74 : fw_pt 74 = [0] := rfl
theorem fw_hs74 : fw_hs 74 = [] := rfl
theorem fw_B75 : fw_B 75 = cX8_stationAt := rfl
theorem fw_mL75 : fw_mL 75 = 2 := rfl
theorem fw_rt75 : fw_rt 75 = (some (.char)) := rfl
theorem fw_oc75 : fw_oc 75 = 8 := rfl
theorem fw_rk75 : fw_rk 75 = 5 := rfl
theorem fw_ki75 : fw_ki 75 = 0 := rfl
theorem fw_pt75 : fw_pt 75 = [0] := rfl
theorem fw_hs75 : fw_hs 75 = [] := rfl
theorem fw_B76 : fw_B 76 = cX8_arrive := rfl
theorem fw_mL76 : fw_mL 76 = 3 := rfl
theorem fw_rt76 : fw_rt 76 = (some (.int)) := rfl
theorem fw_oc76 : fw_oc 76 = 8 := rfl
theorem fw_rk76 : fw_rk 76 = 4 := rfl
theorem fw_ki76 : fw_ki 76 = 0 := rfl
theorem fw_pt76 : fw_pt 76 = [0, 0] := rfl
theorem fw_hs76 : fw_hs 76 = [] := rfl
theorem fw_B77 : fw_B 77 = cX8_pass := rfl
theorem fw_mL77 : fw_mL 77 = 4 := rfl
theorem fw_rt77 : fw_rt 77 = (some (.int)) := rfl
theorem fw_oc77 : fw_oc 77 = 8 := rfl
theorem fw_rk77 : fw_rk 77 = 6 := rfl
theorem fw_ki77 : fw_ki 77 = 0 := rfl
theorem fw_pt77 : fw_pt 77 = [0] := rfl
theorem fw_hs77 : fw_hs 77 = [] := rfl
theorem fw_B78 : fw_B 78 = cX8_tick := rfl
theorem fw_mL78 : fw_mL 78 = 1 := rfl
theorem fw_rt78 : fw_rt 78 = (some (.long)) := rfl
theorem fw_oc78 : fw_oc 78 = 8 := rfl
theorem fw_rk78 : fw_rk 78 = 0 := rfl
theorem fw_ki78 : fw_ki 78 = 0 := rfl
theorem fw_pt78 : fw_pt 78 = [] := rfl
theorem fw_hs78 : fw_hs 78 = [] := rfl
theorem fw_B79 : fw_B 79 = cX8_stateOf := rfl
theorem fw_mL79 : fw_mL 79 = 2 := rfl
theorem fw_rt79 : fw_rt 79 = (some (.char)) := rfl
theorem fw_oc79 : fw_oc 79 = 8 := rfl
theorem fw_rk79 : fw_rk 79 = 5 := rfl
theorem fw_ki79 : fw_ki 79 = 0 := rfl
theorem fw_pt79 : fw_pt 79 = [0] := rfl
theorem fw_hs79 : fw_hs 79 = [] := rfl
theorem fw_B80 : fw_B 80 = cX8_positionOf := rfl
theorem fw_mL80 : fw_mL 80 = 3 := rfl
theorem fw_rt80 : fw_rt 80 = (some (.int)) := rfl
theorem fw_oc80 : fw_oc 80 = 8 := rfl
theorem fw_rk80 : fw_rk 80 = 5 := rfl
theorem fw_ki80 : fw_ki 80 = 0 := rfl
theorem fw_pt80 : fw_pt 80 = [0] := rfl
theorem fw_hs80 : fw_hs 80 = [] := rfl
theorem fw_B81 : fw_B 81 = cX8_roundsOf := rfl
theorem fw_mL81 : fw_mL 81 = 3 := rfl
theorem fw_rt81 : fw_rt 81 = (some (.int)) := rfl
theorem fw_oc81 : fw_oc 81 = 8 := rfl
theorem fw_rk81 : fw_rk 81 = 5 := rfl
theorem fw_ki81 : fw_ki 81 = 0 := rfl
theorem fw_pt81 : fw_pt 81 = [0] := rfl
theorem fw_hs81 : fw_hs 81 = [] := rfl
theorem fw_B82 : fw_B 82 = cX8_trayAt := rfl
theorem fw_mL82 : fw_mL 82 = 3 := rfl
theorem fw_rt82 : fw_rt 82 = (some (.int)) := rfl
theorem fw_oc82 : fw_oc 82 = 8 := rfl
theorem fw_rk82 : fw_rk 82 = 5 := rfl
theorem fw_ki82 : fw_ki 82 = 0 := rfl
theorem fw_pt82 : fw_pt 82 = [0] := rfl
theorem fw_hs82 : fw_hs 82 = [] := rfl
theorem fw_B83 : fw_B 83 = cX8_waiting := rfl
theorem fw_mL83 : fw_mL 83 = 1 := rfl
theorem fw_rt83 : fw_rt 83 = (some (.int)) := rfl
theorem fw_oc83 : fw_oc 83 = 8 := rfl
theorem fw_rk83 : fw_rk 83 = 0 := rfl
theorem fw_ki83 : fw_ki 83 = 0 := rfl
theorem fw_pt83 : fw_pt 83 = [] := rfl
theorem fw_hs83 : fw_hs 83 = [] := rfl
theorem fw_B84 : fw_B 84 = cX8_onLoop := rfl
theorem fw_mL84 : fw_mL 84 = 1 := rfl
theorem fw_rt84 : fw_rt 84 = (some (.int)) := rfl
theorem fw_oc84 : fw_oc 84 = 8 := rfl
theorem fw_rk84 : fw_rk 84 = 0 := rfl
theorem fw_ki84 : fw_ki 84 = 0 := rfl
theorem fw_pt84 : fw_pt 84 = [] := rfl
theorem fw_hs84 : fw_hs 84 = [] := rfl
theorem fw_B85 : fw_B 85 = cX8_overflowed := rfl
theorem fw_mL85 : fw_mL 85 = 1 := rfl
theorem fw_rt85 : fw_rt 85 = (some (.int)) := rfl
theorem fw_oc85 : fw_oc 85 = 8 := rfl
theorem fw_rk85 : fw_rk 85 = 0 := rfl
theorem fw_ki85 : fw_ki 85 = 0 := rfl
theorem fw_pt85 : fw_pt 85 = [] := rfl
theorem fw_hs85 : fw_hs 85 = [] := rfl
theorem fw_B86 : fw_B 86 = cX8_leavingAhead := rfl
theorem fw_mL86 : fw_mL 86 = 2 := rfl
theorem fw_rt86 : fw_rt 86 = (some (.int)) := rfl
theorem fw_oc86 : fw_oc 86 = 8 := rfl
theorem fw_rk86 : fw_rk 86 = 6 := rfl
theorem fw_ki86 : fw_ki 86 = 0 := rfl
theorem fw_pt86 : fw_pt 86 = [0] := rfl
theorem fw_hs86 : fw_hs 86 = [] := rfl
theorem fw_B87 : fw_B 87 = cX8_leavingByTrays := rfl
theorem fw_mL87 : fw_mL 87 = 2 := rfl
theorem fw_rt87 : fw_rt 87 = (some (.int)) := rfl
theorem fw_oc87 : fw_oc 87 = 8 := rfl
theorem fw_rk87 : fw_rk 87 = 6 := rfl
theorem fw_ki87 : fw_ki 87 = 0 := rfl
theorem fw_pt87 : fw_pt 87 = [0] := rfl
theorem fw_hs87 : fw_hs 87 = [] := rfl
theorem fw_B89 : fw_B 89 = cX8_assign := rfl
theorem fw_mL89 : fw_mL 89 = 4 := rfl
theorem fw_rt89 : fw_rt 89 = (some (.int)) := rfl
theorem fw_oc89 : fw_oc 89 = 8 := rfl
theorem fw_rk89 : fw_rk 89 = 5 := rfl
theorem fw_ki89 : fw_ki 89 = 0 := rfl
theorem fw_pt89 : fw_pt 89 = [0, 0] := rfl
theorem fw_hs89 : fw_hs 89 = [] := rfl
theorem fw_B90 : fw_B 90 = cX8_unassign := rfl
theorem fw_mL90 : fw_mL 90 = 3 := rfl
theorem fw_rt90 : fw_rt 90 = (some (.int)) := rfl
theorem fw_oc90 : fw_oc 90 = 8 := rfl
theorem fw_rk90 : fw_rk 90 = 5 := rfl
theorem fw_ki90 : fw_ki 90 = 0 := rfl
theorem fw_pt90 : fw_pt 90 = [0] := rfl
theorem fw_hs90 : fw_hs 90 = [] := rfl
theorem fw_B91 : fw_B 91 = cX8_chuteFor := rfl
theorem fw_mL91 : fw_mL 91 = 3 := rfl
theorem fw_rt91 : fw_rt 91 = (some (.int)) := rfl
theorem fw_oc91 : fw_oc 91 = 8 := rfl
theorem fw_rk91 : fw_rk 91 = 5 := rfl
theorem fw_ki91 : fw_ki 91 = 0 := rfl
theorem fw_pt91 : fw_pt 91 = [0] := rfl
theorem fw_hs91 : fw_hs 91 = [] := rfl
theorem fw_B92 : fw_B 92 = cX8_load := rfl
theorem fw_mL92 : fw_mL 92 = 2 := rfl
theorem fw_rt92 : fw_rt 92 = (some (.int)) := rfl
theorem fw_oc92 : fw_oc 92 = 8 := rfl
theorem fw_rk92 : fw_rk 92 = 5 := rfl
theorem fw_ki92 : fw_ki 92 = 0 := rfl
theorem fw_pt92 : fw_pt 92 = [0] := rfl
theorem fw_hs92 : fw_hs 92 = [] := rfl
theorem fw_B93 : fw_B 93 = cX8_inChute := rfl
theorem fw_mL93 : fw_mL 93 = 2 := rfl
theorem fw_rt93 : fw_rt 93 = (some (.int)) := rfl
theorem fw_oc93 : fw_oc 93 = 8 := rfl
theorem fw_rk93 : fw_rk 93 = 5 := rfl
theorem fw_ki93 : fw_ki 93 = 0 := rfl
theorem fw_pt93 : fw_pt 93 = [0] := rfl
theorem fw_hs93 : fw_hs 93 = [] := rfl
theorem fw_B94 : fw_B 94 = cX8_seal := rfl
theorem fw_mL94 : fw_mL 94 = 2 := rfl
theorem fw_rt94 : fw_rt 94 = (some (.int)) := rfl
theorem fw_oc94 : fw_oc 94 = 8 := rfl
theorem fw_rk94 : fw_rk 94 = 5 := rfl
theorem fw_ki94 : fw_ki 94 = 0 := rfl
theorem fw_pt94 : fw_pt 94 = [0] := rfl
theorem fw_hs94 : fw_hs 94 = [] := rfl
theorem fw_B95 : fw_B 95 = cX8_sealByParcels := rfl
theorem fw_mL95 : fw_mL 95 = 2 := rfl
theorem fw_rt95 : fw_rt 95 = (some (.int)) := rfl
theorem fw_oc95 : fw_oc 95 = 8 := rfl
theorem fw_rk95 : fw_rk 95 = 5 := rfl
theorem fw_ki95 : fw_ki 95 = 0 := rfl
theorem fw_pt95 : fw_pt 95 = [0] := rfl
theorem fw_hs95 : fw_hs 95 = [] := rfl
theorem fw_B96 : fw_B 96 = cX8_dispatch := rfl
theorem fw_mL96 : fw_mL 96 = 6 := rfl
theorem fw_rt96 : fw_rt 96 = (some (.int)) := rfl
theorem fw_oc96 : fw_oc 96 = 8 := rfl
theorem fw_rk96 : fw_rk 96 = 5 := rfl
theorem fw_ki96 : fw_ki 96 = 0 := rfl
theorem fw_pt96 : fw_pt 96 = [0] := rfl
theorem fw_hs96 : fw_hs 96 = [] := rfl
theorem fw_B97 : fw_B 97 = cX8_trucks := rfl
theorem fw_mL97 : fw_mL 97 = 1 := rfl
theorem fw_rt97 : fw_rt 97 = (some (.int)) := rfl
theorem fw_oc97 : fw_oc 97 = 8 := rfl
theorem fw_rk97 : fw_rk 97 = 0 := rfl
theorem fw_ki97 : fw_ki 97 = 0 := rfl
theorem fw_pt97 : fw_pt 97 = [] := rfl
theorem fw_hs97 : fw_hs 97 = [] := rfl
theorem fw_B98 : fw_B 98 = cX8_sealOfTruck := rfl
theorem fw_mL98 : fw_mL 98 = 2 := rfl
theorem fw_rt98 : fw_rt 98 = (some (.int)) := rfl
theorem fw_oc98 : fw_oc 98 = 8 := rfl
theorem fw_rk98 : fw_rk 98 = 5 := rfl
theorem fw_ki98 : fw_ki 98 = 0 := rfl
theorem fw_pt98 : fw_pt 98 = [0] := rfl
theorem fw_hs98 : fw_hs 98 = [] := rfl
theorem fw_B99 : fw_B 99 = cX8_parcelIn := rfl
theorem fw_mL99 : fw_mL 99 = 3 := rfl
theorem fw_rt99 : fw_rt 99 = (some (.int)) := rfl
theorem fw_oc99 : fw_oc 99 = 8 := rfl
theorem fw_rk99 : fw_rk 99 = 5 := rfl
theorem fw_ki99 : fw_ki 99 = 0 := rfl
theorem fw_pt99 : fw_pt 99 = [0, 0] := rfl
theorem fw_hs99 : fw_hs 99 = [] := rfl
theorem fw_B100 : fw_B 100 = cX8_truckOf := rfl
theorem fw_mL100 : fw_mL 100 = 2 := rfl
theorem fw_rt100 : fw_rt 100 = (some (.int)) := rfl
theorem fw_oc100 : fw_oc 100 = 8 := rfl
theorem fw_rk100 : fw_rk 100 = 5 := rfl
theorem fw_ki100 : fw_ki 100 = 0 := rfl
theorem fw_pt100 : fw_pt 100 = [0] := rfl
theorem fw_hs100 : fw_hs 100 = [] := rfl
theorem fw_B101 : fw_B 101 = cX8_shipped := rfl
theorem fw_mL101 : fw_mL 101 = 1 := rfl
theorem fw_rt101 : fw_rt 101 = (some (.long)) := rfl
theorem fw_oc101 : fw_oc 101 = 8 := rfl
theorem fw_rk101 : fw_rk 101 = 0 := rfl
theorem fw_ki101 : fw_ki 101 = 0 := rfl
theorem fw_pt101 : fw_pt 101 = [] := rfl
theorem fw_hs101 : fw_hs 101 = [] := rfl
theorem fw_B102 : fw_B 102 = cX8_meanRounds := rfl
theorem fw_mL102 : fw_mL 102 = 1 := rfl
theorem fw_rt102 : fw_rt 102 = (some (.double)) := rfl
theorem fw_oc102 : fw_oc 102 = 8 := rfl
theorem fw_rk102 : fw_rk 102 = 5 := rfl
theorem fw_ki102 : fw_ki 102 = 0 := rfl
theorem fw_pt102 : fw_pt 102 = [] := rfl
theorem fw_hs102 : fw_hs 102 = [] := rfl
theorem fw_B103 : fw_B 103 = cX8_overflowShare := rfl
theorem fw_mL103 : fw_mL 103 = 1 := rfl
theorem fw_rt103 : fw_rt 103 = (some (.float)) := rfl
theorem fw_oc103 : fw_oc 103 = 8 := rfl
theorem fw_rk103 : fw_rk 103 = 5 := rfl
theorem fw_ki103 : fw_ki 103 = 0 := rfl
theorem fw_pt103 : fw_pt 103 = [] := rfl
theorem fw_hs103 : fw_hs 103 = [] := rfl
theorem fw_B104 : fw_B 104 = cX8_isOnce := rfl
theorem fw_mL104 : fw_mL 104 = 1 := rfl
theorem fw_rt104 : fw_rt 104 = (some (.boolean)) := rfl
theorem fw_oc104 : fw_oc 104 = 8 := rfl
theorem fw_rk104 : fw_rk 104 = 6 := rfl
theorem fw_ki104 : fw_ki 104 = 0 := rfl
theorem fw_pt104 : fw_pt 104 = [] := rfl
theorem fw_hs104 : fw_hs 104 = [] := rfl
theorem fw_B105 : fw_B 105 = cX8_isCapacity := rfl
theorem fw_mL105 : fw_mL 105 = 1 := rfl
theorem fw_rt105 : fw_rt 105 = (some (.boolean)) := rfl
theorem fw_oc105 : fw_oc 105 = 8 := rfl
theorem fw_rk105 : fw_rk 105 = 0 := rfl
theorem fw_ki105 : fw_ki 105 = 1 := rfl
theorem fw_pt105 : fw_pt 105 = [0] := rfl
theorem fw_hs105 : fw_hs 105 = [] := rfl
theorem fw_B106 : fw_B 106 = cX8_isRoute := rfl
theorem fw_mL106 : fw_mL 106 = 1 := rfl
theorem fw_rt106 : fw_rt 106 = (some (.boolean)) := rfl
theorem fw_oc106 : fw_oc 106 = 8 := rfl
theorem fw_rk106 : fw_rk 106 = 0 := rfl
theorem fw_ki106 : fw_ki 106 = 1 := rfl
theorem fw_pt106 : fw_pt 106 = [0] := rfl
theorem fw_hs106 : fw_hs 106 = [] := rfl
theorem fw_B107 : fw_B 107 = cX8_requireRoute := rfl
theorem fw_mL107 : fw_mL 107 = 1 := rfl
theorem fw_rt107 : fw_rt 107 = none := rfl
theorem fw_oc107 : fw_oc 107 = 8 := rfl
theorem fw_rk107 : fw_rk 107 = 4 := rfl
theorem fw_ki107 : fw_ki 107 = 1 := rfl
theorem fw_pt107 : fw_pt 107 = [0] := rfl
theorem fw_hs107 : fw_hs 107 = [] := rfl
theorem fw_B108 : fw_B 108 = cX8_requireTicks := rfl
theorem fw_mL108 : fw_mL 108 = 1 := rfl
theorem fw_rt108 : fw_rt 108 = none := rfl
theorem fw_oc108 : fw_oc 108 = 8 := rfl
theorem fw_rk108 : fw_rk 108 = 4 := rfl
theorem fw_ki108 : fw_ki 108 = 1 := rfl
theorem fw_pt108 : fw_pt 108 = [0] := rfl
theorem fw_hs108 : fw_hs 108 = [] := rfl
theorem fw_B109 : fw_B 109 = cX8_requirePosition := rfl
theorem fw_mL109 : fw_mL 109 = 2 := rfl
theorem fw_rt109 : fw_rt 109 = none := rfl
theorem fw_oc109 : fw_oc 109 = 8 := rfl
theorem fw_rk109 : fw_rk 109 = 4 := rfl
theorem fw_ki109 : fw_ki 109 = 0 := rfl
theorem fw_pt109 : fw_pt 109 = [0] := rfl
theorem fw_hs109 : fw_hs 109 = [] := rfl
theorem fw_B110 : fw_B 110 = cX8_requireStation := rfl
theorem fw_mL110 : fw_mL 110 = 2 := rfl
theorem fw_rt110 : fw_rt 110 = none := rfl
theorem fw_oc110 : fw_oc 110 = 8 := rfl
theorem fw_rk110 : fw_rk 110 = 4 := rfl
theorem fw_ki110 : fw_ki 110 = 0 := rfl
theorem fw_pt110 : fw_pt 110 = [0] := rfl
theorem fw_hs110 : fw_hs 110 = [] := rfl
theorem fw_B111 : fw_B 111 = cX8_requireParcel := rfl
theorem fw_mL111 : fw_mL 111 = 2 := rfl
theorem fw_rt111 : fw_rt 111 = none := rfl
theorem fw_oc111 : fw_oc 111 = 8 := rfl
theorem fw_rk111 : fw_rk 111 = 4 := rfl
theorem fw_ki111 : fw_ki 111 = 0 := rfl
theorem fw_pt111 : fw_pt 111 = [0] := rfl
theorem fw_hs111 : fw_hs 111 = [] := rfl
theorem fw_B112 : fw_B 112 = cX8_requireChute := rfl
theorem fw_mL112 : fw_mL 112 = 3 := rfl
theorem fw_rt112 : fw_rt 112 = (some (.object "CrossdockSorter$Chute")) := rfl
theorem fw_oc112 : fw_oc 112 = 8 := rfl
theorem fw_rk112 : fw_rk 112 = 4 := rfl
theorem fw_ki112 : fw_ki 112 = 0 := rfl
theorem fw_pt112 : fw_pt 112 = [0] := rfl
theorem fw_hs112 : fw_hs 112 = [] := rfl
theorem fw_B113 : fw_B 113 = cX8_requireTruck := rfl
theorem fw_mL113 : fw_mL 113 = 2 := rfl
theorem fw_rt113 : fw_rt 113 = none := rfl
theorem fw_oc113 : fw_oc 113 = 8 := rfl
theorem fw_rk113 : fw_rk 113 = 4 := rfl
theorem fw_ki113 : fw_ki 113 = 0 := rfl
theorem fw_pt113 : fw_pt 113 = [0] := rfl
theorem fw_hs113 : fw_hs 113 = [] := rfl
theorem fw_B114 : fw_B 114 = cX8_requireSomeLeft := rfl
theorem fw_mL114 : fw_mL 114 = 1 := rfl
theorem fw_rt114 : fw_rt 114 = none := rfl
theorem fw_oc114 : fw_oc 114 = 8 := rfl
theorem fw_rk114 : fw_rk 114 = 4 := rfl
theorem fw_ki114 : fw_ki 114 = 0 := rfl
theorem fw_pt114 : fw_pt 114 = [] := rfl
theorem fw_hs114 : fw_hs 114 = [] := rfl
theorem fw_B115 : fw_B 115 = cX8_passOneTick := rfl
theorem fw_mL115 : fw_mL 115 = 3 := rfl
theorem fw_rt115 : fw_rt 115 = (some (.int)) := rfl
theorem fw_oc115 : fw_oc 115 = 8 := rfl
theorem fw_rk115 : fw_rk 115 = 5 := rfl
theorem fw_ki115 : fw_ki 115 = 0 := rfl
theorem fw_pt115 : fw_pt 115 = [] := rfl
theorem fw_hs115 : fw_hs 115 = [] := rfl
theorem fw_B116 : fw_B 116 = cX8_dropInto := rfl
theorem fw_mL116 : fw_mL 116 = 4 := rfl
theorem fw_rt116 : fw_rt 116 = (some (.int)) := rfl
theorem fw_oc116 : fw_oc 116 = 8 := rfl
theorem fw_rk116 : fw_rk 116 = 4 := rfl
theorem fw_ki116 : fw_ki 116 = 0 := rfl
theorem fw_pt116 : fw_pt 116 = [0] := rfl
theorem fw_hs116 : fw_hs 116 = [] := rfl
theorem fw_B117 : fw_B 117 = cX8_dropIntoOverflow := rfl
theorem fw_mL117 : fw_mL 117 = 3 := rfl
theorem fw_rt117 : fw_rt 117 = (some (.int)) := rfl
theorem fw_oc117 : fw_oc 117 = 8 := rfl
theorem fw_rk117 : fw_rk 117 = 4 := rfl
theorem fw_ki117 : fw_ki 117 = 0 := rfl
theorem fw_pt117 : fw_pt 117 = [] := rfl
theorem fw_hs117 : fw_hs 117 = [] := rfl
theorem fw_B118 : fw_B 118 = cX8_eachParcelIsOnce := rfl
theorem fw_mL118 : fw_mL 118 = 3 := rfl
theorem fw_rt118 : fw_rt 118 = (some (.boolean)) := rfl
theorem fw_oc118 : fw_oc 118 = 8 := rfl
theorem fw_rk118 : fw_rk 118 = 3 := rfl
theorem fw_ki118 : fw_ki 118 = 0 := rfl
theorem fw_pt118 : fw_pt 118 = [] := rfl
theorem fw_hs118 : fw_hs 118 = [] := rfl
theorem fw_B119 : fw_B 119 = cX8_seeAll := rfl
theorem fw_mL119 : fw_mL 119 = 3 := rfl
theorem fw_rt119 : fw_rt 119 = none := rfl
theorem fw_oc119 : fw_oc 119 = 8 := rfl
theorem fw_rk119 : fw_rk 119 = 1 := rfl
theorem fw_ki119 : fw_ki 119 = 0 := rfl
theorem fw_pt119 : fw_pt 119 = [2] := rfl
theorem fw_hs119 : fw_hs 119 = [] := rfl
theorem fw_B120 : fw_B 120 = cX8_see := rfl
theorem fw_mL120 : fw_mL 120 = 2 := rfl
theorem fw_rt120 : fw_rt 120 = none := rfl
theorem fw_oc120 : fw_oc 120 = 8 := rfl
theorem fw_rk120 : fw_rk 120 = 0 := rfl
theorem fw_ki120 : fw_ki 120 = 0 := rfl
theorem fw_pt120 : fw_pt 120 = [0] := rfl
theorem fw_hs120 : fw_hs 120 = [] := rfl
theorem fw_B121 : fw_B 121 = cX9_init := rfl
theorem fw_mL121 : fw_mL 121 = 3 := rfl
theorem fw_rt121 : fw_rt 121 = none := rfl
theorem fw_oc121 : fw_oc 121 = 9 := rfl
theorem fw_rk121 : fw_rk 121 = 0 := rfl
theorem fw_ki121 : fw_ki 121 = 2 := rfl
theorem fw_pt121 : fw_pt 121 = [0] := rfl
theorem fw_hs121 : fw_hs 121 = [] := rfl
theorem fw_B122 : fw_B 122 = cX9_trayAt := rfl
theorem fw_mL122 : fw_mL 122 = 2 := rfl
theorem fw_rt122 : fw_rt 122 = (some (.int)) := rfl
theorem fw_oc122 : fw_oc 122 = 9 := rfl
theorem fw_rk122 : fw_rk 122 = 0 := rfl
theorem fw_ki122 : fw_ki 122 = 0 := rfl
theorem fw_pt122 : fw_pt 122 = [0] := rfl
theorem fw_hs122 : fw_hs 122 = [] := rfl
theorem fw_B123 : fw_B 123 = cX9_leave := rfl
theorem fw_mL123 : fw_mL 123 = 3 := rfl
theorem fw_rt123 : fw_rt 123 = none := rfl
theorem fw_oc123 : fw_oc 123 = 9 := rfl
theorem fw_rk123 : fw_rk 123 = 0 := rfl
theorem fw_ki123 : fw_ki 123 = 0 := rfl
theorem fw_pt123 : fw_pt 123 = [0, 0] := rfl
theorem fw_hs123 : fw_hs 123 = [] := rfl
theorem fw_B124 : fw_B 124 = cX9_serve := rfl
theorem fw_mL124 : fw_mL 124 = 5 := rfl
theorem fw_rt124 : fw_rt 124 = none := rfl
theorem fw_oc124 : fw_oc 124 = 9 := rfl
theorem fw_rk124 : fw_rk 124 = 1 := rfl
theorem fw_ki124 : fw_ki 124 = 0 := rfl
theorem fw_pt124 : fw_pt 124 = [0] := rfl
theorem fw_hs124 : fw_hs 124 = [] := rfl
theorem fw_B125 : fw_B 125 = cX9_tick := rfl
theorem fw_mL125 : fw_mL 125 = 4 := rfl
theorem fw_rt125 : fw_rt 125 = (some (.int)) := rfl
theorem fw_oc125 : fw_oc 125 = 9 := rfl
theorem fw_rk125 : fw_rk 125 = 2 := rfl
theorem fw_ki125 : fw_ki 125 = 0 := rfl
theorem fw_pt125 : fw_pt 125 = [] := rfl
theorem fw_hs125 : fw_hs 125 = [] := rfl
theorem fw_B126 : fw_B 126 = cX9_seal := rfl
theorem fw_mL126 : fw_mL 126 = 7 := rfl
theorem fw_rt126 : fw_rt 126 = (some (.int)) := rfl
theorem fw_oc126 : fw_oc 126 = 9 := rfl
theorem fw_rk126 : fw_rk 126 = 0 := rfl
theorem fw_ki126 : fw_ki 126 = 0 := rfl
theorem fw_pt126 : fw_pt 126 = [0] := rfl
theorem fw_hs126 : fw_hs 126 = [] := rfl
theorem fw_B127 : fw_B 127 = cX9_load := rfl
theorem fw_mL127 : fw_mL 127 = 4 := rfl
theorem fw_rt127 : fw_rt 127 = (some (.int)) := rfl
theorem fw_oc127 : fw_oc 127 = 9 := rfl
theorem fw_rk127 : fw_rk 127 = 0 := rfl
theorem fw_ki127 : fw_ki 127 = 0 := rfl
theorem fw_pt127 : fw_pt 127 = [0] := rfl
theorem fw_hs127 : fw_hs 127 = [] := rfl
theorem fw_B128 : fw_B 128 = cX9_jams := rfl
theorem fw_mL128 : fw_mL 128 = 6 := rfl
theorem fw_rt128 : fw_rt 128 = (some (.int)) := rfl
theorem fw_oc128 : fw_oc 128 = 9 := rfl
theorem fw_rk128 : fw_rk 128 = 0 := rfl
theorem fw_ki128 : fw_ki 128 = 0 := rfl
theorem fw_pt128 : fw_pt 128 = [] := rfl
theorem fw_hs128 : fw_hs 128 = [] := rfl
theorem fw_B129 : fw_B 129 = cL_cell := rfl
theorem fw_mL129 : fw_mL 129 = 2 := rfl
theorem fw_rt129 : fw_rt 129 = (some (.int)) := rfl
theorem fw_oc129 : fw_oc 129 = 10 := rfl
theorem fw_rk129 : fw_rk 129 = 0 := rfl
theorem fw_ki129 : fw_ki 129 = 1 := rfl
theorem fw_pt129 : fw_pt 129 = [6, 0] := rfl
theorem fw_hs129 : fw_hs 129 = [] := rfl
theorem fw_B130 : fw_B 130 = cL_low := rfl
theorem fw_mL130 : fw_mL 130 = 2 := rfl
theorem fw_rt130 : fw_rt 130 = (some (.int)) := rfl
theorem fw_oc130 : fw_oc 130 = 10 := rfl
theorem fw_rk130 : fw_rk 130 = 0 := rfl
theorem fw_ki130 : fw_ki 130 = 1 := rfl
theorem fw_pt130 : fw_pt 130 = [0, 0] := rfl
theorem fw_hs130 : fw_hs 130 = [] := rfl
theorem fw_B131 : fw_B 131 = cL_chuteFor := rfl
theorem fw_mL131 : fw_mL 131 = 3 := rfl
theorem fw_rt131 : fw_rt 131 = (some (.int)) := rfl
theorem fw_oc131 : fw_oc 131 = 10 := rfl
theorem fw_rk131 : fw_rk 131 = 6 := rfl
theorem fw_ki131 : fw_ki 131 = 3 := rfl
theorem fw_pt131 : fw_pt 131 = [2, 0] := rfl
theorem fw_hd131_4 : fw_hd 131 2 ((4 : Int)).toNat = some 6 := rfl
theorem fw_B132 : fw_B 132 = cL_trayAt := rfl
theorem fw_mL132 : fw_mL 132 = 3 := rfl
theorem fw_rt132 : fw_rt 132 = (some (.int)) := rfl
theorem fw_oc132 : fw_oc 132 = 10 := rfl
theorem fw_rk132 : fw_rk 132 = 6 := rfl
theorem fw_ki132 : fw_ki 132 = 3 := rfl
theorem fw_pt132 : fw_pt 132 = [2, 0] := rfl
theorem fw_hd132_4 : fw_hd 132 2 ((4 : Int)).toNat = some 6 := rfl
theorem fw_B133 : fw_B 133 = cL_agrees := rfl
theorem fw_mL133 : fw_mL 133 = 7 := rfl
theorem fw_rt133 : fw_rt 133 = (some (.boolean)) := rfl
theorem fw_oc133 : fw_oc 133 = 10 := rfl
theorem fw_rk133 : fw_rk 133 = 7 := rfl
theorem fw_ki133 : fw_ki 133 = 1 := rfl
theorem fw_pt133 : fw_pt 133 = [2, 2] := rfl
theorem fw_hs133 : fw_hs 133 = [] := rfl
theorem fw_B134 : fw_B 134 = cL_jams := rfl
theorem fw_mL134 : fw_mL 134 = 4 := rfl
theorem fw_rt134 : fw_rt 134 = (some (.boolean)) := rfl
theorem fw_oc134 : fw_oc 134 = 10 := rfl
theorem fw_rk134 : fw_rk 134 = 6 := rfl
theorem fw_ki134 : fw_ki 134 = 1 := rfl
theorem fw_pt134 : fw_pt 134 = [2, 2, 0] := rfl
theorem fw_hs134 : fw_hs 134 = [] := rfl
theorem fw_B135 : fw_B 135 = cL_empties := rfl
theorem fw_mL135 : fw_mL 135 = 7 := rfl
theorem fw_rt135 : fw_rt 135 = (some (.boolean)) := rfl
theorem fw_oc135 : fw_oc 135 = 10 := rfl
theorem fw_rk135 : fw_rk 135 = 6 := rfl
theorem fw_ki135 : fw_ki 135 = 1 := rfl
theorem fw_pt135 : fw_pt 135 = [2, 2, 0] := rfl
theorem fw_hs135 : fw_hs 135 = [] := rfl
theorem fw_B136 : fw_B 136 = cL_acts := rfl
theorem fw_mL136 : fw_mL 136 = 10 := rfl
theorem fw_rt136 : fw_rt 136 = (some (.boolean)) := rfl
theorem fw_oc136 : fw_oc 136 = 10 := rfl
theorem fw_rk136 : fw_rk 136 = 7 := rfl
theorem fw_ki136 : fw_ki 136 = 1 := rfl
theorem fw_pt136 : fw_pt 136 = [2, 2, 0] := rfl
theorem fw_hs136 : fw_hs 136 = [] := rfl
theorem fw_cr_10_10 : fw_cr 10 10 = some 8 := by decide +kernel
theorem fw_mr_10_216 : fw_mr 10 216 = some (68, 0) := by decide +kernel
theorem fw_cr_10_21 : fw_cr 10 21 = some 9 := by decide +kernel
theorem fw_iconst_4 : (Int32.ofInt 4).toInt = 4 := by decide +kernel
theorem fw_iconst_0 : (Int32.ofInt 0).toInt = 0 := by decide +kernel
theorem fw_mr_10_217 : fw_mr 10 217 = some (129, 0) := by decide +kernel
theorem fw_bipush_17 : (Int8.ofInt 17).toInt32.toInt = 17 := by decide +kernel
theorem fw_mr_10_167 : fw_mr 10 167 = some (130, 0) := by decide +kernel
theorem fw_mr_10_221 : fw_mr 10 221 = some (121, 0) := by decide +kernel
theorem fw_fr_10_78 : fw_fr 10 78 = some (9, 0) := by decide +kernel
theorem fw_tg_9_0 : fw_tg (fw_fk 9 0) = 0 := by decide
theorem fw_mr_10_224 : fw_mr 10 224 = some (69, 0) := by decide +kernel
theorem fw_bipush_12 : (Int8.ofInt 12).toInt32.toInt = 12 := by decide +kernel
theorem fw_iconst_1 : (Int32.ofInt 1).toInt = 1 := by decide +kernel
theorem fw_kd_32 : fw_kd 32 = 12 := by decide
theorem fw_bipush_8 : (Int8.ofInt 8).toInt32.toInt = 8 := by decide +kernel
theorem fw_bipush_24 : (Int8.ofInt 24).toInt32.toInt = 24 := by decide +kernel
theorem fw_mr_10_237 : fw_mr 10 237 = some (104, 0) := by decide +kernel
theorem fw_kd_1 : fw_kd 1 = 11 := by decide
theorem fw_mr_10_230 : fw_mr 10 230 = some (136, 0) := by decide +kernel
theorem fw_mr_10_233 : fw_mr 10 233 = some (133, 0) := by decide +kernel
theorem fw_fr_10_93 : fw_fr 10 93 = some (9, 5) := by decide +kernel
theorem fw_tg_9_5 : fw_tg (fw_fk 9 5) = 0 := by decide
theorem fw_fr_10_115 : fw_fr 10 115 = some (9, 9) := by decide +kernel
theorem fw_tg_9_9 : fw_tg (fw_fk 9 9) = 2 := by decide
theorem fw_iconst_3 : (Int32.ofInt 3).toInt = 3 := by decide +kernel
theorem fw_iconst_2 : (Int32.ofInt 2).toInt = 2 := by decide +kernel
theorem fw_kd_45 : fw_kd 45 = 100 := by decide
theorem fw_ln_45 : fw_ln 45 = 8 := by decide
theorem fw_mr_10_195 : fw_mr 10 195 = some (89, 0) := by decide +kernel
theorem fw_iconst_m1 : (Int32.ofInt (-1)).toInt = (-1) := by decide +kernel
theorem fw_bipush_6 : (Int8.ofInt 6).toInt32.toInt = 6 := by decide +kernel
theorem fw_fr_10_207 : fw_fr 10 207 = some (9, 6) := by decide +kernel
theorem fw_tg_9_6 : fw_tg (fw_fk 9 6) = 2 := by decide
theorem fw_iconst_5 : (Int32.ofInt 5).toInt = 5 := by decide +kernel
theorem fw_kd_36 : fw_kd 36 = 100 := by decide
theorem fw_ln_36 : fw_ln 36 = 6 := by decide
theorem fw_fr_10_131 : fw_fr 10 131 = some (9, 3) := by decide +kernel
theorem fw_tg_9_3 : fw_tg (fw_fk 9 3) = 2 := by decide
theorem fw_kd_34 : fw_kd 34 = 100 := by decide
theorem fw_ln_34 : fw_ln 34 = 20 := by decide
theorem fw_mr_10_227 : fw_mr 10 227 = some (70, 0) := by decide +kernel
theorem fw_nb_9_5 : fw_fk 9 5 ≠ 10 := by decide
theorem fw_nfin_9_5 : (fw_CT 9 5).2.2.2 ≠ true := by decide
theorem fw_mr_0_3 : fw_mr 0 3 = some (1002, 0) := by decide +kernel
theorem fw_bipush_20 : (Int8.ofInt 20).toInt32.toInt = 20 := by decide +kernel
theorem fw_fr_0_9 : fw_fr 0 9 = some (0, 0) := by decide +kernel
theorem fw_tg_0_0 : fw_tg (fw_fk 0 0) = 2 := by decide
theorem fw_nb_0_0 : fw_fk 0 0 ≠ 10 := by decide
theorem fw_fr_0_15 : fw_fr 0 15 = some (0, 1) := by decide +kernel
theorem fw_tg_0_1 : fw_tg (fw_fk 0 1) = 2 := by decide
theorem fw_nb_0_1 : fw_fk 0 1 ≠ 10 := by decide
theorem fw_mr_0_18 : fw_mr 0 18 = some (2, 0) := by decide +kernel
theorem fw_mr_0_22 : fw_mr 0 22 = some (1001, 0) := by decide +kernel
theorem fw_mr_0_28 : fw_mr 0 28 = some (1000, 0) := by decide +kernel
theorem fw_fr_0_31 : fw_fr 0 31 = some (0, 2) := by decide +kernel
theorem fw_tg_0_2 : fw_tg (fw_fk 0 2) = 0 := by decide
theorem fw_nb_0_2 : fw_fk 0 2 ≠ 10 := by decide
theorem fw_nfin_0_2 : (fw_CT 0 2).2.2.2 ≠ true := by decide
theorem fw_fr_0_35 : fw_fr 0 35 = some (0, 3) := by decide +kernel
theorem fw_tg_0_3 : fw_tg (fw_fk 0 3) = 0 := by decide
theorem fw_nb_0_3 : fw_fk 0 3 ≠ 10 := by decide
theorem fw_nfin_0_3 : (fw_CT 0 3).2.2.2 ≠ true := by decide
theorem fw_kd_8 : fw_kd 8 = 3 := by decide
theorem fw_kd_9 : fw_kd 9 = 100 := by decide
theorem fw_ln_9 : fw_ln 9 = 20 := by decide
theorem fw_kd_10 : fw_kd 10 = 100 := by decide
theorem fw_ln_10 : fw_ln 10 = 20 := by decide
theorem fw_mr_0_38 : fw_mr 0 38 = some (4, 0) := by decide +kernel
theorem fw_mr_0_42 : fw_mr 0 42 = some (5, 0) := by decide +kernel
theorem fw_mr_0_46 : fw_mr 0 46 = some (7, 0) := by decide +kernel
theorem fw_mr_0_49 : fw_mr 0 49 = some (10, 0) := by decide +kernel
theorem fw_mr_1_3 : fw_mr 1 3 = some (1002, 0) := by decide +kernel
theorem fw_fr_1_9 : fw_fr 1 9 = some (1, 0) := by decide +kernel
theorem fw_tg_1_0 : fw_tg (fw_fk 1 0) = 0 := by decide
theorem fw_nb_1_0 : fw_fk 1 0 ≠ 10 := by decide
theorem fw_fr_1_15 : fw_fr 1 15 = some (1, 2) := by decide +kernel
theorem fw_tg_1_2 : fw_tg (fw_fk 1 2) = 0 := by decide
theorem fw_nb_1_2 : fw_fk 1 2 ≠ 10 := by decide
theorem fw_nfin_1_2 : (fw_CT 1 2).2.2.2 ≠ true := by decide
theorem fw_cr_1_18 : fw_cr 1 18 = some 5 := by decide +kernel
theorem fw_bipush_30 : (Int8.ofInt 30).toInt32.toInt = 30 := by decide +kernel
theorem fw_mr_1_20 : fw_mr 1 20 = some (43, 0) := by decide +kernel
theorem fw_fr_1_23 : fw_fr 1 23 = some (1, 1) := by decide +kernel
theorem fw_tg_1_1 : fw_tg (fw_fk 1 1) = 2 := by decide
theorem fw_nb_1_1 : fw_fk 1 1 ≠ 10 := by decide
theorem fw_mr_1_27 : fw_mr 1 27 = some (45, 0) := by decide +kernel
theorem fw_fr_1_30 : fw_fr 1 30 = some (1, 4) := by decide +kernel
theorem fw_tg_1_4 : fw_tg (fw_fk 1 4) = 0 := by decide
theorem fw_sipush_9973 : (Int16.ofInt 9973).toInt32.toInt = 9973 := by decide +kernel
theorem fw_nb_1_4 : fw_fk 1 4 ≠ 10 := by decide
theorem fw_nfin_1_4 : (fw_CT 1 4).2.2.2 ≠ true := by decide
theorem fw_fr_1_33 : fw_fr 1 33 = some (1, 5) := by decide +kernel
theorem fw_tg_1_5 : fw_tg (fw_fk 1 5) = 0 := by decide
theorem fw_nb_1_5 : fw_fk 1 5 ≠ 10 := by decide
theorem fw_nfin_1_5 : (fw_CT 1 5).2.2.2 ≠ true := by decide
theorem fw_fr_1_36 : fw_fr 1 36 = some (5, 1) := by decide +kernel
theorem fw_tg_5_1 : fw_tg (fw_fk 5 1) = 0 := by decide
theorem fw_nb_5_1 : fw_fk 5 1 ≠ 10 := by decide
theorem fw_nfin_5_1 : (fw_CT 5 1).2.2.2 ≠ true := by decide
theorem fw_sipush_10000 : (Int16.ofInt 10000).toInt32.toInt = 10000 := by decide +kernel
theorem fw_mr_1_39 : fw_mr 1 39 = some (46, 0) := by decide +kernel
theorem fw_mr_2_3 : fw_mr 2 3 = some (1002, 0) := by decide +kernel
theorem fw_cr_2_9 : fw_cr 2 9 = some 5 := by decide +kernel
theorem fw_sipush_300 : (Int16.ofInt 300).toInt32.toInt = 300 := by decide +kernel
theorem fw_mr_2_11 : fw_mr 2 11 = some (43, 0) := by decide +kernel
theorem fw_fr_2_14 : fw_fr 2 14 = some (2, 0) := by decide +kernel
theorem fw_tg_2_0 : fw_tg (fw_fk 2 0) = 2 := by decide
theorem fw_nb_2_0 : fw_fk 2 0 ≠ 10 := by decide
theorem fw_fr_2_20 : fw_fr 2 20 = some (2, 1) := by decide +kernel
theorem fw_tg_2_1 : fw_tg (fw_fk 2 1) = 2 := by decide
theorem fw_nb_2_1 : fw_fk 2 1 ≠ 10 := by decide
theorem fw_kd_27 : fw_kd 27 = 5 := by decide
theorem fw_fr_2_24 : fw_fr 2 24 = some (2, 2) := by decide +kernel
theorem fw_tg_2_2 : fw_tg (fw_fk 2 2) = 0 := by decide
theorem fw_kd_28 : fw_kd 28 = 8 := by decide
theorem fw_fr_2_28 : fw_fr 2 28 = some (5, 1) := by decide +kernel
theorem fw_kd_30 : fw_kd 30 = 100 := by decide
theorem fw_ln_30 : fw_ln 30 = 300 := by decide
theorem fw_nb_2_2 : fw_fk 2 2 ≠ 10 := by decide
theorem fw_nfin_2_2 : (fw_CT 2 2).2.2.2 ≠ true := by decide
theorem fw_mr_2_29 : fw_mr 2 29 = some (44, 0) := by decide +kernel
theorem fw_mr_2_33 : fw_mr 2 33 = some (45, 0) := by decide +kernel
theorem fw_mr_2_36 : fw_mr 2 36 = some (18, 0) := by decide +kernel
theorem fw_mr_2_40 : fw_mr 2 40 = some (20, 0) := by decide +kernel
theorem fw_mr_2_43 : fw_mr 2 43 = some (21, 0) := by decide +kernel
theorem fw_mr_2_46 : fw_mr 2 46 = some (46, 0) := by decide +kernel
theorem fw_mr_3_3 : fw_mr 3 3 = some (1002, 0) := by decide +kernel
theorem fw_cr_3_9 : fw_cr 3 9 = some 0 := by decide +kernel
theorem fw_mr_3_11 : fw_mr 3 11 = some (1, 0) := by decide +kernel
theorem fw_fr_3_12 : fw_fr 3 12 = some (3, 3) := by decide +kernel
theorem fw_tg_3_3 : fw_tg (fw_fk 3 3) = 2 := by decide
theorem fw_nb_3_3 : fw_fk 3 3 ≠ 10 := by decide
theorem fw_fr_3_18 : fw_fr 3 18 = some (3, 4) := by decide +kernel
theorem fw_tg_3_4 : fw_tg (fw_fk 3 4) = 2 := by decide
theorem fw_nb_3_4 : fw_fk 3 4 ≠ 10 := by decide
theorem fw_fr_3_22 : fw_fr 3 22 = some (3, 5) := by decide +kernel
theorem fw_tg_3_5 : fw_tg (fw_fk 3 5) = 2 := by decide
theorem fw_nb_3_5 : fw_fk 3 5 ≠ 10 := by decide
theorem fw_fr_3_25 : fw_fr 3 25 = some (3, 6) := by decide +kernel
theorem fw_tg_3_6 : fw_tg (fw_fk 3 6) = 2 := by decide
theorem fw_nb_3_6 : fw_fk 3 6 ≠ 10 := by decide
theorem fw_fr_3_28 : fw_fr 3 28 = some (3, 7) := by decide +kernel
theorem fw_tg_3_7 : fw_tg (fw_fk 3 7) = 2 := by decide
theorem fw_nb_3_7 : fw_fk 3 7 ≠ 10 := by decide
theorem fw_fr_3_31 : fw_fr 3 31 = some (3, 0) := by decide +kernel
theorem fw_tg_3_0 : fw_tg (fw_fk 3 0) = 2 := by decide
theorem fw_nb_3_0 : fw_fk 3 0 ≠ 10 := by decide
theorem fw_fr_3_35 : fw_fr 3 35 = some (3, 1) := by decide +kernel
theorem fw_tg_3_1 : fw_tg (fw_fk 3 1) = 2 := by decide
theorem fw_nb_3_1 : fw_fk 3 1 ≠ 10 := by decide
theorem fw_fr_3_39 : fw_fr 3 39 = some (3, 2) := by decide +kernel
theorem fw_tg_3_2 : fw_tg (fw_fk 3 2) = 2 := by decide
theorem fw_nb_3_2 : fw_fk 3 2 ≠ 10 := by decide
theorem fw_mr_3_42 : fw_mr 3 42 = some (27, 0) := by decide +kernel
theorem fw_kd_17 : fw_kd 17 = 6 := by decide
theorem fw_mr_3_45 : fw_mr 3 45 = some (3, 0) := by decide +kernel
theorem fw_kd_18 : fw_kd 18 = 3 := by decide
theorem fw_mr_3_49 : fw_mr 3 49 = some (28, 0) := by decide +kernel
theorem fw_kd_11 : fw_kd 11 = 9 := by decide
theorem fw_fr_3_60 : fw_fr 3 60 = some (6, 3) := by decide +kernel
theorem fw_tg_6_3 : fw_tg (fw_fk 6 3) = 0 := by decide
theorem fw_mr_3_66 : fw_mr 3 66 = some (29, 0) := by decide +kernel
theorem fw_kd_21 : fw_kd 21 = 100 := by decide
theorem fw_ln_21 : fw_ln 21 = 20 := by decide
theorem fw_mr_3_53 : fw_mr 3 53 = some (7, 0) := by decide +kernel
theorem fw_kd_22 : fw_kd 22 = 100 := by decide
theorem fw_ln_22 : fw_ln 22 = 20 := by decide
theorem fw_mr_3_57 : fw_mr 3 57 = some (8, 0) := by decide +kernel
theorem fw_kd_23 : fw_kd 23 = 100 := by decide
theorem fw_ln_23 : fw_ln 23 = 20 := by decide
theorem fw_kd_2 : fw_kd 2 = 7 := by decide
theorem fw_fr_3_69 : fw_fr 3 69 = some (4, 6) := by decide +kernel
theorem fw_tg_4_6 : fw_tg (fw_fk 4 6) = 0 := by decide
theorem fw_fr_3_74 : fw_fr 3 74 = some (3, 8) := by decide +kernel
theorem fw_tg_3_8 : fw_tg (fw_fk 3 8) = 0 := by decide
theorem fw_nb_3_8 : fw_fk 3 8 ≠ 10 := by decide
theorem fw_nfin_3_8 : (fw_CT 3 8).2.2.2 ≠ true := by decide
theorem fw_mr_3_77 : fw_mr 3 77 = some (49, 0) := by decide +kernel
theorem fw_fr_3_81 : fw_fr 3 81 = some (1, 1) := by decide +kernel
theorem fw_fr_3_87 : fw_fr 3 87 = some (5, 1) := by decide +kernel
theorem fw_kd_24 : fw_kd 24 = 100 := by decide
theorem fw_ln_24 : fw_ln 24 = 6 := by decide
theorem fw_mr_3_92 : fw_mr 3 92 = some (6, 0) := by decide +kernel
theorem fw_fr_3_95 : fw_fr 3 95 = some (4, 5) := by decide +kernel
theorem fw_tg_4_5 : fw_tg (fw_fk 4 5) = 0 := by decide
theorem fw_mr_3_98 : fw_mr 3 98 = some (59, 0) := by decide +kernel
theorem fw_mr_3_102 : fw_mr 3 102 = some (10, 0) := by decide +kernel
theorem fw_mr_3_117 : fw_mr 3 117 = some (61, 0) := by decide +kernel
theorem fw_mr_3_113 : fw_mr 3 113 = some (11, 0) := by decide +kernel
theorem fw_fr_3_106 : fw_fr 3 106 = some (1, 0) := by decide +kernel
theorem fw_mr_3_109 : fw_mr 3 109 = some (31, 0) := by decide +kernel
theorem fw_mr_3_123 : fw_mr 3 123 = some (50, 0) := by decide +kernel
theorem fw_mr_3_120 : fw_mr 3 120 = some (30, 0) := by decide +kernel
theorem fw_mr_3_126 : fw_mr 3 126 = some (38, 0) := by decide +kernel
theorem fw_mr_3_129 : fw_mr 3 129 = some (60, 0) := by decide +kernel
theorem fw_mr_4_3 : fw_mr 4 3 = some (1002, 0) := by decide +kernel
theorem fw_fr_4_9 : fw_fr 4 9 = some (4, 0) := by decide +kernel
theorem fw_tg_4_0 : fw_tg (fw_fk 4 0) = 2 := by decide
theorem fw_nb_4_0 : fw_fk 4 0 ≠ 10 := by decide
theorem fw_fr_4_15 : fw_fr 4 15 = some (4, 1) := by decide +kernel
theorem fw_tg_4_1 : fw_tg (fw_fk 4 1) = 2 := by decide
theorem fw_nb_4_1 : fw_fk 4 1 ≠ 10 := by decide
theorem fw_fr_4_18 : fw_fr 4 18 = some (4, 2) := by decide +kernel
theorem fw_tg_4_2 : fw_tg (fw_fk 4 2) = 2 := by decide
theorem fw_nb_4_2 : fw_fk 4 2 ≠ 10 := by decide
theorem fw_fr_4_22 : fw_fr 4 22 = some (4, 3) := by decide +kernel
theorem fw_tg_4_3 : fw_tg (fw_fk 4 3) = 2 := by decide
theorem fw_nb_4_3 : fw_fk 4 3 ≠ 10 := by decide
theorem fw_fr_4_25 : fw_fr 4 25 = some (4, 4) := by decide +kernel
theorem fw_tg_4_4 : fw_tg (fw_fk 4 4) = 2 := by decide
theorem fw_nb_4_4 : fw_fk 4 4 ≠ 10 := by decide
theorem fw_fr_4_28 : fw_fr 4 28 = some (4, 5) := by decide +kernel
theorem fw_kd_3 : fw_kd 3 = 100 := by decide
theorem fw_ln_3 : fw_ln 3 = 300 := by decide
theorem fw_kd_4 : fw_kd 4 = 100 := by decide
theorem fw_ln_4 : fw_ln 4 = 300 := by decide
theorem fw_bipush_119 : (Int8.ofInt 119).toInt32.toInt = 119 := by decide +kernel
theorem fw_kd_5 : fw_kd 5 = 101 := by decide
theorem fw_ln_5 : fw_ln 5 = 300 := by decide
theorem fw_nb_4_5 : fw_fk 4 5 ≠ 10 := by decide
theorem fw_nfin_4_5 : (fw_CT 4 5).2.2.2 ≠ true := by decide
theorem fw_fr_4_32 : fw_fr 4 32 = some (4, 6) := by decide +kernel
theorem fw_mr_4_35 : fw_mr 4 35 = some (33, 0) := by decide +kernel
theorem fw_bipush_108 : (Int8.ofInt 108).toInt32.toInt = 108 := by decide +kernel
theorem fw_nb_4_6 : fw_fk 4 6 ≠ 10 := by decide
theorem fw_nfin_4_6 : (fw_CT 4 6).2.2.2 ≠ true := by decide
theorem fw_kd_6 : fw_kd 6 = 100 := by decide
theorem fw_ln_6 : fw_ln 6 = 300 := by decide
theorem fw_fr_4_39 : fw_fr 4 39 = some (4, 7) := by decide +kernel
theorem fw_tg_4_7 : fw_tg (fw_fk 4 7) = 0 := by decide
theorem fw_nb_4_7 : fw_fk 4 7 ≠ 10 := by decide
theorem fw_nfin_4_7 : (fw_CT 4 7).2.2.2 ≠ true := by decide
theorem fw_fr_4_42 : fw_fr 4 42 = some (4, 8) := by decide +kernel
theorem fw_tg_4_8 : fw_tg (fw_fk 4 8) = 1 := by decide
theorem fw_nb_4_8 : fw_fk 4 8 ≠ 10 := by decide
theorem fw_nfin_4_8 : (fw_CT 4 8).2.2.2 ≠ true := by decide
theorem fw_bipush_116 : (Int8.ofInt 116).toInt32.toInt = 116 := by decide +kernel
theorem fw_kd_7 : fw_kd 7 = 100 := by decide
theorem fw_ln_7 : fw_ln 7 = 300 := by decide
theorem fw_fr_4_46 : fw_fr 4 46 = some (4, 9) := by decide +kernel
theorem fw_tg_4_9 : fw_tg (fw_fk 4 9) = 1 := by decide
theorem fw_nb_4_9 : fw_fk 4 9 ≠ 10 := by decide
theorem fw_nfin_4_9 : (fw_CT 4 9).2.2.2 ≠ true := by decide
theorem fw_bipush_45 : (Int8.ofInt 45).toInt32.toInt = 45 := by decide +kernel
theorem fw_mr_5_3 : fw_mr 5 3 = some (1002, 0) := by decide +kernel
theorem fw_mr_5_9 : fw_mr 5 9 = some (1000, 0) := by decide +kernel
theorem fw_fr_5_15 : fw_fr 5 15 = some (5, 0) := by decide +kernel
theorem fw_tg_5_0 : fw_tg (fw_fk 5 0) = 2 := by decide
theorem fw_nb_5_0 : fw_fk 5 0 ≠ 10 := by decide
theorem fw_fr_5_21 : fw_fr 5 21 = some (5, 1) := by decide +kernel
theorem fw_mr_5_25 : fw_mr 5 25 = some (44, 0) := by decide +kernel
theorem fw_mr_6_3 : fw_mr 6 3 = some (1002, 0) := by decide +kernel
theorem fw_fr_6_11 : fw_fr 6 11 = some (6, 0) := by decide +kernel
theorem fw_tg_6_0 : fw_tg (fw_fk 6 0) = 2 := by decide
theorem fw_nb_6_0 : fw_fk 6 0 ≠ 10 := by decide
theorem fw_fr_6_17 : fw_fr 6 17 = some (6, 1) := by decide +kernel
theorem fw_tg_6_1 : fw_tg (fw_fk 6 1) = 2 := by decide
theorem fw_nb_6_1 : fw_fk 6 1 ≠ 10 := by decide
theorem fw_bipush_11 : (Int8.ofInt 11).toInt32.toInt = 11 := by decide +kernel
theorem fw_fr_6_21 : fw_fr 6 21 = some (6, 3) := by decide +kernel
theorem fw_nb_6_3 : fw_fk 6 3 ≠ 10 := by decide
theorem fw_nfin_6_3 : (fw_CT 6 3).2.2.2 ≠ true := by decide
theorem fw_fr_6_25 : fw_fr 6 25 = some (6, 4) := by decide +kernel
theorem fw_tg_6_4 : fw_tg (fw_fk 6 4) = 0 := by decide
theorem fw_nb_6_4 : fw_fk 6 4 ≠ 10 := by decide
theorem fw_nfin_6_4 : (fw_CT 6 4).2.2.2 ≠ true := by decide
theorem fw_fr_6_28 : fw_fr 6 28 = some (6, 2) := by decide +kernel
theorem fw_tg_6_2 : fw_tg (fw_fk 6 2) = 0 := by decide
theorem fw_cr_6_9 : fw_cr 6 9 = some 1 := by decide +kernel
theorem fw_mr_6_31 : fw_mr 6 31 = some (12, 0) := by decide +kernel
theorem fw_kd_12 : fw_kd 12 = 105 := by decide
theorem fw_ln_12 : fw_ln 12 = 6 := by decide
theorem fw_nb_6_2 : fw_fk 6 2 ≠ 10 := by decide
theorem fw_nfin_6_2 : (fw_CT 6 2).2.2.2 ≠ true := by decide
theorem fw_mr_6_34 : fw_mr 6 34 = some (49, 0) := by decide +kernel
theorem fw_fr_6_38 : fw_fr 6 38 = some (1, 0) := by decide +kernel
theorem fw_mr_6_41 : fw_mr 6 41 = some (50, 0) := by decide +kernel
theorem fw_mr_6_45 : fw_mr 6 45 = some (51, 0) := by decide +kernel
theorem fw_bipush_99 : (Int8.ofInt 99).toInt32.toInt = 99 := by decide +kernel
theorem fw_bipush_111 : (Int8.ofInt 111).toInt32.toInt = 111 := by decide +kernel
theorem fw_bipush_105 : (Int8.ofInt 105).toInt32.toInt = 105 := by decide +kernel
theorem fw_fr_6_55 : fw_fr 6 55 = some (1, 3) := by decide +kernel
theorem fw_tg_1_3 : fw_tg (fw_fk 1 3) = 0 := by decide
theorem fw_fr_6_52 : fw_fr 6 52 = some (6, 6) := by decide +kernel
theorem fw_tg_6_6 : fw_tg (fw_fk 6 6) = 0 := by decide
theorem fw_fr_6_48 : fw_fr 6 48 = some (6, 5) := by decide +kernel
theorem fw_tg_6_5 : fw_tg (fw_fk 6 5) = 0 := by decide
theorem fw_nfin_1_3 : (fw_CT 1 3).2.2.2 ≠ true := by decide
theorem fw_nfin_6_6 : (fw_CT 6 6).2.2.2 ≠ true := by decide
theorem fw_nfin_6_5 : (fw_CT 6 5).2.2.2 ≠ true := by decide
theorem fw_mr_6_58 : fw_mr 6 58 = some (106, 1) := by decide +kernel
theorem fw_kd_13 : fw_kd 13 = 100 := by decide
theorem fw_ln_13 : fw_ln 13 = 8 := by decide
theorem fw_fr_6_62 : fw_fr 6 62 = some (1, 2) := by decide +kernel
theorem fw_mr_6_65 : fw_mr 6 65 = some (57, 0) := by decide +kernel
theorem fw_mr_6_68 : fw_mr 6 68 = some (15, 0) := by decide +kernel
theorem fw_mr_6_72 : fw_mr 6 72 = some (16, 0) := by decide +kernel
theorem fw_mr_7_3 : fw_mr 7 3 = some (1002, 0) := by decide +kernel
theorem fw_fr_7_9 : fw_fr 7 9 = some (7, 2) := by decide +kernel
theorem fw_tg_7_2 : fw_tg (fw_fk 7 2) = 2 := by decide
theorem fw_nb_7_2 : fw_fk 7 2 ≠ 10 := by decide
theorem fw_fr_7_15 : fw_fr 7 15 = some (7, 3) := by decide +kernel
theorem fw_tg_7_3 : fw_tg (fw_fk 7 3) = 2 := by decide
theorem fw_nb_7_3 : fw_fk 7 3 ≠ 10 := by decide
theorem fw_fr_7_18 : fw_fr 7 18 = some (7, 0) := by decide +kernel
theorem fw_tg_7_0 : fw_tg (fw_fk 7 0) = 2 := by decide
theorem fw_nb_7_0 : fw_fk 7 0 ≠ 10 := by decide
theorem fw_fr_7_22 : fw_fr 7 22 = some (7, 1) := by decide +kernel
theorem fw_tg_7_1 : fw_tg (fw_fk 7 1) = 2 := by decide
theorem fw_nb_7_1 : fw_fk 7 1 ≠ 10 := by decide
theorem fw_mr_8_1 : fw_mr 8 1 = some (1002, 0) := by decide +kernel
theorem fw_cr_8_7 : fw_cr 8 7 = some 4 := by decide +kernel
theorem fw_mr_8_9 : fw_mr 8 9 = some (32, 1) := by decide +kernel
theorem fw_fr_8_10 : fw_fr 8 10 = some (8, 0) := by decide +kernel
theorem fw_tg_8_0 : fw_tg (fw_fk 8 0) = 2 := by decide
theorem fw_nb_8_0 : fw_fk 8 0 ≠ 10 := by decide
theorem fw_cr_8_16 : fw_cr 8 16 = some 0 := by decide +kernel
theorem fw_mr_8_18 : fw_mr 8 18 = some (1, 0) := by decide +kernel
theorem fw_fr_8_19 : fw_fr 8 19 = some (8, 1) := by decide +kernel
theorem fw_tg_8_1 : fw_tg (fw_fk 8 1) = 2 := by decide
theorem fw_nb_8_1 : fw_fk 8 1 ≠ 10 := by decide
theorem fw_cr_8_23 : fw_cr 8 23 = some 6 := by decide +kernel
theorem fw_mr_8_25 : fw_mr 8 25 = some (47, 0) := by decide +kernel
theorem fw_fr_8_26 : fw_fr 8 26 = some (8, 2) := by decide +kernel
theorem fw_tg_8_2 : fw_tg (fw_fk 8 2) = 2 := by decide
theorem fw_nb_8_2 : fw_fk 8 2 ≠ 10 := by decide
theorem fw_cr_8_30 : fw_cr 8 30 = some 7 := by decide +kernel
theorem fw_mr_8_32 : fw_mr 8 32 = some (63, 0) := by decide +kernel
theorem fw_fr_8_35 : fw_fr 8 35 = some (8, 3) := by decide +kernel
theorem fw_tg_8_3 : fw_tg (fw_fk 8 3) = 2 := by decide
theorem fw_nb_8_3 : fw_fk 8 3 ≠ 10 := by decide
theorem fw_cr_8_39 : fw_cr 8 39 = some 3 := by decide +kernel
theorem fw_mr_8_41 : fw_mr 8 41 = some (24, 0) := by decide +kernel
theorem fw_fr_8_44 : fw_fr 8 44 = some (8, 4) := by decide +kernel
theorem fw_tg_8_4 : fw_tg (fw_fk 8 4) = 2 := by decide
theorem fw_nb_8_4 : fw_fk 8 4 ≠ 10 := by decide
theorem fw_cr_8_48 : fw_cr 8 48 = some 5 := by decide +kernel
theorem fw_mr_8_50 : fw_mr 8 50 = some (43, 0) := by decide +kernel
theorem fw_fr_8_53 : fw_fr 8 53 = some (8, 5) := by decide +kernel
theorem fw_tg_8_5 : fw_tg (fw_fk 8 5) = 2 := by decide
theorem fw_nb_8_5 : fw_fk 8 5 ≠ 10 := by decide
theorem fw_cr_8_57 : fw_cr 8 57 = some 2 := by decide +kernel
theorem fw_mr_8_59 : fw_mr 8 59 = some (17, 1) := by decide +kernel
theorem fw_fr_8_60 : fw_fr 8 60 = some (8, 6) := by decide +kernel
theorem fw_tg_8_6 : fw_tg (fw_fk 8 6) = 2 := by decide
theorem fw_nb_8_6 : fw_fk 8 6 ≠ 10 := by decide
theorem fw_fr_8_64 : fw_fr 8 64 = some (8, 7) := by decide +kernel
theorem fw_tg_8_7 : fw_tg (fw_fk 8 7) = 2 := by decide
theorem fw_nb_8_7 : fw_fk 8 7 ≠ 10 := by decide
theorem fw_fr_8_71 : fw_fr 8 71 = some (6, 2) := by decide +kernel
theorem fw_fr_8_75 : fw_fr 8 75 = some (4, 5) := by decide +kernel
theorem fw_fr_8_81 : fw_fr 8 81 = some (0, 2) := by decide +kernel
theorem fw_mr_8_84 : fw_mr 8 84 = some (2, 0) := by decide +kernel
theorem fw_fr_8_87 : fw_fr 8 87 = some (6, 3) := by decide +kernel
theorem fw_cr_8_78 : fw_cr 8 78 = none := by decide +kernel
theorem fw_xr_78 : fw_xr 78 = some (80, 1) := by decide +kernel
theorem fw_cr_8_68 : fw_cr 8 68 = none := by decide +kernel
theorem fw_xr_68 : fw_xr 68 = some (70, 0) := by decide +kernel
theorem fw_mr_8_90 : fw_mr 8 90 = some (105, 0) := by decide +kernel
theorem fw_mr_8_94 : fw_mr 8 94 = some (51, 0) := by decide +kernel
theorem fw_cr_8_98 : fw_cr 8 98 = none := by decide +kernel
theorem fw_xr_98 : fw_xr 98 = some (100, 2) := by decide +kernel
theorem fw_mr_8_101 : fw_mr 8 101 = some (48, 0) := by decide +kernel
theorem fw_mr_8_105 : fw_mr 8 105 = some (112, 0) := by decide +kernel
theorem fw_fr_8_108 : fw_fr 8 108 = some (1, 1) := by decide +kernel
theorem fw_fr_8_113 : fw_fr 8 113 = some (5, 1) := by decide +kernel
theorem fw_fr_8_116 : fw_fr 8 116 = some (1, 2) := by decide +kernel
theorem fw_bipush_9 : (Int8.ofInt 9).toInt32.toInt = 9 := by decide +kernel
theorem fw_fr_8_119 : fw_fr 8 119 = some (6, 4) := by decide +kernel
theorem fw_mr_8_122 : fw_mr 8 122 = some (110, 0) := by decide +kernel
theorem fw_mr_8_125 : fw_mr 8 125 = some (53, 0) := by decide +kernel
theorem fw_mr_8_128 : fw_mr 8 128 = some (54, 0) := by decide +kernel
theorem fw_mr_8_132 : fw_mr 8 132 = some (55, 0) := by decide +kernel
theorem fw_mr_8_136 : fw_mr 8 136 = some (109, 0) := by decide +kernel
theorem fw_mr_8_139 : fw_mr 8 139 = some (52, 0) := by decide +kernel
theorem fw_mr_8_143 : fw_mr 8 143 = some (106, 0) := by decide +kernel
theorem fw_mr_8_146 : fw_mr 8 146 = some (34, 0) := by decide +kernel
theorem fw_mr_8_149 : fw_mr 8 149 = some (108, 0) := by decide +kernel
theorem fw_mr_8_152 : fw_mr 8 152 = some (115, 0) := by decide +kernel
theorem fw_fr_8_155 : fw_fr 8 155 = some (8, 8) := by decide +kernel
theorem fw_tg_8_8 : fw_tg (fw_fk 8 8) = 1 := by decide
theorem fw_mr_8_159 : fw_mr 8 159 = some (111, 0) := by decide +kernel
theorem fw_mr_8_162 : fw_mr 8 162 = some (39, 0) := by decide +kernel
theorem fw_mr_8_165 : fw_mr 8 165 = some (9, 0) := by decide +kernel
theorem fw_mr_8_172 : fw_mr 8 172 = some (40, 0) := by decide +kernel
theorem fw_mr_8_169 : fw_mr 8 169 = some (8, 0) := by decide +kernel
theorem fw_mr_8_175 : fw_mr 8 175 = some (7, 0) := by decide +kernel
theorem fw_cr_8_178 : fw_cr 8 178 = none := by decide +kernel
theorem fw_xr_178 : fw_xr 178 = some (180, 4) := by decide +kernel
theorem fw_fr_8_181 : fw_fr 8 181 = some (4, 6) := by decide +kernel
theorem fw_fr_8_184 : fw_fr 8 184 = some (4, 7) := by decide +kernel
theorem fw_kd_25 : fw_kd 25 = 8 := by decide
theorem fw_mr_8_187 : fw_mr 8 187 = some (25, 0) := by decide +kernel
theorem fw_mr_8_190 : fw_mr 8 190 = some (26, 0) := by decide +kernel
theorem fw_mr_8_200 : fw_mr 8 200 = some (107, 0) := by decide +kernel
theorem fw_mr_8_203 : fw_mr 8 203 = some (57, 0) := by decide +kernel
theorem fw_mr_8_206 : fw_mr 8 206 = some (58, 0) := by decide +kernel
theorem fw_mr_8_210 : fw_mr 8 210 = some (42, 0) := by decide +kernel
theorem fw_mr_8_213 : fw_mr 8 213 = some (15, 0) := by decide +kernel
theorem fw_mr_8_216 : fw_mr 8 216 = some (16, 0) := by decide +kernel
theorem fw_mr_8_219 : fw_mr 8 219 = some (19, 0) := by decide +kernel
theorem fw_mr_8_229 : fw_mr 8 229 = some (14, 0) := by decide +kernel
theorem fw_mr_8_223 : fw_mr 8 223 = some (44, 0) := by decide +kernel
theorem fw_mr_8_226 : fw_mr 8 226 = some (37, 0) := by decide +kernel
theorem fw_fr_8_232 : fw_fr 8 232 = some (2, 2) := by decide +kernel
theorem fw_mr_8_233 : fw_mr 8 233 = some (113, 0) := by decide +kernel
theorem fw_mr_8_236 : fw_mr 8 236 = some (23, 0) := by decide +kernel
theorem fw_mr_8_239 : fw_mr 8 239 = some (21, 0) := by decide +kernel
theorem fw_mr_8_242 : fw_mr 8 242 = some (22, 0) := by decide +kernel
theorem fw_mr_8_244 : fw_mr 8 244 = some (41, 0) := by decide +kernel
theorem fw_fr_8_247 : fw_fr 8 247 = some (4, 9) := by decide +kernel
theorem fw_mr_8_250 : fw_mr 8 250 = some (114, 0) := by decide +kernel
theorem fw_fr_8_253 : fw_fr 8 253 = some (4, 8) := by decide +kernel
theorem fw_mr_8_256 : fw_mr 8 256 = some (118, 0) := by decide +kernel
theorem fw_mr_8_259 : fw_mr 8 259 = some (62, 0) := by decide +kernel
theorem fw_bipush_60 : (Int8.ofInt 60).toInt32.toInt = 60 := by decide +kernel
theorem fw_sipush_200 : (Int16.ofInt 200).toInt32.toInt = 200 := by decide +kernel
theorem fw_mr_8_262 : fw_mr 8 262 = some (4, 0) := by decide +kernel
theorem fw_mr_8_265 : fw_mr 8 265 = some (33, 0) := by decide +kernel
theorem fw_mr_8_266 : fw_mr 8 266 = some (49, 0) := by decide +kernel
theorem fw_cr_8_269 : fw_cr 8 269 = none := by decide +kernel
theorem fw_xr_269 : fw_xr 269 = some (271, 3) := by decide +kernel
theorem fw_mr_8_272 : fw_mr 8 272 = some (18, 0) := by decide +kernel
theorem fw_cr_8_273 : fw_cr 8 273 = none := by decide +kernel
theorem fw_xr_273 : fw_xr 273 = some (275, 5) := by decide +kernel
theorem fw_lconst_1 : (Int64.ofNat ((1 : Fin 2) : Nat)).toInt = 1 := by decide +kernel
theorem fw_nb_8_8 : fw_fk 8 8 ≠ 10 := by decide
theorem fw_nfin_8_8 : (fw_CT 8 8).2.2.2 ≠ true := by decide
theorem fw_mr_8_276 : fw_mr 8 276 = some (6, 0) := by decide +kernel
theorem fw_mr_8_279 : fw_mr 8 279 = some (59, 0) := by decide +kernel
theorem fw_mr_8_283 : fw_mr 8 283 = some (35, 0) := by decide +kernel
theorem fw_mr_8_286 : fw_mr 8 286 = some (10, 0) := by decide +kernel
theorem fw_mr_8_292 : fw_mr 8 292 = some (117, 0) := by decide +kernel
theorem fw_mr_8_289 : fw_mr 8 289 = some (116, 0) := by decide +kernel
theorem fw_fr_8_295 : fw_fr 8 295 = some (1, 0) := by decide +kernel
theorem fw_mr_8_298 : fw_mr 8 298 = some (38, 0) := by decide +kernel
theorem fw_mr_8_301 : fw_mr 8 301 = some (60, 0) := by decide +kernel
theorem fw_mr_8_304 : fw_mr 8 304 = some (36, 0) := by decide +kernel
theorem fw_mr_8_308 : fw_mr 8 308 = some (11, 0) := by decide +kernel
theorem fw_mr_8_311 : fw_mr 8 311 = some (13, 0) := by decide +kernel
theorem fw_mr_8_314 : fw_mr 8 314 = some (61, 0) := by decide +kernel
theorem fw_mr_8_318 : fw_mr 8 318 = some (45, 0) := by decide +kernel
theorem fw_kd_31 : fw_kd 31 = 100 := by decide
theorem fw_ln_31 : fw_ln 31 = 300 := by decide
theorem fw_fr_8_327 : fw_fr 8 327 = some (2, 0) := by decide +kernel
theorem fw_mr_8_323 : fw_mr 8 323 = some (119, 0) := by decide +kernel
theorem fw_mr_8_320 : fw_mr 8 320 = some (120, 0) := by decide +kernel
theorem fw_mr_9_1 : fw_mr 9 1 = some (1002, 0) := by decide +kernel
theorem fw_fr_9_7 : fw_fr 9 7 = some (9, 2) := by decide +kernel
theorem fw_tg_9_2 : fw_tg (fw_fk 9 2) = 2 := by decide
theorem fw_nb_9_2 : fw_fk 9 2 ≠ 10 := by decide
theorem fw_fr_9_13 : fw_fr 9 13 = some (9, 3) := by decide +kernel
theorem fw_nb_9_3 : fw_fk 9 3 ≠ 10 := by decide
theorem fw_fr_9_16 : fw_fr 9 16 = some (9, 4) := by decide +kernel
theorem fw_tg_9_4 : fw_tg (fw_fk 9 4) = 2 := by decide
theorem fw_nb_9_4 : fw_fk 9 4 ≠ 10 := by decide
theorem fw_fr_9_20 : fw_fr 9 20 = some (9, 6) := by decide +kernel
theorem fw_nb_9_6 : fw_fk 9 6 ≠ 10 := by decide
theorem fw_fr_9_25 : fw_fr 9 25 = some (9, 7) := by decide +kernel
theorem fw_tg_9_7 : fw_tg (fw_fk 9 7) = 2 := by decide
theorem fw_nb_9_7 : fw_fk 9 7 ≠ 10 := by decide
theorem fw_fr_9_28 : fw_fr 9 28 = some (9, 8) := by decide +kernel
theorem fw_tg_9_8 : fw_tg (fw_fk 9 8) = 2 := by decide
theorem fw_nb_9_8 : fw_fk 9 8 ≠ 10 := by decide
theorem fw_fr_9_31 : fw_fr 9 31 = some (9, 9) := by decide +kernel
theorem fw_nb_9_9 : fw_fk 9 9 ≠ 10 := by decide
theorem fw_fr_9_34 : fw_fr 9 34 = some (9, 10) := by decide +kernel
theorem fw_tg_9_10 : fw_tg (fw_fk 9 10) = 0 := by decide
theorem fw_nb_9_10 : fw_fk 9 10 ≠ 10 := by decide
theorem fw_nfin_9_10 : (fw_CT 9 10).2.2.2 ≠ true := by decide
theorem fw_fr_9_38 : fw_fr 9 38 = some (9, 12) := by decide +kernel
theorem fw_tg_9_12 : fw_tg (fw_fk 9 12) = 2 := by decide
theorem fw_nb_9_12 : fw_fk 9 12 ≠ 10 := by decide
theorem fw_fr_9_41 : fw_fr 9 41 = some (9, 13) := by decide +kernel
theorem fw_tg_9_13 : fw_tg (fw_fk 9 13) = 2 := by decide
theorem fw_nb_9_13 : fw_fk 9 13 ≠ 10 := by decide
theorem fw_fr_9_44 : fw_fr 9 44 = some (9, 14) := by decide +kernel
theorem fw_tg_9_14 : fw_tg (fw_fk 9 14) = 2 := by decide
theorem fw_nb_9_14 : fw_fk 9 14 ≠ 10 := by decide
theorem fw_fr_9_47 : fw_fr 9 47 = some (9, 15) := by decide +kernel
theorem fw_tg_9_15 : fw_tg (fw_fk 9 15) = 2 := by decide
theorem fw_nb_9_15 : fw_fk 9 15 ≠ 10 := by decide
theorem fw_fr_9_51 : fw_fr 9 51 = some (9, 16) := by decide +kernel
theorem fw_tg_9_16 : fw_tg (fw_fk 9 16) = 2 := by decide
theorem fw_nb_9_16 : fw_fk 9 16 ≠ 10 := by decide
theorem fw_fr_9_54 : fw_fr 9 54 = some (9, 0) := by decide +kernel
theorem fw_nb_9_0 : fw_fk 9 0 ≠ 10 := by decide
theorem fw_fr_9_57 : fw_fr 9 57 = some (9, 1) := by decide +kernel
theorem fw_tg_9_1 : fw_tg (fw_fk 9 1) = 0 := by decide
theorem fw_kd_49 : fw_kd 49 = 101 := by decide
theorem fw_ln_49 : fw_ln 49 = 60 := by decide
theorem fw_fr_9_60 : fw_fr 9 60 = some (9, 18) := by decide +kernel
theorem fw_tg_9_18 : fw_tg (fw_fk 9 18) = 0 := by decide
theorem fw_nb_9_18 : fw_fk 9 18 ≠ 10 := by decide
theorem fw_nfin_9_18 : (fw_CT 9 18).2.2.2 ≠ true := by decide
theorem fw_fr_9_63 : fw_fr 9 63 = some (9, 20) := by decide +kernel
theorem fw_tg_9_20 : fw_tg (fw_fk 9 20) = 0 := by decide
theorem fw_kd_48 : fw_kd 48 = 100 := by decide
theorem fw_ln_48 : fw_ln 48 = 60 := by decide
theorem fw_nb_9_20 : fw_fk 9 20 ≠ 10 := by decide
theorem fw_nfin_9_20 : (fw_CT 9 20).2.2.2 ≠ true := by decide
theorem fw_mr_9_66 : fw_mr 9 66 = some (122, 0) := by decide +kernel
theorem fw_kd_33 : fw_kd 33 = 100 := by decide
theorem fw_ln_33 : fw_ln 33 = 20 := by decide
theorem fw_kd_35 : fw_kd 35 = 102 := by decide
theorem fw_ln_35 : fw_ln 35 = 20 := by decide
theorem fw_kd_46 : fw_kd 46 = 100 := by decide
theorem fw_ln_46 : fw_ln 46 = 60 := by decide
theorem fw_kd_44 : fw_kd 44 = 100 := by decide
theorem fw_ln_44 : fw_ln 44 = 6 := by decide
theorem fw_kd_37 : fw_kd 37 = 106 := by decide
theorem fw_ln_37 : fw_ln 37 = 6 := by decide
theorem fw_mr_9_76 : fw_mr 9 76 = some (123, 0) := by decide +kernel
theorem fw_fr_9_80 : fw_fr 9 80 = some (9, 19) := by decide +kernel
theorem fw_tg_9_19 : fw_tg (fw_fk 9 19) = 0 := by decide
theorem fw_nb_9_19 : fw_fk 9 19 ≠ 10 := by decide
theorem fw_nfin_9_19 : (fw_CT 9 19).2.2.2 ≠ true := by decide
theorem fw_fr_9_70 : fw_fr 9 70 = some (9, 17) := by decide +kernel
theorem fw_tg_9_17 : fw_tg (fw_fk 9 17) = 0 := by decide
theorem fw_fr_9_73 : fw_fr 9 73 = some (9, 11) := by decide +kernel
theorem fw_tg_9_11 : fw_tg (fw_fk 9 11) = 0 := by decide
theorem fw_nb_9_17 : fw_fk 9 17 ≠ 10 := by decide
theorem fw_nfin_9_17 : (fw_CT 9 17).2.2.2 ≠ true := by decide
theorem fw_nb_9_1 : fw_fk 9 1 ≠ 10 := by decide
theorem fw_nfin_9_1 : (fw_CT 9 1).2.2.2 ≠ true := by decide
theorem fw_mr_9_83 : fw_mr 9 83 = some (1000, 0) := by decide +kernel
theorem fw_mr_9_89 : fw_mr 9 89 = some (124, 0) := by decide +kernel
theorem fw_lconst_0 : (Int64.ofNat ((0 : Fin 2) : Nat)).toInt = 0 := by decide +kernel
theorem fw_cl2_9_93 : fw_cl2 9 93 = some 10000 := by decide +kernel
theorem fw_cl2_9_95 : fw_cl2 9 95 = some 9973 := by decide +kernel
theorem fw_kd_47 : fw_kd 47 = 100 := by decide
theorem fw_ln_47 : fw_ln 47 = 60 := by decide
theorem fw_ck_10_7 : fw_ck 10 7 = some 40503 := by decide +kernel
theorem fw_sipush_619 : (Int16.ofInt 619).toInt32.toInt = 619 := by decide +kernel
theorem fw_ck_10_8 : fw_ck 10 8 = some 2147483647 := by decide +kernel
theorem fw_mr_10_9 : fw_mr 10 9 = some (91, 0) := by decide +kernel
theorem fw_mr_10_17 : fw_mr 10 17 = some (82, 0) := by decide +kernel
theorem fw_fr_10_20 : fw_fr 10 20 = some (9, 11) := by decide +kernel
theorem fw_mr_10_47 : fw_mr 10 47 = some (83, 0) := by decide +kernel
theorem fw_fr_10_117 : fw_fr 10 117 = some (9, 18) := by decide +kernel
theorem fw_mr_10_120 : fw_mr 10 120 = some (102, 0) := by decide +kernel
theorem fw_fr_10_124 : fw_fr 10 124 = some (9, 20) := by decide +kernel
theorem fw_mr_10_127 : fw_mr 10 127 = some (103, 0) := by decide +kernel
theorem fw_fr_10_57 : fw_fr 10 57 = some (9, 19) := by decide +kernel
theorem fw_mr_10_109 : fw_mr 10 109 = some (92, 0) := by decide +kernel
theorem fw_mr_10_112 : fw_mr 10 112 = some (127, 0) := by decide +kernel
theorem fw_mr_10_113 : fw_mr 10 113 = some (131, 0) := by decide +kernel
theorem fw_mr_10_96 : fw_mr 10 96 = some (93, 0) := by decide +kernel
theorem fw_fr_10_99 : fw_fr 10 99 = some (9, 8) := by decide +kernel
theorem fw_mr_10_102 : fw_mr 10 102 = some (94, 0) := by decide +kernel
theorem fw_mr_10_105 : fw_mr 10 105 = some (126, 0) := by decide +kernel
theorem fw_mr_10_106 : fw_mr 10 106 = some (95, 0) := by decide +kernel
theorem fw_fr_10_81 : fw_fr 10 81 = some (9, 2) := by decide +kernel
theorem fw_mr_10_84 : fw_mr 10 84 = some (122, 0) := by decide +kernel
theorem fw_mr_10_85 : fw_mr 10 85 = some (132, 0) := by decide +kernel
theorem fw_mr_10_90 : fw_mr 10 90 = some (80, 0) := by decide +kernel
theorem fw_mr_10_51 : fw_mr 10 51 = some (84, 0) := by decide +kernel
theorem fw_mr_10_54 : fw_mr 10 54 = some (85, 0) := by decide +kernel
theorem fw_mr_10_60 : fw_mr 10 60 = some (78, 0) := by decide +kernel
theorem fw_fr_10_64 : fw_fr 10 64 = some (9, 1) := by decide +kernel
theorem fw_mr_10_67 : fw_mr 10 67 = some (97, 0) := by decide +kernel
theorem fw_fr_10_70 : fw_fr 10 70 = some (9, 21) := by decide +kernel
theorem fw_tg_9_21 : fw_tg (fw_fk 9 21) = 0 := by decide
theorem fw_mr_10_72 : fw_mr 10 72 = some (101, 0) := by decide +kernel
theorem fw_fr_10_75 : fw_fr 10 75 = some (9, 22) := by decide +kernel
theorem fw_tg_9_22 : fw_tg (fw_fk 9 22) = 1 := by decide
theorem fw_fr_10_26 : fw_fr 10 26 = some (9, 15) := by decide +kernel
theorem fw_mr_10_30 : fw_mr 10 30 = some (79, 0) := by decide +kernel
theorem fw_mr_10_34 : fw_mr 10 34 = some (81, 0) := by decide +kernel
theorem fw_fr_10_37 : fw_fr 10 37 = some (9, 14) := by decide +kernel
theorem fw_mr_10_41 : fw_mr 10 41 = some (100, 0) := by decide +kernel
theorem fw_fr_10_44 : fw_fr 10 44 = some (9, 16) := by decide +kernel
theorem fw_kd_50 : fw_kd 50 = 100 := by decide
theorem fw_ln_50 : fw_ln 50 = 60 := by decide
theorem fw_fr_10_137 : fw_fr 10 137 = some (9, 4) := by decide +kernel
theorem fw_mr_10_141 : fw_mr 10 141 = some (73, 0) := by decide +kernel
theorem fw_mr_10_147 : fw_mr 10 147 = some (128, 0) := by decide +kernel
theorem fw_mr_10_134 : fw_mr 10 134 = some (75, 0) := by decide +kernel
theorem fw_mr_10_144 : fw_mr 10 144 = some (74, 0) := by decide +kernel
theorem fw_mr_10_150 : fw_mr 10 150 = some (96, 0) := by decide +kernel
theorem fw_nb_9_21 : fw_fk 9 21 ≠ 10 := by decide
theorem fw_nfin_9_21 : (fw_CT 9 21).2.2.2 ≠ true := by decide
theorem fw_fr_10_156 : fw_fr 10 156 = some (9, 7) := by decide +kernel
theorem fw_mr_10_160 : fw_mr 10 160 = some (99, 0) := by decide +kernel
theorem fw_fr_10_164 : fw_fr 10 164 = some (9, 13) := by decide +kernel
theorem fw_nb_9_22 : fw_fk 9 22 ≠ 10 := by decide
theorem fw_nfin_9_22 : (fw_CT 9 22).2.2.2 ≠ true := by decide
theorem fw_mr_10_153 : fw_mr 10 153 = some (98, 0) := by decide +kernel
theorem fw_mr_10_170 : fw_mr 10 170 = some (1000, 0) := by decide +kernel
theorem fw_mr_10_213 : fw_mr 10 213 = some (135, 0) := by decide +kernel
theorem fw_bipush_31 : (Int8.ofInt 31).toInt32.toInt = 31 := by decide +kernel
theorem fw_mr_10_210 : fw_mr 10 210 = some (71, 0) := by decide +kernel
theorem fw_fr_10_201 : fw_fr 10 201 = some (9, 10) := by decide +kernel
theorem fw_mr_10_204 : fw_mr 10 204 = some (72, 0) := by decide +kernel
theorem fw_mr_10_198 : fw_mr 10 198 = some (134, 0) := by decide +kernel
theorem fw_mr_10_192 : fw_mr 10 192 = some (90, 0) := by decide +kernel
theorem fw_mr_10_181 : fw_mr 10 181 = some (86, 0) := by decide +kernel
theorem fw_mr_10_184 : fw_mr 10 184 = some (87, 0) := by decide +kernel
theorem fw_mr_10_189 : fw_mr 10 189 = some (77, 0) := by decide +kernel
theorem fw_mr_10_187 : fw_mr 10 187 = some (125, 0) := by decide +kernel
theorem fw_bipush_90 : (Int8.ofInt 90).toInt32.toInt = 90 := by decide +kernel
theorem fw_fr_10_175 : fw_fr 10 175 = some (9, 12) := by decide +kernel
theorem fw_mr_10_178 : fw_mr 10 178 = some (76, 0) := by decide +kernel
theorem fw_nb_9_11 : fw_fk 9 11 ≠ 10 := by decide
theorem fw_nfin_9_11 : (fw_CT 9 11).2.2.2 ≠ true := by decide
