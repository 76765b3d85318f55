/-! what stands when the objects are made is the relation -/
def fg_L0 : List (Int × Int × Int × Int) := (1, 7, 7 + 1, 31) :: (1, 6, 6 + 1, 27) :: (27, 1, 1 + 1, 30) :: (27, 0, 0 + 1, 28) :: (28, 0, 0 + 1, 29) :: (1, 5, 5 + 1, 25) :: (25, 0, 0 + 1, 26) :: (1, 4, 4 + 1, 17) :: (17, 2, 2 + 1, 8) :: (17, 1, 1 + 1, 2) :: (17, 0, 0 + 1, 11) :: (17, 7, 7 + 1, 24) :: (17, 6, 6 + 1, 23) :: (17, 5, 5 + 1, 22) :: (17, 4, 4 + 1, 21) :: (17, 3, 3 + 1, 18) :: (18 + 1, 0, 20, -1) :: (18 + 2, 0, 20, 0) :: (18, 3, 3 + 1, 0) :: (18, 2, 2 + 1, 12) :: (18, 1, 1 + 1, 20) :: (18, 0, 0 + 1, 19) :: (1, 3, 3 + 1, 14) :: (14, 1, 1 + 1, 2) :: (14, 0, 0 + 1, 11) :: (14, 3, 3 + 1, 16) :: (14, 2, 2 + 1, 15) :: (1, 2, 2 + 1, 11) :: (13, 0, 8, -1) :: (11, 4, 4 + 1, 2) :: (11, 3, 3 + 1, 11) :: (11, 1, 1 + 1, 13) :: (11, 0, 0 + 1, 12) :: (1, 1, 1 + 1, 8) :: (8 + 1, 0, 20, -1) :: (8 + 2, 0, 20, 0) :: (8, 3, 3 + 1, 0) :: (8, 2, 2 + 1, 12) :: (8, 1, 1 + 1, 10) :: (8, 0, 0 + 1, 9) :: (1, 0, 0 + 1, 2) :: (2, 4, 4 + 1, 7) :: (2, 3, 3 + 1, 6) :: (2, 2, 2 + 1, 5) :: (2, 1, 1 + 1, 4) :: (2, 0, 0 + 1, 3) :: []
def fg_LN (N : Int) : List (Int × Int × Int × Int) := (45, 0, 8, -1) :: (34, 0, 20, -1) :: (33, 0, 20, -1) :: (32, 0, 0 + 1, N) :: (32, 16, 16 + 1, 50) :: (32, 15, 15 + 1, 49) :: (32, 14, 14 + 1, 48) :: (32, 13, 13 + 1, 47) :: (32, 12, 12 + 1, 46) :: (32, 10, 10 + 1, 2) :: (32, 9, 9 + 1, 45) :: (32, 8, 8 + 1, 44) :: (32, 7, 7 + 1, 37) :: (37, 0, 0 + 1, 38) :: (37, 1, 1 + 1, 39) :: (37, 2, 2 + 1, 40) :: (37, 3, 3 + 1, 41) :: (37, 4, 4 + 1, 42) :: (37, 5, 5 + 1, 43) :: (32, 6, 6 + 1, 36) :: (32, 4, 4 + 1, 35) :: (32, 3, 3 + 1, 34) :: (32, 2, 2 + 1, 33) :: fg_L0
theorem fg_lk_no {a : Int} : ∀ {l : List (Int × Int × Int × Int)}, (∀ e ∈ l, e.1 ≠ a) → ∀ j, fg_lk l a j = 0 := by
  intro l
  induction l with
  | nil => intro h j; rfl
  | cons e l ih =>
    intro h j
    have h1 := h e (List.mem_cons_self ..)
    rw [fg_lk, if_neg (fun hx => h1 hx.1.symm)]
    exact ih (fun e he => h e (List.mem_cons_of_mem _ he)) j
/-- the ghost that stands beside a class just made -/
def fg_m0 (c : fw_M) : fw_M := fun a j => if a = 32 then (if j = 1 then 12 else if j = 9 then 2 else 0) else if a = 33 then -1 else if a = 41 then -1 else if 34 ≤ a ∧ a ≤ 48 then 0 else fw_r c a j
theorem fg_m0_32 (c : fw_M) (j : Int) : fw_r (fg_m0 c) 32 j = if j = 1 then 12 else if j = 9 then 2 else 0 := rfl
theorem fg_m0_33 (c : fw_M) (j : Int) : fw_r (fg_m0 c) 33 j = -1 := rfl
theorem fg_m0_41 (c : fw_M) (j : Int) : fw_r (fg_m0 c) 41 j = -1 := rfl
theorem fg_m0_z (c : fw_M) {a : Int} (j : Int) (h : 34 ≤ a ∧ a ≤ 48) (h41 : a ≠ 41) : fw_r (fg_m0 c) a j = 0 := by
  show (if a = 32 then (if j = 1 then 12 else if j = 9 then 2 else 0) else if a = 33 then -1 else if a = 41 then -1 else if 34 ≤ a ∧ a ≤ 48 then 0 else fw_r c a j) = 0
  rw [if_neg (by omega), if_neg (by omega), if_neg h41, if_pos h]
theorem fg_m0_ptr {c : fw_M} (hp : fw_ptr c) : fw_ptr (fg_m0 c) := fun q hq => by
  have h1 := fg_ps_31 q hq
  have e : fw_r (fg_m0 c) q.1 q.2.1 = fw_r c q.1 q.2.1 := by
    show (if q.1 = 32 then (if q.2.1 = 1 then 12 else if q.2.1 = 9 then 2 else 0) else if q.1 = 33 then -1 else if q.1 = 41 then -1 else if 34 ≤ q.1 ∧ q.1 ≤ 48 then 0 else fw_r c q.1 q.2.1) = _
    rw [if_neg (by omega), if_neg (by omega), if_neg (by omega), if_neg (by omega)]
  rw [e]; exact hp q hq
theorem fg_ini (z : fw_M) : fg_IN 0 (fg_D z 33 32 2951 fg_L0) (fg_m0 (fg_D z 33 32 2951 fg_L0)) := by
  have rd : ∀ {a j v : Int}, 0 < a → fg_lk fg_L0 a j = v → fw_r (fg_D z 33 32 2951 fg_L0) a j = v := fun h e => fg_D_r h e
  have f9 : ∀ k : Fin 20, fg_lk fg_L0 9 ((k.val : Nat) : Int) = -1 := by decide
  have f10 : ∀ k : Fin 20, fg_lk fg_L0 10 ((k.val : Nat) : Int) = 0 := by decide
  have f13 : ∀ k : Fin 8, fg_lk fg_L0 13 ((k.val : Nat) : Int) = -1 := by decide
  have r9 : ∀ j, 0 ≤ j → j < 20 → fw_r (fg_D z 33 32 2951 fg_L0) 9 j = -1 := fun j h0 h1 => rd (by decide) (by have := f9 ⟨j.toNat, by omega⟩; rwa [Int.toNat_of_nonneg h0] at this)
  have r10 : ∀ j, 0 ≤ j → j < 20 → fw_r (fg_D z 33 32 2951 fg_L0) 10 j = 0 := fun j h0 h1 => rd (by decide) (by have := f10 ⟨j.toNat, by omega⟩; rwa [Int.toNat_of_nonneg h0] at this)
  have r13 : ∀ j, 0 ≤ j → j < 8 → fw_r (fg_D z 33 32 2951 fg_L0) 13 j = -1 := fun j h0 h1 => rd (by decide) (by have := f13 ⟨j.toNat, by omega⟩; rwa [Int.toNat_of_nonneg h0] at this)
  have hps : ∀ q ∈ fw_psT, fg_lk fg_L0 q.1 q.2.1 = q.2.2 := by decide
  have hp : fw_ptr (fg_D z 33 32 2951 fg_L0) := fun q hq => rd (fw_ps_le q hq).1 (hps q hq)
  have v112 := rd (a := 11) (j := 2) (v := 0) (by decide) (by decide)
  have v113 := rd (a := 11) (j := 3) (v := 11) (by decide) (by decide)
  have v114 := rd (a := 11) (j := 4) (v := 2) (by decide) (by decide)
  have v115 := rd (a := 11) (j := 5) (v := 0) (by decide) (by decide)
  have v116 := rd (a := 11) (j := 6) (v := 0) (by decide) (by decide)
  have v25 := rd (a := 2) (j := 5) (v := 0) (by decide) (by decide)
  have v26 := rd (a := 2) (j := 6) (v := 0) (by decide) (by decide)
  have v27 := rd (a := 2) (j := 7) (v := 0) (by decide) (by decide)
  have v28 := rd (a := 2) (j := 8) (v := 0) (by decide) (by decide)
  have v29 := rd (a := 2) (j := 9) (v := 0) (by decide) (by decide)
  have v18 := rd (a := 1) (j := 8) (v := 0) (by decide) (by decide)
  have v82 := rd (a := 8) (j := 2) (v := 12) (by decide) (by decide)
  have v83 := rd (a := 8) (j := 3) (v := 0) (by decide) (by decide)
  have v251 := rd (a := 25) (j := 1) (v := 0) (by decide) (by decide)
  have v281 := rd (a := 28) (j := 1) (v := 0) (by decide) (by decide)
  have v272 := rd (a := 27) (j := 2) (v := 0) (by decide) (by decide)
  generalize fg_D z 33 32 2951 fg_L0 = σ at *
  have hm := fg_m0_ptr hp
  have v321 : fw_r (fg_m0 σ) 32 1 = 12 := rfl
  have v323 : fw_r (fg_m0 σ) 32 3 = 0 := rfl
  have v327 : fw_r (fg_m0 σ) 32 7 = 0 := rfl
  have v328 : fw_r (fg_m0 σ) 32 8 = 0 := rfl
  have v329 : fw_r (fg_m0 σ) 32 9 = 2 := rfl
  have v3210 : fw_r (fg_m0 σ) 32 10 = 0 := rfl
  have v3215 : fw_r (fg_m0 σ) 32 15 = 0 := rfl
  have v3216 : fw_r (fg_m0 σ) 32 16 = 0 := rfl
  have v3217 : fw_r (fg_m0 σ) 32 17 = 0 := rfl
  have v3218 : fw_r (fg_m0 σ) 32 18 = 0 := rfl
  have v3219 : fw_r (fg_m0 σ) 32 19 = 0 := rfl
  have v3225 : fw_r (fg_m0 σ) 32 25 = 0 := rfl
  have v3229 : fw_r (fg_m0 σ) 32 29 = 0 := rfl
  have r33 : ∀ j, fw_r (fg_m0 σ) 33 j = -1 := fun j => rfl
  have r41 : ∀ j, fw_r (fg_m0 σ) 41 j = -1 := fun j => rfl
  have z36 : ∀ j, fw_r (fg_m0 σ) 36 j = 0 := fun j => fg_m0_z σ j (by decide) (by decide)
  have z39 : ∀ j, fw_r (fg_m0 σ) 39 j = 0 := fun j => fg_m0_z σ j (by decide) (by decide)
  have z40 : ∀ j, fw_r (fg_m0 σ) 40 j = 0 := fun j => fg_m0_z σ j (by decide) (by decide)
  have z42 : ∀ j, fw_r (fg_m0 σ) 42 j = 0 := fun j => fg_m0_z σ j (by decide) (by decide)
  have z44 : ∀ j, fw_r (fg_m0 σ) 44 j = 0 := fun j => fg_m0_z σ j (by decide) (by decide)
  have z45 : ∀ j, fw_r (fg_m0 σ) 45 j = 0 := fun j => fg_m0_z σ j (by decide) (by decide)
  generalize fg_m0 σ = m at *
  refine ⟨⟨⟨⟨hp, ⟨by omega, by omega, fun i x y => by omega⟩, by omega⟩, ⟨by omega, by omega, by omega, by omega, by omega, by omega⟩, ⟨Or.inl v327, Or.inl v328, by omega, by omega⟩, fun i x y => by omega, fun i j x y => by omega, fun p x y => by omega, fun r x y => ?_⟩, hm⟩, ⟨⟨?_, by omega, fun p x y => ?_, fun j x y => ?_⟩, ⟨by omega, by omega, fun p x y => ?_, fun p q x y x2 y2 e ne => ?_, fun p x y => by omega⟩, fun p x y => ?_⟩, ⟨by omega, by omega, by omega, fun p x y => by omega, fun p x y => ⟨z39 p, z40 p⟩⟩, ⟨⟨by omega, ?_⟩, ⟨by omega, by omega, by omega⟩, ⟨by omega, ?_⟩, ⟨by omega, by omega, by omega⟩, ?_⟩, ⟨fun i x y => by omega, fun i x y => ⟨z42 i, z36 i, z44 i, z45 i⟩⟩, ?_, ?_, ⟨⟨by omega, by omega, by omega⟩, fun j x y => by omega, fun u x y => by omega, fun u i x y => by omega, fun p x y => by omega⟩, ?_⟩
  · rw [r13 r x y, r41 r, v323]; exact ⟨rfl, by decide, by decide⟩
  · unfold fg_bok; omega
  · rw [v321] at y
    rw [r33 p]
    refine ⟨?_, fun hx => absurd rfl hx⟩
    unfold fg_tr fg_slot
    rw [v82, v83]
    split
    · exact r9 _ (by omega) (by omega)
    · exact r9 _ (by omega) (by omega)
  · rw [v321] at y
    rw [show (8 : Int) + 2 = 10 from rfl, r10 j x (by omega)]; exact ⟨by decide, by decide⟩
  · rw [r33 p, v3215]; exact ⟨by decide, by decide⟩
  · rw [r33 p] at ne
    exact absurd rfl ne
  · exact r33 p
  · rw [v3217, v3215]; rfl
  · rw [v3219, v3215]; rfl
  · rw [v281, v3215]; rfl
  · intro p x y ne
    exact absurd (r33 p) ne
  · intro j x y
    omega
  · intro p hp0
    have c1 := fg_cnt_0 (f := fw_r m 33) (n := fw_r m 32 1) (p := p) (fun j x y e => by rw [r33 j] at e; omega)
    have c2 := fg_cnt_0 (f := fw_r σ 29) (n := fw_r σ 28 1) (p := p) (fun j x y e => by omega)
    have c3 := fg_cnt_0 (f := fw_r σ 26) (n := fw_r m 32 19) (p := p) (fun j x y e => by omega)
    have c4 : fg_chs m p = 0 := by unfold fg_chs; rw [v323]; rfl
    rw [c1, c2, c3, c4, if_neg (by omega), if_neg (by omega)]; rfl
theorem fg_s0_D (L : Nat) (xs : Nat → Int32) : fw_s0 L xs = fg_D (fw_s0 L xs) 1 0 0 [] := by
  funext a j
  show fw_r (fw_s0 L xs) a j = fw_r (fg_D (fw_s0 L xs) 1 0 0 []) a j
  by_cases h1 : a = -1
  · subst h1
    rw [fg_D_1]
    by_cases b0 : j = 0
    · subst b0; rfl
    · rw [if_neg b0]
      by_cases b1 : j = 1
      · subst b1; rfl
      · rw [if_neg b1]
        by_cases b2 : j = 2
        · subst b2; rfl
        · rw [if_neg b2]
  · by_cases hp : 0 < a
    · rw [fg_D_p _ _ _ _ _ _ hp]
      show (if a = -1 then _ else if a = -2 then _ else if a = -3 then _ else 0) = _
      rw [if_neg h1, if_neg (by omega), if_neg (by omega)]; rfl
    · rw [fg_D_z _ _ _ _ _ _ (by omega) h1]
/-- the loop's object leaves the class's cells -/
theorem fg_LN_o (N : Int) {a : Int} (j : Int) (h : a < 32 ∨ 50 < a) : fg_lk (fg_LN N) a j = fg_lk fg_L0 a j := by
  unfold fg_LN
  repeat (rw [fg_lk_c, if_neg (by omega)])
theorem fg_LN_c (z : fw_M) (N : Int) {a : Int} (j : Int) (h : a < 32 ∨ 50 < a) (h1 : a ≠ -1) : fw_r (fg_D z 51 50 3517 (fg_LN N)) a j = fw_r (fg_D z 33 32 2951 fg_L0) a j := by
  by_cases hp : 0 < a
  · rw [fg_D_p _ _ _ _ _ _ hp, fg_D_p _ _ _ _ _ _ hp, fg_LN_o N j h]
  · rw [fg_D_z _ _ _ _ _ _ (by omega) h1, fg_D_z _ _ _ _ _ _ (by omega) h1]
theorem fl_ini (z : fw_M) {N : Int} (hN : 4 ≤ N ∧ N ≤ 20) (m : fw_M) (hm : ∀ j, fw_r m 32 j = if j = 1 then N else if j = 9 then 2 else 0) (h33 : ∀ j, fw_r m 33 j = -1) (h41 : ∀ j, fw_r m 41 j = -1) (hz : ∀ a j, 34 ≤ a → a ≤ 48 → a ≠ 41 → fw_r m a j = 0) : fl_R (fg_D z 51 50 3517 (fg_LN N)) m := by
  have rd : ∀ {a j v : Int}, 0 < a → fg_lk (fg_LN N) a j = v → fw_r (fg_D z 51 50 3517 (fg_LN N)) a j = v := fun h e => fg_D_r h e
  have n35 := fg_lk_no (a := 35) (l := fg_L0) (by decide)
  have n44 := fg_lk_no (a := 44) (l := fg_L0) (by decide)
  have n48 := fg_lk_no (a := 48) (l := fg_L0) (by decide)
  have v : ∀ j, fw_r (fg_D z 51 50 3517 (fg_LN N)) 32 j = fg_lk (fg_LN N) 32 j := fun j => rd (by decide) rfl
  have c34 : ∀ p, 0 ≤ p → p < 20 → fw_r (fg_D z 51 50 3517 (fg_LN N)) 34 p = -1 := fun p a b => rd (by decide) (by unfold fg_LN; rw [fg_lk_c, if_neg (by omega), fg_lk_c, if_pos (by omega)])
  have c33 : ∀ p, 0 ≤ p → p < 20 → fw_r (fg_D z 51 50 3517 (fg_LN N)) 33 p = -1 := fun p a b => rd (by decide) (by unfold fg_LN; rw [fg_lk_c, if_neg (by omega), fg_lk_c, if_neg (by omega), fg_lk_c, if_pos (by omega)])
  have c45 : ∀ p, 0 ≤ p → p < 8 → fw_r (fg_D z 51 50 3517 (fg_LN N)) 45 p = -1 := fun p a b => rd (by decide) (by unfold fg_LN; rw [fg_lk_c, if_pos (by omega)])
  have c35 : ∀ p, fw_r (fg_D z 51 50 3517 (fg_LN N)) 35 p = 0 := fun p => by
    refine rd (by decide) ?_
    unfold fg_LN
    repeat (rw [fg_lk_c, if_neg (by omega)])
    exact n35 p
  have c44 : ∀ p, fw_r (fg_D z 51 50 3517 (fg_LN N)) 44 p = 0 := fun p => by
    refine rd (by decide) ?_
    unfold fg_LN
    repeat (rw [fg_lk_c, if_neg (by omega)])
    exact n44 p
  have c48 : ∀ p, fw_r (fg_D z 51 50 3517 (fg_LN N)) 48 p = 0 := fun p => by
    refine rd (by decide) ?_
    unfold fg_LN
    repeat (rw [fg_lk_c, if_neg (by omega)])
    exact n48 p
  have n0 : fg_n m = 0 := by unfold fg_n; rw [hm]; rfl
  have nm : ∀ p, fg_nm m p = -1 := fun p => by unfold fg_nm; rw [n0]; rfl
  have jm : ∀ p, fl_jm m p = 0 := fun p => by
    unfold fl_jm
    rw [nm, hm 7, hm 8]
    split
    · rfl
    · split
      · rfl
      · rw [if_pos rfl]
  have k1 : fw_r m 32 1 = N := by rw [hm]; rfl
  have k3 : fw_r m 32 3 = 0 := by rw [hm]; rfl
  have k10 : fw_r m 32 10 = 0 := by rw [hm]; rfl
  refine ⟨⟨?_, ?_, by omega, by omega⟩, fun p a b => ?_, fun p a b => ?_, ⟨fun i a b => by omega, fun i a b => ?_⟩, fun p a b => ?_, ⟨fun p a b => by omega, fun p a b => ?_⟩, fun i l a b d => by omega⟩
  · unfold fl_ptr fl_psT
    simp only [List.forall_mem_cons]
    exact ⟨rfl, rfl, rfl, rfl, rfl, rfl, rfl, rfl, rfl, rfl, rfl, rfl, rfl, rfl, rfl, rfl, rfl, rfl, fun q hq => by cases hq⟩
  · rw [v, v, v, v, v, v, v, v, v, v, v, hm, hm, hm, hm, hm, hm, hm, hm, hm, hm, hm]
    exact ⟨rfl, rfl, rfl, rfl, rfl, rfl, rfl, rfl, rfl, rfl, rfl⟩
  · rw [k1] at b ⊢
    have s := fl_s_in (t := fw_r m 32 16) (by omega : 0 < N) a b
    rw [h33, c33 _ s.1 (by omega)]
  · rw [c34 p a b, c35, nm, jm]; exact ⟨rfl, rfl⟩
  · rw [c44, hz 42 i (by decide) (by decide) (by decide)]
  · rw [c45 p a b, h41]
  · rw [c48, hz 40 p (by decide) (by decide) (by decide)]
theorem fl_R_mem {c m m' : fw_M} (r : fl_R c m) (h : m' = m) : fl_R c m' := by rw [h]; exact r
/-- the law's run on the small machine -/
theorem fg_run {L : Nat} {xs : Nat → Int32} (hL : L ≤ 260) : ∃ (n : Nat) (σ : fw_M), fw_ev n 0 0 (fw_en 0 [(6, 0)]) [] (fw_s0 L xs) = some ((0, 1), σ) ∧ σ (-1) 1 ≤ 676181 ∧ σ (-1) 2 ≤ 7072639 := by
  have e1 := fk_10 (z := fw_s0 L xs) (l := []) (a1 := (8, 0)) (a2 := (8, 0)) (a3 := (8, 0)) (a4 := (8, 0)) (fun e he => by cases he)
  rw [← fg_s0_D] at e1
  have e1' : fw_E 0 0 [(6, 0), (8, 0), (8, 0), (8, 0), (8, 0)] [] (fw_s0 L xs) = fw_E 0 11 [(6, 0), (2, 1), (8, 0), (8, 0), (8, 0)] [(2, 32)] (fg_D (fw_s0 L xs) 33 32 2951 fg_L0) := e1
  have fr : fg_fr fg_L0 33 := by unfold fg_fr; decide
  have l3 : fw_r (fg_D (fw_s0 L xs) 33 32 2951 fg_L0) (-3) 0 = (L : Int) := by rw [fg_D_z _ _ _ _ _ _ (by decide) (by decide)]; rfl
  obtain ⟨v, ev⟩ := fl_cell (c := fg_D (fw_s0 L xs) 33 32 2951 fg_L0) (k := 0) (by rw [l3]; omega) (by decide)
  obtain ⟨u, eu, u0, u1⟩ := fl_low (c := fg_D (fw_s0 L xs) 33 32 2951 fg_L0) (x := v) (n := 17) (by decide)
  have hN : 4 ≤ 4 + u ∧ 4 + u ≤ 20 := by omega
  have ew : fw_w (4 + u) = 4 + u := fw_w_id (by omega) (by omega)
  generalize hNu : 4 + u = N at *
  have e2 : fw_E 121 0 [(2, 32), (0, N), (8, 0)] [] (fg_D (fw_s0 L xs) 33 32 2951 fg_L0) = some ((5, 0), fg_D (fw_s0 L xs) 51 50 3517 (fg_LN N)) := fk_11 (z := fw_s0 L xs) (l := fg_L0) (N := N) fr
  have h0 := fg_ini (fw_s0 L xs)
  have oc := fun {a : Int} (j : Int) (h : a < 32 ∨ 50 < a) (h1 : a ≠ -1) => fg_LN_c (fw_s0 L xs) N j h h1
  have ri := fl_ini (fw_s0 L xs) hN
  have o0 : fw_r (fg_D (fw_s0 L xs) 51 50 3517 (fg_LN N)) 32 0 = N := fg_D_r (by decide) rfl
  have a0 : fw_r (fg_D (fw_s0 L xs) 51 50 3517 (fg_LN N)) (-1) 0 = 51 := rfl
  have a1 : fw_r (fg_D (fw_s0 L xs) 51 50 3517 (fg_LN N)) (-1) 1 = 50 := rfl
  have a2 : fw_r (fg_D (fw_s0 L xs) 51 50 3517 (fg_LN N)) (-1) 2 = 3517 := rfl
  generalize fg_D (fw_s0 L xs) 51 50 3517 (fg_LN N) = c1 at *
  generalize hc0 : fg_D (fw_s0 L xs) 33 32 2951 fg_L0 = c0 at *
  have hp1 : fw_ptr c1 := fun q hq => by
    rw [oc _ (Or.inl (fg_ps_31 q hq)) (by have := fw_ps_le q hq; omega)]; exact h0.1.1.1.1 q hq
  have h1 : fg_IN 0 c1 (fg_m0 c0) := fg_IN_eq h0 (fun a j ha => oc j (by omega) (by omega)) (fg_AG_refl _) hp1 h0.1.2
  obtain ⟨e3, h2⟩ := fm_setLoop (N := N) (a2 := (8, 0)) h1 rfl rfl hN (Int.le_refl 0)
  have z0 := fg_m0_32 c0
  have m32 : ∀ j, fw_r (fw_u (fg_m0 c0) 32 1 N) 32 j = if j = 1 then N else if j = 9 then 2 else 0 := fun j => by
    rw [fw_r_u]
    by_cases hj : j = 1
    · rw [if_pos ⟨rfl, hj⟩, if_pos hj]
    · rw [if_neg (fun e => hj e.2), if_neg hj, fg_m0_32, if_neg hj]
  have m33 : ∀ j, fw_r (fw_u (fg_m0 c0) 32 1 N) 33 j = -1 := fun j => by rw [fw_r_k _ (by decide)]; rfl
  have m41 : ∀ j, fw_r (fw_u (fg_m0 c0) 32 1 N) 41 j = -1 := fun j => by rw [fw_r_k _ (by decide)]; rfl
  have mz : ∀ a j, 34 ≤ a → a ≤ 48 → a ≠ 41 → fw_r (fw_u (fg_m0 c0) 32 1 N) a j = 0 := fun a j x y w => by rw [fw_r_k _ (by omega)]; exact fg_m0_z c0 j ⟨x, y⟩ w
  have r1 := ri _ m32 m33 m41 mz
  have cm : ∀ a j, a < 8 ∨ 11 < a → fw_r (fg_cmt c1 N) a j = fw_r c1 a j := fun a j x => by
    unfold fg_cmt
    rw [fw_r_n _ (by omega), fg_mt_o _ _ _ _ (by omega) (by omega), fw_r_k _ (by omega), fw_r_k _ (by omega)]
  have r2 : fl_R (fg_cmt c1 N) (fw_u (fg_m0 c0) 32 1 N) := fl_R_c r1 (fun a j x y => cm a j (by omega))
  have b2 : fl_B 50 3517 0 (fg_cmt c1 N) (fw_u (fg_m0 c0) 32 1 N) := by
    have k3 : fw_r (fw_u (fg_m0 c0) 32 1 N) 32 3 = 0 := by rw [m32]; rfl
    unfold fl_B
    rw [cm _ _ (by omega), cm _ _ (by omega), cm _ _ (by omega), a0, a1, a2, k3]
    exact ⟨by decide, by decide, by decide⟩
  have s2 : fw_r (fg_cmt c1 N) (-3) 0 < 2147483648 := by rw [cm _ _ (by omega), oc _ (by omega) (by omega), l3]; omega
  obtain ⟨σ', e4, w1, w2⟩ := fl_law h2 r2 b2 s2 (by rw [m32]; rfl) (fun q _ _ => m41 q)
  have e5 : fw_E 0 11 [(6, 0), (2, 1), (8, 0), (8, 0), (8, 0)] [(2, 32)] c0 = some ((0, 1), σ') := by
    have kd : fw_kd 32 = 12 := by decide
    rw [fw_b_0_11, ev, fw_bs, fw_cn_0, fw_b_0_18, eu, fw_bs, fw_cn_0, fw_b_0_23 _ _ _ _ _ _ _ _ _ kd, hNu, ew, e2, fw_bs, fw_cn_5, fw_b_0_27 _ _ _ _ _ _ kd (by decide), o0, e3, fw_bs, fw_cn_0, fw_b_0_36, if_pos (show fw_r (fg_m0 c0) 32 1 = 12 from rfl), fw_b_0_41, e4]
  have e6 : fw_E 0 0 [(6, 0), (8, 0), (8, 0), (8, 0), (8, 0)] [] (fw_s0 L xs) = some ((0, 1), σ') := e1'.trans e5
  obtain ⟨n, hn⟩ := fw_E_to e6
  have c1 : fw_r σ' (-1) 1 ≤ 676181 := by omega
  have c2 : fw_r σ' (-1) 2 ≤ 7072639 := by omega
  exact ⟨n, σ', hn, c1, c2⟩
theorem whole_start {p : Program} {e : Env} {s : State} {m : MethodId} {below : List Frame} {meth : Method} {c : Code} (l : Launch) (hflags : l.flags = flags0) {b L : Nat} {xs : Nat → Int32} (hL : L ≤ 260) (C0 : lw_At p s m meth c b L xs) : W p l e room_1 s m #[Value.ref b] below meth c s.heap [] 0 0 (lw_Z below #[Value.ref b] s) (entryFrame m ([Value.ref b] : List Value).toArray 5) := fw_start l hflags C0 (fg_run hL)
