/-! what stands when the objects are made is the relation -/
def fg_L0 : List (Int × Int × Int × Int) := (41, 0, 8, -1) :: (33, 0, 20, -1) :: (32, 34, 34 + 1, 53) :: (32, 33, 33 + 1, 52) :: (32, 32, 32 + 1, 51) :: (32, 31, 31 + 1, 50) :: (32, 30, 30 + 1, 49) :: (32, 28, 28 + 1, 48) :: (32, 27, 27 + 1, 47) :: (32, 26, 26 + 1, 46) :: (32, 24, 24 + 1, 45) :: (32, 23, 23 + 1, 44) :: (32, 22, 22 + 1, 43) :: (32, 21, 21 + 1, 42) :: (32, 20, 20 + 1, 41) :: (32, 14, 14 + 1, 40) :: (32, 13, 13 + 1, 39) :: (32, 12, 12 + 1, 38) :: (32, 11, 11 + 1, 37) :: (32, 9, 9 + 1, 2) :: (32, 6, 6 + 1, 36) :: (32, 5, 5 + 1, 35) :: (32, 4, 4 + 1, 34) :: (32, 2, 2 + 1, 33) :: (32, 1, 1 + 1, 12) :: (1, 7, 7 + 1, 31) :: (1, 6, 6 + 1, 27) :: (27, 1, 1 + 1, 30) :: (27, 0, 0 + 1, 28) :: (28, 0, 0 + 1, 29) :: (1, 5, 5 + 1, 25) :: (25, 0, 0 + 1, 26) :: (1, 4, 4 + 1, 17) :: (17, 2, 2 + 1, 8) :: (17, 1, 1 + 1, 2) :: (17, 0, 0 + 1, 11) :: (17, 7, 7 + 1, 24) :: (17, 6, 6 + 1, 23) :: (17, 5, 5 + 1, 22) :: (17, 4, 4 + 1, 21) :: (17, 3, 3 + 1, 18) :: (18 + 1, 0, 20, -1) :: (18 + 2, 0, 20, 0) :: (18, 3, 3 + 1, 0) :: (18, 2, 2 + 1, 12) :: (18, 1, 1 + 1, 20) :: (18, 0, 0 + 1, 19) :: (1, 3, 3 + 1, 14) :: (14, 1, 1 + 1, 2) :: (14, 0, 0 + 1, 11) :: (14, 3, 3 + 1, 16) :: (14, 2, 2 + 1, 15) :: (1, 2, 2 + 1, 11) :: (13, 0, 8, -1) :: (11, 4, 4 + 1, 2) :: (11, 3, 3 + 1, 11) :: (11, 1, 1 + 1, 13) :: (11, 0, 0 + 1, 12) :: (1, 1, 1 + 1, 8) :: (8 + 1, 0, 20, -1) :: (8 + 2, 0, 20, 0) :: (8, 3, 3 + 1, 0) :: (8, 2, 2 + 1, 12) :: (8, 1, 1 + 1, 10) :: (8, 0, 0 + 1, 9) :: (1, 0, 0 + 1, 2) :: (2, 4, 4 + 1, 7) :: (2, 3, 3 + 1, 6) :: (2, 2, 2 + 1, 5) :: (2, 1, 1 + 1, 4) :: (2, 0, 0 + 1, 3) :: []
theorem fg_lk_no {a : Int} : ∀ {l : List (Int × Int × Int × Int)}, (∀ e ∈ l, e.1 ≠ a) → ∀ j, fg_lk l a j = 0 := by
  intro l
  induction l with
  | nil => intro h j; rfl
  | cons e l ih =>
    intro h j
    have h1 := h e (List.mem_cons_self ..)
    rw [fg_lk, if_neg (fun hx => h1 hx.1.symm)]
    exact ih (fun e he => h e (List.mem_cons_of_mem _ he)) j
theorem fg_ini (z : fw_M) : fg_INV 0 (fg_D z 56 55 5649 fg_L0) := by
  have rd : ∀ {a j v : Int}, 0 < a → fg_lk fg_L0 a j = v → fw_r (fg_D z 56 55 5649 fg_L0) a j = v := fun h e => fg_D_r h e
  have rz : ∀ {a : Int}, 0 < a → (∀ e ∈ fg_L0, e.1 ≠ a) → ∀ j, fw_r (fg_D z 56 55 5649 fg_L0) a j = 0 := fun h e j => rd h (fg_lk_no e j)
  have f9 : ∀ k : Fin 20, fg_lk fg_L0 9 ((k.val : Nat) : Int) = -1 := by decide
  have f10 : ∀ k : Fin 20, fg_lk fg_L0 10 ((k.val : Nat) : Int) = 0 := by decide
  have f33 : ∀ k : Fin 20, fg_lk fg_L0 33 ((k.val : Nat) : Int) = -1 := by decide
  have f13 : ∀ k : Fin 8, fg_lk fg_L0 13 ((k.val : Nat) : Int) = -1 := by decide
  have f41 : ∀ k : Fin 8, fg_lk fg_L0 41 ((k.val : Nat) : Int) = -1 := by decide
  have r9 : ∀ j, 0 ≤ j → j < 20 → fw_r (fg_D z 56 55 5649 fg_L0) 9 j = -1 := fun j h0 h1 => rd (by decide) (by have := f9 ⟨j.toNat, by omega⟩; rwa [Int.toNat_of_nonneg h0] at this)
  have r10 : ∀ j, 0 ≤ j → j < 20 → fw_r (fg_D z 56 55 5649 fg_L0) 10 j = 0 := fun j h0 h1 => rd (by decide) (by have := f10 ⟨j.toNat, by omega⟩; rwa [Int.toNat_of_nonneg h0] at this)
  have r33 : ∀ j, 0 ≤ j → j < 20 → fw_r (fg_D z 56 55 5649 fg_L0) 33 j = -1 := fun j h0 h1 => rd (by decide) (by have := f33 ⟨j.toNat, by omega⟩; rwa [Int.toNat_of_nonneg h0] at this)
  have r13 : ∀ j, 0 ≤ j → j < 8 → fw_r (fg_D z 56 55 5649 fg_L0) 13 j = -1 := fun j h0 h1 => rd (by decide) (by have := f13 ⟨j.toNat, by omega⟩; rwa [Int.toNat_of_nonneg h0] at this)
  have r41 : ∀ j, 0 ≤ j → j < 8 → fw_r (fg_D z 56 55 5649 fg_L0) 41 j = -1 := fun j h0 h1 => rd (by decide) (by have := f41 ⟨j.toNat, by omega⟩; rwa [Int.toNat_of_nonneg h0] at this)
  have hps : ∀ q ∈ fw_psT, fg_lk fg_L0 q.1 q.2.1 = q.2.2 := by decide
  have hp : fw_ptr (fg_D z 56 55 5649 fg_L0) := fun q hq => rd (fw_ps_le q hq).1 (hps q hq)
  have v321 := rd (a := 32) (j := 1) (v := 12) (by decide) (by decide)
  have v323 := rd (a := 32) (j := 3) (v := 0) (by decide) (by decide)
  have v327 := rd (a := 32) (j := 7) (v := 0) (by decide) (by decide)
  have v328 := rd (a := 32) (j := 8) (v := 0) (by decide) (by decide)
  have v329 := rd (a := 32) (j := 9) (v := 2) (by decide) (by decide)
  have v3210 := rd (a := 32) (j := 10) (v := 0) (by decide) (by decide)
  have v3215 := rd (a := 32) (j := 15) (v := 0) (by decide) (by decide)
  have v3216 := rd (a := 32) (j := 16) (v := 0) (by decide) (by decide)
  have v3217 := rd (a := 32) (j := 17) (v := 0) (by decide) (by decide)
  have v3218 := rd (a := 32) (j := 18) (v := 0) (by decide) (by decide)
  have v3219 := rd (a := 32) (j := 19) (v := 0) (by decide) (by decide)
  have v3225 := rd (a := 32) (j := 25) (v := 0) (by decide) (by decide)
  have v3229 := rd (a := 32) (j := 29) (v := 0) (by decide) (by decide)
  have v112 := rd (a := 11) (j := 2) (v := 0) (by decide) (by decide)
  have v113 := rd (a := 11) (j := 3) (v := 11) (by decide) (by decide)
  have v114 := rd (a := 11) (j := 4) (v := 2) (by decide) (by decide)
  have v115 := rd (a := 11) (j := 5) (v := 0) (by decide) (by decide)
  have v116 := rd (a := 11) (j := 6) (v := 0) (by decide) (by decide)
  have v25 := rd (a := 2) (j := 5) (v := 0) (by decide) (by decide)
  have v26 := rd (a := 2) (j := 6) (v := 0) (by decide) (by decide)
  have v27 := rd (a := 2) (j := 7) (v := 0) (by decide) (by decide)
  have v28 := rd (a := 2) (j := 8) (v := 0) (by decide) (by decide)
  have v29 := rd (a := 2) (j := 9) (v := 0) (by decide) (by decide)
  have v18 := rd (a := 1) (j := 8) (v := 0) (by decide) (by decide)
  have v82 := rd (a := 8) (j := 2) (v := 12) (by decide) (by decide)
  have v83 := rd (a := 8) (j := 3) (v := 0) (by decide) (by decide)
  have v251 := rd (a := 25) (j := 1) (v := 0) (by decide) (by decide)
  have v281 := rd (a := 28) (j := 1) (v := 0) (by decide) (by decide)
  have v272 := rd (a := 27) (j := 2) (v := 0) (by decide) (by decide)
  have z36 := rz (a := 36) (by decide) (by decide)
  have z39 := rz (a := 39) (by decide) (by decide)
  have z40 := rz (a := 40) (by decide) (by decide)
  have z42 := rz (a := 42) (by decide) (by decide)
  have z44 := rz (a := 44) (by decide) (by decide)
  have z45 := rz (a := 45) (by decide) (by decide)
  have a0 : fw_r (fg_D z 56 55 5649 fg_L0) (-1) 0 = 56 := rfl
  have a1 : fw_r (fg_D z 56 55 5649 fg_L0) (-1) 1 = 55 := rfl
  have a2 : fw_r (fg_D z 56 55 5649 fg_L0) (-1) 2 = 5649 := rfl
  generalize fg_D z 56 55 5649 fg_L0 = σ at *
  refine ⟨⟨⟨⟨⟨hp, ⟨by omega, by omega, fun i x y => by omega⟩, by omega⟩, ⟨by omega, by omega, by omega, by omega, by omega, by omega⟩, ⟨Or.inl v327, Or.inl v328, by omega, by omega⟩, fun i x y => by omega, fun i j x y => by omega, fun p x y => by omega, fun r x y => ?_⟩, hp⟩, ⟨⟨?_, by omega, fun p x y => ?_, fun j x y => ?_⟩, ⟨by omega, by omega, fun p x y => ?_, fun p q x y x2 y2 e ne => ?_, fun p x y => by omega⟩, fun p x y => ?_⟩, ⟨by omega, by omega, by omega, fun p x y => by omega, fun p x y => ⟨z39 p, z40 p⟩⟩, ⟨⟨by omega, ?_⟩, ⟨by omega, by omega, by omega⟩, ⟨by omega, ?_⟩, ⟨by omega, by omega, by omega⟩, ?_⟩, ⟨fun i x y => by omega, fun i x y => ⟨z42 i, z36 i, z44 i, z45 i⟩⟩, ?_, ?_, ⟨⟨by omega, by omega, by omega⟩, fun j x y => by omega, fun u x y => by omega, fun u i x y => by omega, fun p x y => by omega⟩, ?_⟩, by omega, by omega, by omega, by omega⟩
  · rw [r13 r x y, r41 r x y, v323]; exact ⟨rfl, by decide, by decide⟩
  · unfold fg_bok; omega
  · rw [v321] at y
    rw [r33 p x (by omega)]
    refine ⟨?_, fun hx => absurd rfl hx⟩
    unfold fg_tr fg_slot
    rw [v82, v83]
    split
    · exact r9 _ (by omega) (by omega)
    · exact r9 _ (by omega) (by omega)
  · rw [v321] at y
    rw [show (8 : Int) + 2 = 10 from rfl, r10 j x (by omega)]; exact ⟨by decide, by decide⟩
  · rw [v321] at y
    rw [r33 p x (by omega), v3215]; exact ⟨by decide, by decide⟩
  · rw [v321] at y
    rw [r33 p x (by omega)] at ne
    exact absurd rfl ne
  · exact r33 p (by omega) y
  · rw [v3217, v3215]; rfl
  · rw [v3219, v3215]; rfl
  · rw [v281, v3215]; rfl
  · intro p x y ne
    rw [v321] at y
    exact absurd (r33 p x (by omega)) ne
  · intro j x y
    omega
  · intro p hp0
    have c1 := fg_cnt_0 (f := fw_r σ 33) (n := fw_r σ 32 1) (p := p) (fun j x y e => by rw [v321] at y; rw [r33 j x (by omega)] at e; omega)
    have c2 := fg_cnt_0 (f := fw_r σ 29) (n := fw_r σ 28 1) (p := p) (fun j x y e => by omega)
    have c3 := fg_cnt_0 (f := fw_r σ 26) (n := fw_r σ 32 19) (p := p) (fun j x y e => by omega)
    have c4 : fg_chs σ p = 0 := by unfold fg_chs; rw [v323]; rfl
    rw [c1, c2, c3, c4, if_neg (by omega), if_neg (by omega)]; rfl
theorem fg_s0_D (L : Nat) (xs : Nat → Int32) : fw_s0 L xs = fg_D (fw_s0 L xs) 1 0 0 [] := by
  funext a j
  show fw_r (fw_s0 L xs) a j = fw_r (fg_D (fw_s0 L xs) 1 0 0 []) a j
  by_cases h1 : a = -1
  · subst h1
    rw [fg_D_1]
    by_cases b0 : j = 0
    · subst b0; rfl
    · rw [if_neg b0]
      by_cases b1 : j = 1
      · subst b1; rfl
      · rw [if_neg b1]
        by_cases b2 : j = 2
        · subst b2; rfl
        · rw [if_neg b2]
  · by_cases hp : 0 < a
    · rw [fg_D_p _ _ _ _ _ _ hp]
      show (if a = -1 then _ else if a = -2 then _ else if a = -3 then _ else 0) = _
      rw [if_neg h1, if_neg (by omega), if_neg (by omega)]; rfl
    · rw [fg_D_z _ _ _ _ _ _ (by omega) h1]
/-- the law's run on the small machine, for every script of at most 1536 ints -/
theorem fg_run {L : Nat} {xs : Nat → Int32} (hL : L ≤ 1536) : ∃ (n : Nat) (σ : fw_M), fw_ev n 0 0 (fw_en 0 [(6, 0)]) [] (fw_s0 L xs) = some ((0, 1), σ) ∧ σ (-1) 1 ≤ 603072 ∧ σ (-1) 2 ≤ 7190633 := by
  have e1 := fk_11 (z := fw_s0 L xs) (l := []) (a1 := (8, 0)) (a2 := (8, 0)) (a3 := (8, 0)) (a4 := (8, 0)) (a5 := (8, 0)) (a6 := (8, 0)) (a7 := (8, 0)) (a8 := (8, 0)) (fun e he => by cases he)
  rw [← fg_s0_D] at e1
  have l3 : fw_r (fg_D (fw_s0 L xs) 56 55 5649 fg_L0) (-3) 0 = (L : Int) := by rw [fg_D_z _ _ _ _ _ _ (by decide) (by decide)]; rfl
  obtain ⟨σ', t', e2, hI, ht⟩ := fl_loop 512 0 0 (fg_D (fw_s0 L xs) 56 55 5649 fg_L0) (8, 0) (8, 0) (8, 0) (fg_ini _) (by decide) (by decide) (by rw [l3]; omega) (by rw [l3]; omega) (by rw [l3]; omega)
  have e3 : fw_E 0 0 [(6, 0), (8, 0), (8, 0), (8, 0), (8, 0), (8, 0), (8, 0), (8, 0), (8, 0)] [] (fw_s0 L xs) = some ((0, 1), σ') := Eq.trans e1 e2
  obtain ⟨n, hn⟩ := fw_E_to e3
  have h3 := (fg_facts hI).2.1
  obtain ⟨-, b1, b2, b3, b4⟩ := hI
  have c1 : fw_r σ' (-1) 1 ≤ 603072 := by omega
  have c2 : fw_r σ' (-1) 2 ≤ 7190633 := by omega
  exact ⟨n, σ', hn, c1, c2⟩
theorem whole_start {p : Program} {e : Env} {s : State} {m : MethodId} {below : List Frame} {meth : Method} {c : Code} (l : Launch) (hflags : l.flags = flags0) {b L : Nat} {xs : Nat → Int32} (hL : L ≤ 1536) (C0 : lw_At p s m meth c b L xs) : W p l e room_1 s m #[Value.ref b] below meth c s.heap [] 0 0 (lw_Z below #[Value.ref b] s) (entryFrame m ([Value.ref b] : List Value).toArray 9) := fw_start l hflags C0 (fg_run hL)
