/-! what the small machine's cells, locals and stack say of the real one's -/
def fw_al (ws : va_W) : List Nat := ws.map Prod.fst
def fw_vr (al : List Nat) (b : Nat) (av : fw_V) (v : Value) : Prop := match av.1 with
  | 0 => ∃ z : Int32, v = .int z ∧ av.2 = z.toInt
  | 1 => ∃ z : Int64, v = .long z ∧ av.2 = z.toInt
  | 2 => (av.2 = 0 ∧ v = .null) ∨ ∃ (i a : Nat), al[i]? = some a ∧ av.2 = (i : Int) + 1 ∧ v = .ref a
  | 3 => ∃ z : UInt64, v = .double z ∧ av.2 = (z.toNat : Int)
  | 4 => ∃ z : UInt32, v = .float z ∧ av.2 = (z.toNat : Int)
  | 6 => v = .ref b
  | 7 => ∃ a : Nat, v = .ref a
  | _ => False
def fw_St (al : List Nat) (b : Nat) : List fw_V → List Value → Prop
  | [], [] => True
  | a :: as, v :: vs => fw_vr al b a v ∧ fw_St al b as vs
  | _, _ => False
def fw_L (k : Nat) (al : List Nat) (b : Nat) (ls : Array Slot) (ll : List fw_V) : Prop :=
  ∃ l : List (Nat × Value), lv_has ls (fw_mL k) l ∧ ll.length = fw_mL k ∧ (∀ (i : Nat) (av : fw_V), ll[i]? = some av → av.1 ≠ 8 → ∃ v, (i, v) ∈ l ∧ fw_vr al b av v) ∧
    (∀ q ∈ l, q.2.category = 2 → ∃ av : fw_V, ll[q.1]? = some av ∧ av.1 = 1) ∧ (∀ av ∈ ll, av.1 ≠ 3) ∧ (k ≠ fw_KS → ∀ av ∈ ll, av.1 ≠ 1)
theorem fw_vr_mono {al al' : List Nat} {b : Nat} {av : fw_V} {v : Value} (h : al <+: al') (hc : fw_vr al b av v) : fw_vr al' b av v := by
  obtain ⟨t, x⟩ := av
  unfold fw_vr at hc ⊢
  split at hc
  · exact hc
  · exact hc
  · rcases hc with hc | ⟨i, a, h1, h2⟩
    · exact Or.inl hc
    · obtain ⟨r, rfl⟩ := h
      exact Or.inr ⟨i, a, by rw [List.getElem?_append_left (List.getElem?_eq_some_iff.mp h1).1]; exact h1, h2⟩
  · exact hc
  · exact hc
  · exact hc
  · exact hc
  · exact hc
theorem fw_St_mono {al al' : List Nat} {b : Nat} (h : al <+: al') : ∀ {st : List fw_V} {cst : List Value}, fw_St al b st cst → fw_St al' b st cst
  | [], [], _ => trivial
  | _ :: _, _ :: _, hs => ⟨fw_vr_mono h hs.1, fw_St_mono h hs.2⟩
theorem fw_L_mono {k : Nat} {al al' : List Nat} {b : Nat} {ls : Array Slot} {ll : List fw_V} (h : al <+: al') (hL : fw_L k al b ls ll) : fw_L k al' b ls ll := by
  obtain ⟨l, h1, h2, h3, h4⟩ := hL
  refine ⟨l, h1, h2, fun i av hi ha => ?_, h4⟩
  obtain ⟨v, hv, hc⟩ := h3 i av hi ha
  exact ⟨v, hv, fw_vr_mono h hc⟩
theorem fw_St_cons {al : List Nat} {b : Nat} {a : fw_V} {st : List fw_V} {cst : List Value} (h : fw_St al b (a :: st) cst) : ∃ v vs, cst = v :: vs ∧ fw_vr al b a v ∧ fw_St al b st vs := by
  cases cst with
  | nil => exact h.elim
  | cons v vs => exact ⟨v, vs, rfl, h.1, h.2⟩
theorem fw_St_nil {al : List Nat} {b : Nat} {cst : List Value} (h : fw_St al b [] cst) : cst = [] := by
  cases cst with
  | nil => rfl
  | cons v vs => exact h.elim
theorem fw_St_len {al : List Nat} {b : Nat} : ∀ {st : List fw_V} {cst : List Value}, fw_St al b st cst → cst.length = st.length
  | [], [], _ => rfl
  | _ :: _, _ :: _, h => congrArg (· + 1) (fw_St_len h.2)
theorem fw_St_cat {al : List Nat} {b : Nat} : ∀ {st : List fw_V} {cst : List Value}, fw_St al b st cst → (cst.map fun v => v.category).sum ≤ 2 * st.length
  | [], [], _ => Nat.le_refl _
  | _ :: st, v :: cst, h => by
    have h1 := fw_St_cat h.2
    have h2 := lv_cat v
    simp only [List.map_cons, List.sum_cons, List.length_cons]
    omega
theorem fw_St_app {al : List Nat} {b : Nat} : ∀ {s1 s2 : List fw_V} {c : List Value}, fw_St al b (s1 ++ s2) c → ∃ c1 c2, c = c1 ++ c2 ∧ fw_St al b s1 c1 ∧ fw_St al b s2 c2
  | [], s2, c, h => ⟨[], c, rfl, trivial, h⟩
  | a :: s1, s2, c, h => by
    obtain ⟨v, vs, rfl, h1, h2⟩ := fw_St_cons h
    obtain ⟨c1, c2, rfl, h3, h4⟩ := fw_St_app h2
    exact ⟨v :: c1, c2, rfl, ⟨h1, h3⟩, h4⟩
theorem fw_St_snoc {al : List Nat} {b : Nat} : ∀ {s1 : List fw_V} {c1 : List Value} {a : fw_V} {v : Value}, fw_St al b s1 c1 → fw_vr al b a v → fw_St al b (s1 ++ [a]) (c1 ++ [v])
  | [], [], _, _, _, h => ⟨h, trivial⟩
  | _ :: _, _ :: _, _, _, h, h2 => ⟨h.1, fw_St_snoc h.2 h2⟩
theorem fw_St_rev {al : List Nat} {b : Nat} : ∀ {s1 : List fw_V} {c1 : List Value}, fw_St al b s1 c1 → fw_St al b s1.reverse c1.reverse
  | [], [], _ => trivial
  | a :: s1, v :: c1, h => by
    rw [List.reverse_cons, List.reverse_cons]
    exact fw_St_snoc (fw_St_rev h.2) h.1
theorem fw_St_at {al : List Nat} {b : Nat} : ∀ {s1 : List fw_V} {c1 : List Value} {i : Nat} {a : fw_V}, fw_St al b s1 c1 → s1[i]? = some a → ∃ v, c1[i]? = some v ∧ fw_vr al b a v
  | [], [], _, _, _, h => by simp at h
  | x :: s1, v :: c1, 0, a, h, hi => by
    rw [List.getElem?_cons_zero] at hi
    cases hi
    exact ⟨v, rfl, h.1⟩
  | x :: s1, v :: c1, i + 1, a, h, hi => by
    rw [List.getElem?_cons_succ] at hi
    exact fw_St_at (i := i) h.2 hi
theorem fw_g_at : ∀ (ll : List fw_V) (i : Nat), (fw_g ll i).1 ≠ 8 → ll[i]? = some (fw_g ll i)
  | [], _, h => absurd rfl h
  | _ :: _, 0, _ => rfl
  | _ :: l, i + 1, h => by rw [List.getElem?_cons_succ]; exact fw_g_at l i h
theorem fw_at_g : ∀ {ll : List fw_V} {i : Nat} {av : fw_V}, ll[i]? = some av → fw_g ll i = av
  | [], _, _, h => by simp at h
  | _ :: _, 0, _, h => by rw [List.getElem?_cons_zero] at h; exact Option.some.inj h
  | _ :: l, i + 1, _, h => by rw [List.getElem?_cons_succ] at h; exact fw_at_g (ll := l) (i := i) h
/-- a local that is known -/
theorem fw_L_at {k : Nat} {al : List Nat} {b : Nat} {ls : Array Slot} {ll : List fw_V} {i : Nat} (hL : fw_L k al b ls ll) (h : (fw_g ll i).1 ≠ 8) : ∃ v, ls[i]? = some (.val v) ∧ fw_vr al b (fw_g ll i) v := by
  obtain ⟨l, h1, h2, h3, h4⟩ := hL
  obtain ⟨v, hv, hc⟩ := h3 i _ (fw_g_at ll i h) h
  exact ⟨v, h1.2.2 (i, v) hv, hc⟩
theorem fw_cat {al : List Nat} {b : Nat} {av : fw_V} {v : Value} (h : fw_vr al b av v) (h1 : av.1 ≠ 1) (h3 : av.1 ≠ 3) : v.category = 1 := by
  obtain ⟨t, x⟩ := av
  unfold fw_vr at h
  split at h
  · obtain ⟨z, rfl, -⟩ := h; rfl
  · rename_i ht; exact absurd ht h1
  · rcases h with ⟨-, rfl⟩ | ⟨i, a, -, -, rfl⟩ <;> rfl
  · rename_i ht; exact absurd ht h3
  · obtain ⟨z, rfl, -⟩ := h; rfl
  · cases h; rfl
  · obtain ⟨z, rfl⟩ := h; rfl
  · exact h.elim
theorem fw_cat2 {al : List Nat} {b : Nat} {av : fw_V} {v : Value} (h : fw_vr al b av v) (hc : v.category = 2) : av.1 = 1 ∨ av.1 = 3 := by
  rcases Nat.decEq av.1 1 with h1 | h1
  · rcases Nat.decEq av.1 3 with h3 | h3
    · have := fw_cat h h1 h3
      omega
    · exact Or.inr h3
  · exact Or.inl h1
/-- a store of one slot -/
theorem fw_L_set {k : Nat} {al : List Nat} {b : Nat} {ls' : Array Slot} {ll : List fw_V} {i : Nat} {av : fw_V} {v : Value} {l : List (Nat × Value)} (hl : ll.length = fw_mL k) (h3 : ∀ (i : Nat) (av : fw_V), ll[i]? = some av → av.1 ≠ 8 → ∃ v, (i, v) ∈ l ∧ fw_vr al b av v)
    (h4 : ∀ q ∈ l, q.2.category = 2 → ∃ av : fw_V, ll[q.1]? = some av ∧ av.1 = 1) (h5 : ∀ av ∈ ll, av.1 ≠ 3) (h6 : k ≠ fw_KS → ∀ av ∈ ll, av.1 ≠ 1)
    (hs : fw_so k ll i = true) (hc : fw_vr al b av v) (ha1 : av.1 ≠ 1) (ha3 : av.1 ≠ 3)
    (h : lv_has ls' (fw_mL k) ((i, v) :: l.filter (fun q => !(q.1 == i) && !(q.1 + 1 == i && q.2.category == 2)))) : fw_L k al b ls' (ll.set i av) := by
  simp only [fw_so, Bool.and_eq_true, decide_eq_true_eq, Bool.or_eq_true] at hs
  have hcat := fw_cat hc ha1 ha3
  refine ⟨_, h, by rw [List.length_set]; exact hl, fun j aw hj hw => ?_, fun q hq hq2 => ?_, fun aw haw => ?_, fun hk aw haw => ?_⟩
  · by_cases hji : j = i
    · subst hji
      rw [List.getElem?_set_self (by omega)] at hj
      cases hj
      exact ⟨v, List.mem_cons_self, hc⟩
    · rw [List.getElem?_set_ne (Ne.symm hji)] at hj
      obtain ⟨w, hw1, hw2⟩ := h3 j aw hj hw
      refine ⟨w, List.mem_cons_of_mem _ (List.mem_filter.mpr ⟨hw1, ?_⟩), hw2⟩
      have e1 : (j == i) = false := by simpa using hji
      by_cases hj1 : j + 1 = i
      · have hw3 : ¬ w.category = 2 := by
          intro hw3
          obtain ⟨ax, hx1, hx2⟩ := h4 _ hw1 hw3
          rcases hs.2 with (hs2 | hs2) | hs2
          · exact h6 hs2 ax (List.mem_of_getElem? hx1) hx2
          · omega
          · have e9 : i - 1 = j := by omega
            rw [e9, fw_at_g hx1] at hs2
            exact hs2 hx2
        simp [e1, hw3]
      · simp [e1, hj1]
  · rcases List.mem_cons.mp hq with rfl | hq
    · have hq2 : v.category = 2 := hq2
      omega
    · obtain ⟨hq1, hq3⟩ := List.mem_filter.mp hq
      obtain ⟨aw, hw1, hw2⟩ := h4 q hq1 hq2
      have hne : q.1 ≠ i := by
        intro hh
        simp [hh] at hq3
      exact ⟨aw, by rw [List.getElem?_set_ne (Ne.symm hne)]; exact hw1, hw2⟩
  · rcases List.mem_or_eq_of_mem_set haw with h | h
    · exact h5 aw h
    · rw [h]; exact ha3
  · rcases List.mem_or_eq_of_mem_set haw with h | h
    · exact h6 hk aw h
    · rw [h]; exact ha1

/-- what a cell holds -/
def fw_er (al : List Nat) (b : Nat) (tys : List (ClassId × FieldType)) (σ : fw_M) (k : Int) (e : va_E) : Prop := match e with
  | .inr (ci, fs) => ∃ c : Nat, ci = c + 2 ∧ c < 10 ∧ fw_kd k = (c : Int) + 3 ∧ fs.length = fw_nf c ∧ ∀ j : Nat, j < fw_nf c → ∃ v, fs[j]? = some v ∧ fw_vr al b (fw_tg (fw_fk c j), σ k (j : Int)) v
  | .inl (cA, n, .inl f) => ∃ (t0 : Nat) (ty : FieldType), tys[t0]? = some (cA, ty) ∧ ((fw_kd k = 100 ∧ ty = .int) ∨ (fw_kd k = 101 ∧ ty = .char) ∨ (fw_kd k = 102 ∧ ty = .boolean)) ∧ fw_ln k = (n : Int) ∧ n ≤ 300 ∧ ∀ j : Nat, j < n → σ k (j : Int) = (f j).toInt
  | .inl (cA, n, .inr (.inl f)) => ∃ t0 : Nat, tys[t0]? = some (cA, .long) ∧ fw_kd k = 103 ∧ fw_ln k = (n : Int) ∧ n ≤ 300 ∧ ∀ j : Nat, j < n → σ k (j : Int) = (f j).toInt
  | .inl (_, _, .inr (.inr (.inl _))) => False
  | .inl (cA, n, .inr (.inr (.inr (.inl f)))) => ∃ t0 : Nat, tys[t0]? = some (cA, .double) ∧ fw_kd k = 104 ∧ fw_ln k = (n : Int) ∧ n ≤ 300 ∧ ∀ j : Nat, j < n → σ k (j : Int) = ((f j).toNat : Int)
  | .inl (cA, n, .inr (.inr (.inr (.inr f)))) => ∃ (t0 : Nat) (ty : FieldType), tys[t0]? = some (cA, ty) ∧ ((fw_kd k = 105 ∧ ty = .object RX1) ∨ (fw_kd k = 106 ∧ ty = .array .int)) ∧ fw_ln k = (n : Int) ∧ n ≤ 300 ∧ ∀ j : Nat, j < n → fw_vr al b (2, σ k (j : Int)) (va_rf (f j))
theorem fw_er_mono {al al' : List Nat} {b : Nat} {tys tys' : List (ClassId × FieldType)} {σ σ' : fw_M} {k : Int} {e : va_E} (ha : al <+: al') (ht : tys <+: tys') (hs : ∀ j, σ' k j = σ k j) (h : fw_er al b tys σ k e) : fw_er al' b tys' σ' k e := by
  have ht' : ∀ {t0 : Nat} {q : ClassId × FieldType}, tys[t0]? = some q → tys'[t0]? = some q := by
    intro t0 q hq
    obtain ⟨r, rfl⟩ := ht
    rw [List.getElem?_append_left (List.getElem?_eq_some_iff.mp hq).1]
    exact hq
  match e, h with
  | .inr (ci, fs), ⟨c, h1, h2, h3, h4, h5⟩ =>
    refine ⟨c, h1, h2, h3, h4, fun j hj => ?_⟩
    obtain ⟨v, hv, hc⟩ := h5 j hj
    exact ⟨v, hv, by rw [hs]; exact fw_vr_mono ha hc⟩
  | .inl (cA, n, .inl f), ⟨t0, ty, h1, h2, h3, h4, h5⟩ => exact ⟨t0, ty, ht' h1, h2, h3, h4, fun j hj => by rw [hs]; exact h5 j hj⟩
  | .inl (cA, n, .inr (.inl f)), ⟨t0, h1, h2, h3, h4, h5⟩ => exact ⟨t0, ht' h1, h2, h3, h4, fun j hj => by rw [hs]; exact h5 j hj⟩
  | .inl (cA, n, .inr (.inr (.inr (.inl f)))), ⟨t0, h1, h2, h3, h4, h5⟩ => exact ⟨t0, ht' h1, h2, h3, h4, fun j hj => by rw [hs]; exact h5 j hj⟩
  | .inl (cA, n, .inr (.inr (.inr (.inr f)))), ⟨t0, ty, h1, h2, h3, h4, h5⟩ => exact ⟨t0, ty, ht' h1, h2, h3, h4, fun j hj => by rw [hs]; exact fw_vr_mono ha (h5 j hj)⟩
/-- the heap holds the small machine's cells -/
def fw_H (base b L : Nat) (xs : Nat → Int32) (D : va_G) (σ : fw_M) (tys : List (ClassId × FieldType)) (ws : va_W) (s : State) (H : Heap) : Prop :=
  va_K D fw_Cl tys s ∧ va_P D fw_Cl ws H ∧ va_D (fun q => base ≤ q) ws ∧ σ (-1) 0 = (ws.length : Int) + 1 ∧
    (∀ (k : Nat) (q : Nat × va_E), ws[k]? = some q → fw_er (fw_al ws) b tys σ ((k : Int) + 1) q.2) ∧ σ (-3) 0 = (L : Int) ∧ ∀ j : Nat, j < L → σ (-2) (j : Int) = (xs j).toInt
theorem fw_al_set {ws : va_W} {p a : Nat} {e0 e : va_E} (h : ws[p]? = some (a, e0)) : fw_al (ws.set p (a, e)) = fw_al ws := by
  unfold fw_al
  apply List.ext_getElem?
  intro i
  rw [List.getElem?_map, List.getElem?_map]
  by_cases hi : i = p
  · subst hi
    rw [List.getElem?_set_self (List.getElem?_eq_some_iff.mp h).1, h]
    rfl
  · rw [List.getElem?_set_ne (Ne.symm hi)]
theorem fw_u_ne {σ : fw_M} {k j v a c : Int} (h : a ≠ k) : fw_u σ k j v a c = σ a c := by
  unfold fw_u
  rw [if_neg (fun q => h q.1)]
theorem fw_u_nj {σ : fw_M} {k j v a c : Int} (h : c ≠ j) : fw_u σ k j v a c = σ a c := by
  unfold fw_u
  rw [if_neg (fun q => h q.2)]
theorem fw_u_s {σ : fw_M} {k j v : Int} : fw_u σ k j v k j = v := by
  unfold fw_u
  rw [if_pos ⟨rfl, rfl⟩]
theorem fw_H_set {base b L : Nat} {xs : Nat → Int32} {D : va_G} {σ : fw_M} {tys : List (ClassId × FieldType)} {ws : va_W} {s : State} {H H1 : Heap} {p a : Nat} {e0 e : va_E} {j v : Int} (h : fw_H base b L xs D σ tys ws s H) (hp : ws[p]? = some (a, e0))
    (he : fw_er (fw_al ws) b tys (fw_u σ ((p : Int) + 1) j v) ((p : Int) + 1) e) (hP : va_P D fw_Cl (ws.set p (a, e)) H1) (hD : va_D (fun q => base ≤ q) (ws.set p (a, e))) : fw_H base b L xs D (fw_u σ ((p : Int) + 1) j v) tys (ws.set p (a, e)) s H1 := by
  obtain ⟨h1, h2, h3, h4, h5, h6, h7⟩ := h
  refine ⟨h1, hP, hD, ?_, fun k q hk => ?_, ?_, fun i hi => ?_⟩
  · rw [fw_u_ne (by omega), List.length_set]; exact h4
  · rw [fw_al_set hp]
    by_cases hkp : k = p
    · subst hkp
      rw [List.getElem?_set_self (List.getElem?_eq_some_iff.mp hp).1] at hk
      cases hk
      exact he
    · rw [List.getElem?_set_ne (Ne.symm hkp)] at hk
      exact fw_er_mono (List.prefix_refl _) (List.prefix_refl _) (fun c => fw_u_ne (by omega)) (h5 k q hk)
  · rw [fw_u_ne (by omega)]; exact h6
  · rw [fw_u_ne (by omega)]; exact h7 i hi
theorem fw_H_push {base b L : Nat} {xs : Nat → Int32} {D : va_G} {σ : fw_M} {tys tys' : List (ClassId × FieldType)} {ws : va_W} {s : State} {H H1 : Heap} {a : Nat} {e : va_E} {n : Int} (h : fw_H base b L xs D σ tys ws s H) (ht : tys <+: tys') (hK : va_K D fw_Cl tys' s)
    (hP : va_P D fw_Cl (ws ++ [(a, e)]) H1) (hD : va_D (fun q => base ≤ q) (ws ++ [(a, e)])) (he : fw_er (fw_al (ws ++ [(a, e)])) b tys' (fun _ _ => 0) ((ws.length : Int) + 1) e) : fw_H base b L xs D (fw_nw σ n) tys' (ws ++ [(a, e)]) s H1 := by
  obtain ⟨h1, h2, h3, h4, h5, h6, h7⟩ := h
  have hal : fw_al ws <+: fw_al (ws ++ [(a, e)]) := by unfold fw_al; rw [List.map_append]; exact List.prefix_append _ _
  refine ⟨hK, hP, hD, ?_, fun k q hk => ?_, ?_, fun i hi => ?_⟩
  · unfold fw_nw
    rw [if_neg (by omega), if_pos rfl, if_pos rfl, h4, List.length_append, List.length_singleton]
    omega
  · by_cases hl : k < ws.length
    · rw [List.getElem?_append_left hl] at hk
      refine fw_er_mono hal ht (fun c => ?_) (h5 k q hk)
      unfold fw_nw
      rw [if_neg (by omega), if_neg (by omega)]
    · rw [List.getElem?_append_right (by omega)] at hk
      have hz : k - ws.length < 1 := (List.getElem?_eq_some_iff.mp hk).1
      have hk0 : k = ws.length := by omega
      subst hk0
      rw [Nat.sub_self] at hk
      cases hk
      refine fw_er_mono (List.prefix_refl _) (List.prefix_refl _) (fun c => ?_) he
      unfold fw_nw
      rw [if_pos h4.symm]
  · unfold fw_nw
    rw [if_neg (by omega), if_neg (by omega)]; exact h6
  · unfold fw_nw
    rw [if_neg (by omega), if_neg (by omega)]; exact h7 i hi
theorem fw_H_moved {base b L : Nat} {xs : Nat → Int32} {D : va_G} {σ : fw_M} {tys : List (ClassId × FieldType)} {ws : va_W} {s t : State} {H : Heap} (hvm : s.vm.Alike t.vm) (h : fw_H base b L xs D σ tys ws s H) : fw_H base b L xs D σ tys ws t H :=
  ⟨h.1.moved hvm, h.2⟩
/-- the cell that a reference names -/
theorem fw_H_at {base b L : Nat} {xs : Nat → Int32} {D : va_G} {σ : fw_M} {tys : List (ClassId × FieldType)} {ws : va_W} {s : State} {H : Heap} {x : Int} {v : Value} (h : fw_H base b L xs D σ tys ws s H) (hv : fw_vr (fw_al ws) b (2, x) v) (hx : 0 < fw_kd x) : ∃ (p a : Nat) (e : va_E), ws[p]? = some (a, e) ∧ x = (p : Int) + 1 ∧ v = .ref a ∧ fw_er (fw_al ws) b tys σ x e := by
  rcases hv with ⟨h0, -⟩ | ⟨i, a, h1, h2, h3⟩
  · have h0 : x = 0 := h0
    subst h0
    exact absurd hx (by decide)
  · have h2 : x = (i : Int) + 1 := h2
    unfold fw_al at h1
    rw [List.getElem?_map] at h1
    obtain ⟨q, hq1, hq2⟩ := Option.map_eq_some_iff.mp h1
    obtain ⟨a', e⟩ := q
    have hq2 : a' = a := hq2
    subst hq2
    exact ⟨i, a', e, hq1, h2, h3, by rw [h2]; exact h.2.2.2.2.1 i _ hq1⟩
