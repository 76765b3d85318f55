/-- the classes of the worlds: entry c + 2 is class c -/
def fw_Cl : List vw_C := [(RX0, TX0, 4), (RX0, TX0, 4), (RX0, TX0, 4), (RX1, TX1, 6), (RX2, TX2, 3), (RX3, TX3, 9), (RX4, TX4, 10), (RX5, TX5, 2), (RX6, TX6, 7), (RX7, TX7, 4), (RX8, TX8, 9), (RX9, TX9, 23)]
def fw_ws : List Cond := lw_tbl.filter goodWord
theorem fw_t_tbl (j : Nat) : ∀ w ∈ fw_t j, w ∈ lw_tbl := by
  intro w h
  refine List.mem_append_right _ ?_
  unfold tables_1
  match j, h with
  | 1, h => exact List.mem_append_left _ h
  | 2, h => exact List.mem_append_right _ (List.mem_append_left _ h)
  | 3, h => exact List.mem_append_right _ (List.mem_append_right _ (List.mem_append_left _ h))
  | 4, h => exact List.mem_append_right _ (List.mem_append_right _ (List.mem_append_right _ (List.mem_append_left _ h)))
  | 0, h => exact List.mem_append_right _ (List.mem_append_right _ (List.mem_append_right _ (List.mem_append_right _ h)))
  | n + 5, h => exact List.mem_append_right _ (List.mem_append_right _ (List.mem_append_right _ (List.mem_append_right _ h)))
theorem fw_tw (j i : Nat) {w : Cond} (h : (fw_t j)[i]? = some w) : w ∈ lw_tbl := fw_t_tbl j w (List.mem_of_getElem? h)
theorem fw_wd (j i : Nat) {w : Cond} (h : (fw_t j)[i]? = some w) (g : goodWord w = true) : w ∈ fw_ws := List.mem_filter.mpr ⟨fw_tw j i h, g⟩
theorem fw_ws_good : ∀ w ∈ fw_ws, (w.onTables && w.keeps) = true ∨ ∃ ty, w = .arrayClass ty := fun w h => good_of_word (List.mem_filter.mp h).2
theorem fw_ws_tbl : ∀ w ∈ fw_ws, w ∈ lw_tbl := fun w h => (List.mem_filter.mp h).1
theorem fw_goodIn {ws : List Cond} (h : ∀ w ∈ ws, w ∈ fw_ws) : GoodIn fw_ws ws := fun w hw => ⟨h w hw, fw_ws_good w (h w hw)⟩
theorem fw_u0 : ∀ w ∈ u_ws (fw_CN 0) (fw_CT 0) (fw_nf 0), w ∈ fw_ws := by
  intro w h
  obtain ⟨k, hk, rfl⟩ := List.mem_map.mp h
  have hk := List.mem_range.mp hk
  match k, hk with
  | 0, _ => exact fw_wd 1 96 rfl rfl
  | 1, _ => exact fw_wd 1 98 rfl rfl
  | 2, _ => exact fw_wd 1 100 rfl rfl
  | 3, _ => exact fw_wd 1 102 rfl rfl
  | n + 4, hk => exact absurd hk (by show ¬ (n + 4 < 4); omega)
theorem fw_u1 : ∀ w ∈ u_ws (fw_CN 1) (fw_CT 1) (fw_nf 1), w ∈ fw_ws := by
  intro w h
  obtain ⟨k, hk, rfl⟩ := List.mem_map.mp h
  have hk := List.mem_range.mp hk
  match k, hk with
  | 0, _ => exact fw_wd 2 164 rfl rfl
  | 1, _ => exact fw_wd 2 166 rfl rfl
  | 2, _ => exact fw_wd 2 168 rfl rfl
  | 3, _ => exact fw_wd 2 170 rfl rfl
  | 4, _ => exact fw_wd 2 172 rfl rfl
  | 5, _ => exact fw_wd 2 174 rfl rfl
  | n + 6, hk => exact absurd hk (by show ¬ (n + 6 < 6); omega)
theorem fw_u2 : ∀ w ∈ u_ws (fw_CN 2) (fw_CT 2) (fw_nf 2), w ∈ fw_ws := by
  intro w h
  obtain ⟨k, hk, rfl⟩ := List.mem_map.mp h
  have hk := List.mem_range.mp hk
  match k, hk with
  | 0, _ => exact fw_wd 1 225 rfl rfl
  | 1, _ => exact fw_wd 1 227 rfl rfl
  | 2, _ => exact fw_wd 1 229 rfl rfl
  | n + 3, hk => exact absurd hk (by show ¬ (n + 3 < 3); omega)
theorem fw_u3 : ∀ w ∈ u_ws (fw_CN 3) (fw_CT 3) (fw_nf 3), w ∈ fw_ws := by
  intro w h
  obtain ⟨k, hk, rfl⟩ := List.mem_map.mp h
  have hk := List.mem_range.mp hk
  match k, hk with
  | 0, _ => exact fw_wd 1 175 rfl rfl
  | 1, _ => exact fw_wd 1 177 rfl rfl
  | 2, _ => exact fw_wd 1 179 rfl rfl
  | 3, _ => exact fw_wd 1 181 rfl rfl
  | 4, _ => exact fw_wd 1 183 rfl rfl
  | 5, _ => exact fw_wd 1 185 rfl rfl
  | 6, _ => exact fw_wd 1 187 rfl rfl
  | 7, _ => exact fw_wd 1 189 rfl rfl
  | 8, _ => exact fw_wd 1 191 rfl rfl
  | n + 9, hk => exact absurd hk (by show ¬ (n + 9 < 9); omega)
theorem fw_u4 : ∀ w ∈ u_ws (fw_CN 4) (fw_CT 4) (fw_nf 4), w ∈ fw_ws := by
  intro w h
  obtain ⟨k, hk, rfl⟩ := List.mem_map.mp h
  have hk := List.mem_range.mp hk
  match k, hk with
  | 0, _ => exact fw_wd 1 52 rfl rfl
  | 1, _ => exact fw_wd 1 54 rfl rfl
  | 2, _ => exact fw_wd 1 56 rfl rfl
  | 3, _ => exact fw_wd 1 58 rfl rfl
  | 4, _ => exact fw_wd 1 60 rfl rfl
  | 5, _ => exact fw_wd 1 62 rfl rfl
  | 6, _ => exact fw_wd 1 64 rfl rfl
  | 7, _ => exact fw_wd 1 66 rfl rfl
  | 8, _ => exact fw_wd 1 68 rfl rfl
  | 9, _ => exact fw_wd 1 70 rfl rfl
  | n + 10, hk => exact absurd hk (by show ¬ (n + 10 < 10); omega)
theorem fw_u5 : ∀ w ∈ u_ws (fw_CN 5) (fw_CT 5) (fw_nf 5), w ∈ fw_ws := by
  intro w h
  obtain ⟨k, hk, rfl⟩ := List.mem_map.mp h
  have hk := List.mem_range.mp hk
  match k, hk with
  | 0, _ => exact fw_wd 1 207 rfl rfl
  | 1, _ => exact fw_wd 1 209 rfl rfl
  | n + 2, hk => exact absurd hk (by show ¬ (n + 2 < 2); omega)
theorem fw_u6 : ∀ w ∈ u_ws (fw_CN 6) (fw_CT 6) (fw_nf 6), w ∈ fw_ws := by
  intro w h
  obtain ⟨k, hk, rfl⟩ := List.mem_map.mp h
  have hk := List.mem_range.mp hk
  match k, hk with
  | 0, _ => exact fw_wd 1 124 rfl rfl
  | 1, _ => exact fw_wd 1 126 rfl rfl
  | 2, _ => exact fw_wd 1 128 rfl rfl
  | 3, _ => exact fw_wd 1 130 rfl rfl
  | 4, _ => exact fw_wd 1 132 rfl rfl
  | 5, _ => exact fw_wd 1 134 rfl rfl
  | 6, _ => exact fw_wd 1 136 rfl rfl
  | n + 7, hk => exact absurd hk (by show ¬ (n + 7 < 7); omega)
theorem fw_u7 : ∀ w ∈ u_ws (fw_CN 7) (fw_CT 7) (fw_nf 7), w ∈ fw_ws := by
  intro w h
  obtain ⟨k, hk, rfl⟩ := List.mem_map.mp h
  have hk := List.mem_range.mp hk
  match k, hk with
  | 0, _ => exact fw_wd 1 149 rfl rfl
  | 1, _ => exact fw_wd 1 151 rfl rfl
  | 2, _ => exact fw_wd 1 153 rfl rfl
  | 3, _ => exact fw_wd 1 155 rfl rfl
  | n + 4, hk => exact absurd hk (by show ¬ (n + 4 < 4); omega)
theorem fw_u8 : ∀ w ∈ u_ws (fw_CN 8) (fw_CT 8) (fw_nf 8), w ∈ fw_ws := by
  intro w h
  obtain ⟨k, hk, rfl⟩ := List.mem_map.mp h
  have hk := List.mem_range.mp hk
  match k, hk with
  | 0, _ => exact fw_wd 2 1 rfl rfl
  | 1, _ => exact fw_wd 2 3 rfl rfl
  | 2, _ => exact fw_wd 2 5 rfl rfl
  | 3, _ => exact fw_wd 2 7 rfl rfl
  | 4, _ => exact fw_wd 2 9 rfl rfl
  | 5, _ => exact fw_wd 2 11 rfl rfl
  | 6, _ => exact fw_wd 2 13 rfl rfl
  | 7, _ => exact fw_wd 2 15 rfl rfl
  | 8, _ => exact fw_wd 2 17 rfl rfl
  | n + 9, hk => exact absurd hk (by show ¬ (n + 9 < 9); omega)
theorem fw_u9 : ∀ w ∈ u_ws (fw_CN 9) (fw_CT 9) (fw_nf 9), w ∈ fw_ws := by
  intro w h
  obtain ⟨k, hk, rfl⟩ := List.mem_map.mp h
  have hk := List.mem_range.mp hk
  match k, hk with
  | 0, _ => exact fw_wd 3 149 rfl rfl
  | 1, _ => exact fw_wd 3 151 rfl rfl
  | 2, _ => exact fw_wd 3 153 rfl rfl
  | 3, _ => exact fw_wd 3 155 rfl rfl
  | 4, _ => exact fw_wd 3 157 rfl rfl
  | 5, _ => exact fw_wd 3 159 rfl rfl
  | 6, _ => exact fw_wd 3 161 rfl rfl
  | 7, _ => exact fw_wd 3 163 rfl rfl
  | 8, _ => exact fw_wd 3 165 rfl rfl
  | 9, _ => exact fw_wd 3 167 rfl rfl
  | 10, _ => exact fw_wd 3 169 rfl rfl
  | 11, _ => exact fw_wd 3 171 rfl rfl
  | 12, _ => exact fw_wd 3 173 rfl rfl
  | 13, _ => exact fw_wd 3 175 rfl rfl
  | 14, _ => exact fw_wd 3 177 rfl rfl
  | 15, _ => exact fw_wd 3 179 rfl rfl
  | 16, _ => exact fw_wd 3 181 rfl rfl
  | 17, _ => exact fw_wd 3 183 rfl rfl
  | 18, _ => exact fw_wd 3 185 rfl rfl
  | 19, _ => exact fw_wd 3 187 rfl rfl
  | 20, _ => exact fw_wd 3 189 rfl rfl
  | 21, _ => exact fw_wd 3 191 rfl rfl
  | 22, _ => exact fw_wd 3 193 rfl rfl
  | n + 23, hk => exact absurd hk (by show ¬ (n + 23 < 23); omega)
theorem fw_uw (c : Nat) (h : c < 10) : ∀ w ∈ u_ws (fw_CN c) (fw_CT c) (fw_nf c), w ∈ fw_ws := by
  match c, h with
  | 0, _ => exact fw_u0
  | 1, _ => exact fw_u1
  | 2, _ => exact fw_u2
  | 3, _ => exact fw_u3
  | 4, _ => exact fw_u4
  | 5, _ => exact fw_u5
  | 6, _ => exact fw_u6
  | 7, _ => exact fw_u7
  | 8, _ => exact fw_u8
  | 9, _ => exact fw_u9
  | n + 10, h => exact absurd h (by omega)
theorem fw_cl (c : Nat) (h : c < 10) : fw_Cl[c + 2]? = some (fw_CN c, fw_CT c, fw_nf c) := by
  match c, h with
  | 0, _ => rfl
  | 1, _ => rfl
  | 2, _ => rfl
  | 3, _ => rfl
  | 4, _ => rfl
  | 5, _ => rfl
  | 6, _ => rfl
  | 7, _ => rfl
  | 8, _ => rfl
  | 9, _ => rfl
  | n + 10, h => exact absurd h (by omega)
theorem fw_tyok (c : Nat) (h : c < 10) : ∀ k, k < fw_nf c → parseFieldDescriptor (fw_CT c k).2.2.1 = some (fw_ty c k) := by
  match c, h with
  | 0, _ => exact tyX0_ok
  | 1, _ => exact tyX1_ok
  | 2, _ => exact tyX2_ok
  | 3, _ => exact tyX3_ok
  | 4, _ => exact tyX4_ok
  | 5, _ => exact tyX5_ok
  | 6, _ => exact tyX6_ok
  | 7, _ => exact tyX7_ok
  | 8, _ => exact tyX8_ok
  | 9, _ => exact tyX9_ok
  | n + 10, h => exact absurd h (by omega)
theorem fw_nmok (c : Nat) (h : c < 10) : ∀ a, a < fw_nf c → ∀ b, b < fw_nf c → a ≠ b → (fw_CT c a).2.1 ≠ (fw_CT c b).2.1 := by
  match c, h with
  | 0, _ => exact nmX0
  | 1, _ => exact nmX1
  | 2, _ => exact nmX2
  | 3, _ => exact nmX3
  | 4, _ => exact nmX4
  | 5, _ => exact nmX5
  | 6, _ => exact nmX6
  | 7, _ => exact nmX7
  | 8, _ => exact nmX8
  | 9, _ => exact nmX9
  | n + 10, h => exact absurd h (by omega)
theorem fw_ini (c : Nat) (h : c < 11) : Cond.initialized (fw_CN c) ∈ fw_ws := by
  match c, h with
  | 0, _ => exact fw_wd 1 3 rfl rfl
  | 1, _ => exact fw_wd 1 17 rfl rfl
  | 2, _ => exact fw_wd 1 9 rfl rfl
  | 3, _ => exact fw_wd 1 7 rfl rfl
  | 4, _ => exact fw_wd 1 2 rfl rfl
  | 5, _ => exact fw_wd 1 8 rfl rfl
  | 6, _ => exact fw_wd 1 5 rfl rfl
  | 7, _ => exact fw_wd 1 6 rfl rfl
  | 8, _ => exact fw_wd 1 1 rfl rfl
  | 9, _ => exact fw_wd 1 10 rfl rfl
  | 10, _ => exact fw_wd 1 0 rfl rfl
  | n + 11, h => exact absurd h (by omega)
theorem fw_fr_ok : ∀ q ∈ fw_frT, (fw_t q.2.2.2.2.1)[q.2.2.2.2.2]? = some (.fieldLink (fw_CN q.1) q.2.1 (fw_CN q.2.2.1) (fw_CT q.2.2.1 q.2.2.2.1).2.1 (fw_CT q.2.2.1 q.2.2.2.1).2.2.1) ∧ q.2.2.2.1 < fw_nf q.2.2.1 ∧ q.2.2.1 < 10 ∧ (fw_CT q.2.2.1 q.2.2.2.1).1 = fw_CN q.2.2.1 := by decide +kernel
theorem fw_fn_ok : ∀ q ∈ fw_fnT, (fw_t q.2.2.2.2.1)[q.2.2.2.2.2]? = some (.fieldLinkNest (fw_CN q.1) q.2.1 (fw_CN q.2.2.1) (fw_CT q.2.2.1 q.2.2.2.1).2.1 (fw_CT q.2.2.1 q.2.2.2.1).2.2.1 (fw_CN 10)) ∧ q.2.2.2.1 < fw_nf q.2.2.1 ∧ q.2.2.1 < 10 ∧ (fw_CT q.2.2.1 q.2.2.2.1).1 = fw_CN q.2.2.1 := by decide +kernel
theorem fw_ki_ok : ∀ q ∈ fw_kiT, (fw_t q.2.2.2.1)[q.2.2.2.2]? = some (.constant (fw_CN q.1) q.2.1 (Int32.ofInt q.2.2.1)) ∧ (Int32.ofInt q.2.2.1).toInt = q.2.2.1 := by decide +kernel
theorem fw_kl_ok : ∀ q ∈ fw_klT, (fw_t q.2.2.2.1)[q.2.2.2.2]? = some (.constantLong (fw_CN q.1) q.2.1 (Int64.ofInt q.2.2.1)) ∧ (Int64.ofInt q.2.2.1).toInt = q.2.2.1 := by decide +kernel
theorem fw_cr_ok : ∀ q ∈ fw_crT, (fw_t q.2.2.2.1)[q.2.2.2.2]? = some (.classLink (fw_CN q.1) q.2.1 (fw_CN q.2.2.1)) ∧ q.2.2.1 < 10 := by decide +kernel
theorem fw_xr_ok : ∀ q ∈ fw_xrT, (fw_t q.2.2.2.1)[q.2.2.2.2]? = some (.classLink (fw_CN 8) q.1 (fw_xn q.2.2.1)) ∧ q.2.2.1 < 6 := by decide +kernel
theorem fw_mr_ok : ∀ q ∈ fw_mrT, q.2.2.1 < 137 → q.2.2.2.1 = 0 → (fw_t q.2.2.2.2.1)[q.2.2.2.2.2]? = some (.methodLink (fw_CN q.1) q.2.1 (fw_y q.2.2.1)) := by decide +kernel
theorem fw_mr_lt : ∀ q ∈ fw_mrT, (q.2.2.1 < 137 ∨ 1000 ≤ q.2.2.1) ∧ q.2.2.2.1 < 2 := by decide +kernel
theorem fw_ins (c : Nat) (h : c < 10) : Cond.instantiable (fw_CN c) (fw_nf c) ∈ fw_ws := by
  match c, h with
  | 0, _ => exact fw_wd 1 76 rfl rfl
  | 1, _ => exact fw_wd 2 144 rfl rfl
  | 2, _ => exact fw_wd 1 213 rfl rfl
  | 3, _ => exact fw_wd 1 159 rfl rfl
  | 4, _ => exact fw_wd 1 30 rfl rfl
  | 5, _ => exact fw_wd 1 195 rfl rfl
  | 6, _ => exact fw_wd 1 106 rfl rfl
  | 7, _ => exact fw_wd 1 140 rfl rfl
  | 8, _ => exact fw_wd 1 22 rfl rfl
  | 9, _ => exact fw_wd 3 100 rfl rfl
  | n + 10, h => exact absurd h (by omega)
set_option maxRecDepth 20000 in
theorem fw_c1 : (fw_t 1)[79]? = some (.code (fw_y 1) (fw_B 1) (fw_mL 1) (fw_rt 1)) := rfl
set_option maxRecDepth 20000 in
theorem fw_c2 : (fw_t 1)[84]? = some (.code (fw_y 2) (fw_B 2) (fw_mL 2) (fw_rt 2)) := rfl
set_option maxRecDepth 20000 in
theorem fw_c3 : (fw_t 3)[41]? = some (.code (fw_y 3) (fw_B 3) (fw_mL 3) (fw_rt 3)) := rfl
set_option maxRecDepth 20000 in
theorem fw_c4 : (fw_t 2)[239]? = some (.code (fw_y 4) (fw_B 4) (fw_mL 4) (fw_rt 4)) := rfl
set_option maxRecDepth 20000 in
theorem fw_c5 : (fw_t 2)[235]? = some (.code (fw_y 5) (fw_B 5) (fw_mL 5) (fw_rt 5)) := rfl
set_option maxRecDepth 20000 in
theorem fw_c6 : (fw_t 3)[49]? = some (.code (fw_y 6) (fw_B 6) (fw_mL 6) (fw_rt 6)) := rfl
set_option maxRecDepth 20000 in
theorem fw_c7 : (fw_t 2)[231]? = some (.code (fw_y 7) (fw_B 7) (fw_mL 7) (fw_rt 7)) := rfl
set_option maxRecDepth 20000 in
theorem fw_c8 : (fw_t 3)[81]? = some (.code (fw_y 8) (fw_B 8) (fw_mL 8) (fw_rt 8)) := rfl
set_option maxRecDepth 20000 in
theorem fw_c9 : (fw_t 4)[2]? = some (.code (fw_y 9) (fw_B 9) (fw_mL 9) (fw_rt 9)) := rfl
set_option maxRecDepth 20000 in
theorem fw_c10 : (fw_t 3)[58]? = some (.code (fw_y 10) (fw_B 10) (fw_mL 10) (fw_rt 10)) := rfl
set_option maxRecDepth 20000 in
theorem fw_c11 : (fw_t 3)[76]? = some (.code (fw_y 11) (fw_B 11) (fw_mL 11) (fw_rt 11)) := rfl
set_option maxRecDepth 20000 in
theorem fw_c12 : (fw_t 2)[147]? = some (.code (fw_y 12) (fw_B 12) (fw_mL 12) (fw_rt 12)) := rfl
set_option maxRecDepth 20000 in
theorem fw_c13 : (fw_t 4)[194]? = some (.code (fw_y 13) (fw_B 13) (fw_mL 13) (fw_rt 13)) := rfl
set_option maxRecDepth 20000 in
theorem fw_c14 : (fw_t 5)[37]? = some (.code (fw_y 14) (fw_B 14) (fw_mL 14) (fw_rt 14)) := rfl
set_option maxRecDepth 20000 in
theorem fw_c15 : (fw_t 3)[19]? = some (.code (fw_y 15) (fw_B 15) (fw_mL 15) (fw_rt 15)) := rfl
set_option maxRecDepth 20000 in
theorem fw_c16 : (fw_t 3)[23]? = some (.code (fw_y 16) (fw_B 16) (fw_mL 16) (fw_rt 16)) := rfl
set_option maxRecDepth 20000 in
theorem fw_c17 : (fw_t 1)[216]? = some (.code (fw_y 17) (fw_B 17) (fw_mL 17) (fw_rt 17)) := rfl
set_option maxRecDepth 20000 in
theorem fw_c18 : (fw_t 5)[49]? = some (.code (fw_y 18) (fw_B 18) (fw_mL 18) (fw_rt 18)) := rfl
set_option maxRecDepth 20000 in
theorem fw_c19 : (fw_t 5)[27]? = some (.code (fw_y 19) (fw_B 19) (fw_mL 19) (fw_rt 19)) := rfl
set_option maxRecDepth 20000 in
theorem fw_c20 : (fw_t 5)[57]? = some (.code (fw_y 20) (fw_B 20) (fw_mL 20) (fw_rt 20)) := rfl
set_option maxRecDepth 20000 in
theorem fw_c21 : (fw_t 5)[62]? = some (.code (fw_y 21) (fw_B 21) (fw_mL 21) (fw_rt 21)) := rfl
set_option maxRecDepth 20000 in
theorem fw_c22 : (fw_t 5)[72]? = some (.code (fw_y 22) (fw_B 22) (fw_mL 22) (fw_rt 22)) := rfl
set_option maxRecDepth 20000 in
theorem fw_c23 : (fw_t 5)[53]? = some (.code (fw_y 23) (fw_B 23) (fw_mL 23) (fw_rt 23)) := rfl
set_option maxRecDepth 20000 in
theorem fw_c24 : (fw_t 1)[162]? = some (.code (fw_y 24) (fw_B 24) (fw_mL 24) (fw_rt 24)) := rfl
set_option maxRecDepth 20000 in
theorem fw_c25 : (fw_t 3)[32]? = some (.code (fw_y 25) (fw_B 25) (fw_mL 25) (fw_rt 25)) := rfl
set_option maxRecDepth 20000 in
theorem fw_c26 : (fw_t 3)[89]? = some (.code (fw_y 26) (fw_B 26) (fw_mL 26) (fw_rt 26)) := rfl
set_option maxRecDepth 20000 in
theorem fw_c27 : (fw_t 3)[36]? = some (.code (fw_y 27) (fw_B 27) (fw_mL 27) (fw_rt 27)) := rfl
set_option maxRecDepth 20000 in
theorem fw_c28 : (fw_t 3)[45]? = some (.code (fw_y 28) (fw_B 28) (fw_mL 28) (fw_rt 28)) := rfl
set_option maxRecDepth 20000 in
theorem fw_c29 : (fw_t 3)[93]? = some (.code (fw_y 29) (fw_B 29) (fw_mL 29) (fw_rt 29)) := rfl
set_option maxRecDepth 20000 in
theorem fw_c30 : (fw_t 3)[97]? = some (.code (fw_y 30) (fw_B 30) (fw_mL 30) (fw_rt 30)) := rfl
set_option maxRecDepth 20000 in
theorem fw_c31 : (fw_t 3)[62]? = some (.code (fw_y 31) (fw_B 31) (fw_mL 31) (fw_rt 31)) := rfl
set_option maxRecDepth 20000 in
theorem fw_c32 : (fw_t 1)[33]? = some (.code (fw_y 32) (fw_B 32) (fw_mL 32) (fw_rt 32)) := rfl
set_option maxRecDepth 20000 in
theorem fw_c33 : (fw_t 3)[11]? = some (.code (fw_y 33) (fw_B 33) (fw_mL 33) (fw_rt 33)) := rfl
set_option maxRecDepth 20000 in
theorem fw_c34 : (fw_t 4)[139]? = some (.code (fw_y 34) (fw_B 34) (fw_mL 34) (fw_rt 34)) := rfl
set_option maxRecDepth 20000 in
theorem fw_c35 : (fw_t 4)[178]? = some (.code (fw_y 35) (fw_B 35) (fw_mL 35) (fw_rt 35)) := rfl
set_option maxRecDepth 20000 in
theorem fw_c36 : (fw_t 4)[189]? = some (.code (fw_y 36) (fw_B 36) (fw_mL 36) (fw_rt 36)) := rfl
set_option maxRecDepth 20000 in
theorem fw_c37 : (fw_t 5)[33]? = some (.code (fw_y 37) (fw_B 37) (fw_mL 37) (fw_rt 37)) := rfl
set_option maxRecDepth 20000 in
theorem fw_c38 : (fw_t 3)[66]? = some (.code (fw_y 38) (fw_B 38) (fw_mL 38) (fw_rt 38)) := rfl
set_option maxRecDepth 20000 in
theorem fw_c39 : (fw_t 3)[234]? = some (.code (fw_y 39) (fw_B 39) (fw_mL 39) (fw_rt 39)) := rfl
set_option maxRecDepth 20000 in
theorem fw_c40 : (fw_t 4)[8]? = some (.code (fw_y 40) (fw_B 40) (fw_mL 40) (fw_rt 40)) := rfl
set_option maxRecDepth 20000 in
theorem fw_c41 : (fw_t 4)[16]? = some (.code (fw_y 41) (fw_B 41) (fw_mL 41) (fw_rt 41)) := rfl
set_option maxRecDepth 20000 in
theorem fw_c42 : (fw_t 4)[89]? = some (.code (fw_y 42) (fw_B 42) (fw_mL 42) (fw_rt 42)) := rfl
set_option maxRecDepth 20000 in
theorem fw_c43 : (fw_t 1)[198]? = some (.code (fw_y 43) (fw_B 43) (fw_mL 43) (fw_rt 43)) := rfl
set_option maxRecDepth 20000 in
theorem fw_c44 : (fw_t 3)[7]? = some (.code (fw_y 44) (fw_B 44) (fw_mL 44) (fw_rt 44)) := rfl
set_option maxRecDepth 20000 in
theorem fw_c45 : (fw_t 4)[198]? = some (.code (fw_y 45) (fw_B 45) (fw_mL 45) (fw_rt 45)) := rfl
set_option maxRecDepth 20000 in
theorem fw_c46 : (fw_t 3)[27]? = some (.code (fw_y 46) (fw_B 46) (fw_mL 46) (fw_rt 46)) := rfl
set_option maxRecDepth 20000 in
theorem fw_c47 : (fw_t 1)[109]? = some (.code (fw_y 47) (fw_B 47) (fw_mL 47) (fw_rt 47)) := rfl
set_option maxRecDepth 20000 in
theorem fw_c48 : (fw_t 2)[143]? = some (.code (fw_y 48) (fw_B 48) (fw_mL 48) (fw_rt 48)) := rfl
set_option maxRecDepth 20000 in
theorem fw_c49 : (fw_t 2)[124]? = some (.code (fw_y 49) (fw_B 49) (fw_mL 49) (fw_rt 49)) := rfl
set_option maxRecDepth 20000 in
theorem fw_c50 : (fw_t 2)[120]? = some (.code (fw_y 50) (fw_B 50) (fw_mL 50) (fw_rt 50)) := rfl
set_option maxRecDepth 20000 in
theorem fw_c51 : (fw_t 2)[116]? = some (.code (fw_y 51) (fw_B 51) (fw_mL 51) (fw_rt 51)) := rfl
set_option maxRecDepth 20000 in
theorem fw_c52 : (fw_t 4)[219]? = some (.code (fw_y 52) (fw_B 52) (fw_mL 52) (fw_rt 52)) := rfl
set_option maxRecDepth 20000 in
theorem fw_c53 : (fw_t 4)[232]? = some (.code (fw_y 53) (fw_B 53) (fw_mL 53) (fw_rt 53)) := rfl
set_option maxRecDepth 20000 in
theorem fw_c54 : (fw_t 4)[236]? = some (.code (fw_y 54) (fw_B 54) (fw_mL 54) (fw_rt 54)) := rfl
set_option maxRecDepth 20000 in
theorem fw_c55 : (fw_t 5)[0]? = some (.code (fw_y 55) (fw_B 55) (fw_mL 55) (fw_rt 55)) := rfl
set_option maxRecDepth 20000 in
theorem fw_c56 : (fw_t 2)[239]? = some (.code (fw_y 56) (fw_B 56) (fw_mL 56) (fw_rt 56)) := rfl
set_option maxRecDepth 20000 in
theorem fw_c57 : (fw_t 2)[210]? = some (.code (fw_y 57) (fw_B 57) (fw_mL 57) (fw_rt 57)) := rfl
set_option maxRecDepth 20000 in
theorem fw_c58 : (fw_t 2)[215]? = some (.code (fw_y 58) (fw_B 58) (fw_mL 58) (fw_rt 58)) := rfl
set_option maxRecDepth 20000 in
theorem fw_c59 : (fw_t 3)[54]? = some (.code (fw_y 59) (fw_B 59) (fw_mL 59) (fw_rt 59)) := rfl
set_option maxRecDepth 20000 in
theorem fw_c60 : (fw_t 3)[71]? = some (.code (fw_y 60) (fw_B 60) (fw_mL 60) (fw_rt 60)) := rfl
set_option maxRecDepth 20000 in
theorem fw_c61 : (fw_t 3)[85]? = some (.code (fw_y 61) (fw_B 61) (fw_mL 61) (fw_rt 61)) := rfl
set_option maxRecDepth 20000 in
theorem fw_c62 : (fw_t 3)[15]? = some (.code (fw_y 62) (fw_B 62) (fw_mL 62) (fw_rt 62)) := rfl
set_option maxRecDepth 20000 in
theorem fw_c63 : (fw_t 1)[143]? = some (.code (fw_y 63) (fw_B 63) (fw_mL 63) (fw_rt 63)) := rfl
set_option maxRecDepth 20000 in
theorem fw_c64 : (fw_t 2)[239]? = some (.code (fw_y 64) (fw_B 64) (fw_mL 64) (fw_rt 64)) := rfl
set_option maxRecDepth 20000 in
theorem fw_c65 : (fw_t 2)[239]? = some (.code (fw_y 65) (fw_B 65) (fw_mL 65) (fw_rt 65)) := rfl
set_option maxRecDepth 20000 in
theorem fw_c66 : (fw_t 2)[239]? = some (.code (fw_y 66) (fw_B 66) (fw_mL 66) (fw_rt 66)) := rfl
set_option maxRecDepth 20000 in
theorem fw_c67 : (fw_t 2)[239]? = some (.code (fw_y 67) (fw_B 67) (fw_mL 67) (fw_rt 67)) := rfl
set_option maxRecDepth 20000 in
theorem fw_c68 : (fw_t 1)[25]? = some (.code (fw_y 68) (fw_B 68) (fw_mL 68) (fw_rt 68)) := rfl
set_option maxRecDepth 20000 in
theorem fw_c69 : (fw_t 2)[23]? = some (.code (fw_y 69) (fw_B 69) (fw_mL 69) (fw_rt 69)) := rfl
set_option maxRecDepth 20000 in
theorem fw_c70 : (fw_t 2)[109]? = some (.code (fw_y 70) (fw_B 70) (fw_mL 70) (fw_rt 70)) := rfl
set_option maxRecDepth 20000 in
theorem fw_c71 : (fw_t 5)[16]? = some (.code (fw_y 71) (fw_B 71) (fw_mL 71) (fw_rt 71)) := rfl
set_option maxRecDepth 20000 in
theorem fw_c72 : (fw_t 5)[12]? = some (.code (fw_y 72) (fw_B 72) (fw_mL 72) (fw_rt 72)) := rfl
set_option maxRecDepth 20000 in
theorem fw_c73 : (fw_t 4)[224]? = some (.code (fw_y 73) (fw_B 73) (fw_mL 73) (fw_rt 73)) := rfl
set_option maxRecDepth 20000 in
theorem fw_c74 : (fw_t 5)[4]? = some (.code (fw_y 74) (fw_B 74) (fw_mL 74) (fw_rt 74)) := rfl
set_option maxRecDepth 20000 in
theorem fw_c75 : (fw_t 4)[215]? = some (.code (fw_y 75) (fw_B 75) (fw_mL 75) (fw_rt 75)) := rfl
set_option maxRecDepth 20000 in
theorem fw_c76 : (fw_t 4)[135]? = some (.code (fw_y 76) (fw_B 76) (fw_mL 76) (fw_rt 76)) := rfl
set_option maxRecDepth 20000 in
theorem fw_c77 : (fw_t 4)[168]? = some (.code (fw_y 77) (fw_B 77) (fw_mL 77) (fw_rt 77)) := rfl
set_option maxRecDepth 20000 in
theorem fw_c78 : (fw_t 4)[32]? = some (.code (fw_y 78) (fw_B 78) (fw_mL 78) (fw_rt 78)) := rfl
set_option maxRecDepth 20000 in
theorem fw_c79 : (fw_t 3)[211]? = some (.code (fw_y 79) (fw_B 79) (fw_mL 79) (fw_rt 79)) := rfl
set_option maxRecDepth 20000 in
theorem fw_c80 : (fw_t 4)[61]? = some (.code (fw_y 80) (fw_B 80) (fw_mL 80) (fw_rt 80)) := rfl
set_option maxRecDepth 20000 in
theorem fw_c81 : (fw_t 3)[238]? = some (.code (fw_y 81) (fw_B 81) (fw_mL 81) (fw_rt 81)) := rfl
set_option maxRecDepth 20000 in
theorem fw_c82 : (fw_t 4)[52]? = some (.code (fw_y 82) (fw_B 82) (fw_mL 82) (fw_rt 82)) := rfl
set_option maxRecDepth 20000 in
theorem fw_c83 : (fw_t 4)[20]? = some (.code (fw_y 83) (fw_B 83) (fw_mL 83) (fw_rt 83)) := rfl
set_option maxRecDepth 20000 in
theorem fw_c84 : (fw_t 4)[24]? = some (.code (fw_y 84) (fw_B 84) (fw_mL 84) (fw_rt 84)) := rfl
set_option maxRecDepth 20000 in
theorem fw_c85 : (fw_t 4)[28]? = some (.code (fw_y 85) (fw_B 85) (fw_mL 85) (fw_rt 85)) := rfl
set_option maxRecDepth 20000 in
theorem fw_c86 : (fw_t 4)[143]? = some (.code (fw_y 86) (fw_B 86) (fw_mL 86) (fw_rt 86)) := rfl
set_option maxRecDepth 20000 in
theorem fw_c87 : (fw_t 4)[150]? = some (.code (fw_y 87) (fw_B 87) (fw_mL 87) (fw_rt 87)) := rfl
set_option maxRecDepth 20000 in
theorem fw_c88 : (fw_t 2)[239]? = some (.code (fw_y 88) (fw_B 88) (fw_mL 88) (fw_rt 88)) := rfl
set_option maxRecDepth 20000 in
theorem fw_c89 : (fw_t 2)[180]? = some (.code (fw_y 89) (fw_B 89) (fw_mL 89) (fw_rt 89)) := rfl
set_option maxRecDepth 20000 in
theorem fw_c90 : (fw_t 4)[208]? = some (.code (fw_y 90) (fw_B 90) (fw_mL 90) (fw_rt 90)) := rfl
set_option maxRecDepth 20000 in
theorem fw_c91 : (fw_t 4)[100]? = some (.code (fw_y 91) (fw_B 91) (fw_mL 91) (fw_rt 91)) := rfl
set_option maxRecDepth 20000 in
theorem fw_c92 : (fw_t 4)[85]? = some (.code (fw_y 92) (fw_B 92) (fw_mL 92) (fw_rt 92)) := rfl
set_option maxRecDepth 20000 in
theorem fw_c93 : (fw_t 4)[65]? = some (.code (fw_y 93) (fw_B 93) (fw_mL 93) (fw_rt 93)) := rfl
set_option maxRecDepth 20000 in
theorem fw_c94 : (fw_t 4)[69]? = some (.code (fw_y 94) (fw_B 94) (fw_mL 94) (fw_rt 94)) := rfl
set_option maxRecDepth 20000 in
theorem fw_c95 : (fw_t 4)[80]? = some (.code (fw_y 95) (fw_B 95) (fw_mL 95) (fw_rt 95)) := rfl
set_option maxRecDepth 20000 in
theorem fw_c96 : (fw_t 5)[23]? = some (.code (fw_y 96) (fw_B 96) (fw_mL 96) (fw_rt 96)) := rfl
set_option maxRecDepth 20000 in
theorem fw_c97 : (fw_t 4)[36]? = some (.code (fw_y 97) (fw_B 97) (fw_mL 97) (fw_rt 97)) := rfl
set_option maxRecDepth 20000 in
theorem fw_c98 : (fw_t 5)[41]? = some (.code (fw_y 98) (fw_B 98) (fw_mL 98) (fw_rt 98)) := rfl
set_option maxRecDepth 20000 in
theorem fw_c99 : (fw_t 5)[67]? = some (.code (fw_y 99) (fw_B 99) (fw_mL 99) (fw_rt 99)) := rfl
set_option maxRecDepth 20000 in
theorem fw_c100 : (fw_t 4)[12]? = some (.code (fw_y 100) (fw_B 100) (fw_mL 100) (fw_rt 100)) := rfl
set_option maxRecDepth 20000 in
theorem fw_c101 : (fw_t 4)[40]? = some (.code (fw_y 101) (fw_B 101) (fw_mL 101) (fw_rt 101)) := rfl
set_option maxRecDepth 20000 in
theorem fw_c102 : (fw_t 4)[104]? = some (.code (fw_y 102) (fw_B 102) (fw_mL 102) (fw_rt 102)) := rfl
set_option maxRecDepth 20000 in
theorem fw_c103 : (fw_t 4)[127]? = some (.code (fw_y 103) (fw_B 103) (fw_mL 103) (fw_rt 103)) := rfl
set_option maxRecDepth 20000 in
theorem fw_c104 : (fw_t 2)[219]? = some (.code (fw_y 104) (fw_B 104) (fw_mL 104) (fw_rt 104)) := rfl
set_option maxRecDepth 20000 in
theorem fw_c105 : (fw_t 2)[112]? = some (.code (fw_y 105) (fw_B 105) (fw_mL 105) (fw_rt 105)) := rfl
set_option maxRecDepth 20000 in
theorem fw_c106 : (fw_t 2)[186]? = some (.code (fw_y 106) (fw_B 106) (fw_mL 106) (fw_rt 106)) := rfl
set_option maxRecDepth 20000 in
theorem fw_c107 : (fw_t 2)[183]? = some (.code (fw_y 107) (fw_B 107) (fw_mL 107) (fw_rt 107)) := rfl
set_option maxRecDepth 20000 in
theorem fw_c108 : (fw_t 4)[146]? = some (.code (fw_y 108) (fw_B 108) (fw_mL 108) (fw_rt 108)) := rfl
set_option maxRecDepth 20000 in
theorem fw_c109 : (fw_t 4)[56]? = some (.code (fw_y 109) (fw_B 109) (fw_mL 109) (fw_rt 109)) := rfl
set_option maxRecDepth 20000 in
theorem fw_c110 : (fw_t 4)[228]? = some (.code (fw_y 110) (fw_B 110) (fw_mL 110) (fw_rt 110)) := rfl
set_option maxRecDepth 20000 in
theorem fw_c111 : (fw_t 3)[215]? = some (.code (fw_y 111) (fw_B 111) (fw_mL 111) (fw_rt 111)) := rfl
set_option maxRecDepth 20000 in
theorem fw_c112 : (fw_t 2)[190]? = some (.code (fw_y 112) (fw_B 112) (fw_mL 112) (fw_rt 112)) := rfl
set_option maxRecDepth 20000 in
theorem fw_c113 : (fw_t 5)[45]? = some (.code (fw_y 113) (fw_B 113) (fw_mL 113) (fw_rt 113)) := rfl
set_option maxRecDepth 20000 in
theorem fw_c114 : (fw_t 4)[108]? = some (.code (fw_y 114) (fw_B 114) (fw_mL 114) (fw_rt 114)) := rfl
set_option maxRecDepth 20000 in
theorem fw_c115 : (fw_t 4)[172]? = some (.code (fw_y 115) (fw_B 115) (fw_mL 115) (fw_rt 115)) := rfl
set_option maxRecDepth 20000 in
theorem fw_c116 : (fw_t 4)[183]? = some (.code (fw_y 116) (fw_B 116) (fw_mL 116) (fw_rt 116)) := rfl
set_option maxRecDepth 20000 in
theorem fw_c117 : (fw_t 4)[202]? = some (.code (fw_y 117) (fw_B 117) (fw_mL 117) (fw_rt 117)) := rfl
set_option maxRecDepth 20000 in
theorem fw_c118 : (fw_t 2)[223]? = some (.code (fw_y 118) (fw_B 118) (fw_mL 118) (fw_rt 118)) := rfl
set_option maxRecDepth 20000 in
theorem fw_c119 : (fw_t 3)[3]? = some (.code (fw_y 119) (fw_B 119) (fw_mL 119) (fw_rt 119)) := rfl
set_option maxRecDepth 20000 in
theorem fw_c120 : (fw_t 2)[227]? = some (.code (fw_y 120) (fw_B 120) (fw_mL 120) (fw_rt 120)) := rfl
set_option maxRecDepth 20000 in
theorem fw_c121 : (fw_t 3)[103]? = some (.code (fw_y 121) (fw_B 121) (fw_mL 121) (fw_rt 121)) := rfl
set_option maxRecDepth 20000 in
theorem fw_c122 : (fw_t 4)[44]? = some (.code (fw_y 122) (fw_B 122) (fw_mL 122) (fw_rt 122)) := rfl
set_option maxRecDepth 20000 in
theorem fw_c123 : (fw_t 4)[164]? = some (.code (fw_y 123) (fw_B 123) (fw_mL 123) (fw_rt 123)) := rfl
set_option maxRecDepth 20000 in
theorem fw_c124 : (fw_t 4)[160]? = some (.code (fw_y 124) (fw_B 124) (fw_mL 124) (fw_rt 124)) := rfl
set_option maxRecDepth 20000 in
theorem fw_c125 : (fw_t 4)[154]? = some (.code (fw_y 125) (fw_B 125) (fw_mL 125) (fw_rt 125)) := rfl
set_option maxRecDepth 20000 in
theorem fw_c126 : (fw_t 4)[74]? = some (.code (fw_y 126) (fw_B 126) (fw_mL 126) (fw_rt 126)) := rfl
set_option maxRecDepth 20000 in
theorem fw_c127 : (fw_t 4)[93]? = some (.code (fw_y 127) (fw_B 127) (fw_mL 127) (fw_rt 127)) := rfl
set_option maxRecDepth 20000 in
theorem fw_c128 : (fw_t 5)[8]? = some (.code (fw_y 128) (fw_B 128) (fw_mL 128) (fw_rt 128)) := rfl
set_option maxRecDepth 20000 in
theorem fw_c129 : (fw_t 3)[199]? = some (.code (fw_y 129) (fw_B 129) (fw_mL 129) (fw_rt 129)) := rfl
set_option maxRecDepth 20000 in
theorem fw_c130 : (fw_t 3)[203]? = some (.code (fw_y 130) (fw_B 130) (fw_mL 130) (fw_rt 130)) := rfl
set_option maxRecDepth 20000 in
theorem fw_c131 : (fw_t 4)[96]? = some (.codeWith (fw_y 131) (fw_B 131) (fw_mL 131) (fw_rt 131) ((fw_hs 131).map (fun h => (h.1, h.2.1, h.2.2.1, h.2.2.2.1)))) := rfl
set_option maxRecDepth 20000 in
theorem fw_c132 : (fw_t 4)[47]? = some (.codeWith (fw_y 132) (fw_B 132) (fw_mL 132) (fw_rt 132) ((fw_hs 132).map (fun h => (h.1, h.2.1, h.2.2.1, h.2.2.2.1)))) := rfl
set_option maxRecDepth 20000 in
theorem fw_c133 : (fw_t 3)[207]? = some (.code (fw_y 133) (fw_B 133) (fw_mL 133) (fw_rt 133)) := rfl
set_option maxRecDepth 20000 in
theorem fw_c134 : (fw_t 4)[211]? = some (.code (fw_y 134) (fw_B 134) (fw_mL 134) (fw_rt 134)) := rfl
set_option maxRecDepth 20000 in
theorem fw_c135 : (fw_t 5)[19]? = some (.code (fw_y 135) (fw_B 135) (fw_mL 135) (fw_rt 135)) := rfl
set_option maxRecDepth 20000 in
theorem fw_c136 : (fw_t 4)[130]? = some (.code (fw_y 136) (fw_B 136) (fw_mL 136) (fw_rt 136)) := rfl
def fw_cw (k : Nat) : Cond := if fw_ki k = 3 then .codeWith (fw_y k) (fw_B k) (fw_mL k) (fw_rt k) ((fw_hs k).map (fun h => (h.1, h.2.1, h.2.2.1, h.2.2.2.1))) else .code (fw_y k) (fw_B k) (fw_mL k) (fw_rt k)
theorem fw_cwa0 (k : Nat) (h : k < 50) (h0 : 0 < k + 0) : fw_cw (k + 0) ∈ fw_ws := by
  match k, h, h0 with
  | 0, _, h0 => exact absurd h0 (by decide)
  | 1, _, _ => exact fw_wd 1 79 fw_c1 rfl
  | 2, _, _ => exact fw_wd 1 84 fw_c2 rfl
  | 3, _, _ => exact fw_wd 3 41 fw_c3 rfl
  | 4, _, _ => exact fw_wd 2 239 fw_c4 rfl
  | 5, _, _ => exact fw_wd 2 235 fw_c5 rfl
  | 6, _, _ => exact fw_wd 3 49 fw_c6 rfl
  | 7, _, _ => exact fw_wd 2 231 fw_c7 rfl
  | 8, _, _ => exact fw_wd 3 81 fw_c8 rfl
  | 9, _, _ => exact fw_wd 4 2 fw_c9 rfl
  | 10, _, _ => exact fw_wd 3 58 fw_c10 rfl
  | 11, _, _ => exact fw_wd 3 76 fw_c11 rfl
  | 12, _, _ => exact fw_wd 2 147 fw_c12 rfl
  | 13, _, _ => exact fw_wd 4 194 fw_c13 rfl
  | 14, _, _ => exact fw_wd 5 37 fw_c14 rfl
  | 15, _, _ => exact fw_wd 3 19 fw_c15 rfl
  | 16, _, _ => exact fw_wd 3 23 fw_c16 rfl
  | 17, _, _ => exact fw_wd 1 216 fw_c17 rfl
  | 18, _, _ => exact fw_wd 5 49 fw_c18 rfl
  | 19, _, _ => exact fw_wd 5 27 fw_c19 rfl
  | 20, _, _ => exact fw_wd 5 57 fw_c20 rfl
  | 21, _, _ => exact fw_wd 5 62 fw_c21 rfl
  | 22, _, _ => exact fw_wd 5 72 fw_c22 rfl
  | 23, _, _ => exact fw_wd 5 53 fw_c23 rfl
  | 24, _, _ => exact fw_wd 1 162 fw_c24 rfl
  | 25, _, _ => exact fw_wd 3 32 fw_c25 rfl
  | 26, _, _ => exact fw_wd 3 89 fw_c26 rfl
  | 27, _, _ => exact fw_wd 3 36 fw_c27 rfl
  | 28, _, _ => exact fw_wd 3 45 fw_c28 rfl
  | 29, _, _ => exact fw_wd 3 93 fw_c29 rfl
  | 30, _, _ => exact fw_wd 3 97 fw_c30 rfl
  | 31, _, _ => exact fw_wd 3 62 fw_c31 rfl
  | 32, _, _ => exact fw_wd 1 33 fw_c32 rfl
  | 33, _, _ => exact fw_wd 3 11 fw_c33 rfl
  | 34, _, _ => exact fw_wd 4 139 fw_c34 rfl
  | 35, _, _ => exact fw_wd 4 178 fw_c35 rfl
  | 36, _, _ => exact fw_wd 4 189 fw_c36 rfl
  | 37, _, _ => exact fw_wd 5 33 fw_c37 rfl
  | 38, _, _ => exact fw_wd 3 66 fw_c38 rfl
  | 39, _, _ => exact fw_wd 3 234 fw_c39 rfl
  | 40, _, _ => exact fw_wd 4 8 fw_c40 rfl
  | 41, _, _ => exact fw_wd 4 16 fw_c41 rfl
  | 42, _, _ => exact fw_wd 4 89 fw_c42 rfl
  | 43, _, _ => exact fw_wd 1 198 fw_c43 rfl
  | 44, _, _ => exact fw_wd 3 7 fw_c44 rfl
  | 45, _, _ => exact fw_wd 4 198 fw_c45 rfl
  | 46, _, _ => exact fw_wd 3 27 fw_c46 rfl
  | 47, _, _ => exact fw_wd 1 109 fw_c47 rfl
  | 48, _, _ => exact fw_wd 2 143 fw_c48 rfl
  | 49, _, _ => exact fw_wd 2 124 fw_c49 rfl
  | n + 50, h, _ => exact absurd h (by omega)
theorem fw_cwa50 (k : Nat) (h : k < 50) (h0 : 0 < k + 50) : fw_cw (k + 50) ∈ fw_ws := by
  match k, h, h0 with
  | 0, _, _ => exact fw_wd 2 120 fw_c50 rfl
  | 1, _, _ => exact fw_wd 2 116 fw_c51 rfl
  | 2, _, _ => exact fw_wd 4 219 fw_c52 rfl
  | 3, _, _ => exact fw_wd 4 232 fw_c53 rfl
  | 4, _, _ => exact fw_wd 4 236 fw_c54 rfl
  | 5, _, _ => exact fw_wd 5 0 fw_c55 rfl
  | 6, _, _ => exact fw_wd 2 239 fw_c56 rfl
  | 7, _, _ => exact fw_wd 2 210 fw_c57 rfl
  | 8, _, _ => exact fw_wd 2 215 fw_c58 rfl
  | 9, _, _ => exact fw_wd 3 54 fw_c59 rfl
  | 10, _, _ => exact fw_wd 3 71 fw_c60 rfl
  | 11, _, _ => exact fw_wd 3 85 fw_c61 rfl
  | 12, _, _ => exact fw_wd 3 15 fw_c62 rfl
  | 13, _, _ => exact fw_wd 1 143 fw_c63 rfl
  | 14, _, _ => exact fw_wd 2 239 fw_c64 rfl
  | 15, _, _ => exact fw_wd 2 239 fw_c65 rfl
  | 16, _, _ => exact fw_wd 2 239 fw_c66 rfl
  | 17, _, _ => exact fw_wd 2 239 fw_c67 rfl
  | 18, _, _ => exact fw_wd 1 25 fw_c68 rfl
  | 19, _, _ => exact fw_wd 2 23 fw_c69 rfl
  | 20, _, _ => exact fw_wd 2 109 fw_c70 rfl
  | 21, _, _ => exact fw_wd 5 16 fw_c71 rfl
  | 22, _, _ => exact fw_wd 5 12 fw_c72 rfl
  | 23, _, _ => exact fw_wd 4 224 fw_c73 rfl
  | 24, _, _ => exact fw_wd 5 4 fw_c74 rfl
  | 25, _, _ => exact fw_wd 4 215 fw_c75 rfl
  | 26, _, _ => exact fw_wd 4 135 fw_c76 rfl
  | 27, _, _ => exact fw_wd 4 168 fw_c77 rfl
  | 28, _, _ => exact fw_wd 4 32 fw_c78 rfl
  | 29, _, _ => exact fw_wd 3 211 fw_c79 rfl
  | 30, _, _ => exact fw_wd 4 61 fw_c80 rfl
  | 31, _, _ => exact fw_wd 3 238 fw_c81 rfl
  | 32, _, _ => exact fw_wd 4 52 fw_c82 rfl
  | 33, _, _ => exact fw_wd 4 20 fw_c83 rfl
  | 34, _, _ => exact fw_wd 4 24 fw_c84 rfl
  | 35, _, _ => exact fw_wd 4 28 fw_c85 rfl
  | 36, _, _ => exact fw_wd 4 143 fw_c86 rfl
  | 37, _, _ => exact fw_wd 4 150 fw_c87 rfl
  | 38, _, _ => exact fw_wd 2 239 fw_c88 rfl
  | 39, _, _ => exact fw_wd 2 180 fw_c89 rfl
  | 40, _, _ => exact fw_wd 4 208 fw_c90 rfl
  | 41, _, _ => exact fw_wd 4 100 fw_c91 rfl
  | 42, _, _ => exact fw_wd 4 85 fw_c92 rfl
  | 43, _, _ => exact fw_wd 4 65 fw_c93 rfl
  | 44, _, _ => exact fw_wd 4 69 fw_c94 rfl
  | 45, _, _ => exact fw_wd 4 80 fw_c95 rfl
  | 46, _, _ => exact fw_wd 5 23 fw_c96 rfl
  | 47, _, _ => exact fw_wd 4 36 fw_c97 rfl
  | 48, _, _ => exact fw_wd 5 41 fw_c98 rfl
  | 49, _, _ => exact fw_wd 5 67 fw_c99 rfl
  | n + 50, h, _ => exact absurd h (by omega)
theorem fw_cwa100 (k : Nat) (h : k < 37) (h0 : 0 < k + 100) : fw_cw (k + 100) ∈ fw_ws := by
  match k, h, h0 with
  | 0, _, _ => exact fw_wd 4 12 fw_c100 rfl
  | 1, _, _ => exact fw_wd 4 40 fw_c101 rfl
  | 2, _, _ => exact fw_wd 4 104 fw_c102 rfl
  | 3, _, _ => exact fw_wd 4 127 fw_c103 rfl
  | 4, _, _ => exact fw_wd 2 219 fw_c104 rfl
  | 5, _, _ => exact fw_wd 2 112 fw_c105 rfl
  | 6, _, _ => exact fw_wd 2 186 fw_c106 rfl
  | 7, _, _ => exact fw_wd 2 183 fw_c107 rfl
  | 8, _, _ => exact fw_wd 4 146 fw_c108 rfl
  | 9, _, _ => exact fw_wd 4 56 fw_c109 rfl
  | 10, _, _ => exact fw_wd 4 228 fw_c110 rfl
  | 11, _, _ => exact fw_wd 3 215 fw_c111 rfl
  | 12, _, _ => exact fw_wd 2 190 fw_c112 rfl
  | 13, _, _ => exact fw_wd 5 45 fw_c113 rfl
  | 14, _, _ => exact fw_wd 4 108 fw_c114 rfl
  | 15, _, _ => exact fw_wd 4 172 fw_c115 rfl
  | 16, _, _ => exact fw_wd 4 183 fw_c116 rfl
  | 17, _, _ => exact fw_wd 4 202 fw_c117 rfl
  | 18, _, _ => exact fw_wd 2 223 fw_c118 rfl
  | 19, _, _ => exact fw_wd 3 3 fw_c119 rfl
  | 20, _, _ => exact fw_wd 2 227 fw_c120 rfl
  | 21, _, _ => exact fw_wd 3 103 fw_c121 rfl
  | 22, _, _ => exact fw_wd 4 44 fw_c122 rfl
  | 23, _, _ => exact fw_wd 4 164 fw_c123 rfl
  | 24, _, _ => exact fw_wd 4 160 fw_c124 rfl
  | 25, _, _ => exact fw_wd 4 154 fw_c125 rfl
  | 26, _, _ => exact fw_wd 4 74 fw_c126 rfl
  | 27, _, _ => exact fw_wd 4 93 fw_c127 rfl
  | 28, _, _ => exact fw_wd 5 8 fw_c128 rfl
  | 29, _, _ => exact fw_wd 3 199 fw_c129 rfl
  | 30, _, _ => exact fw_wd 3 203 fw_c130 rfl
  | 31, _, _ => exact fw_wd 4 96 fw_c131 rfl
  | 32, _, _ => exact fw_wd 4 47 fw_c132 rfl
  | 33, _, _ => exact fw_wd 3 207 fw_c133 rfl
  | 34, _, _ => exact fw_wd 4 211 fw_c134 rfl
  | 35, _, _ => exact fw_wd 5 19 fw_c135 rfl
  | 36, _, _ => exact fw_wd 4 130 fw_c136 rfl
  | n + 37, h, _ => exact absurd h (by omega)
theorem fw_cwi (k : Nat) (h : k < 137) (h0 : 0 < k) : fw_cw k ∈ fw_ws := by
  rcases Nat.lt_or_ge k 50 with q | q
  · exact fw_cwa0 k q h0
  · rcases Nat.lt_or_ge k 100 with q2 | q2
    · obtain ⟨j, rfl⟩ : ∃ j, k = j + 50 := ⟨k - 50, by omega⟩
      exact fw_cwa50 j (by omega) (by omega)
    · obtain ⟨j, rfl⟩ : ∃ j, k = j + 100 := ⟨k - 100, by omega⟩
      exact fw_cwa100 j (by omega) (by omega)
def fw_iT : List (Nat × Nat) := [(0, 0), (1, 78), (1, 82), (3, 39), (2, 237), (2, 233), (3, 47), (2, 229), (3, 79), (4, 0), (3, 56), (3, 74), (2, 146), (4, 192), (5, 35), (3, 17), (3, 21), (1, 215), (5, 47), (5, 25), (5, 55), (5, 60), (5, 70), (5, 51), (1, 161), (3, 30), (3, 87), (3, 34), (3, 43), (3, 91), (3, 95), (3, 60), (1, 32), (3, 9), (4, 137), (4, 176), (4, 187), (5, 31), (3, 64), (3, 232), (4, 6), (4, 14), (4, 87), (1, 197), (3, 5), (4, 196), (3, 25), (1, 108), (2, 141), (2, 122), (2, 118), (2, 114), (4, 217), (4, 230), (4, 234), (4, 238), (2, 237), (2, 208), (2, 213), (3, 52), (3, 69), (3, 83), (3, 13), (1, 142), (2, 237), (2, 237), (2, 237), (2, 237), (1, 24), (2, 21), (2, 107), (5, 14), (5, 10), (4, 222), (5, 2), (4, 213), (4, 133), (4, 166), (4, 30), (3, 209), (4, 59), (3, 236), (4, 50), (4, 18), (4, 22), (4, 26), (4, 141), (4, 148), (2, 237), (2, 178), (4, 206), (4, 98), (4, 83), (4, 63), (4, 67), (4, 78), (5, 21), (4, 34), (5, 39), (5, 65), (4, 10), (4, 38), (4, 102), (4, 125), (2, 217), (2, 111), (2, 185), (2, 182), (4, 145), (4, 55), (4, 227), (3, 214), (2, 189), (5, 44), (4, 107), (4, 171), (4, 182), (4, 201), (2, 222), (3, 2), (2, 226), (3, 102), (4, 42), (4, 163), (4, 159), (4, 152), (4, 72), (4, 91), (5, 6), (3, 198), (3, 202), (4, 95), (4, 46), (3, 206), (4, 210), (5, 18), (4, 129)]
def fw_sT : List (Nat × Nat) := [(0, 0), (0, 0), (1, 83), (3, 40), (2, 238), (2, 234), (3, 48), (2, 230), (3, 80), (4, 1), (3, 57), (3, 75), (0, 0), (4, 193), (5, 36), (3, 18), (3, 22), (0, 0), (5, 48), (5, 26), (5, 56), (5, 61), (5, 71), (5, 52), (0, 0), (3, 31), (3, 88), (3, 35), (3, 44), (3, 92), (3, 96), (3, 61), (0, 0), (3, 10), (4, 138), (4, 177), (4, 188), (5, 32), (3, 65), (3, 233), (4, 7), (4, 15), (4, 88), (0, 0), (3, 6), (4, 197), (3, 26), (0, 0), (2, 142), (2, 123), (2, 119), (2, 115), (4, 218), (4, 231), (4, 235), (4, 239), (2, 238), (2, 209), (2, 214), (3, 53), (3, 70), (3, 84), (3, 14), (0, 0), (2, 238), (2, 238), (2, 238), (2, 238), (0, 0), (2, 22), (2, 108), (5, 15), (5, 11), (4, 223), (5, 3), (4, 214), (4, 134), (4, 167), (4, 31), (3, 210), (4, 60), (3, 237), (4, 51), (4, 19), (4, 23), (4, 27), (4, 142), (4, 149), (2, 238), (2, 179), (4, 207), (4, 99), (4, 84), (4, 64), (4, 68), (4, 79), (5, 22), (4, 35), (5, 40), (5, 66), (4, 11), (4, 39), (4, 103), (4, 126), (2, 218), (0, 0), (0, 0), (0, 0), (0, 0), (7, 6), (7, 13), (7, 5), (7, 1), (7, 14), (7, 7), (7, 10), (7, 11), (7, 12), (7, 2), (7, 4), (7, 3), (0, 0), (4, 43), (7, 9), (7, 8), (4, 153), (4, 73), (4, 92), (5, 7), (0, 0), (0, 0), (0, 0), (0, 0), (0, 0), (0, 0), (0, 0), (0, 0)]
def fw_tt (j : Nat) : List Cond := if j = 7 then k2_sels lw_privs else fw_t j
theorem fw_tt_tbl (j : Nat) : ∀ w ∈ fw_tt j, w ∈ lw_tbl := by
  intro w h
  unfold fw_tt at h
  split at h
  · exact List.mem_append_left _ h
  · exact fw_t_tbl j w h
theorem fw_in_ok : ∀ k ∈ List.range 137, 0 < k → (fw_ki k = 0 ∨ fw_ki k = 2) → (fw_t (fw_iT.getD k (0, 0)).1)[(fw_iT.getD k (0, 0)).2]? = some (.instanceMethod (fw_y k)) := by decide +kernel
theorem fw_st_ok : ∀ k ∈ List.range 137, 0 < k → (fw_ki k = 1 ∨ fw_ki k = 3) → (fw_t (fw_iT.getD k (0, 0)).1)[(fw_iT.getD k (0, 0)).2]? = some (.static (fw_y k)) := by decide +kernel
theorem fw_se_ok : ∀ k ∈ List.range 137, 0 < k → fw_ki k = 0 → (fw_tt (fw_sT.getD k (0, 0)).1)[(fw_sT.getD k (0, 0)).2]? = some (.selects (fw_CN (fw_oc k)) (fw_y k) (fw_y k)) := by decide +kernel
theorem fw_y_ok : ∀ k ∈ List.range 137, (fw_y k).cls = fw_CN (fw_oc k) ∧ fw_oc k < 11 ∧ (fw_y k).cls ≠ "java/lang/invoke/MethodHandle" ∧ (fw_y k).cls ≠ "java/lang/invoke/VarHandle" ∧ (parseMethodDescriptor (fw_y k).desc).map (fun d => d.parameters.length) = some (fw_pt k).length ∧ plainName (fw_y k).cls = true ∧ (fw_ki k = 2 → (fw_y k).name = "<init>" ∧ fw_rt k = none) ∧ (fw_hs k = [] ↔ fw_ki k ≠ 3) := by decide +kernel
theorem fw_in {k : Nat} (h : k < 137) (h0 : 0 < k) (hk : fw_ki k = 0 ∨ fw_ki k = 2) : Cond.instanceMethod (fw_y k) ∈ fw_ws := fw_wd _ _ (fw_in_ok k (List.mem_range.mpr h) h0 hk) rfl
theorem fw_stt {k : Nat} (h : k < 137) (h0 : 0 < k) (hk : fw_ki k = 1 ∨ fw_ki k = 3) : Cond.static (fw_y k) ∈ fw_ws := fw_wd _ _ (fw_st_ok k (List.mem_range.mpr h) h0 hk) rfl
theorem fw_sel {k : Nat} (h : k < 137) (h0 : 0 < k) (hk : fw_ki k = 0) : Cond.selects (fw_CN (fw_oc k)) (fw_y k) (fw_y k) ∈ fw_ws := List.mem_filter.mpr ⟨fw_tt_tbl _ _ (List.mem_of_getElem? (fw_se_ok k (List.mem_range.mpr h) h0 hk)), rfl⟩
theorem fw_xini (x : Nat) (h : x < 6) : Cond.initialized (fw_xn x) ∈ fw_ws := by
  match x, h with
  | 0, _ => exact fw_wd 1 14 rfl rfl
  | 1, _ => exact fw_wd 1 15 rfl rfl
  | 2, _ => exact fw_wd 1 16 rfl rfl
  | 3, _ => exact fw_wd 1 18 rfl rfl
  | 4, _ => exact fw_wd 1 19 rfl rfl
  | 5, _ => exact fw_wd 1 20 rfl rfl
  | n + 6, h => exact absurd h (by omega)
theorem fw_xfit (x : Nat) (h : x < 6) : Bundle.fit (fw_xn x) = true ∧ True := by
  match x, h with
  | 0, _ => exact ⟨by decide +kernel, trivial⟩
  | 1, _ => exact ⟨by decide +kernel, trivial⟩
  | 2, _ => exact ⟨by decide +kernel, trivial⟩
  | 3, _ => exact ⟨by decide +kernel, trivial⟩
  | 4, _ => exact ⟨by decide +kernel, trivial⟩
  | 5, _ => exact ⟨by decide +kernel, trivial⟩
  | n + 6, h => exact absurd h (by omega)
