/-- the classes of the worlds: entry c + 2 is class c -/
def fw_Cl : List vw_C := [(RX0, TX0, 4), (RX0, TX0, 4), (RX0, TX0, 4), (RX1, TX1, 6), (RX2, TX2, 3), (RX3, TX3, 9), (RX4, TX4, 10), (RX5, TX5, 2), (RX6, TX6, 7), (RX7, TX7, 4), (RX8, TX8, 9), (RX9, TX9, 35)]
def fw_ws : List Cond := lw_tbl.filter goodWord
theorem fw_t_tbl (j : Nat) : ∀ w ∈ fw_t j, w ∈ lw_tbl := by
  intro w h
  refine List.mem_append_right _ ?_
  unfold tables_1
  match j, h with
  | 1, h => exact List.mem_append_left _ h
  | 2, h => exact List.mem_append_right _ (List.mem_append_left _ h)
  | 3, h => exact List.mem_append_right _ (List.mem_append_right _ (List.mem_append_left _ h))
  | 4, h => exact List.mem_append_right _ (List.mem_append_right _ (List.mem_append_right _ (List.mem_append_left _ h)))
  | 5, h => exact List.mem_append_right _ (List.mem_append_right _ (List.mem_append_right _ (List.mem_append_right _ (List.mem_append_left _ h))))
  | 0, h => exact List.mem_append_right _ (List.mem_append_right _ (List.mem_append_right _ (List.mem_append_right _ (List.mem_append_right _ h))))
  | n + 6, h => exact List.mem_append_right _ (List.mem_append_right _ (List.mem_append_right _ (List.mem_append_right _ (List.mem_append_right _ h))))
theorem fw_tw (j i : Nat) {w : Cond} (h : (fw_t j)[i]? = some w) : w ∈ lw_tbl := fw_t_tbl j w (List.mem_of_getElem? h)
theorem fw_wd (j i : Nat) {w : Cond} (h : (fw_t j)[i]? = some w) (g : goodWord w = true) : w ∈ fw_ws := List.mem_filter.mpr ⟨fw_tw j i h, g⟩
theorem fw_ws_good : ∀ w ∈ fw_ws, (w.onTables && w.keeps) = true ∨ ∃ ty, w = .arrayClass ty := fun w h => good_of_word (List.mem_filter.mp h).2
theorem fw_ws_tbl : ∀ w ∈ fw_ws, w ∈ lw_tbl := fun w h => (List.mem_filter.mp h).1
theorem fw_goodIn {ws : List Cond} (h : ∀ w ∈ ws, w ∈ fw_ws) : GoodIn fw_ws ws := fun w hw => ⟨h w hw, fw_ws_good w (h w hw)⟩
theorem fw_u0 : ∀ w ∈ u_ws (fw_CN 0) (fw_CT 0) (fw_nf 0), w ∈ fw_ws := by
  intro w h
  obtain ⟨k, hk, rfl⟩ := List.mem_map.mp h
  have hk := List.mem_range.mp hk
  match k, hk with
  | 0, _ => exact fw_wd 1 98 rfl rfl
  | 1, _ => exact fw_wd 1 100 rfl rfl
  | 2, _ => exact fw_wd 1 102 rfl rfl
  | 3, _ => exact fw_wd 1 104 rfl rfl
  | n + 4, hk => exact absurd hk (by show ¬ (n + 4 < 4); omega)
theorem fw_u1 : ∀ w ∈ u_ws (fw_CN 1) (fw_CT 1) (fw_nf 1), w ∈ fw_ws := by
  intro w h
  obtain ⟨k, hk, rfl⟩ := List.mem_map.mp h
  have hk := List.mem_range.mp hk
  match k, hk with
  | 0, _ => exact fw_wd 3 92 rfl rfl
  | 1, _ => exact fw_wd 3 94 rfl rfl
  | 2, _ => exact fw_wd 3 96 rfl rfl
  | 3, _ => exact fw_wd 3 98 rfl rfl
  | 4, _ => exact fw_wd 3 100 rfl rfl
  | 5, _ => exact fw_wd 3 102 rfl rfl
  | n + 6, hk => exact absurd hk (by show ¬ (n + 6 < 6); omega)
theorem fw_u2 : ∀ w ∈ u_ws (fw_CN 2) (fw_CT 2) (fw_nf 2), w ∈ fw_ws := by
  intro w h
  obtain ⟨k, hk, rfl⟩ := List.mem_map.mp h
  have hk := List.mem_range.mp hk
  match k, hk with
  | 0, _ => exact fw_wd 1 227 rfl rfl
  | 1, _ => exact fw_wd 1 229 rfl rfl
  | 2, _ => exact fw_wd 1 231 rfl rfl
  | n + 3, hk => exact absurd hk (by show ¬ (n + 3 < 3); omega)
theorem fw_u3 : ∀ w ∈ u_ws (fw_CN 3) (fw_CT 3) (fw_nf 3), w ∈ fw_ws := by
  intro w h
  obtain ⟨k, hk, rfl⟩ := List.mem_map.mp h
  have hk := List.mem_range.mp hk
  match k, hk with
  | 0, _ => exact fw_wd 1 177 rfl rfl
  | 1, _ => exact fw_wd 1 179 rfl rfl
  | 2, _ => exact fw_wd 1 181 rfl rfl
  | 3, _ => exact fw_wd 1 183 rfl rfl
  | 4, _ => exact fw_wd 1 185 rfl rfl
  | 5, _ => exact fw_wd 1 187 rfl rfl
  | 6, _ => exact fw_wd 1 189 rfl rfl
  | 7, _ => exact fw_wd 1 191 rfl rfl
  | 8, _ => exact fw_wd 1 193 rfl rfl
  | n + 9, hk => exact absurd hk (by show ¬ (n + 9 < 9); omega)
theorem fw_u4 : ∀ w ∈ u_ws (fw_CN 4) (fw_CT 4) (fw_nf 4), w ∈ fw_ws := by
  intro w h
  obtain ⟨k, hk, rfl⟩ := List.mem_map.mp h
  have hk := List.mem_range.mp hk
  match k, hk with
  | 0, _ => exact fw_wd 1 54 rfl rfl
  | 1, _ => exact fw_wd 1 56 rfl rfl
  | 2, _ => exact fw_wd 1 58 rfl rfl
  | 3, _ => exact fw_wd 1 60 rfl rfl
  | 4, _ => exact fw_wd 1 62 rfl rfl
  | 5, _ => exact fw_wd 1 64 rfl rfl
  | 6, _ => exact fw_wd 1 66 rfl rfl
  | 7, _ => exact fw_wd 1 68 rfl rfl
  | 8, _ => exact fw_wd 1 70 rfl rfl
  | 9, _ => exact fw_wd 1 72 rfl rfl
  | n + 10, hk => exact absurd hk (by show ¬ (n + 10 < 10); omega)
theorem fw_u5 : ∀ w ∈ u_ws (fw_CN 5) (fw_CT 5) (fw_nf 5), w ∈ fw_ws := by
  intro w h
  obtain ⟨k, hk, rfl⟩ := List.mem_map.mp h
  have hk := List.mem_range.mp hk
  match k, hk with
  | 0, _ => exact fw_wd 1 209 rfl rfl
  | 1, _ => exact fw_wd 1 211 rfl rfl
  | n + 2, hk => exact absurd hk (by show ¬ (n + 2 < 2); omega)
theorem fw_u6 : ∀ w ∈ u_ws (fw_CN 6) (fw_CT 6) (fw_nf 6), w ∈ fw_ws := by
  intro w h
  obtain ⟨k, hk, rfl⟩ := List.mem_map.mp h
  have hk := List.mem_range.mp hk
  match k, hk with
  | 0, _ => exact fw_wd 1 126 rfl rfl
  | 1, _ => exact fw_wd 1 128 rfl rfl
  | 2, _ => exact fw_wd 1 130 rfl rfl
  | 3, _ => exact fw_wd 1 132 rfl rfl
  | 4, _ => exact fw_wd 1 134 rfl rfl
  | 5, _ => exact fw_wd 1 136 rfl rfl
  | 6, _ => exact fw_wd 1 138 rfl rfl
  | n + 7, hk => exact absurd hk (by show ¬ (n + 7 < 7); omega)
theorem fw_u7 : ∀ w ∈ u_ws (fw_CN 7) (fw_CT 7) (fw_nf 7), w ∈ fw_ws := by
  intro w h
  obtain ⟨k, hk, rfl⟩ := List.mem_map.mp h
  have hk := List.mem_range.mp hk
  match k, hk with
  | 0, _ => exact fw_wd 1 151 rfl rfl
  | 1, _ => exact fw_wd 1 153 rfl rfl
  | 2, _ => exact fw_wd 1 155 rfl rfl
  | 3, _ => exact fw_wd 1 157 rfl rfl
  | n + 4, hk => exact absurd hk (by show ¬ (n + 4 < 4); omega)
theorem fw_u8 : ∀ w ∈ u_ws (fw_CN 8) (fw_CT 8) (fw_nf 8), w ∈ fw_ws := by
  intro w h
  obtain ⟨k, hk, rfl⟩ := List.mem_map.mp h
  have hk := List.mem_range.mp hk
  match k, hk with
  | 0, _ => exact fw_wd 2 3 rfl rfl
  | 1, _ => exact fw_wd 2 5 rfl rfl
  | 2, _ => exact fw_wd 2 7 rfl rfl
  | 3, _ => exact fw_wd 2 9 rfl rfl
  | 4, _ => exact fw_wd 2 11 rfl rfl
  | 5, _ => exact fw_wd 2 13 rfl rfl
  | 6, _ => exact fw_wd 2 15 rfl rfl
  | 7, _ => exact fw_wd 2 17 rfl rfl
  | 8, _ => exact fw_wd 2 19 rfl rfl
  | n + 9, hk => exact absurd hk (by show ¬ (n + 9 < 9); omega)
theorem fw_u9 : ∀ w ∈ u_ws (fw_CN 9) (fw_CT 9) (fw_nf 9), w ∈ fw_ws := by
  intro w h
  obtain ⟨k, hk, rfl⟩ := List.mem_map.mp h
  have hk := List.mem_range.mp hk
  match k, hk with
  | 0, _ => exact fw_wd 5 118 rfl rfl
  | 1, _ => exact fw_wd 5 120 rfl rfl
  | 2, _ => exact fw_wd 5 122 rfl rfl
  | 3, _ => exact fw_wd 5 124 rfl rfl
  | 4, _ => exact fw_wd 5 126 rfl rfl
  | 5, _ => exact fw_wd 5 128 rfl rfl
  | 6, _ => exact fw_wd 5 130 rfl rfl
  | 7, _ => exact fw_wd 5 132 rfl rfl
  | 8, _ => exact fw_wd 5 134 rfl rfl
  | 9, _ => exact fw_wd 5 136 rfl rfl
  | 10, _ => exact fw_wd 5 138 rfl rfl
  | 11, _ => exact fw_wd 5 140 rfl rfl
  | 12, _ => exact fw_wd 5 142 rfl rfl
  | 13, _ => exact fw_wd 5 144 rfl rfl
  | 14, _ => exact fw_wd 5 146 rfl rfl
  | 15, _ => exact fw_wd 5 148 rfl rfl
  | 16, _ => exact fw_wd 5 150 rfl rfl
  | 17, _ => exact fw_wd 5 152 rfl rfl
  | 18, _ => exact fw_wd 5 154 rfl rfl
  | 19, _ => exact fw_wd 5 156 rfl rfl
  | 20, _ => exact fw_wd 5 158 rfl rfl
  | 21, _ => exact fw_wd 5 160 rfl rfl
  | 22, _ => exact fw_wd 5 162 rfl rfl
  | 23, _ => exact fw_wd 5 164 rfl rfl
  | 24, _ => exact fw_wd 5 166 rfl rfl
  | 25, _ => exact fw_wd 5 168 rfl rfl
  | 26, _ => exact fw_wd 5 170 rfl rfl
  | 27, _ => exact fw_wd 5 172 rfl rfl
  | 28, _ => exact fw_wd 5 174 rfl rfl
  | 29, _ => exact fw_wd 5 176 rfl rfl
  | 30, _ => exact fw_wd 5 178 rfl rfl
  | 31, _ => exact fw_wd 5 180 rfl rfl
  | 32, _ => exact fw_wd 5 182 rfl rfl
  | 33, _ => exact fw_wd 5 184 rfl rfl
  | 34, _ => exact fw_wd 5 186 rfl rfl
  | n + 35, hk => exact absurd hk (by show ¬ (n + 35 < 35); omega)
theorem fw_uw (c : Nat) (h : c < 10) : ∀ w ∈ u_ws (fw_CN c) (fw_CT c) (fw_nf c), w ∈ fw_ws := by
  match c, h with
  | 0, _ => exact fw_u0
  | 1, _ => exact fw_u1
  | 2, _ => exact fw_u2
  | 3, _ => exact fw_u3
  | 4, _ => exact fw_u4
  | 5, _ => exact fw_u5
  | 6, _ => exact fw_u6
  | 7, _ => exact fw_u7
  | 8, _ => exact fw_u8
  | 9, _ => exact fw_u9
  | n + 10, h => exact absurd h (by omega)
theorem fw_cl (c : Nat) (h : c < 10) : fw_Cl[c + 2]? = some (fw_CN c, fw_CT c, fw_nf c) := by
  match c, h with
  | 0, _ => rfl
  | 1, _ => rfl
  | 2, _ => rfl
  | 3, _ => rfl
  | 4, _ => rfl
  | 5, _ => rfl
  | 6, _ => rfl
  | 7, _ => rfl
  | 8, _ => rfl
  | 9, _ => rfl
  | n + 10, h => exact absurd h (by omega)
theorem fw_tyok (c : Nat) (h : c < 10) : ∀ k, k < fw_nf c → parseFieldDescriptor (fw_CT c k).2.2.1 = some (fw_ty c k) := by
  match c, h with
  | 0, _ => exact tyX0_ok
  | 1, _ => exact tyX1_ok
  | 2, _ => exact tyX2_ok
  | 3, _ => exact tyX3_ok
  | 4, _ => exact tyX4_ok
  | 5, _ => exact tyX5_ok
  | 6, _ => exact tyX6_ok
  | 7, _ => exact tyX7_ok
  | 8, _ => exact tyX8_ok
  | 9, _ => exact tyX9_ok
  | n + 10, h => exact absurd h (by omega)
theorem fw_nmok (c : Nat) (h : c < 10) : ∀ a, a < fw_nf c → ∀ b, b < fw_nf c → a ≠ b → (fw_CT c a).2.1 ≠ (fw_CT c b).2.1 := by
  match c, h with
  | 0, _ => exact nmX0
  | 1, _ => exact nmX1
  | 2, _ => exact nmX2
  | 3, _ => exact nmX3
  | 4, _ => exact nmX4
  | 5, _ => exact nmX5
  | 6, _ => exact nmX6
  | 7, _ => exact nmX7
  | 8, _ => exact nmX8
  | 9, _ => exact nmX9
  | n + 10, h => exact absurd h (by omega)
theorem fw_ini (c : Nat) (h : c < 11) : Cond.initialized (fw_CN c) ∈ fw_ws := by
  match c, h with
  | 0, _ => exact fw_wd 1 3 rfl rfl
  | 1, _ => exact fw_wd 1 17 rfl rfl
  | 2, _ => exact fw_wd 1 9 rfl rfl
  | 3, _ => exact fw_wd 1 7 rfl rfl
  | 4, _ => exact fw_wd 1 2 rfl rfl
  | 5, _ => exact fw_wd 1 8 rfl rfl
  | 6, _ => exact fw_wd 1 5 rfl rfl
  | 7, _ => exact fw_wd 1 6 rfl rfl
  | 8, _ => exact fw_wd 1 1 rfl rfl
  | 9, _ => exact fw_wd 1 10 rfl rfl
  | 10, _ => exact fw_wd 1 0 rfl rfl
  | n + 11, h => exact absurd h (by omega)
theorem fw_fr_ok : ∀ q ∈ fw_frT, (fw_t q.2.2.2.2.1)[q.2.2.2.2.2]? = some (.fieldLink (fw_CN q.1) q.2.1 (fw_CN q.2.2.1) (fw_CT q.2.2.1 q.2.2.2.1).2.1 (fw_CT q.2.2.1 q.2.2.2.1).2.2.1) ∧ q.2.2.2.1 < fw_nf q.2.2.1 ∧ q.2.2.1 < 10 ∧ (fw_CT q.2.2.1 q.2.2.2.1).1 = fw_CN q.2.2.1 := by decide +kernel
theorem fw_cr_ok : ∀ q ∈ fw_crT, (fw_t q.2.2.2.1)[q.2.2.2.2]? = some (.classLink (fw_CN q.1) q.2.1 (fw_CN q.2.2.1)) ∧ q.2.2.1 < 10 := by decide +kernel
theorem fw_xr_ok : ∀ q ∈ fw_xrT, (fw_t q.2.2.2.1)[q.2.2.2.2]? = some (.classLink (fw_CN 8) q.1 (fw_xn q.2.2.1)) ∧ q.2.2.1 < 6 := by decide +kernel
theorem fw_mr_ok : ∀ q ∈ fw_mrT, q.2.2.1 < 212 → q.2.2.2.1 = 0 → (fw_t q.2.2.2.2.1)[q.2.2.2.2.2]? = some (.methodLink (fw_CN q.1) q.2.1 (fw_y q.2.2.1)) := by decide +kernel
theorem fw_mr_lt : ∀ q ∈ fw_mrT, (q.2.2.1 < 212 ∨ 1000 ≤ q.2.2.1) ∧ q.2.2.2.1 < 2 := by decide +kernel
theorem fw_ins (c : Nat) (h : c < 10) : Cond.instantiable (fw_CN c) (fw_nf c) ∈ fw_ws := by
  match c, h with
  | 0, _ => exact fw_wd 1 78 rfl rfl
  | 1, _ => exact fw_wd 3 71 rfl rfl
  | 2, _ => exact fw_wd 1 215 rfl rfl
  | 3, _ => exact fw_wd 1 161 rfl rfl
  | 4, _ => exact fw_wd 1 32 rfl rfl
  | 5, _ => exact fw_wd 1 197 rfl rfl
  | 6, _ => exact fw_wd 1 108 rfl rfl
  | 7, _ => exact fw_wd 1 142 rfl rfl
  | 8, _ => exact fw_wd 1 24 rfl rfl
  | 9, _ => exact fw_wd 5 78 rfl rfl
  | n + 10, h => exact absurd h (by omega)
set_option maxRecDepth 20000 in
theorem fw_c1 : (fw_t 1)[81]? = some (.code (fw_y 1) (fw_B 1) (fw_mL 1) (fw_rt 1)) := rfl
set_option maxRecDepth 20000 in
theorem fw_c2 : (fw_t 1)[86]? = some (.code (fw_y 2) (fw_B 2) (fw_mL 2) (fw_rt 2)) := rfl
set_option maxRecDepth 20000 in
theorem fw_c3 : (fw_t 2)[116]? = some (.code (fw_y 3) (fw_B 3) (fw_mL 3) (fw_rt 3)) := rfl
set_option maxRecDepth 20000 in
theorem fw_c4 : (fw_t 2)[69]? = some (.code (fw_y 4) (fw_B 4) (fw_mL 4) (fw_rt 4)) := rfl
set_option maxRecDepth 20000 in
theorem fw_c5 : (fw_t 2)[65]? = some (.code (fw_y 5) (fw_B 5) (fw_mL 5) (fw_rt 5)) := rfl
set_option maxRecDepth 20000 in
theorem fw_c6 : (fw_t 2)[124]? = some (.code (fw_y 6) (fw_B 6) (fw_mL 6) (fw_rt 6)) := rfl
set_option maxRecDepth 20000 in
theorem fw_c7 : (fw_t 2)[61]? = some (.code (fw_y 7) (fw_B 7) (fw_mL 7) (fw_rt 7)) := rfl
set_option maxRecDepth 20000 in
theorem fw_c8 : (fw_t 2)[162]? = some (.code (fw_y 8) (fw_B 8) (fw_mL 8) (fw_rt 8)) := rfl
set_option maxRecDepth 20000 in
theorem fw_c9 : (fw_t 4)[78]? = some (.code (fw_y 9) (fw_B 9) (fw_mL 9) (fw_rt 9)) := rfl
set_option maxRecDepth 20000 in
theorem fw_c10 : (fw_t 2)[133]? = some (.code (fw_y 10) (fw_B 10) (fw_mL 10) (fw_rt 10)) := rfl
set_option maxRecDepth 20000 in
theorem fw_c11 : (fw_t 2)[157]? = some (.code (fw_y 11) (fw_B 11) (fw_mL 11) (fw_rt 11)) := rfl
set_option maxRecDepth 20000 in
theorem fw_c12 : (fw_t 3)[74]? = some (.code (fw_y 12) (fw_B 12) (fw_mL 12) (fw_rt 12)) := rfl
set_option maxRecDepth 20000 in
theorem fw_c13 : (fw_t 4)[42]? = some (.code (fw_y 13) (fw_B 13) (fw_mL 13) (fw_rt 13)) := rfl
set_option maxRecDepth 20000 in
theorem fw_c14 : (fw_t 4)[227]? = some (.code (fw_y 14) (fw_B 14) (fw_mL 14) (fw_rt 14)) := rfl
set_option maxRecDepth 20000 in
theorem fw_c15 : (fw_t 2)[94]? = some (.code (fw_y 15) (fw_B 15) (fw_mL 15) (fw_rt 15)) := rfl
set_option maxRecDepth 20000 in
theorem fw_c16 : (fw_t 2)[98]? = some (.code (fw_y 16) (fw_B 16) (fw_mL 16) (fw_rt 16)) := rfl
set_option maxRecDepth 20000 in
theorem fw_c17 : (fw_t 1)[218]? = some (.code (fw_y 17) (fw_B 17) (fw_mL 17) (fw_rt 17)) := rfl
set_option maxRecDepth 20000 in
theorem fw_c18 : (fw_t 5)[2]? = some (.code (fw_y 18) (fw_B 18) (fw_mL 18) (fw_rt 18)) := rfl
set_option maxRecDepth 20000 in
theorem fw_c19 : (fw_t 4)[217]? = some (.code (fw_y 19) (fw_B 19) (fw_mL 19) (fw_rt 19)) := rfl
set_option maxRecDepth 20000 in
theorem fw_c20 : (fw_t 5)[10]? = some (.code (fw_y 20) (fw_B 20) (fw_mL 20) (fw_rt 20)) := rfl
set_option maxRecDepth 20000 in
theorem fw_c21 : (fw_t 5)[15]? = some (.code (fw_y 21) (fw_B 21) (fw_mL 21) (fw_rt 21)) := rfl
set_option maxRecDepth 20000 in
theorem fw_c22 : (fw_t 5)[28]? = some (.code (fw_y 22) (fw_B 22) (fw_mL 22) (fw_rt 22)) := rfl
set_option maxRecDepth 20000 in
theorem fw_c23 : (fw_t 5)[6]? = some (.code (fw_y 23) (fw_B 23) (fw_mL 23) (fw_rt 23)) := rfl
set_option maxRecDepth 20000 in
theorem fw_c24 : (fw_t 1)[164]? = some (.code (fw_y 24) (fw_B 24) (fw_mL 24) (fw_rt 24)) := rfl
set_option maxRecDepth 20000 in
theorem fw_c25 : (fw_t 2)[107]? = some (.code (fw_y 25) (fw_B 25) (fw_mL 25) (fw_rt 25)) := rfl
set_option maxRecDepth 20000 in
theorem fw_c26 : (fw_t 2)[170]? = some (.code (fw_y 26) (fw_B 26) (fw_mL 26) (fw_rt 26)) := rfl
set_option maxRecDepth 20000 in
theorem fw_c27 : (fw_t 2)[111]? = some (.code (fw_y 27) (fw_B 27) (fw_mL 27) (fw_rt 27)) := rfl
set_option maxRecDepth 20000 in
theorem fw_c28 : (fw_t 2)[120]? = some (.code (fw_y 28) (fw_B 28) (fw_mL 28) (fw_rt 28)) := rfl
set_option maxRecDepth 20000 in
theorem fw_c29 : (fw_t 2)[174]? = some (.code (fw_y 29) (fw_B 29) (fw_mL 29) (fw_rt 29)) := rfl
set_option maxRecDepth 20000 in
theorem fw_c30 : (fw_t 2)[178]? = some (.code (fw_y 30) (fw_B 30) (fw_mL 30) (fw_rt 30)) := rfl
set_option maxRecDepth 20000 in
theorem fw_c31 : (fw_t 2)[137]? = some (.code (fw_y 31) (fw_B 31) (fw_mL 31) (fw_rt 31)) := rfl
set_option maxRecDepth 20000 in
theorem fw_c32 : (fw_t 1)[35]? = some (.code (fw_y 32) (fw_B 32) (fw_mL 32) (fw_rt 32)) := rfl
set_option maxRecDepth 20000 in
theorem fw_c33 : (fw_t 2)[85]? = some (.code (fw_y 33) (fw_B 33) (fw_mL 33) (fw_rt 33)) := rfl
set_option maxRecDepth 20000 in
theorem fw_c34 : (fw_t 4)[5]? = some (.code (fw_y 34) (fw_B 34) (fw_mL 34) (fw_rt 34)) := rfl
set_option maxRecDepth 20000 in
theorem fw_c35 : (fw_t 4)[25]? = some (.code (fw_y 35) (fw_B 35) (fw_mL 35) (fw_rt 35)) := rfl
set_option maxRecDepth 20000 in
theorem fw_c36 : (fw_t 4)[37]? = some (.code (fw_y 36) (fw_B 36) (fw_mL 36) (fw_rt 36)) := rfl
set_option maxRecDepth 20000 in
theorem fw_c37 : (fw_t 4)[223]? = some (.code (fw_y 37) (fw_B 37) (fw_mL 37) (fw_rt 37)) := rfl
set_option maxRecDepth 20000 in
theorem fw_c38 : (fw_t 2)[141]? = some (.code (fw_y 38) (fw_B 38) (fw_mL 38) (fw_rt 38)) := rfl
set_option maxRecDepth 20000 in
theorem fw_c39 : (fw_t 4)[67]? = some (.code (fw_y 39) (fw_B 39) (fw_mL 39) (fw_rt 39)) := rfl
set_option maxRecDepth 20000 in
theorem fw_c40 : (fw_t 4)[90]? = some (.code (fw_y 40) (fw_B 40) (fw_mL 40) (fw_rt 40)) := rfl
set_option maxRecDepth 20000 in
theorem fw_c41 : (fw_t 5)[39]? = some (.code (fw_y 41) (fw_B 41) (fw_mL 41) (fw_rt 41)) := rfl
set_option maxRecDepth 20000 in
theorem fw_c42 : (fw_t 4)[130]? = some (.code (fw_y 42) (fw_B 42) (fw_mL 42) (fw_rt 42)) := rfl
set_option maxRecDepth 20000 in
theorem fw_c43 : (fw_t 1)[200]? = some (.code (fw_y 43) (fw_B 43) (fw_mL 43) (fw_rt 43)) := rfl
set_option maxRecDepth 20000 in
theorem fw_c44 : (fw_t 2)[81]? = some (.code (fw_y 44) (fw_B 44) (fw_mL 44) (fw_rt 44)) := rfl
set_option maxRecDepth 20000 in
theorem fw_c45 : (fw_t 4)[46]? = some (.code (fw_y 45) (fw_B 45) (fw_mL 45) (fw_rt 45)) := rfl
set_option maxRecDepth 20000 in
theorem fw_c46 : (fw_t 2)[102]? = some (.code (fw_y 46) (fw_B 46) (fw_mL 46) (fw_rt 46)) := rfl
set_option maxRecDepth 20000 in
theorem fw_c47 : (fw_t 1)[111]? = some (.code (fw_y 47) (fw_B 47) (fw_mL 47) (fw_rt 47)) := rfl
set_option maxRecDepth 20000 in
theorem fw_c48 : (fw_t 3)[70]? = some (.code (fw_y 48) (fw_B 48) (fw_mL 48) (fw_rt 48)) := rfl
set_option maxRecDepth 20000 in
theorem fw_c49 : (fw_t 2)[73]? = some (.code (fw_y 49) (fw_B 49) (fw_mL 49) (fw_rt 49)) := rfl
set_option maxRecDepth 20000 in
theorem fw_c50 : (fw_t 2)[182]? = some (.code (fw_y 50) (fw_B 50) (fw_mL 50) (fw_rt 50)) := rfl
set_option maxRecDepth 20000 in
theorem fw_c51 : (fw_t 3)[50]? = some (.code (fw_y 51) (fw_B 51) (fw_mL 51) (fw_rt 51)) := rfl
set_option maxRecDepth 20000 in
theorem fw_c52 : (fw_t 3)[186]? = some (.code (fw_y 52) (fw_B 52) (fw_mL 52) (fw_rt 52)) := rfl
set_option maxRecDepth 20000 in
theorem fw_c53 : (fw_t 3)[206]? = some (.code (fw_y 53) (fw_B 53) (fw_mL 53) (fw_rt 53)) := rfl
set_option maxRecDepth 20000 in
theorem fw_c54 : (fw_t 3)[210]? = some (.code (fw_y 54) (fw_B 54) (fw_mL 54) (fw_rt 54)) := rfl
set_option maxRecDepth 20000 in
theorem fw_c55 : (fw_t 3)[214]? = some (.code (fw_y 55) (fw_B 55) (fw_mL 55) (fw_rt 55)) := rfl
set_option maxRecDepth 20000 in
theorem fw_c56 : (fw_t 4)[122]? = some (.code (fw_y 56) (fw_B 56) (fw_mL 56) (fw_rt 56)) := rfl
set_option maxRecDepth 20000 in
theorem fw_c57 : (fw_t 2)[150]? = some (.code (fw_y 57) (fw_B 57) (fw_mL 57) (fw_rt 57)) := rfl
set_option maxRecDepth 20000 in
theorem fw_c58 : (fw_t 4)[134]? = some (.code (fw_y 58) (fw_B 58) (fw_mL 58) (fw_rt 58)) := rfl
set_option maxRecDepth 20000 in
theorem fw_c59 : (fw_t 2)[129]? = some (.code (fw_y 59) (fw_B 59) (fw_mL 59) (fw_rt 59)) := rfl
set_option maxRecDepth 20000 in
theorem fw_c60 : (fw_t 2)[146]? = some (.code (fw_y 60) (fw_B 60) (fw_mL 60) (fw_rt 60)) := rfl
set_option maxRecDepth 20000 in
theorem fw_c61 : (fw_t 2)[166]? = some (.code (fw_y 61) (fw_B 61) (fw_mL 61) (fw_rt 61)) := rfl
set_option maxRecDepth 20000 in
theorem fw_c62 : (fw_t 2)[89]? = some (.code (fw_y 62) (fw_B 62) (fw_mL 62) (fw_rt 62)) := rfl
set_option maxRecDepth 20000 in
theorem fw_c63 : (fw_t 1)[145]? = some (.code (fw_y 63) (fw_B 63) (fw_mL 63) (fw_rt 63)) := rfl
set_option maxRecDepth 20000 in
theorem fw_c64 : (fw_t 4)[126]? = some (.code (fw_y 64) (fw_B 64) (fw_mL 64) (fw_rt 64)) := rfl
set_option maxRecDepth 20000 in
theorem fw_c65 : (fw_t 4)[148]? = some (.code (fw_y 65) (fw_B 65) (fw_mL 65) (fw_rt 65)) := rfl
set_option maxRecDepth 20000 in
theorem fw_c66 : (fw_t 4)[138]? = some (.code (fw_y 66) (fw_B 66) (fw_mL 66) (fw_rt 66)) := rfl
set_option maxRecDepth 20000 in
theorem fw_c67 : (fw_t 4)[142]? = some (.code (fw_y 67) (fw_B 67) (fw_mL 67) (fw_rt 67)) := rfl
set_option maxRecDepth 20000 in
theorem fw_c68 : (fw_t 1)[27]? = some (.code (fw_y 68) (fw_B 68) (fw_mL 68) (fw_rt 68)) := rfl
set_option maxRecDepth 20000 in
theorem fw_c69 : (fw_t 2)[191]? = some (.code (fw_y 69) (fw_B 69) (fw_mL 69) (fw_rt 69)) := rfl
set_option maxRecDepth 20000 in
theorem fw_c70 : (fw_t 3)[43]? = some (.code (fw_y 70) (fw_B 70) (fw_mL 70) (fw_rt 70)) := rfl
set_option maxRecDepth 20000 in
theorem fw_c71 : (fw_t 3)[144]? = some (.code (fw_y 71) (fw_B 71) (fw_mL 71) (fw_rt 71)) := rfl
set_option maxRecDepth 20000 in
theorem fw_c72 : (fw_t 3)[170]? = some (.code (fw_y 72) (fw_B 72) (fw_mL 72) (fw_rt 72)) := rfl
set_option maxRecDepth 20000 in
theorem fw_c73 : (fw_t 3)[178]? = some (.code (fw_y 73) (fw_B 73) (fw_mL 73) (fw_rt 73)) := rfl
set_option maxRecDepth 20000 in
theorem fw_c74 : (fw_t 3)[221]? = some (.code (fw_y 74) (fw_B 74) (fw_mL 74) (fw_rt 74)) := rfl
set_option maxRecDepth 20000 in
theorem fw_c75 : (fw_t 3)[228]? = some (.code (fw_y 75) (fw_B 75) (fw_mL 75) (fw_rt 75)) := rfl
set_option maxRecDepth 20000 in
theorem fw_c76 : (fw_t 4)[0]? = some (.code (fw_y 76) (fw_B 76) (fw_mL 76) (fw_rt 76)) := rfl
set_option maxRecDepth 20000 in
theorem fw_c77 : (fw_t 4)[12]? = some (.code (fw_y 77) (fw_B 77) (fw_mL 77) (fw_rt 77)) := rfl
set_option maxRecDepth 20000 in
theorem fw_c78 : (fw_t 2)[25]? = some (.code (fw_y 78) (fw_B 78) (fw_mL 78) (fw_rt 78)) := rfl
set_option maxRecDepth 20000 in
theorem fw_c79 : (fw_t 4)[59]? = some (.code (fw_y 79) (fw_B 79) (fw_mL 79) (fw_rt 79)) := rfl
set_option maxRecDepth 20000 in
theorem fw_c80 : (fw_t 4)[74]? = some (.code (fw_y 80) (fw_B 80) (fw_mL 80) (fw_rt 80)) := rfl
set_option maxRecDepth 20000 in
theorem fw_c81 : (fw_t 4)[86]? = some (.code (fw_y 81) (fw_B 81) (fw_mL 81) (fw_rt 81)) := rfl
set_option maxRecDepth 20000 in
theorem fw_c82 : (fw_t 4)[97]? = some (.code (fw_y 82) (fw_B 82) (fw_mL 82) (fw_rt 82)) := rfl
set_option maxRecDepth 20000 in
theorem fw_c83 : (fw_t 2)[29]? = some (.code (fw_y 83) (fw_B 83) (fw_mL 83) (fw_rt 83)) := rfl
set_option maxRecDepth 20000 in
theorem fw_c84 : (fw_t 2)[33]? = some (.code (fw_y 84) (fw_B 84) (fw_mL 84) (fw_rt 84)) := rfl
set_option maxRecDepth 20000 in
theorem fw_c85 : (fw_t 2)[37]? = some (.code (fw_y 85) (fw_B 85) (fw_mL 85) (fw_rt 85)) := rfl
set_option maxRecDepth 20000 in
theorem fw_c86 : (fw_t 4)[104]? = some (.code (fw_y 86) (fw_B 86) (fw_mL 86) (fw_rt 86)) := rfl
set_option maxRecDepth 20000 in
theorem fw_c87 : (fw_t 4)[111]? = some (.code (fw_y 87) (fw_B 87) (fw_mL 87) (fw_rt 87)) := rfl
set_option maxRecDepth 20000 in
theorem fw_c88 : (fw_t 4)[118]? = some (.code (fw_y 88) (fw_B 88) (fw_mL 88) (fw_rt 88)) := rfl
set_option maxRecDepth 20000 in
theorem fw_c89 : (fw_t 4)[156]? = some (.code (fw_y 89) (fw_B 89) (fw_mL 89) (fw_rt 89)) := rfl
set_option maxRecDepth 20000 in
theorem fw_c90 : (fw_t 4)[168]? = some (.code (fw_y 90) (fw_B 90) (fw_mL 90) (fw_rt 90)) := rfl
set_option maxRecDepth 20000 in
theorem fw_c91 : (fw_t 4)[175]? = some (.code (fw_y 91) (fw_B 91) (fw_mL 91) (fw_rt 91)) := rfl
set_option maxRecDepth 20000 in
theorem fw_c92 : (fw_t 4)[182]? = some (.code (fw_y 92) (fw_B 92) (fw_mL 92) (fw_rt 92)) := rfl
set_option maxRecDepth 20000 in
theorem fw_c93 : (fw_t 4)[190]? = some (.code (fw_y 93) (fw_B 93) (fw_mL 93) (fw_rt 93)) := rfl
set_option maxRecDepth 20000 in
theorem fw_c94 : (fw_t 4)[197]? = some (.code (fw_y 94) (fw_B 94) (fw_mL 94) (fw_rt 94)) := rfl
set_option maxRecDepth 20000 in
theorem fw_c95 : (fw_t 4)[205]? = some (.code (fw_y 95) (fw_B 95) (fw_mL 95) (fw_rt 95)) := rfl
set_option maxRecDepth 20000 in
theorem fw_c96 : (fw_t 4)[213]? = some (.code (fw_y 96) (fw_B 96) (fw_mL 96) (fw_rt 96)) := rfl
set_option maxRecDepth 20000 in
theorem fw_c97 : (fw_t 2)[41]? = some (.code (fw_y 97) (fw_B 97) (fw_mL 97) (fw_rt 97)) := rfl
set_option maxRecDepth 20000 in
theorem fw_c98 : (fw_t 4)[234]? = some (.code (fw_y 98) (fw_B 98) (fw_mL 98) (fw_rt 98)) := rfl
set_option maxRecDepth 20000 in
theorem fw_c99 : (fw_t 5)[23]? = some (.code (fw_y 99) (fw_B 99) (fw_mL 99) (fw_rt 99)) := rfl
set_option maxRecDepth 20000 in
theorem fw_c100 : (fw_t 5)[35]? = some (.code (fw_y 100) (fw_B 100) (fw_mL 100) (fw_rt 100)) := rfl
set_option maxRecDepth 20000 in
theorem fw_c101 : (fw_t 2)[45]? = some (.code (fw_y 101) (fw_B 101) (fw_mL 101) (fw_rt 101)) := rfl
set_option maxRecDepth 20000 in
theorem fw_c102 : (fw_t 5)[60]? = some (.code (fw_y 102) (fw_B 102) (fw_mL 102) (fw_rt 102)) := rfl
set_option maxRecDepth 20000 in
theorem fw_c103 : (fw_t 5)[76]? = some (.code (fw_y 103) (fw_B 103) (fw_mL 103) (fw_rt 103)) := rfl
set_option maxRecDepth 20000 in
theorem fw_c104 : (fw_t 2)[49]? = some (.code (fw_y 104) (fw_B 104) (fw_mL 104) (fw_rt 104)) := rfl
set_option maxRecDepth 20000 in
theorem fw_c105 : (fw_t 3)[46]? = some (.code (fw_y 105) (fw_B 105) (fw_mL 105) (fw_rt 105)) := rfl
set_option maxRecDepth 20000 in
theorem fw_c106 : (fw_t 2)[153]? = some (.code (fw_y 106) (fw_B 106) (fw_mL 106) (fw_rt 106)) := rfl
set_option maxRecDepth 20000 in
theorem fw_c107 : (fw_t 4)[159]? = some (.code (fw_y 107) (fw_B 107) (fw_mL 107) (fw_rt 107)) := rfl
set_option maxRecDepth 20000 in
theorem fw_c108 : (fw_t 4)[15]? = some (.code (fw_y 108) (fw_B 108) (fw_mL 108) (fw_rt 108)) := rfl
set_option maxRecDepth 20000 in
theorem fw_c109 : (fw_t 3)[232]? = some (.code (fw_y 109) (fw_B 109) (fw_mL 109) (fw_rt 109)) := rfl
set_option maxRecDepth 20000 in
theorem fw_c110 : (fw_t 3)[182]? = some (.code (fw_y 110) (fw_B 110) (fw_mL 110) (fw_rt 110)) := rfl
set_option maxRecDepth 20000 in
theorem fw_c111 : (fw_t 4)[63]? = some (.code (fw_y 111) (fw_B 111) (fw_mL 111) (fw_rt 111)) := rfl
set_option maxRecDepth 20000 in
theorem fw_c112 : (fw_t 3)[148]? = some (.code (fw_y 112) (fw_B 112) (fw_mL 112) (fw_rt 112)) := rfl
set_option maxRecDepth 20000 in
theorem fw_c113 : (fw_t 4)[238]? = some (.code (fw_y 113) (fw_B 113) (fw_mL 113) (fw_rt 113)) := rfl
set_option maxRecDepth 20000 in
theorem fw_c114 : (fw_t 5)[64]? = some (.code (fw_y 114) (fw_B 114) (fw_mL 114) (fw_rt 114)) := rfl
set_option maxRecDepth 20000 in
theorem fw_c115 : (fw_t 4)[19]? = some (.code (fw_y 115) (fw_B 115) (fw_mL 115) (fw_rt 115)) := rfl
set_option maxRecDepth 20000 in
theorem fw_c116 : (fw_t 4)[30]? = some (.code (fw_y 116) (fw_B 116) (fw_mL 116) (fw_rt 116)) := rfl
set_option maxRecDepth 20000 in
theorem fw_c117 : (fw_t 4)[50]? = some (.code (fw_y 117) (fw_B 117) (fw_mL 117) (fw_rt 117)) := rfl
set_option maxRecDepth 20000 in
theorem fw_c118 : (fw_t 2)[53]? = some (.code (fw_y 118) (fw_B 118) (fw_mL 118) (fw_rt 118)) := rfl
set_option maxRecDepth 20000 in
theorem fw_c119 : (fw_t 2)[77]? = some (.code (fw_y 119) (fw_B 119) (fw_mL 119) (fw_rt 119)) := rfl
set_option maxRecDepth 20000 in
theorem fw_c120 : (fw_t 2)[57]? = some (.code (fw_y 120) (fw_B 120) (fw_mL 120) (fw_rt 120)) := rfl
set_option maxRecDepth 20000 in
theorem fw_c121 : (fw_t 5)[81]? = some (.code (fw_y 121) (fw_B 121) (fw_mL 121) (fw_rt 121)) := rfl
set_option maxRecDepth 20000 in
theorem fw_c122 : (fw_t 5)[193]? = some (.code (fw_y 122) (fw_B 122) (fw_mL 122) (fw_rt 122)) := rfl
set_option maxRecDepth 20000 in
theorem fw_c123 : (fw_t 5)[200]? = some (.code (fw_y 123) (fw_B 123) (fw_mL 123) (fw_rt 123)) := rfl
set_option maxRecDepth 20000 in
theorem fw_c124 : (fw_t 5)[204]? = some (.code (fw_y 124) (fw_B 124) (fw_mL 124) (fw_rt 124)) := rfl
set_option maxRecDepth 20000 in
theorem fw_c125 : (fw_t 5)[220]? = some (.code (fw_y 125) (fw_B 125) (fw_mL 125) (fw_rt 125)) := rfl
set_option maxRecDepth 20000 in
theorem fw_c126 : (fw_t 6)[69]? = some (.code (fw_y 126) (fw_B 126) (fw_mL 126) (fw_rt 126)) := rfl
set_option maxRecDepth 20000 in
theorem fw_c127 : (fw_t 6)[16]? = some (.code (fw_y 127) (fw_B 127) (fw_mL 127) (fw_rt 127)) := rfl
set_option maxRecDepth 20000 in
theorem fw_c128 : (fw_t 5)[212]? = some (.code (fw_y 128) (fw_B 128) (fw_mL 128) (fw_rt 128)) := rfl
set_option maxRecDepth 20000 in
theorem fw_c129 : (fw_t 5)[197]? = some (.code (fw_y 129) (fw_B 129) (fw_mL 129) (fw_rt 129)) := rfl
set_option maxRecDepth 20000 in
theorem fw_c130 : (fw_t 5)[208]? = some (.code (fw_y 130) (fw_B 130) (fw_mL 130) (fw_rt 130)) := rfl
set_option maxRecDepth 20000 in
theorem fw_c131 : (fw_t 5)[216]? = some (.code (fw_y 131) (fw_B 131) (fw_mL 131) (fw_rt 131)) := rfl
set_option maxRecDepth 20000 in
theorem fw_c132 : (fw_t 5)[224]? = some (.code (fw_y 132) (fw_B 132) (fw_mL 132) (fw_rt 132)) := rfl
set_option maxRecDepth 20000 in
theorem fw_c133 : (fw_t 5)[232]? = some (.code (fw_y 133) (fw_B 133) (fw_mL 133) (fw_rt 133)) := rfl
set_option maxRecDepth 20000 in
theorem fw_c134 : (fw_t 5)[236]? = some (.code (fw_y 134) (fw_B 134) (fw_mL 134) (fw_rt 134)) := rfl
set_option maxRecDepth 20000 in
theorem fw_c135 : (fw_t 6)[0]? = some (.code (fw_y 135) (fw_B 135) (fw_mL 135) (fw_rt 135)) := rfl
set_option maxRecDepth 20000 in
theorem fw_c136 : (fw_t 6)[4]? = some (.code (fw_y 136) (fw_B 136) (fw_mL 136) (fw_rt 136)) := rfl
set_option maxRecDepth 20000 in
theorem fw_c137 : (fw_t 5)[228]? = some (.code (fw_y 137) (fw_B 137) (fw_mL 137) (fw_rt 137)) := rfl
set_option maxRecDepth 20000 in
theorem fw_c138 : (fw_t 6)[8]? = some (.code (fw_y 138) (fw_B 138) (fw_mL 138) (fw_rt 138)) := rfl
set_option maxRecDepth 20000 in
theorem fw_c139 : (fw_t 6)[12]? = some (.code (fw_y 139) (fw_B 139) (fw_mL 139) (fw_rt 139)) := rfl
set_option maxRecDepth 20000 in
theorem fw_c140 : (fw_t 6)[28]? = some (.code (fw_y 140) (fw_B 140) (fw_mL 140) (fw_rt 140)) := rfl
set_option maxRecDepth 20000 in
theorem fw_c141 : (fw_t 6)[32]? = some (.code (fw_y 141) (fw_B 141) (fw_mL 141) (fw_rt 141)) := rfl
set_option maxRecDepth 20000 in
theorem fw_c142 : (fw_t 6)[40]? = some (.code (fw_y 142) (fw_B 142) (fw_mL 142) (fw_rt 142)) := rfl
set_option maxRecDepth 20000 in
theorem fw_c143 : (fw_t 6)[36]? = some (.code (fw_y 143) (fw_B 143) (fw_mL 143) (fw_rt 143)) := rfl
set_option maxRecDepth 20000 in
theorem fw_c144 : (fw_t 6)[24]? = some (.code (fw_y 144) (fw_B 144) (fw_mL 144) (fw_rt 144)) := rfl
set_option maxRecDepth 20000 in
theorem fw_c145 : (fw_t 6)[20]? = some (.code (fw_y 145) (fw_B 145) (fw_mL 145) (fw_rt 145)) := rfl
set_option maxRecDepth 20000 in
theorem fw_c146 : (fw_t 6)[48]? = some (.code (fw_y 146) (fw_B 146) (fw_mL 146) (fw_rt 146)) := rfl
set_option maxRecDepth 20000 in
theorem fw_c147 : (fw_t 6)[44]? = some (.code (fw_y 147) (fw_B 147) (fw_mL 147) (fw_rt 147)) := rfl
set_option maxRecDepth 20000 in
theorem fw_c148 : (fw_t 6)[52]? = some (.code (fw_y 148) (fw_B 148) (fw_mL 148) (fw_rt 148)) := rfl
set_option maxRecDepth 20000 in
theorem fw_c149 : (fw_t 6)[57]? = some (.code (fw_y 149) (fw_B 149) (fw_mL 149) (fw_rt 149)) := rfl
set_option maxRecDepth 20000 in
theorem fw_c150 : (fw_t 6)[61]? = some (.code (fw_y 150) (fw_B 150) (fw_mL 150) (fw_rt 150)) := rfl
set_option maxRecDepth 20000 in
theorem fw_c151 : (fw_t 6)[65]? = some (.code (fw_y 151) (fw_B 151) (fw_mL 151) (fw_rt 151)) := rfl
set_option maxRecDepth 20000 in
theorem fw_c152 : (fw_t 6)[77]? = some (.code (fw_y 152) (fw_B 152) (fw_mL 152) (fw_rt 152)) := rfl
set_option maxRecDepth 20000 in
theorem fw_c153 : (fw_t 6)[73]? = some (.code (fw_y 153) (fw_B 153) (fw_mL 153) (fw_rt 153)) := rfl
set_option maxRecDepth 20000 in
theorem fw_c154 : (fw_t 6)[81]? = some (.code (fw_y 154) (fw_B 154) (fw_mL 154) (fw_rt 154)) := rfl
set_option maxRecDepth 20000 in
theorem fw_c155 : (fw_t 6)[85]? = some (.code (fw_y 155) (fw_B 155) (fw_mL 155) (fw_rt 155)) := rfl
set_option maxRecDepth 20000 in
theorem fw_c156 : (fw_t 6)[89]? = some (.code (fw_y 156) (fw_B 156) (fw_mL 156) (fw_rt 156)) := rfl
set_option maxRecDepth 20000 in
theorem fw_c157 : (fw_t 6)[93]? = some (.code (fw_y 157) (fw_B 157) (fw_mL 157) (fw_rt 157)) := rfl
set_option maxRecDepth 20000 in
theorem fw_c158 : (fw_t 6)[97]? = some (.code (fw_y 158) (fw_B 158) (fw_mL 158) (fw_rt 158)) := rfl
set_option maxRecDepth 20000 in
theorem fw_c159 : (fw_t 6)[109]? = some (.code (fw_y 159) (fw_B 159) (fw_mL 159) (fw_rt 159)) := rfl
set_option maxRecDepth 20000 in
theorem fw_c160 : (fw_t 6)[105]? = some (.code (fw_y 160) (fw_B 160) (fw_mL 160) (fw_rt 160)) := rfl
set_option maxRecDepth 20000 in
theorem fw_c161 : (fw_t 6)[117]? = some (.code (fw_y 161) (fw_B 161) (fw_mL 161) (fw_rt 161)) := rfl
set_option maxRecDepth 20000 in
theorem fw_c162 : (fw_t 6)[113]? = some (.code (fw_y 162) (fw_B 162) (fw_mL 162) (fw_rt 162)) := rfl
set_option maxRecDepth 20000 in
theorem fw_c163 : (fw_t 6)[101]? = some (.code (fw_y 163) (fw_B 163) (fw_mL 163) (fw_rt 163)) := rfl
set_option maxRecDepth 20000 in
theorem fw_c164 : (fw_t 6)[124]? = some (.code (fw_y 164) (fw_B 164) (fw_mL 164) (fw_rt 164)) := rfl
set_option maxRecDepth 20000 in
theorem fw_c165 : (fw_t 6)[121]? = some (.code (fw_y 165) (fw_B 165) (fw_mL 165) (fw_rt 165)) := rfl
set_option maxRecDepth 20000 in
theorem fw_c166 : (fw_t 6)[128]? = some (.code (fw_y 166) (fw_B 166) (fw_mL 166) (fw_rt 166)) := rfl
set_option maxRecDepth 20000 in
theorem fw_c167 : (fw_t 6)[132]? = some (.code (fw_y 167) (fw_B 167) (fw_mL 167) (fw_rt 167)) := rfl
set_option maxRecDepth 20000 in
theorem fw_c168 : (fw_t 6)[136]? = some (.code (fw_y 168) (fw_B 168) (fw_mL 168) (fw_rt 168)) := rfl
set_option maxRecDepth 20000 in
theorem fw_c169 : (fw_t 6)[140]? = some (.code (fw_y 169) (fw_B 169) (fw_mL 169) (fw_rt 169)) := rfl
set_option maxRecDepth 20000 in
theorem fw_c170 : (fw_t 6)[148]? = some (.code (fw_y 170) (fw_B 170) (fw_mL 170) (fw_rt 170)) := rfl
set_option maxRecDepth 20000 in
theorem fw_c171 : (fw_t 6)[144]? = some (.code (fw_y 171) (fw_B 171) (fw_mL 171) (fw_rt 171)) := rfl
set_option maxRecDepth 20000 in
theorem fw_c172 : (fw_t 6)[152]? = some (.code (fw_y 172) (fw_B 172) (fw_mL 172) (fw_rt 172)) := rfl
set_option maxRecDepth 20000 in
theorem fw_c173 : (fw_t 6)[157]? = some (.code (fw_y 173) (fw_B 173) (fw_mL 173) (fw_rt 173)) := rfl
set_option maxRecDepth 20000 in
theorem fw_c174 : (fw_t 6)[161]? = some (.code (fw_y 174) (fw_B 174) (fw_mL 174) (fw_rt 174)) := rfl
set_option maxRecDepth 20000 in
theorem fw_c175 : (fw_t 6)[169]? = some (.code (fw_y 175) (fw_B 175) (fw_mL 175) (fw_rt 175)) := rfl
set_option maxRecDepth 20000 in
theorem fw_c176 : (fw_t 6)[165]? = some (.code (fw_y 176) (fw_B 176) (fw_mL 176) (fw_rt 176)) := rfl
set_option maxRecDepth 20000 in
theorem fw_c177 : (fw_t 6)[173]? = some (.code (fw_y 177) (fw_B 177) (fw_mL 177) (fw_rt 177)) := rfl
set_option maxRecDepth 20000 in
theorem fw_c178 : (fw_t 6)[177]? = some (.code (fw_y 178) (fw_B 178) (fw_mL 178) (fw_rt 178)) := rfl
set_option maxRecDepth 20000 in
theorem fw_c179 : (fw_t 6)[181]? = some (.code (fw_y 179) (fw_B 179) (fw_mL 179) (fw_rt 179)) := rfl
set_option maxRecDepth 20000 in
theorem fw_c180 : (fw_t 6)[185]? = some (.code (fw_y 180) (fw_B 180) (fw_mL 180) (fw_rt 180)) := rfl
set_option maxRecDepth 20000 in
theorem fw_c181 : (fw_t 6)[189]? = some (.code (fw_y 181) (fw_B 181) (fw_mL 181) (fw_rt 181)) := rfl
set_option maxRecDepth 20000 in
theorem fw_c182 : (fw_t 6)[193]? = some (.code (fw_y 182) (fw_B 182) (fw_mL 182) (fw_rt 182)) := rfl
set_option maxRecDepth 20000 in
theorem fw_c183 : (fw_t 2)[185]? = some (.codeWith (fw_y 183) (fw_B 183) (fw_mL 183) (fw_rt 183) ((fw_hs 183).map (fun h => (h.1, h.2.1, h.2.2.1, h.2.2.2.1)))) := rfl
set_option maxRecDepth 20000 in
theorem fw_c184 : (fw_t 3)[38]? = some (.codeWith (fw_y 184) (fw_B 184) (fw_mL 184) (fw_rt 184) ((fw_hs 184).map (fun h => (h.1, h.2.1, h.2.2.1, h.2.2.2.1)))) := rfl
set_option maxRecDepth 20000 in
theorem fw_c185 : (fw_t 3)[107]? = some (.codeWith (fw_y 185) (fw_B 185) (fw_mL 185) (fw_rt 185) ((fw_hs 185).map (fun h => (h.1, h.2.1, h.2.2.1, h.2.2.2.1)))) := rfl
set_option maxRecDepth 20000 in
theorem fw_c186 : (fw_t 3)[166]? = some (.codeWith (fw_y 186) (fw_B 186) (fw_mL 186) (fw_rt 186) ((fw_hs 186).map (fun h => (h.1, h.2.1, h.2.2.1, h.2.2.2.1)))) := rfl
set_option maxRecDepth 20000 in
theorem fw_c187 : (fw_t 3)[173]? = some (.codeWith (fw_y 187) (fw_B 187) (fw_mL 187) (fw_rt 187) ((fw_hs 187).map (fun h => (h.1, h.2.1, h.2.2.1, h.2.2.2.1)))) := rfl
set_option maxRecDepth 20000 in
theorem fw_c188 : (fw_t 3)[217]? = some (.codeWith (fw_y 188) (fw_B 188) (fw_mL 188) (fw_rt 188) ((fw_hs 188).map (fun h => (h.1, h.2.1, h.2.2.1, h.2.2.2.1)))) := rfl
set_option maxRecDepth 20000 in
theorem fw_c189 : (fw_t 3)[224]? = some (.codeWith (fw_y 189) (fw_B 189) (fw_mL 189) (fw_rt 189) ((fw_hs 189).map (fun h => (h.1, h.2.1, h.2.2.1, h.2.2.2.1)))) := rfl
set_option maxRecDepth 20000 in
theorem fw_c190 : (fw_t 3)[236]? = some (.codeWith (fw_y 190) (fw_B 190) (fw_mL 190) (fw_rt 190) ((fw_hs 190).map (fun h => (h.1, h.2.1, h.2.2.1, h.2.2.2.1)))) := rfl
set_option maxRecDepth 20000 in
theorem fw_c191 : (fw_t 4)[8]? = some (.codeWith (fw_y 191) (fw_B 191) (fw_mL 191) (fw_rt 191) ((fw_hs 191).map (fun h => (h.1, h.2.1, h.2.2.1, h.2.2.2.1)))) := rfl
set_option maxRecDepth 20000 in
theorem fw_c192 : (fw_t 4)[55]? = some (.codeWith (fw_y 192) (fw_B 192) (fw_mL 192) (fw_rt 192) ((fw_hs 192).map (fun h => (h.1, h.2.1, h.2.2.1, h.2.2.2.1)))) := rfl
set_option maxRecDepth 20000 in
theorem fw_c193 : (fw_t 4)[70]? = some (.codeWith (fw_y 193) (fw_B 193) (fw_mL 193) (fw_rt 193) ((fw_hs 193).map (fun h => (h.1, h.2.1, h.2.2.1, h.2.2.2.1)))) := rfl
set_option maxRecDepth 20000 in
theorem fw_c194 : (fw_t 4)[82]? = some (.codeWith (fw_y 194) (fw_B 194) (fw_mL 194) (fw_rt 194) ((fw_hs 194).map (fun h => (h.1, h.2.1, h.2.2.1, h.2.2.2.1)))) := rfl
set_option maxRecDepth 20000 in
theorem fw_c195 : (fw_t 4)[93]? = some (.codeWith (fw_y 195) (fw_B 195) (fw_mL 195) (fw_rt 195) ((fw_hs 195).map (fun h => (h.1, h.2.1, h.2.2.1, h.2.2.2.1)))) := rfl
set_option maxRecDepth 20000 in
theorem fw_c196 : (fw_t 4)[100]? = some (.codeWith (fw_y 196) (fw_B 196) (fw_mL 196) (fw_rt 196) ((fw_hs 196).map (fun h => (h.1, h.2.1, h.2.2.1, h.2.2.2.1)))) := rfl
set_option maxRecDepth 20000 in
theorem fw_c197 : (fw_t 4)[107]? = some (.codeWith (fw_y 197) (fw_B 197) (fw_mL 197) (fw_rt 197) ((fw_hs 197).map (fun h => (h.1, h.2.1, h.2.2.1, h.2.2.2.1)))) := rfl
set_option maxRecDepth 20000 in
theorem fw_c198 : (fw_t 4)[114]? = some (.codeWith (fw_y 198) (fw_B 198) (fw_mL 198) (fw_rt 198) ((fw_hs 198).map (fun h => (h.1, h.2.1, h.2.2.1, h.2.2.2.1)))) := rfl
set_option maxRecDepth 20000 in
theorem fw_c199 : (fw_t 4)[152]? = some (.codeWith (fw_y 199) (fw_B 199) (fw_mL 199) (fw_rt 199) ((fw_hs 199).map (fun h => (h.1, h.2.1, h.2.2.1, h.2.2.2.1)))) := rfl
set_option maxRecDepth 20000 in
theorem fw_c200 : (fw_t 4)[164]? = some (.codeWith (fw_y 200) (fw_B 200) (fw_mL 200) (fw_rt 200) ((fw_hs 200).map (fun h => (h.1, h.2.1, h.2.2.1, h.2.2.2.1)))) := rfl
set_option maxRecDepth 20000 in
theorem fw_c201 : (fw_t 4)[171]? = some (.codeWith (fw_y 201) (fw_B 201) (fw_mL 201) (fw_rt 201) ((fw_hs 201).map (fun h => (h.1, h.2.1, h.2.2.1, h.2.2.2.1)))) := rfl
set_option maxRecDepth 20000 in
theorem fw_c202 : (fw_t 4)[178]? = some (.codeWith (fw_y 202) (fw_B 202) (fw_mL 202) (fw_rt 202) ((fw_hs 202).map (fun h => (h.1, h.2.1, h.2.2.1, h.2.2.2.1)))) := rfl
set_option maxRecDepth 20000 in
theorem fw_c203 : (fw_t 4)[186]? = some (.codeWith (fw_y 203) (fw_B 203) (fw_mL 203) (fw_rt 203) ((fw_hs 203).map (fun h => (h.1, h.2.1, h.2.2.1, h.2.2.2.1)))) := rfl
set_option maxRecDepth 20000 in
theorem fw_c204 : (fw_t 4)[193]? = some (.codeWith (fw_y 204) (fw_B 204) (fw_mL 204) (fw_rt 204) ((fw_hs 204).map (fun h => (h.1, h.2.1, h.2.2.1, h.2.2.2.1)))) := rfl
set_option maxRecDepth 20000 in
theorem fw_c205 : (fw_t 4)[201]? = some (.codeWith (fw_y 205) (fw_B 205) (fw_mL 205) (fw_rt 205) ((fw_hs 205).map (fun h => (h.1, h.2.1, h.2.2.1, h.2.2.2.1)))) := rfl
set_option maxRecDepth 20000 in
theorem fw_c206 : (fw_t 4)[209]? = some (.codeWith (fw_y 206) (fw_B 206) (fw_mL 206) (fw_rt 206) ((fw_hs 206).map (fun h => (h.1, h.2.1, h.2.2.1, h.2.2.2.1)))) := rfl
set_option maxRecDepth 20000 in
theorem fw_c207 : (fw_t 4)[230]? = some (.codeWith (fw_y 207) (fw_B 207) (fw_mL 207) (fw_rt 207) ((fw_hs 207).map (fun h => (h.1, h.2.1, h.2.2.1, h.2.2.2.1)))) := rfl
set_option maxRecDepth 20000 in
theorem fw_c208 : (fw_t 5)[19]? = some (.codeWith (fw_y 208) (fw_B 208) (fw_mL 208) (fw_rt 208) ((fw_hs 208).map (fun h => (h.1, h.2.1, h.2.2.1, h.2.2.2.1)))) := rfl
set_option maxRecDepth 20000 in
theorem fw_c209 : (fw_t 5)[31]? = some (.codeWith (fw_y 209) (fw_B 209) (fw_mL 209) (fw_rt 209) ((fw_hs 209).map (fun h => (h.1, h.2.1, h.2.2.1, h.2.2.2.1)))) := rfl
set_option maxRecDepth 20000 in
theorem fw_c210 : (fw_t 5)[42]? = some (.codeWith (fw_y 210) (fw_B 210) (fw_mL 210) (fw_rt 210) ((fw_hs 210).map (fun h => (h.1, h.2.1, h.2.2.1, h.2.2.2.1)))) := rfl
set_option maxRecDepth 20000 in
theorem fw_c211 : (fw_t 5)[72]? = some (.codeWith (fw_y 211) (fw_B 211) (fw_mL 211) (fw_rt 211) ((fw_hs 211).map (fun h => (h.1, h.2.1, h.2.2.1, h.2.2.2.1)))) := rfl
def fw_cw (k : Nat) : Cond := if fw_ki k = 3 then .codeWith (fw_y k) (fw_B k) (fw_mL k) (fw_rt k) ((fw_hs k).map (fun h => (h.1, h.2.1, h.2.2.1, h.2.2.2.1))) else .code (fw_y k) (fw_B k) (fw_mL k) (fw_rt k)
theorem fw_cwa0 (k : Nat) (h : k < 53) (h0 : 0 < k + 0) : fw_cw (k + 0) ∈ fw_ws := by
  match k, h, h0 with
  | 0, _, h0 => exact absurd h0 (by decide)
  | 1, _, _ => exact fw_wd 1 81 fw_c1 rfl
  | 2, _, _ => exact fw_wd 1 86 fw_c2 rfl
  | 3, _, _ => exact fw_wd 2 116 fw_c3 rfl
  | 4, _, _ => exact fw_wd 2 69 fw_c4 rfl
  | 5, _, _ => exact fw_wd 2 65 fw_c5 rfl
  | 6, _, _ => exact fw_wd 2 124 fw_c6 rfl
  | 7, _, _ => exact fw_wd 2 61 fw_c7 rfl
  | 8, _, _ => exact fw_wd 2 162 fw_c8 rfl
  | 9, _, _ => exact fw_wd 4 78 fw_c9 rfl
  | 10, _, _ => exact fw_wd 2 133 fw_c10 rfl
  | 11, _, _ => exact fw_wd 2 157 fw_c11 rfl
  | 12, _, _ => exact fw_wd 3 74 fw_c12 rfl
  | 13, _, _ => exact fw_wd 4 42 fw_c13 rfl
  | 14, _, _ => exact fw_wd 4 227 fw_c14 rfl
  | 15, _, _ => exact fw_wd 2 94 fw_c15 rfl
  | 16, _, _ => exact fw_wd 2 98 fw_c16 rfl
  | 17, _, _ => exact fw_wd 1 218 fw_c17 rfl
  | 18, _, _ => exact fw_wd 5 2 fw_c18 rfl
  | 19, _, _ => exact fw_wd 4 217 fw_c19 rfl
  | 20, _, _ => exact fw_wd 5 10 fw_c20 rfl
  | 21, _, _ => exact fw_wd 5 15 fw_c21 rfl
  | 22, _, _ => exact fw_wd 5 28 fw_c22 rfl
  | 23, _, _ => exact fw_wd 5 6 fw_c23 rfl
  | 24, _, _ => exact fw_wd 1 164 fw_c24 rfl
  | 25, _, _ => exact fw_wd 2 107 fw_c25 rfl
  | 26, _, _ => exact fw_wd 2 170 fw_c26 rfl
  | 27, _, _ => exact fw_wd 2 111 fw_c27 rfl
  | 28, _, _ => exact fw_wd 2 120 fw_c28 rfl
  | 29, _, _ => exact fw_wd 2 174 fw_c29 rfl
  | 30, _, _ => exact fw_wd 2 178 fw_c30 rfl
  | 31, _, _ => exact fw_wd 2 137 fw_c31 rfl
  | 32, _, _ => exact fw_wd 1 35 fw_c32 rfl
  | 33, _, _ => exact fw_wd 2 85 fw_c33 rfl
  | 34, _, _ => exact fw_wd 4 5 fw_c34 rfl
  | 35, _, _ => exact fw_wd 4 25 fw_c35 rfl
  | 36, _, _ => exact fw_wd 4 37 fw_c36 rfl
  | 37, _, _ => exact fw_wd 4 223 fw_c37 rfl
  | 38, _, _ => exact fw_wd 2 141 fw_c38 rfl
  | 39, _, _ => exact fw_wd 4 67 fw_c39 rfl
  | 40, _, _ => exact fw_wd 4 90 fw_c40 rfl
  | 41, _, _ => exact fw_wd 5 39 fw_c41 rfl
  | 42, _, _ => exact fw_wd 4 130 fw_c42 rfl
  | 43, _, _ => exact fw_wd 1 200 fw_c43 rfl
  | 44, _, _ => exact fw_wd 2 81 fw_c44 rfl
  | 45, _, _ => exact fw_wd 4 46 fw_c45 rfl
  | 46, _, _ => exact fw_wd 2 102 fw_c46 rfl
  | 47, _, _ => exact fw_wd 1 111 fw_c47 rfl
  | 48, _, _ => exact fw_wd 3 70 fw_c48 rfl
  | 49, _, _ => exact fw_wd 2 73 fw_c49 rfl
  | 50, _, _ => exact fw_wd 2 182 fw_c50 rfl
  | 51, _, _ => exact fw_wd 3 50 fw_c51 rfl
  | 52, _, _ => exact fw_wd 3 186 fw_c52 rfl
  | n + 53, h, _ => exact absurd h (by omega)
theorem fw_cwa53 (k : Nat) (h : k < 53) (h0 : 0 < k + 53) : fw_cw (k + 53) ∈ fw_ws := by
  match k, h, h0 with
  | 0, _, _ => exact fw_wd 3 206 fw_c53 rfl
  | 1, _, _ => exact fw_wd 3 210 fw_c54 rfl
  | 2, _, _ => exact fw_wd 3 214 fw_c55 rfl
  | 3, _, _ => exact fw_wd 4 122 fw_c56 rfl
  | 4, _, _ => exact fw_wd 2 150 fw_c57 rfl
  | 5, _, _ => exact fw_wd 4 134 fw_c58 rfl
  | 6, _, _ => exact fw_wd 2 129 fw_c59 rfl
  | 7, _, _ => exact fw_wd 2 146 fw_c60 rfl
  | 8, _, _ => exact fw_wd 2 166 fw_c61 rfl
  | 9, _, _ => exact fw_wd 2 89 fw_c62 rfl
  | 10, _, _ => exact fw_wd 1 145 fw_c63 rfl
  | 11, _, _ => exact fw_wd 4 126 fw_c64 rfl
  | 12, _, _ => exact fw_wd 4 148 fw_c65 rfl
  | 13, _, _ => exact fw_wd 4 138 fw_c66 rfl
  | 14, _, _ => exact fw_wd 4 142 fw_c67 rfl
  | 15, _, _ => exact fw_wd 1 27 fw_c68 rfl
  | 16, _, _ => exact fw_wd 2 191 fw_c69 rfl
  | 17, _, _ => exact fw_wd 3 43 fw_c70 rfl
  | 18, _, _ => exact fw_wd 3 144 fw_c71 rfl
  | 19, _, _ => exact fw_wd 3 170 fw_c72 rfl
  | 20, _, _ => exact fw_wd 3 178 fw_c73 rfl
  | 21, _, _ => exact fw_wd 3 221 fw_c74 rfl
  | 22, _, _ => exact fw_wd 3 228 fw_c75 rfl
  | 23, _, _ => exact fw_wd 4 0 fw_c76 rfl
  | 24, _, _ => exact fw_wd 4 12 fw_c77 rfl
  | 25, _, _ => exact fw_wd 2 25 fw_c78 rfl
  | 26, _, _ => exact fw_wd 4 59 fw_c79 rfl
  | 27, _, _ => exact fw_wd 4 74 fw_c80 rfl
  | 28, _, _ => exact fw_wd 4 86 fw_c81 rfl
  | 29, _, _ => exact fw_wd 4 97 fw_c82 rfl
  | 30, _, _ => exact fw_wd 2 29 fw_c83 rfl
  | 31, _, _ => exact fw_wd 2 33 fw_c84 rfl
  | 32, _, _ => exact fw_wd 2 37 fw_c85 rfl
  | 33, _, _ => exact fw_wd 4 104 fw_c86 rfl
  | 34, _, _ => exact fw_wd 4 111 fw_c87 rfl
  | 35, _, _ => exact fw_wd 4 118 fw_c88 rfl
  | 36, _, _ => exact fw_wd 4 156 fw_c89 rfl
  | 37, _, _ => exact fw_wd 4 168 fw_c90 rfl
  | 38, _, _ => exact fw_wd 4 175 fw_c91 rfl
  | 39, _, _ => exact fw_wd 4 182 fw_c92 rfl
  | 40, _, _ => exact fw_wd 4 190 fw_c93 rfl
  | 41, _, _ => exact fw_wd 4 197 fw_c94 rfl
  | 42, _, _ => exact fw_wd 4 205 fw_c95 rfl
  | 43, _, _ => exact fw_wd 4 213 fw_c96 rfl
  | 44, _, _ => exact fw_wd 2 41 fw_c97 rfl
  | 45, _, _ => exact fw_wd 4 234 fw_c98 rfl
  | 46, _, _ => exact fw_wd 5 23 fw_c99 rfl
  | 47, _, _ => exact fw_wd 5 35 fw_c100 rfl
  | 48, _, _ => exact fw_wd 2 45 fw_c101 rfl
  | 49, _, _ => exact fw_wd 5 60 fw_c102 rfl
  | 50, _, _ => exact fw_wd 5 76 fw_c103 rfl
  | 51, _, _ => exact fw_wd 2 49 fw_c104 rfl
  | 52, _, _ => exact fw_wd 3 46 fw_c105 rfl
  | n + 53, h, _ => exact absurd h (by omega)
theorem fw_cwa106 (k : Nat) (h : k < 53) (h0 : 0 < k + 106) : fw_cw (k + 106) ∈ fw_ws := by
  match k, h, h0 with
  | 0, _, _ => exact fw_wd 2 153 fw_c106 rfl
  | 1, _, _ => exact fw_wd 4 159 fw_c107 rfl
  | 2, _, _ => exact fw_wd 4 15 fw_c108 rfl
  | 3, _, _ => exact fw_wd 3 232 fw_c109 rfl
  | 4, _, _ => exact fw_wd 3 182 fw_c110 rfl
  | 5, _, _ => exact fw_wd 4 63 fw_c111 rfl
  | 6, _, _ => exact fw_wd 3 148 fw_c112 rfl
  | 7, _, _ => exact fw_wd 4 238 fw_c113 rfl
  | 8, _, _ => exact fw_wd 5 64 fw_c114 rfl
  | 9, _, _ => exact fw_wd 4 19 fw_c115 rfl
  | 10, _, _ => exact fw_wd 4 30 fw_c116 rfl
  | 11, _, _ => exact fw_wd 4 50 fw_c117 rfl
  | 12, _, _ => exact fw_wd 2 53 fw_c118 rfl
  | 13, _, _ => exact fw_wd 2 77 fw_c119 rfl
  | 14, _, _ => exact fw_wd 2 57 fw_c120 rfl
  | 15, _, _ => exact fw_wd 5 81 fw_c121 rfl
  | 16, _, _ => exact fw_wd 5 193 fw_c122 rfl
  | 17, _, _ => exact fw_wd 5 200 fw_c123 rfl
  | 18, _, _ => exact fw_wd 5 204 fw_c124 rfl
  | 19, _, _ => exact fw_wd 5 220 fw_c125 rfl
  | 20, _, _ => exact fw_wd 6 69 fw_c126 rfl
  | 21, _, _ => exact fw_wd 6 16 fw_c127 rfl
  | 22, _, _ => exact fw_wd 5 212 fw_c128 rfl
  | 23, _, _ => exact fw_wd 5 197 fw_c129 rfl
  | 24, _, _ => exact fw_wd 5 208 fw_c130 rfl
  | 25, _, _ => exact fw_wd 5 216 fw_c131 rfl
  | 26, _, _ => exact fw_wd 5 224 fw_c132 rfl
  | 27, _, _ => exact fw_wd 5 232 fw_c133 rfl
  | 28, _, _ => exact fw_wd 5 236 fw_c134 rfl
  | 29, _, _ => exact fw_wd 6 0 fw_c135 rfl
  | 30, _, _ => exact fw_wd 6 4 fw_c136 rfl
  | 31, _, _ => exact fw_wd 5 228 fw_c137 rfl
  | 32, _, _ => exact fw_wd 6 8 fw_c138 rfl
  | 33, _, _ => exact fw_wd 6 12 fw_c139 rfl
  | 34, _, _ => exact fw_wd 6 28 fw_c140 rfl
  | 35, _, _ => exact fw_wd 6 32 fw_c141 rfl
  | 36, _, _ => exact fw_wd 6 40 fw_c142 rfl
  | 37, _, _ => exact fw_wd 6 36 fw_c143 rfl
  | 38, _, _ => exact fw_wd 6 24 fw_c144 rfl
  | 39, _, _ => exact fw_wd 6 20 fw_c145 rfl
  | 40, _, _ => exact fw_wd 6 48 fw_c146 rfl
  | 41, _, _ => exact fw_wd 6 44 fw_c147 rfl
  | 42, _, _ => exact fw_wd 6 52 fw_c148 rfl
  | 43, _, _ => exact fw_wd 6 57 fw_c149 rfl
  | 44, _, _ => exact fw_wd 6 61 fw_c150 rfl
  | 45, _, _ => exact fw_wd 6 65 fw_c151 rfl
  | 46, _, _ => exact fw_wd 6 77 fw_c152 rfl
  | 47, _, _ => exact fw_wd 6 73 fw_c153 rfl
  | 48, _, _ => exact fw_wd 6 81 fw_c154 rfl
  | 49, _, _ => exact fw_wd 6 85 fw_c155 rfl
  | 50, _, _ => exact fw_wd 6 89 fw_c156 rfl
  | 51, _, _ => exact fw_wd 6 93 fw_c157 rfl
  | 52, _, _ => exact fw_wd 6 97 fw_c158 rfl
  | n + 53, h, _ => exact absurd h (by omega)
theorem fw_cwa159 (k : Nat) (h : k < 53) (h0 : 0 < k + 159) : fw_cw (k + 159) ∈ fw_ws := by
  match k, h, h0 with
  | 0, _, _ => exact fw_wd 6 109 fw_c159 rfl
  | 1, _, _ => exact fw_wd 6 105 fw_c160 rfl
  | 2, _, _ => exact fw_wd 6 117 fw_c161 rfl
  | 3, _, _ => exact fw_wd 6 113 fw_c162 rfl
  | 4, _, _ => exact fw_wd 6 101 fw_c163 rfl
  | 5, _, _ => exact fw_wd 6 124 fw_c164 rfl
  | 6, _, _ => exact fw_wd 6 121 fw_c165 rfl
  | 7, _, _ => exact fw_wd 6 128 fw_c166 rfl
  | 8, _, _ => exact fw_wd 6 132 fw_c167 rfl
  | 9, _, _ => exact fw_wd 6 136 fw_c168 rfl
  | 10, _, _ => exact fw_wd 6 140 fw_c169 rfl
  | 11, _, _ => exact fw_wd 6 148 fw_c170 rfl
  | 12, _, _ => exact fw_wd 6 144 fw_c171 rfl
  | 13, _, _ => exact fw_wd 6 152 fw_c172 rfl
  | 14, _, _ => exact fw_wd 6 157 fw_c173 rfl
  | 15, _, _ => exact fw_wd 6 161 fw_c174 rfl
  | 16, _, _ => exact fw_wd 6 169 fw_c175 rfl
  | 17, _, _ => exact fw_wd 6 165 fw_c176 rfl
  | 18, _, _ => exact fw_wd 6 173 fw_c177 rfl
  | 19, _, _ => exact fw_wd 6 177 fw_c178 rfl
  | 20, _, _ => exact fw_wd 6 181 fw_c179 rfl
  | 21, _, _ => exact fw_wd 6 185 fw_c180 rfl
  | 22, _, _ => exact fw_wd 6 189 fw_c181 rfl
  | 23, _, _ => exact fw_wd 6 193 fw_c182 rfl
  | 24, _, _ => exact fw_wd 2 185 fw_c183 rfl
  | 25, _, _ => exact fw_wd 3 38 fw_c184 rfl
  | 26, _, _ => exact fw_wd 3 107 fw_c185 rfl
  | 27, _, _ => exact fw_wd 3 166 fw_c186 rfl
  | 28, _, _ => exact fw_wd 3 173 fw_c187 rfl
  | 29, _, _ => exact fw_wd 3 217 fw_c188 rfl
  | 30, _, _ => exact fw_wd 3 224 fw_c189 rfl
  | 31, _, _ => exact fw_wd 3 236 fw_c190 rfl
  | 32, _, _ => exact fw_wd 4 8 fw_c191 rfl
  | 33, _, _ => exact fw_wd 4 55 fw_c192 rfl
  | 34, _, _ => exact fw_wd 4 70 fw_c193 rfl
  | 35, _, _ => exact fw_wd 4 82 fw_c194 rfl
  | 36, _, _ => exact fw_wd 4 93 fw_c195 rfl
  | 37, _, _ => exact fw_wd 4 100 fw_c196 rfl
  | 38, _, _ => exact fw_wd 4 107 fw_c197 rfl
  | 39, _, _ => exact fw_wd 4 114 fw_c198 rfl
  | 40, _, _ => exact fw_wd 4 152 fw_c199 rfl
  | 41, _, _ => exact fw_wd 4 164 fw_c200 rfl
  | 42, _, _ => exact fw_wd 4 171 fw_c201 rfl
  | 43, _, _ => exact fw_wd 4 178 fw_c202 rfl
  | 44, _, _ => exact fw_wd 4 186 fw_c203 rfl
  | 45, _, _ => exact fw_wd 4 193 fw_c204 rfl
  | 46, _, _ => exact fw_wd 4 201 fw_c205 rfl
  | 47, _, _ => exact fw_wd 4 209 fw_c206 rfl
  | 48, _, _ => exact fw_wd 4 230 fw_c207 rfl
  | 49, _, _ => exact fw_wd 5 19 fw_c208 rfl
  | 50, _, _ => exact fw_wd 5 31 fw_c209 rfl
  | 51, _, _ => exact fw_wd 5 42 fw_c210 rfl
  | 52, _, _ => exact fw_wd 5 72 fw_c211 rfl
  | n + 53, h, _ => exact absurd h (by omega)
theorem fw_cwi (k : Nat) (h : k < 212) (h0 : 0 < k) : fw_cw k ∈ fw_ws := by
  rcases Nat.lt_or_ge k 53 with q | q
  · exact fw_cwa0 k q h0
  · rcases Nat.lt_or_ge k 106 with q2 | q2
    · obtain ⟨j, rfl⟩ : ∃ j, k = j + 53 := ⟨k - 53, by omega⟩
      exact fw_cwa53 j (by omega) (by omega)
    · rcases Nat.lt_or_ge k 159 with q3 | q3
      · obtain ⟨j, rfl⟩ : ∃ j, k = j + 106 := ⟨k - 106, by omega⟩
        exact fw_cwa106 j (by omega) (by omega)
      · obtain ⟨j, rfl⟩ : ∃ j, k = j + 159 := ⟨k - 159, by omega⟩
        exact fw_cwa159 j (by omega) (by omega)
def fw_iT : List (Nat × Nat) := [(0, 0), (1, 80), (1, 84), (2, 114), (2, 67), (2, 63), (2, 122), (2, 59), (2, 160), (4, 76), (2, 131), (2, 155), (3, 73), (4, 40), (4, 225), (2, 92), (2, 96), (1, 217), (5, 0), (4, 215), (5, 8), (5, 13), (5, 26), (5, 4), (1, 163), (2, 105), (2, 168), (2, 109), (2, 118), (2, 172), (2, 176), (2, 135), (1, 34), (2, 83), (4, 3), (4, 23), (4, 35), (4, 221), (2, 139), (4, 65), (4, 88), (5, 37), (4, 128), (1, 199), (2, 79), (4, 44), (2, 100), (1, 110), (3, 68), (2, 71), (2, 180), (3, 48), (3, 184), (3, 204), (3, 208), (3, 212), (4, 120), (2, 148), (4, 132), (2, 127), (2, 144), (2, 164), (2, 87), (1, 144), (4, 124), (4, 146), (4, 136), (4, 140), (1, 26), (2, 189), (3, 41), (3, 142), (3, 168), (3, 176), (3, 219), (3, 226), (3, 238), (4, 10), (2, 23), (4, 57), (4, 72), (4, 84), (4, 95), (2, 27), (2, 31), (2, 35), (4, 102), (4, 109), (4, 116), (4, 154), (4, 166), (4, 173), (4, 180), (4, 188), (4, 195), (4, 203), (4, 211), (2, 39), (4, 232), (5, 21), (5, 33), (2, 43), (5, 58), (5, 74), (2, 47), (3, 45), (2, 152), (4, 158), (4, 14), (3, 231), (3, 181), (4, 62), (3, 147), (4, 237), (5, 63), (4, 18), (4, 29), (4, 49), (2, 52), (2, 76), (2, 56), (5, 80), (5, 191), (5, 199), (5, 203), (5, 219), (6, 68), (6, 15), (5, 211), (5, 195), (5, 206), (5, 214), (5, 222), (5, 231), (5, 235), (5, 239), (6, 3), (5, 226), (6, 6), (6, 10), (6, 27), (6, 31), (6, 39), (6, 35), (6, 23), (6, 18), (6, 47), (6, 42), (6, 50), (6, 55), (6, 59), (6, 63), (6, 76), (6, 71), (6, 79), (6, 83), (6, 87), (6, 91), (6, 95), (6, 108), (6, 104), (6, 116), (6, 112), (6, 99), (6, 123), (6, 119), (6, 126), (6, 130), (6, 134), (6, 138), (6, 147), (6, 142), (6, 150), (6, 155), (6, 159), (6, 168), (6, 163), (6, 171), (6, 175), (6, 179), (6, 183), (6, 187), (6, 191), (2, 184), (3, 37), (3, 106), (3, 165), (3, 172), (3, 216), (3, 223), (3, 235), (4, 7), (4, 54), (4, 69), (4, 81), (4, 92), (4, 99), (4, 106), (4, 113), (4, 151), (4, 163), (4, 170), (4, 177), (4, 185), (4, 192), (4, 200), (4, 208), (4, 229), (5, 18), (5, 30), (5, 41), (5, 71)]
def fw_sT : List (Nat × Nat) := [(0, 0), (0, 0), (1, 85), (2, 115), (2, 68), (2, 64), (2, 123), (2, 60), (2, 161), (4, 77), (2, 132), (2, 156), (0, 0), (4, 41), (4, 226), (2, 93), (2, 97), (0, 0), (5, 1), (4, 216), (5, 9), (5, 14), (5, 27), (5, 5), (0, 0), (2, 106), (2, 169), (2, 110), (2, 119), (2, 173), (2, 177), (2, 136), (0, 0), (2, 84), (4, 4), (4, 24), (4, 36), (4, 222), (2, 140), (4, 66), (4, 89), (5, 38), (4, 129), (0, 0), (2, 80), (4, 45), (2, 101), (0, 0), (3, 69), (2, 72), (2, 181), (3, 49), (3, 185), (3, 205), (3, 209), (3, 213), (4, 121), (2, 149), (4, 133), (2, 128), (2, 145), (2, 165), (2, 88), (0, 0), (4, 125), (4, 147), (4, 137), (4, 141), (0, 0), (2, 190), (3, 42), (3, 143), (3, 169), (3, 177), (3, 220), (3, 227), (3, 239), (4, 11), (2, 24), (4, 58), (4, 73), (4, 85), (4, 96), (2, 28), (2, 32), (2, 36), (4, 103), (4, 110), (4, 117), (4, 155), (4, 167), (4, 174), (4, 181), (4, 189), (4, 196), (4, 204), (4, 212), (2, 40), (4, 233), (5, 22), (5, 34), (2, 44), (5, 59), (5, 75), (2, 48), (0, 0), (0, 0), (0, 0), (0, 0), (7, 6), (7, 5), (7, 10), (7, 4), (7, 11), (7, 12), (7, 7), (7, 8), (7, 9), (7, 0), (7, 2), (7, 1), (0, 0), (5, 192), (0, 0), (7, 13), (7, 15), (7, 27), (7, 20), (7, 14), (5, 196), (5, 207), (5, 215), (5, 223), (7, 16), (7, 17), (7, 18), (7, 19), (5, 227), (6, 7), (6, 11), (7, 22), (7, 23), (7, 25), (7, 24), (7, 21), (6, 19), (7, 26), (6, 43), (6, 51), (6, 56), (6, 60), (6, 64), (7, 28), (6, 72), (6, 80), (6, 84), (6, 88), (6, 92), (6, 96), (7, 30), (7, 29), (7, 32), (7, 31), (6, 100), (0, 0), (6, 120), (6, 127), (6, 131), (6, 135), (6, 139), (7, 33), (6, 143), (6, 151), (6, 156), (6, 160), (7, 34), (6, 164), (6, 172), (6, 176), (6, 180), (6, 184), (6, 188), (6, 192), (0, 0), (0, 0), (0, 0), (0, 0), (0, 0), (0, 0), (0, 0), (0, 0), (0, 0), (0, 0), (0, 0), (0, 0), (0, 0), (0, 0), (0, 0), (0, 0), (0, 0), (0, 0), (0, 0), (0, 0), (0, 0), (0, 0), (0, 0), (0, 0), (0, 0), (0, 0), (0, 0), (0, 0), (0, 0)]
def fw_tt (j : Nat) : List Cond := if j = 7 then k2_sels lw_privs else fw_t j
theorem fw_tt_tbl (j : Nat) : ∀ w ∈ fw_tt j, w ∈ lw_tbl := by
  intro w h
  unfold fw_tt at h
  split at h
  · exact List.mem_append_left _ h
  · exact fw_t_tbl j w h
theorem fw_in_ok : ∀ k ∈ List.range 212, 0 < k → (fw_ki k = 0 ∨ fw_ki k = 2) → (fw_t (fw_iT.getD k (0, 0)).1)[(fw_iT.getD k (0, 0)).2]? = some (.instanceMethod (fw_y k)) := by decide +kernel
theorem fw_st_ok : ∀ k ∈ List.range 212, 0 < k → (fw_ki k = 1 ∨ fw_ki k = 3) → (fw_t (fw_iT.getD k (0, 0)).1)[(fw_iT.getD k (0, 0)).2]? = some (.static (fw_y k)) := by decide +kernel
theorem fw_se_ok : ∀ k ∈ List.range 212, 0 < k → fw_ki k = 0 → (fw_tt (fw_sT.getD k (0, 0)).1)[(fw_sT.getD k (0, 0)).2]? = some (.selects (fw_CN (fw_oc k)) (fw_y k) (fw_y k)) := by decide +kernel
theorem fw_y_ok : ∀ k ∈ List.range 212, (fw_y k).cls = fw_CN (fw_oc k) ∧ fw_oc k < 11 ∧ (fw_y k).cls ≠ "java/lang/invoke/MethodHandle" ∧ (fw_y k).cls ≠ "java/lang/invoke/VarHandle" ∧ (parseMethodDescriptor (fw_y k).desc).map (fun d => d.parameters.length) = some (fw_pt k).length ∧ plainName (fw_y k).cls = true ∧ (fw_ki k = 2 → (fw_y k).name = "<init>" ∧ fw_rt k = none) ∧ (fw_hs k = [] ↔ fw_ki k ≠ 3) := by decide +kernel
theorem fw_in {k : Nat} (h : k < 212) (h0 : 0 < k) (hk : fw_ki k = 0 ∨ fw_ki k = 2) : Cond.instanceMethod (fw_y k) ∈ fw_ws := fw_wd _ _ (fw_in_ok k (List.mem_range.mpr h) h0 hk) rfl
theorem fw_stt {k : Nat} (h : k < 212) (h0 : 0 < k) (hk : fw_ki k = 1 ∨ fw_ki k = 3) : Cond.static (fw_y k) ∈ fw_ws := fw_wd _ _ (fw_st_ok k (List.mem_range.mpr h) h0 hk) rfl
theorem fw_sel {k : Nat} (h : k < 212) (h0 : 0 < k) (hk : fw_ki k = 0) : Cond.selects (fw_CN (fw_oc k)) (fw_y k) (fw_y k) ∈ fw_ws := List.mem_filter.mpr ⟨fw_tt_tbl _ _ (List.mem_of_getElem? (fw_se_ok k (List.mem_range.mpr h) h0 hk)), rfl⟩
theorem fw_xini (x : Nat) (h : x < 6) : Cond.initialized (fw_xn x) ∈ fw_ws := by
  match x, h with
  | 0, _ => exact fw_wd 1 14 rfl rfl
  | 1, _ => exact fw_wd 1 15 rfl rfl
  | 2, _ => exact fw_wd 1 16 rfl rfl
  | 3, _ => exact fw_wd 1 18 rfl rfl
  | 4, _ => exact fw_wd 1 21 rfl rfl
  | 5, _ => exact fw_wd 1 22 rfl rfl
  | n + 6, h => exact absurd h (by omega)
theorem fw_xfit (x : Nat) (h : x < 6) : Bundle.fit (fw_xn x) = true ∧ True := by
  match x, h with
  | 0, _ => exact ⟨by decide +kernel, trivial⟩
  | 1, _ => exact ⟨by decide +kernel, trivial⟩
  | 2, _ => exact ⟨by decide +kernel, trivial⟩
  | 3, _ => exact ⟨by decide +kernel, trivial⟩
  | 4, _ => exact ⟨by decide +kernel, trivial⟩
  | 5, _ => exact ⟨by decide +kernel, trivial⟩
  | n + 6, h => exact absurd h (by omega)
