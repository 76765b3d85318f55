/-! what a method's run of the small machine says of the real machine -/
def fw_nm : List String := ["java/lang/RuntimeException", "java/lang/Exception"]
/-- words of the tables that are carried along beside the good ones -/
def fw_nz : List Cond := [.castable (fw_xn 0) (fw_xn 0), .castable (fw_xn 1) (fw_xn 1), .castable (fw_xn 2) (fw_xn 2), .castable (fw_xn 3) (fw_xn 3), .castable (fw_xn 4) (fw_xn 4), .castable (fw_xn 5) (fw_xn 5),
  .declares ⟨"java/lang/RuntimeException", "<init>", "()V"⟩, .declares ⟨"java/lang/Exception", "<init>", "()V"⟩, .declares ⟨"java/lang/Throwable", "<init>", "()V"⟩,
  .methodLinkNest (fw_CN 8) 9 (fw_y (fw_cal 8 9)) (fw_CN 8), .methodLinkNest (fw_CN 8) 59 (fw_y (fw_cal 8 59)) (fw_CN 8), .methodLinkNest (fw_CN 6) 58 (fw_y (fw_cal 6 58)) (fw_CN 8)] ++ fw_fnT.map (fun q => .fieldLinkNest (fw_CN q.1) q.2.1 (fw_CN q.2.2.1) (fw_CT q.2.2.1 q.2.2.2.1).2.1 (fw_CT q.2.2.1 q.2.2.2.1).2.2.1 (fw_CN 10))
theorem fw_at_ok : ∀ q ∈ fw_xrT, ∀ w ∈ vx_at0 (fw_CN 8) q.2.1 (fw_xn q.2.2.1) fw_nm, goodWord w = true ∨ w ∈ fw_nz := by decide +kernel
theorem fw_at_tbl : ∀ q ∈ fw_xrT, ∀ w ∈ (vx_at0 (fw_CN 8) q.2.1 (fw_xn q.2.2.1) fw_nm).filter goodWord, w ∈ lw_tbl := by decide +kernel
theorem fw_at_ot : ∀ q ∈ fw_xrT, ∀ w ∈ Cond.classLink (fw_CN 8) q.1 (fw_xn q.2.2.1) :: Cond.initialized (fw_xn q.2.2.1) :: vx_at0 (fw_CN 8) q.2.1 (fw_xn q.2.2.1) fw_nm, vx_ot w = true := by decide +kernel
theorem fw_nz_tbl : ∀ w ∈ fw_nz, w ∈ lw_tbl ∧ w.onTables = true := by decide +kernel
