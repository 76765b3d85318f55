/-! agreement on the cells that count -/
def fg_AG (m m' : fw_M) : Prop := ∀ a j, 32 ≤ a → a ≤ 48 → (a ≠ 32 ∨ j ≠ 0) → fw_r m' a j = fw_r m a j
def fg_AC (c c' : fw_M) : Prop := ∀ a j, (0 < a ∧ a < 32 ∧ (a < 17 ∨ 24 < a) ∧ a ≠ 31 ∧ (a < 14 ∨ 16 < a)) ∨ 51 ≤ a → fw_r c' a j = fw_r c a j
theorem fg_AG_refl (m : fw_M) : fg_AG m m := fun _ _ _ _ _ => rfl
theorem fg_AG_trans {a b c : fw_M} (h : fg_AG a b) (h2 : fg_AG b c) : fg_AG a c := fun x j h3 h4 h5 => (h2 x j h3 h4 h5).trans (h x j h3 h4 h5)
theorem fg_AC_refl (m : fw_M) : fg_AC m m := fun _ _ _ => rfl
theorem fg_AC_trans {a b c : fw_M} (h : fg_AC a b) (h2 : fg_AC b c) : fg_AC a c := fun x j h3 => (h2 x j h3).trans (h x j h3)
theorem fg_IN_eq {M : Int} {c c' m m' : fw_M} (h : fg_IN M c m) (hc : fg_AC c c') (hm : fg_AG m m') (pc : fw_ptr c') (pm : fw_ptr m') : fg_IN M c' m' := by
  obtain ⟨gA, gB, gC, gD, gE, gF, gG, gH, gI⟩ := h
  have ag : ∀ a j, 32 ≤ a → a ≤ 48 → (a ≠ 32 ∨ j ≠ 0) → fw_r m' a j = fw_r m a j := hm
  have x1 := ag 32 1 (by decide) (by decide) (by decide)
  have x3 := ag 32 3 (by decide) (by decide) (by decide)
  have x10 := ag 32 10 (by decide) (by decide) (by decide)
  have x15 := ag 32 15 (by decide) (by decide) (by decide)
  have x16 := ag 32 16 (by decide) (by decide) (by decide)
  have x17 := ag 32 17 (by decide) (by decide) (by decide)
  have x18 := ag 32 18 (by decide) (by decide) (by decide)
  have x19 := ag 32 19 (by decide) (by decide) (by decide)
  have x25 := ag 32 25 (by decide) (by decide) (by decide)
  have x29 := ag 32 29 (by decide) (by decide) (by decide)
  have y : ∀ a, 33 ≤ a → a ≤ 48 → ∀ j, fw_r m' a j = fw_r m a j := fun a h1 h2 j => ag a j (by omega) h2 (Or.inl (by omega))
  have z : ∀ a, (0 < a ∧ a < 32 ∧ (a < 17 ∨ 24 < a) ∧ a ≠ 31 ∧ (a < 14 ∨ 16 < a)) ∨ 51 ≤ a → ∀ j, fw_r c' a j = fw_r c a j := fun a ha j => hc a j ha
  refine ⟨?_, ?_, ?_, ?_, ?_, ?_, ?_, ?_, ?_⟩
  · exact fg_gA_c gA pc (fg_cok_c gA.1.1.2.1 (z _ (by decide) _) (fun j => z _ (by decide) _) (fun i hi => z _ (by omega) _) (fun i hi => z _ (by omega) _)) pm (fun j => z _ (by decide) _) (z _ (by decide) _) (fun j => z _ (by decide) _) (fun j => z _ (by decide) _) (fun i j hi _ _ => z _ (by omega) _) (fun j _ _ _ _ _ h0 _ _ => ag 32 j (by decide) (by decide) (Or.inr h0)) (fun a j ha => ag a j (by omega) (by omega) (by omega))
  · exact fg_gB_c gB (fun j => z _ (by decide) _) (fun j => z _ (by decide) _) (fun j => z _ (by decide) _) x1 x10 x15 (fun j => y _ (by decide) (by decide) _) (fun j => y _ (by decide) (by decide) _)
  · exact fg_gC_c gC (z _ (by decide) _) (z _ (by decide) _) (fun j => z _ (by decide) _) (fun j => z _ (by decide) _) (fun j => z _ (by decide) _) (fun j => z _ (by decide) _) x10 x15 x16 (fun j => y _ (by decide) (by decide) _) (fun j => y _ (by decide) (by decide) _) (fun j => y _ (by decide) (by decide) _) (fun j => y _ (by decide) (by decide) _)
  · exact fg_gD_c gD (z _ (by decide) _) (z _ (by decide) _) (z _ (by decide) _) (z _ (by decide) _) (z _ (by decide) _) x15 x17 x18 x19 x29 (fun j => y _ (by decide) (by decide) _)
  · exact fg_gE_c gE (fun i hi => ⟨z _ (by omega) _, z _ (by omega) _, z _ (by omega) _, fun k => z _ (by omega) _⟩) x3 x15 (fun j => y _ (by decide) (by decide) _) (fun j => y _ (by decide) (by decide) _) (fun j => y _ (by decide) (by decide) _) (fun j => y _ (by decide) (by decide) _) (fun j => y _ (by decide) (by decide) _) (fun j => y _ (by decide) (by decide) _) (fun j => y _ (by decide) (by decide) _)
  · exact fg_gF_c gF x1 (fun j => y _ (by decide) (by decide) _) (fun j => y _ (by decide) (by decide) _)
  · exact fg_gG_c gG (fun j => z _ (by decide) _) x15 x19 (fun j => y _ (by decide) (by decide) _)
  · exact fg_gH_c gH (z _ (by decide) _) (z _ (by decide) _) (fun j => z _ (by decide) _) (fun j => z _ (by decide) _) x15 x25 (fun j => y _ (by decide) (by decide) _) (fun j => y _ (by decide) (by decide) _) (fun j => y _ (by decide) (by decide) _) (fun j => y _ (by decide) (by decide) _)
  · exact fg_gI_c gI (z _ (by decide) _) (fun j => z _ (by decide) _) (fun j => z _ (by decide) _) x1 x3 x10 x15 x19 (fun j => y _ (by decide) (by decide) _) (fun j => y _ (by decide) (by decide) _) (fun j => y _ (by decide) (by decide) _)
theorem fg_IN_M {M M' : Int} {c m : fw_M} (h : fg_IN M c m) (hM : M ≤ M') : fg_IN M' c m := by
  obtain ⟨gA, gB, gC, gD, gE, gF, gG, gH, gI⟩ := h
  exact ⟨gA, fg_gB_M gB hM, fg_gC_M gC hM, gD, gE, gF, gG, gH, gI⟩
/-- the script stands -/
def fg_SC (σ σ' : fw_M) : Prop := ∀ a j, a ≤ -2 → fw_r σ' a j = fw_r σ a j
theorem fg_SC_refl (σ : fw_M) : fg_SC σ σ := fun _ _ _ => rfl
theorem fg_SC_trans {a b c : fw_M} (h : fg_SC a b) (h2 : fg_SC b c) : fg_SC a c := fun x j h3 => (h2 x j h3).trans (h x j h3)
theorem fw_r_x0 (σ : fw_M) : fw_r (fw_ex σ) (-1) 0 = fw_r σ (-1) 0 := rfl
theorem fw_r_x1 (σ : fw_M) : fw_r (fw_ex σ) (-1) 1 = fw_r σ (-1) 1 + 1 := rfl
theorem fw_r_x2 (σ : fw_M) : fw_r (fw_ex σ) (-1) 2 = fw_r σ (-1) 2 + 6 := rfl
theorem fw_c9_68 (pc : Nat) (ll st : List fw_V) (x : Int) (σ : fw_M) : fw_cn 68 pc ll st ((9, x), σ) = some ((9, x), σ) := fw_cn_9 (by decide) fw_hs68
theorem fw_c9_69 (pc : Nat) (ll st : List fw_V) (x : Int) (σ : fw_M) : fw_cn 69 pc ll st ((9, x), σ) = some ((9, x), σ) := fw_cn_9 (by decide) fw_hs69
theorem fw_c9_70 (pc : Nat) (ll st : List fw_V) (x : Int) (σ : fw_M) : fw_cn 70 pc ll st ((9, x), σ) = some ((9, x), σ) := fw_cn_9 (by decide) fw_hs70
theorem fw_c9_71 (pc : Nat) (ll st : List fw_V) (x : Int) (σ : fw_M) : fw_cn 71 pc ll st ((9, x), σ) = some ((9, x), σ) := fw_cn_9 (by decide) fw_hs71
theorem fw_c9_72 (pc : Nat) (ll st : List fw_V) (x : Int) (σ : fw_M) : fw_cn 72 pc ll st ((9, x), σ) = some ((9, x), σ) := fw_cn_9 (by decide) fw_hs72
theorem fw_c9_73 (pc : Nat) (ll st : List fw_V) (x : Int) (σ : fw_M) : fw_cn 73 pc ll st ((9, x), σ) = some ((9, x), σ) := fw_cn_9 (by decide) fw_hs73
theorem fw_c9_74 (pc : Nat) (ll st : List fw_V) (x : Int) (σ : fw_M) : fw_cn 74 pc ll st ((9, x), σ) = some ((9, x), σ) := fw_cn_9 (by decide) fw_hs74
theorem fw_c9_75 (pc : Nat) (ll st : List fw_V) (x : Int) (σ : fw_M) : fw_cn 75 pc ll st ((9, x), σ) = some ((9, x), σ) := fw_cn_9 (by decide) fw_hs75
theorem fw_c9_76 (pc : Nat) (ll st : List fw_V) (x : Int) (σ : fw_M) : fw_cn 76 pc ll st ((9, x), σ) = some ((9, x), σ) := fw_cn_9 (by decide) fw_hs76
theorem fw_c9_77 (pc : Nat) (ll st : List fw_V) (x : Int) (σ : fw_M) : fw_cn 77 pc ll st ((9, x), σ) = some ((9, x), σ) := fw_cn_9 (by decide) fw_hs77
theorem fw_c9_78 (pc : Nat) (ll st : List fw_V) (x : Int) (σ : fw_M) : fw_cn 78 pc ll st ((9, x), σ) = some ((9, x), σ) := fw_cn_9 (by decide) fw_hs78
theorem fw_c9_79 (pc : Nat) (ll st : List fw_V) (x : Int) (σ : fw_M) : fw_cn 79 pc ll st ((9, x), σ) = some ((9, x), σ) := fw_cn_9 (by decide) fw_hs79
theorem fw_c9_80 (pc : Nat) (ll st : List fw_V) (x : Int) (σ : fw_M) : fw_cn 80 pc ll st ((9, x), σ) = some ((9, x), σ) := fw_cn_9 (by decide) fw_hs80
theorem fw_c9_81 (pc : Nat) (ll st : List fw_V) (x : Int) (σ : fw_M) : fw_cn 81 pc ll st ((9, x), σ) = some ((9, x), σ) := fw_cn_9 (by decide) fw_hs81
theorem fw_c9_82 (pc : Nat) (ll st : List fw_V) (x : Int) (σ : fw_M) : fw_cn 82 pc ll st ((9, x), σ) = some ((9, x), σ) := fw_cn_9 (by decide) fw_hs82
theorem fw_c9_83 (pc : Nat) (ll st : List fw_V) (x : Int) (σ : fw_M) : fw_cn 83 pc ll st ((9, x), σ) = some ((9, x), σ) := fw_cn_9 (by decide) fw_hs83
theorem fw_c9_84 (pc : Nat) (ll st : List fw_V) (x : Int) (σ : fw_M) : fw_cn 84 pc ll st ((9, x), σ) = some ((9, x), σ) := fw_cn_9 (by decide) fw_hs84
theorem fw_c9_85 (pc : Nat) (ll st : List fw_V) (x : Int) (σ : fw_M) : fw_cn 85 pc ll st ((9, x), σ) = some ((9, x), σ) := fw_cn_9 (by decide) fw_hs85
theorem fw_c9_86 (pc : Nat) (ll st : List fw_V) (x : Int) (σ : fw_M) : fw_cn 86 pc ll st ((9, x), σ) = some ((9, x), σ) := fw_cn_9 (by decide) fw_hs86
theorem fw_c9_87 (pc : Nat) (ll st : List fw_V) (x : Int) (σ : fw_M) : fw_cn 87 pc ll st ((9, x), σ) = some ((9, x), σ) := fw_cn_9 (by decide) fw_hs87
theorem fw_c9_89 (pc : Nat) (ll st : List fw_V) (x : Int) (σ : fw_M) : fw_cn 89 pc ll st ((9, x), σ) = some ((9, x), σ) := fw_cn_9 (by decide) fw_hs89
theorem fw_c9_90 (pc : Nat) (ll st : List fw_V) (x : Int) (σ : fw_M) : fw_cn 90 pc ll st ((9, x), σ) = some ((9, x), σ) := fw_cn_9 (by decide) fw_hs90
theorem fw_c9_91 (pc : Nat) (ll st : List fw_V) (x : Int) (σ : fw_M) : fw_cn 91 pc ll st ((9, x), σ) = some ((9, x), σ) := fw_cn_9 (by decide) fw_hs91
theorem fw_c9_92 (pc : Nat) (ll st : List fw_V) (x : Int) (σ : fw_M) : fw_cn 92 pc ll st ((9, x), σ) = some ((9, x), σ) := fw_cn_9 (by decide) fw_hs92
theorem fw_c9_93 (pc : Nat) (ll st : List fw_V) (x : Int) (σ : fw_M) : fw_cn 93 pc ll st ((9, x), σ) = some ((9, x), σ) := fw_cn_9 (by decide) fw_hs93
theorem fw_c9_94 (pc : Nat) (ll st : List fw_V) (x : Int) (σ : fw_M) : fw_cn 94 pc ll st ((9, x), σ) = some ((9, x), σ) := fw_cn_9 (by decide) fw_hs94
theorem fw_c9_95 (pc : Nat) (ll st : List fw_V) (x : Int) (σ : fw_M) : fw_cn 95 pc ll st ((9, x), σ) = some ((9, x), σ) := fw_cn_9 (by decide) fw_hs95
theorem fw_c9_96 (pc : Nat) (ll st : List fw_V) (x : Int) (σ : fw_M) : fw_cn 96 pc ll st ((9, x), σ) = some ((9, x), σ) := fw_cn_9 (by decide) fw_hs96
theorem fw_c9_97 (pc : Nat) (ll st : List fw_V) (x : Int) (σ : fw_M) : fw_cn 97 pc ll st ((9, x), σ) = some ((9, x), σ) := fw_cn_9 (by decide) fw_hs97
theorem fw_c9_98 (pc : Nat) (ll st : List fw_V) (x : Int) (σ : fw_M) : fw_cn 98 pc ll st ((9, x), σ) = some ((9, x), σ) := fw_cn_9 (by decide) fw_hs98
theorem fw_c9_99 (pc : Nat) (ll st : List fw_V) (x : Int) (σ : fw_M) : fw_cn 99 pc ll st ((9, x), σ) = some ((9, x), σ) := fw_cn_9 (by decide) fw_hs99
theorem fw_c9_100 (pc : Nat) (ll st : List fw_V) (x : Int) (σ : fw_M) : fw_cn 100 pc ll st ((9, x), σ) = some ((9, x), σ) := fw_cn_9 (by decide) fw_hs100
theorem fw_c9_101 (pc : Nat) (ll st : List fw_V) (x : Int) (σ : fw_M) : fw_cn 101 pc ll st ((9, x), σ) = some ((9, x), σ) := fw_cn_9 (by decide) fw_hs101
theorem fw_c9_102 (pc : Nat) (ll st : List fw_V) (x : Int) (σ : fw_M) : fw_cn 102 pc ll st ((9, x), σ) = some ((9, x), σ) := fw_cn_9 (by decide) fw_hs102
theorem fw_c9_103 (pc : Nat) (ll st : List fw_V) (x : Int) (σ : fw_M) : fw_cn 103 pc ll st ((9, x), σ) = some ((9, x), σ) := fw_cn_9 (by decide) fw_hs103
theorem fw_c9_104 (pc : Nat) (ll st : List fw_V) (x : Int) (σ : fw_M) : fw_cn 104 pc ll st ((9, x), σ) = some ((9, x), σ) := fw_cn_9 (by decide) fw_hs104
theorem fw_c9_105 (pc : Nat) (ll st : List fw_V) (x : Int) (σ : fw_M) : fw_cn 105 pc ll st ((9, x), σ) = some ((9, x), σ) := fw_cn_9 (by decide) fw_hs105
theorem fw_c9_106 (pc : Nat) (ll st : List fw_V) (x : Int) (σ : fw_M) : fw_cn 106 pc ll st ((9, x), σ) = some ((9, x), σ) := fw_cn_9 (by decide) fw_hs106
theorem fw_c9_107 (pc : Nat) (ll st : List fw_V) (x : Int) (σ : fw_M) : fw_cn 107 pc ll st ((9, x), σ) = some ((9, x), σ) := fw_cn_9 (by decide) fw_hs107
theorem fw_c9_108 (pc : Nat) (ll st : List fw_V) (x : Int) (σ : fw_M) : fw_cn 108 pc ll st ((9, x), σ) = some ((9, x), σ) := fw_cn_9 (by decide) fw_hs108
theorem fw_c9_109 (pc : Nat) (ll st : List fw_V) (x : Int) (σ : fw_M) : fw_cn 109 pc ll st ((9, x), σ) = some ((9, x), σ) := fw_cn_9 (by decide) fw_hs109
theorem fw_c9_110 (pc : Nat) (ll st : List fw_V) (x : Int) (σ : fw_M) : fw_cn 110 pc ll st ((9, x), σ) = some ((9, x), σ) := fw_cn_9 (by decide) fw_hs110
theorem fw_c9_111 (pc : Nat) (ll st : List fw_V) (x : Int) (σ : fw_M) : fw_cn 111 pc ll st ((9, x), σ) = some ((9, x), σ) := fw_cn_9 (by decide) fw_hs111
theorem fw_c9_112 (pc : Nat) (ll st : List fw_V) (x : Int) (σ : fw_M) : fw_cn 112 pc ll st ((9, x), σ) = some ((9, x), σ) := fw_cn_9 (by decide) fw_hs112
theorem fw_c9_113 (pc : Nat) (ll st : List fw_V) (x : Int) (σ : fw_M) : fw_cn 113 pc ll st ((9, x), σ) = some ((9, x), σ) := fw_cn_9 (by decide) fw_hs113
theorem fw_c9_114 (pc : Nat) (ll st : List fw_V) (x : Int) (σ : fw_M) : fw_cn 114 pc ll st ((9, x), σ) = some ((9, x), σ) := fw_cn_9 (by decide) fw_hs114
theorem fw_c9_115 (pc : Nat) (ll st : List fw_V) (x : Int) (σ : fw_M) : fw_cn 115 pc ll st ((9, x), σ) = some ((9, x), σ) := fw_cn_9 (by decide) fw_hs115
theorem fw_c9_116 (pc : Nat) (ll st : List fw_V) (x : Int) (σ : fw_M) : fw_cn 116 pc ll st ((9, x), σ) = some ((9, x), σ) := fw_cn_9 (by decide) fw_hs116
theorem fw_c9_117 (pc : Nat) (ll st : List fw_V) (x : Int) (σ : fw_M) : fw_cn 117 pc ll st ((9, x), σ) = some ((9, x), σ) := fw_cn_9 (by decide) fw_hs117
theorem fw_c9_118 (pc : Nat) (ll st : List fw_V) (x : Int) (σ : fw_M) : fw_cn 118 pc ll st ((9, x), σ) = some ((9, x), σ) := fw_cn_9 (by decide) fw_hs118
theorem fw_c9_119 (pc : Nat) (ll st : List fw_V) (x : Int) (σ : fw_M) : fw_cn 119 pc ll st ((9, x), σ) = some ((9, x), σ) := fw_cn_9 (by decide) fw_hs119
theorem fw_c9_120 (pc : Nat) (ll st : List fw_V) (x : Int) (σ : fw_M) : fw_cn 120 pc ll st ((9, x), σ) = some ((9, x), σ) := fw_cn_9 (by decide) fw_hs120
theorem fw_h131_4 (ll st : List fw_V) (σ : fw_M) : fw_cn 131 2 ll st ((9, 4), σ) = fw_E 131 6 ll [(7, 0)] σ := fw_cn_h fw_hd131_4
theorem fw_h132_4 (ll st : List fw_V) (σ : fw_M) : fw_cn 132 2 ll st ((9, 4), σ) = fw_E 132 6 ll [(7, 0)] σ := fw_cn_h fw_hd132_4
