/-! THE TABLES as a whole are in order. -/
theorem ixe_wF (fv : Value) : ix_wF (ixP fv) = ix_wF (ixP .null) := rfl
theorem ixe_wN (fv : Value) : ix_wN (ixP fv) = ix_wN (ixP .null) := rfl
theorem ixe_wK (fv : Value) : ix_wK (ixP fv) = ix_wK (ixP .null) := rfl
theorem ixe_wC (fv : Value) : ix_wC (ixP fv) = ix_wC (ixP .null) := rfl
theorem ixe_wS (fv : Value) : ix_wS (ixP fv) = ix_wS (ixP .null) := rfl
theorem ixe_wA (fv : Value) : ix_wA (ixP fv) = ix_wA (ixP .null) := rfl
theorem ixe_wV (fv : Value) : ix_wV (ixP fv) = ix_wV (ixP .null) := rfl
theorem ixe_wX (fv : Value) : ix_wX (ixP fv) = ix_wX (ixP .null) := rfl
theorem ixe_wH (fv : Value) : ix_wH (ixP fv) = ix_wH (ixP .null) := rfl
theorem ixe_vF (fv : Value) : ix_vF (ixP fv) = ix_vF (ixP .null) := rfl
theorem ixe_vN (fv : Value) : ix_vN (ixP fv) = ix_vN (ixP .null) := rfl
theorem ixe_vC (fv : Value) : ix_vC (ixP fv) = ix_vC (ixP .null) := rfl
theorem ixe_vM (fv : Value) : ix_vM (ixP fv) = ix_vM (ixP .null) := rfl
theorem ixe_vX (fv : Value) : ix_vX (ixP fv) = ix_vX (ixP .null) := rfl
theorem ixe_vH (fv : Value) : ix_vH (ixP fv) = ix_vH (ixP .null) := rfl
theorem ixe_cON (fv : Value) : ix_ON (ixP fv) = ixON := rfl
theorem ixe_cMT (fv : Value) : ix_MT (ixP fv) = ixMT := rfl
theorem ixe_cCL (fv : Value) : ix_CL (ixP fv) = ixCL := rfl
theorem ixe_cTY (fv : Value) : ix_TY (ixP fv) = [.int, .long, .byte, .boolean, .byte, .array .int] := rfl
theorem ixe_cFT (fv : Value) : ix_FT (ixP fv) = ixFT := rfl
theorem ixe_cCT (fv : Value) : ix_CT (ixP fv) = ixCT := rfl
theorem ixe_cNT (fv : Value) : ix_NT (ixP fv) = ixNT := rfl
theorem ixe_cKT (fv : Value) : ix_KT (ixP fv) = ixKT := rfl
theorem ixe_cAT (fv : Value) : ix_AT (ixP fv) = ixAT := rfl
theorem ixe_cST (fv : Value) : ix_ST (ixP fv) = ixST fv := rfl
theorem ixe_cNV (fv : Value) : ix_NV (ixP fv) = ixNV := rfl
theorem ixe_cXT (fv : Value) : ix_XT (ixP fv) = ixXT := rfl
theorem ixe_cHT (fv : Value) : ix_HT (ixP fv) = ixHT := rfl
theorem ixe_cNR (fv : Value) : ix_NR (ixP fv) = 98 := rfl
theorem ixe_STv (a b : Nat) (c d e : String) (v : Value) : ix_wS (ixP .null) (a, b, c, d, e, v) = ix_wS (ixP .null) (a, b, c, d, e, .null) := rfl
theorem ixe_ST (fv : Value) : (ixST fv).flatMap (ix_wS (ixP .null)) = (ixST .null).flatMap (ix_wS (ixP .null)) := by
  unfold ixST
  simp only [List.flatMap_cons, List.flatMap_nil]
  rw [ixe_STv 11 1053 "jdk/internal/util/Preconditions" "SIOOBE_FORMATTER" "Ljava/util/function/BiFunction;" fv]
theorem ixe_WL (fv : Value) : ix_WL (ixP fv) = ixCL.flatMap (fun r => u_ws r.1 r.2.1 r.2.2) ++ (ixFT.flatMap (ix_wF (ixP .null)) ++ (ixNT.flatMap (ix_wN (ixP .null)) ++ (ixKT.flatMap (ix_wK (ixP .null)) ++ (ixCT.flatMap (ix_wC (ixP .null)) ++ (ixMT.tail.map ix_wM ++ (ix_pr [.int, .long, .byte, .boolean, .byte, .array .int] ++ ((ixST .null).flatMap (ix_wS (ixP .null)) ++ (ixAT.flatMap (ix_wA (ixP .null)) ++ (ixNV.flatMap (ix_wV (ixP .null)) ++ (ixXT.flatMap (ix_wX (ixP .null)) ++ ixHT.flatMap (ix_wH (ixP .null)))))))))))) := by
  unfold ix_WL
  rw [ixe_wF, ixe_wN, ixe_wK, ixe_wC, ixe_wA, ixe_wV, ixe_wX, ixe_wH, ixe_wS]
  rw [ixe_cCL, ixe_cFT, ixe_cNT, ixe_cKT, ixe_cCT, ixe_cMT, ixe_cTY, ixe_cST, ixe_cAT, ixe_cNV, ixe_cXT, ixe_cHT, ixe_ST]
theorem ixo_kw (fv : Value) : (ix_WL (ixP fv)).all ix_kw = true := by
  rw [ixe_WL]
  simp only [List.all_append, ixv_60, ixv_61, ixv_62, ixv_63, ixv_64, ixv_65, ixv_66, ixv_67, ixv_68, ixv_69, ixv_6a, ixv_6b, Bool.and_self]
theorem ixo_in (fv : Value) : ∀ w ∈ ix_WL (ixP fv), w ∈ lw_tb2 := by
  rw [ixe_WL]
  intro w hw
  rcases List.mem_append.mp hw with h | hw
  · exact ixw_CL w h
  rcases List.mem_append.mp hw with h | hw
  · exact ixw_FT w h
  rcases List.mem_append.mp hw with h | hw
  · exact ixw_NT w h
  rcases List.mem_append.mp hw with h | hw
  · exact ixw_KT w h
  rcases List.mem_append.mp hw with h | hw
  · exact ixw_CT w h
  rcases List.mem_append.mp hw with h | hw
  · exact ixw_MT w h
  rcases List.mem_append.mp hw with h | hw
  · exact ixw_PR w h
  rcases List.mem_append.mp hw with h | hw
  · exact ixw_ST w h
  rcases List.mem_append.mp hw with h | hw
  · exact ixw_AT w h
  rcases List.mem_append.mp hw with h | hw
  · exact ixw_NV w h
  rcases List.mem_append.mp hw with h | hw
  · exact ixw_XT w h
  exact ixw_HT w hw
theorem ixo_vDa {bs : ByteArray} {a b : List (Nat × Instr × Nat)} (h : ix_vD bs a = true) (g : ix_vD bs b = true) : ix_vD bs (a ++ b) = true := by
  unfold ix_vD at h g ⊢
  rw [List.all_append, h, g]
  rfl
theorem ixd_0 : ix_vD code ixI0 = true := ixo_vDa ixd_0_0 (ixo_vDa ixd_0_1 (ixo_vDa ixd_0_2 (ixo_vDa ixd_0_3 (ixo_vDa ixd_0_4 (ixo_vDa ixd_0_5 (ixo_vDa ixd_0_6 (ixo_vDa ixd_0_7 (ixo_vDa ixd_0_8 (ixo_vDa ixd_0_9 (ixo_vDa ixd_0_10 (ixo_vDa ixd_0_11 (ixo_vDa ixd_0_12 (ixd_0_13)))))))))))))
theorem ixm_0 : ix_vM (ixP .null) ixM0 = true := by
  have h : ix_vM (ixP .null) ixM0 = (true && ix_vD code ixI0) := rfl
  rw [h, ixd_0]
  rfl
theorem ixd_131 : ix_vD prog_9_method_11_code ixI131 = true := ixo_vDa ixd_131_0 (ixo_vDa ixd_131_1 (ixo_vDa ixd_131_2 (ixo_vDa ixd_131_3 (ixo_vDa ixd_131_4 (ixd_131_5)))))
theorem ixm_131 : ix_vM (ixP .null) ixM131 = true := by
  have h : ix_vM (ixP .null) ixM131 = (true && ix_vD prog_9_method_11_code ixI131) := rfl
  rw [h, ixd_131]
  rfl
theorem ixd_135 : ix_vD prog_9_method_18_code ixI135 = true := ixo_vDa ixd_135_0 (ixo_vDa ixd_135_1 (ixo_vDa ixd_135_2 (ixo_vDa ixd_135_3 (ixo_vDa ixd_135_4 (ixo_vDa ixd_135_5 (ixo_vDa ixd_135_6 (ixo_vDa ixd_135_7 (ixd_135_8))))))))
theorem ixm_135 : ix_vM (ixP .null) ixM135 = true := by
  have h : ix_vM (ixP .null) ixM135 = (true && ix_vD prog_9_method_18_code ixI135) := rfl
  rw [h, ixd_135]
  rfl
theorem ixd_172 : ix_vD method_7_code ixI172 = true := ixo_vDa ixd_172_0 (ixo_vDa ixd_172_1 (ixo_vDa ixd_172_2 (ixo_vDa ixd_172_3 (ixo_vDa ixd_172_4 (ixo_vDa ixd_172_5 (ixo_vDa ixd_172_6 (ixo_vDa ixd_172_7 (ixo_vDa ixd_172_8 (ixo_vDa ixd_172_9 (ixd_172_10))))))))))
theorem ixm_172 : ix_vM (ixP .null) ixM172 = true := by
  have h : ix_vM (ixP .null) ixM172 = (true && ix_vD method_7_code ixI172) := rfl
  rw [h, ixd_172]
  rfl
theorem ixd_174 : ix_vD method_9_code ixI174 = true := ixo_vDa ixd_174_0 (ixo_vDa ixd_174_1 (ixd_174_2))
theorem ixm_174 : ix_vM (ixP .null) ixM174 = true := by
  have h : ix_vM (ixP .null) ixM174 = (true && ix_vD method_9_code ixI174) := rfl
  rw [h, ixd_174]
  rfl
theorem ixm_fc {a : ix_M} {l : List ix_M} (h : ix_vM (ixP .null) a = true) (g : l.all (ix_vM (ixP .null)) = true) : (a :: l).all (ix_vM (ixP .null)) = true := by
  rw [List.all_cons, h, g]
  rfl
def ixm_l8 : List ix_M := ixM160 :: ixM161 :: ixM162 :: ixM163 :: ixM164 :: ixM165 :: ixM166 :: ixM167 :: ixM168 :: ixM169 :: ixM170 :: ixM171 :: ixM172 :: ixM173 :: ixM174 :: ixM175 :: []
theorem ixm_t8 : ixm_l8.all (ix_vM (ixP .null)) = true := ixm_fc ixm_160 (ixm_fc ixm_161 (ixm_fc ixm_162 (ixm_fc ixm_163 (ixm_fc ixm_164 (ixm_fc ixm_165 (ixm_fc ixm_166 (ixm_fc ixm_167 (ixm_fc ixm_168 (ixm_fc ixm_169 (ixm_fc ixm_170 (ixm_fc ixm_171 (ixm_fc ixm_172 (ixm_fc ixm_173 (ixm_fc ixm_174 (ixm_fc ixm_175 (rfl))))))))))))))))
def ixm_l7 : List ix_M := ixM140 :: ixM141 :: ixM142 :: ixM143 :: ixM144 :: ixM145 :: ixM146 :: ixM147 :: ixM148 :: ixM149 :: ixM150 :: ixM151 :: ixM152 :: ixM153 :: ixM154 :: ixM155 :: ixM156 :: ixM157 :: ixM158 :: ixM159 :: ixm_l8
theorem ixm_t7 : ixm_l7.all (ix_vM (ixP .null)) = true := ixm_fc ixm_140 (ixm_fc ixm_141 (ixm_fc ixm_142 (ixm_fc ixm_143 (ixm_fc ixm_144 (ixm_fc ixm_145 (ixm_fc ixm_146 (ixm_fc ixm_147 (ixm_fc ixm_148 (ixm_fc ixm_149 (ixm_fc ixm_150 (ixm_fc ixm_151 (ixm_fc ixm_152 (ixm_fc ixm_153 (ixm_fc ixm_154 (ixm_fc ixm_155 (ixm_fc ixm_156 (ixm_fc ixm_157 (ixm_fc ixm_158 (ixm_fc ixm_159 (ixm_t8))))))))))))))))))))
def ixm_l6 : List ix_M := ixM120 :: ixM121 :: ixM122 :: ixM123 :: ixM124 :: ixM125 :: ixM126 :: ixM127 :: ixM128 :: ixM129 :: ixM130 :: ixM131 :: ixM132 :: ixM133 :: ixM134 :: ixM135 :: ixM136 :: ixM137 :: ixM138 :: ixM139 :: ixm_l7
theorem ixm_t6 : ixm_l6.all (ix_vM (ixP .null)) = true := ixm_fc ixm_120 (ixm_fc ixm_121 (ixm_fc ixm_122 (ixm_fc ixm_123 (ixm_fc ixm_124 (ixm_fc ixm_125 (ixm_fc ixm_126 (ixm_fc ixm_127 (ixm_fc ixm_128 (ixm_fc ixm_129 (ixm_fc ixm_130 (ixm_fc ixm_131 (ixm_fc ixm_132 (ixm_fc ixm_133 (ixm_fc ixm_134 (ixm_fc ixm_135 (ixm_fc ixm_136 (ixm_fc ixm_137 (ixm_fc ixm_138 (ixm_fc ixm_139 (ixm_t7))))))))))))))))))))
def ixm_l5 : List ix_M := ixM100 :: ixM101 :: ixM102 :: ixM103 :: ixM104 :: ixM105 :: ixM106 :: ixM107 :: ixM108 :: ixM109 :: ixM110 :: ixM111 :: ixM112 :: ixM113 :: ixM114 :: ixM115 :: ixM116 :: ixM117 :: ixM118 :: ixM119 :: ixm_l6
theorem ixm_t5 : ixm_l5.all (ix_vM (ixP .null)) = true := ixm_fc ixm_100 (ixm_fc ixm_101 (ixm_fc ixm_102 (ixm_fc ixm_103 (ixm_fc ixm_104 (ixm_fc ixm_105 (ixm_fc ixm_106 (ixm_fc ixm_107 (ixm_fc ixm_108 (ixm_fc ixm_109 (ixm_fc ixm_110 (ixm_fc ixm_111 (ixm_fc ixm_112 (ixm_fc ixm_113 (ixm_fc ixm_114 (ixm_fc ixm_115 (ixm_fc ixm_116 (ixm_fc ixm_117 (ixm_fc ixm_118 (ixm_fc ixm_119 (ixm_t6))))))))))))))))))))
def ixm_l4 : List ix_M := ixM80 :: ixM81 :: ixM82 :: ixM83 :: ixM84 :: ixM85 :: ixM86 :: ixM87 :: ixM88 :: ixM89 :: ixM90 :: ixM91 :: ixM92 :: ixM93 :: ixM94 :: ixM95 :: ixM96 :: ixM97 :: ixM98 :: ixM99 :: ixm_l5
theorem ixm_t4 : ixm_l4.all (ix_vM (ixP .null)) = true := ixm_fc ixm_80 (ixm_fc ixm_81 (ixm_fc ixm_82 (ixm_fc ixm_83 (ixm_fc ixm_84 (ixm_fc ixm_85 (ixm_fc ixm_86 (ixm_fc ixm_87 (ixm_fc ixm_88 (ixm_fc ixm_89 (ixm_fc ixm_90 (ixm_fc ixm_91 (ixm_fc ixm_92 (ixm_fc ixm_93 (ixm_fc ixm_94 (ixm_fc ixm_95 (ixm_fc ixm_96 (ixm_fc ixm_97 (ixm_fc ixm_98 (ixm_fc ixm_99 (ixm_t5))))))))))))))))))))
def ixm_l3 : List ix_M := ixM60 :: ixM61 :: ixM62 :: ixM63 :: ixM64 :: ixM65 :: ixM66 :: ixM67 :: ixM68 :: ixM69 :: ixM70 :: ixM71 :: ixM72 :: ixM73 :: ixM74 :: ixM75 :: ixM76 :: ixM77 :: ixM78 :: ixM79 :: ixm_l4
theorem ixm_t3 : ixm_l3.all (ix_vM (ixP .null)) = true := ixm_fc ixm_60 (ixm_fc ixm_61 (ixm_fc ixm_62 (ixm_fc ixm_63 (ixm_fc ixm_64 (ixm_fc ixm_65 (ixm_fc ixm_66 (ixm_fc ixm_67 (ixm_fc ixm_68 (ixm_fc ixm_69 (ixm_fc ixm_70 (ixm_fc ixm_71 (ixm_fc ixm_72 (ixm_fc ixm_73 (ixm_fc ixm_74 (ixm_fc ixm_75 (ixm_fc ixm_76 (ixm_fc ixm_77 (ixm_fc ixm_78 (ixm_fc ixm_79 (ixm_t4))))))))))))))))))))
def ixm_l2 : List ix_M := ixM40 :: ixM41 :: ixM42 :: ixM43 :: ixM44 :: ixM45 :: ixM46 :: ixM47 :: ixM48 :: ixM49 :: ixM50 :: ixM51 :: ixM52 :: ixM53 :: ixM54 :: ixM55 :: ixM56 :: ixM57 :: ixM58 :: ixM59 :: ixm_l3
theorem ixm_t2 : ixm_l2.all (ix_vM (ixP .null)) = true := ixm_fc ixm_40 (ixm_fc ixm_41 (ixm_fc ixm_42 (ixm_fc ixm_43 (ixm_fc ixm_44 (ixm_fc ixm_45 (ixm_fc ixm_46 (ixm_fc ixm_47 (ixm_fc ixm_48 (ixm_fc ixm_49 (ixm_fc ixm_50 (ixm_fc ixm_51 (ixm_fc ixm_52 (ixm_fc ixm_53 (ixm_fc ixm_54 (ixm_fc ixm_55 (ixm_fc ixm_56 (ixm_fc ixm_57 (ixm_fc ixm_58 (ixm_fc ixm_59 (ixm_t3))))))))))))))))))))
def ixm_l1 : List ix_M := ixM20 :: ixM21 :: ixM22 :: ixM23 :: ixM24 :: ixM25 :: ixM26 :: ixM27 :: ixM28 :: ixM29 :: ixM30 :: ixM31 :: ixM32 :: ixM33 :: ixM34 :: ixM35 :: ixM36 :: ixM37 :: ixM38 :: ixM39 :: ixm_l2
theorem ixm_t1 : ixm_l1.all (ix_vM (ixP .null)) = true := ixm_fc ixm_20 (ixm_fc ixm_21 (ixm_fc ixm_22 (ixm_fc ixm_23 (ixm_fc ixm_24 (ixm_fc ixm_25 (ixm_fc ixm_26 (ixm_fc ixm_27 (ixm_fc ixm_28 (ixm_fc ixm_29 (ixm_fc ixm_30 (ixm_fc ixm_31 (ixm_fc ixm_32 (ixm_fc ixm_33 (ixm_fc ixm_34 (ixm_fc ixm_35 (ixm_fc ixm_36 (ixm_fc ixm_37 (ixm_fc ixm_38 (ixm_fc ixm_39 (ixm_t2))))))))))))))))))))
def ixm_l0 : List ix_M := ixM0 :: ixM1 :: ixM2 :: ixM3 :: ixM4 :: ixM5 :: ixM6 :: ixM7 :: ixM8 :: ixM9 :: ixM10 :: ixM11 :: ixM12 :: ixM13 :: ixM14 :: ixM15 :: ixM16 :: ixM17 :: ixM18 :: ixM19 :: ixm_l1
theorem ixm_t0 : ixm_l0.all (ix_vM (ixP .null)) = true := ixm_fc ixm_0 (ixm_fc ixm_1 (ixm_fc ixm_2 (ixm_fc ixm_3 (ixm_fc ixm_4 (ixm_fc ixm_5 (ixm_fc ixm_6 (ixm_fc ixm_7 (ixm_fc ixm_8 (ixm_fc ixm_9 (ixm_fc ixm_10 (ixm_fc ixm_11 (ixm_fc ixm_12 (ixm_fc ixm_13 (ixm_fc ixm_14 (ixm_fc ixm_15 (ixm_fc ixm_16 (ixm_fc ixm_17 (ixm_fc ixm_18 (ixm_fc ixm_19 (ixm_t1))))))))))))))))))))
set_option maxRecDepth 30000 in
theorem ixm_e : ixMT = ixm_l0 := rfl
theorem ixo_V (fv : Value) : ix_V (ixP fv) = true := by
  unfold ix_V
  rw [ixo_kw, ixe_vF, ixe_vN, ixe_vC, ixe_vM]
  rw [show (ix_FT (ixP fv)).all (ix_vF (ixP .null)) = true from ixv_2, show (ix_NT (ixP fv)).all (ix_vN (ixP .null)) = true from ixv_3, show (ix_CT (ixP fv)).all (ix_vC (ixP .null)) = true from ixv_4]
  rw [show (ix_MT (ixP fv)).all (ix_vM (ixP .null)) = true from (congrArg (fun l => l.all (ix_vM (ixP .null))) ixm_e).trans ixm_t0]
  rw [show (ix_CL (ixP fv)).all ix_nm = true from ixv_5.1, show (ix_CL (ixP fv)).all ix_tp = true from ixv_5.2]
  rw [show ix_TY (ixP fv) = [.int, .long, .byte, .boolean, .byte, .array .int] from rfl]
  simp
theorem ixo_V2 (fv : Value) : ix_V2 (ixP fv) = true := by
  have h := ixv_7
  unfold ix_V2 at h ⊢
  rw [ixe_vX, ixe_vH]
  exact h
