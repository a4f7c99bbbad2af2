/-! THE TABLES are in order: fields, calls, words. -/
theorem ixv_2 : ixFT.all (ix_vF (ixP .null)) = true := by decide +kernel
theorem ixv_3 : ixNT.all (ix_vN (ixP .null)) = true := by decide +kernel
theorem ixv_4 : ixCT.all (ix_vC (ixP .null)) = true := by decide +kernel
theorem ixv_5 : ixCL.all ix_nm = true ∧ ixCL.all ix_tp = true := by decide +kernel
theorem ixv_7 : ix_V2 (ixP .null) = true := by decide +kernel
theorem ixv_60 : (ixCL.flatMap (fun r => u_ws r.1 r.2.1 r.2.2)).all ix_kw = true := by decide +kernel
theorem ixv_61 : (ixFT.flatMap (ix_wF (ixP .null))).all ix_kw = true := by decide +kernel
theorem ixv_62 : (ixNT.flatMap (ix_wN (ixP .null))).all ix_kw = true := by decide +kernel
theorem ixv_63 : (ixKT.flatMap (ix_wK (ixP .null))).all ix_kw = true := by decide +kernel
theorem ixv_64 : (ixCT.flatMap (ix_wC (ixP .null))).all ix_kw = true := by decide +kernel
theorem ixv_65 : (ixMT.tail.map ix_wM).all ix_kw = true := by decide +kernel
theorem ixv_66 : (ix_pr [.int, .long, .byte, .boolean, .byte, .array .int]).all ix_kw = true := by decide +kernel
theorem ixv_67 : ((ixST .null).flatMap (ix_wS (ixP .null))).all ix_kw = true := by decide +kernel
theorem ixv_68 : (ixAT.flatMap (ix_wA (ixP .null))).all ix_kw = true := by decide +kernel
theorem ixv_69 : (ixNV.flatMap (ix_wV (ixP .null))).all ix_kw = true := by decide +kernel
theorem ixv_6a : (ixXT.flatMap (ix_wX (ixP .null))).all ix_kw = true := by decide +kernel
theorem ixv_6b : (ixHT.flatMap (ix_wH (ixP .null))).all ix_kw = true := by decide +kernel
