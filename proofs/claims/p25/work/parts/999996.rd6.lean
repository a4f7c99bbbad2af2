/-! THE LINES as items (written by gen999996.py). -/
theorem flt_ok {T : List (List Int32 × Bool)} {t : List Int32} : flt ((t, true) :: T) = t ++ flt T := rfl
theorem flt_no {T : List (List Int32 × Bool)} {t : List Int32} : flt ((t, false) :: T) = t ++ flt T := rfl
theorem flt_nil : flt [] = [] := rfl
/-- the texts of many lines -/
def cat {α : Type} (g : Nat → List α) : Nat → Nat → List α
  | _, 0 => []
  | k, r + 1 => g k ++ cat g (k + 1) r
section RD6
variable {ce : Nat → Int32} {y : Int32} {k a b c f m a2 a3 a4 a5 a6 a7 a8 a9 : Nat} {l : List Int32} {T : List (List Int32 × Bool)}
def itB (k a b : Nat) : List (List Int32 × Bool) := [([98, 97, 121], true), ([32], false), (98 :: dgt k, true), ([32], false), ([112, 97, 110, 101, 115], true), ([32], false), (dgt a, true), ([32], false), ([116, 104, 105, 99, 107], true), ([32], false), (dgt b, true), ([59], true)]
theorem tx_B : l ++ sK 29 ++ dgt k ++ sK 30 ++ dgt a ++ sK 31 ++ dgt b ++ sK 32 = l ++ flt (itB k a b) := by
  simp only [sv29, sv30, sv31, sv32, itB, flt_ok, flt_no, flt_nil, List.append_assoc, List.cons_append, List.nil_append, List.append_nil]
theorem to_B : toks (itB k a b) = [[98, 97, 121], 98 :: dgt k, [112, 97, 110, 101, 115], dgt a, [116, 104, 105, 99, 107], dgt b, [59]] := rfl
theorem ok_B (hk : k < 10) (ha : a < 130) (hb : b < 130) : okI (itB k a b) y := (okI_t kk1 (by decide) (sp_w (by decide) (show isWd 32 = false by decide)) (okI_b (by decide) (okI_t (kn98 k (hk)) (by decide) (sp_w (by decide) (show isWd 32 = false by decide)) (okI_b (by decide) (okI_t kk2 (by decide) (sp_w (by decide) (show isWd 32 = false by decide)) (okI_b (by decide) (okI_t (kd3 a ha) (by decide) (sp_n' ha (show isWd 32 = false by decide)) (okI_b (by decide) (okI_t kk3 (by decide) (sp_w (by decide) (show isWd 32 = false by decide)) (okI_b (by decide) (okI_t (kd3 b hb) (by decide) (sp_n' hb (show isWd 59 = false by decide)) (okI_t ks59 (by decide) sp59 trivial))))))))))))
def itC (k a b c f : Nat) : List (List Int32 × Bool) := [([99, 104, 105, 109, 110, 101, 121], true), ([32], false), (107 :: dgt k, true), ([32], false), ([97, 116], true), ([32], false), (dgt a, true), ([32], false), ([115, 111, 111, 116], true), ([32], false), (dgt b, true), ([32], false), ([101, 118, 101, 114, 121], true), ([32], false), (dgt c, true), ([32], false), ([114, 101, 97, 99, 104], true), ([32], false), (dgt f, true), ([32], false), ([59], true), ([10], false)]
theorem tx_C : l ++ sK 33 ++ dgt k ++ sK 34 ++ dgt a ++ sK 35 ++ dgt b ++ sK 36 ++ dgt c ++ sK 37 ++ dgt f ++ sK 38 = l ++ flt (itC k a b c f) := by
  simp only [sv33, sv34, sv35, sv36, sv37, sv38, itC, flt_ok, flt_no, flt_nil, List.append_assoc, List.cons_append, List.nil_append, List.append_nil]
theorem to_C : toks (itC k a b c f) = [[99, 104, 105, 109, 110, 101, 121], 107 :: dgt k, [97, 116], dgt a, [115, 111, 111, 116], dgt b, [101, 118, 101, 114, 121], dgt c, [114, 101, 97, 99, 104], dgt f, [59]] := rfl
theorem ok_C (hk : k < 10) (ha : a < 130) (hb : b < 130) (hc : c < 130) (hf : f < 130) : okI (itC k a b c f) y := (okI_t kk4 (by decide) (sp_w (by decide) (show isWd 32 = false by decide)) (okI_b (by decide) (okI_t (kn107 k (hk)) (by decide) (sp_w (by decide) (show isWd 32 = false by decide)) (okI_b (by decide) (okI_t kk5 (by decide) (sp_w (by decide) (show isWd 32 = false by decide)) (okI_b (by decide) (okI_t (kd3 a ha) (by decide) (sp_n' ha (show isWd 32 = false by decide)) (okI_b (by decide) (okI_t kk6 (by decide) (sp_w (by decide) (show isWd 32 = false by decide)) (okI_b (by decide) (okI_t (kd3 b hb) (by decide) (sp_n' hb (show isWd 32 = false by decide)) (okI_b (by decide) (okI_t kk7 (by decide) (sp_w (by decide) (show isWd 32 = false by decide)) (okI_b (by decide) (okI_t (kd3 c hc) (by decide) (sp_n' hc (show isWd 32 = false by decide)) (okI_b (by decide) (okI_t kk8 (by decide) (sp_w (by decide) (show isWd 32 = false by decide)) (okI_b (by decide) (okI_t (kd3 f hf) (by decide) (sp_n' hf (show isWd 32 = false by decide)) (okI_b (by decide) (okI_t ks59 (by decide) sp59 (okI_b (by decide) trivial))))))))))))))))))))))
def itK (k a b c : Nat) : List (List Int32 × Bool) := [([99, 114, 97, 100, 108, 101], true), ([32], false), (99 :: dgt k, true), ([32], false), ([97, 116], true), ([32], false), (dgt a, true), ([32], false), ([115, 112, 101, 101, 100], true), ([32], false), (dgt b, true), ([32], false), ([119, 97, 115, 104], true), ([32], false), (dgt c, true), ([59], true)]
theorem tx_K : l ++ sK 39 ++ dgt k ++ sK 34 ++ dgt a ++ sK 40 ++ dgt b ++ sK 41 ++ dgt c ++ sK 32 = l ++ flt (itK k a b c) := by
  simp only [sv32, sv34, sv39, sv40, sv41, itK, flt_ok, flt_no, flt_nil, List.append_assoc, List.cons_append, List.nil_append, List.append_nil]
theorem to_K : toks (itK k a b c) = [[99, 114, 97, 100, 108, 101], 99 :: dgt k, [97, 116], dgt a, [115, 112, 101, 101, 100], dgt b, [119, 97, 115, 104], dgt c, [59]] := rfl
theorem ok_K (hk : k < 10) (ha : a < 130) (hb : b < 130) (hc : c < 130) : okI (itK k a b c) y := (okI_t kk9 (by decide) (sp_w (by decide) (show isWd 32 = false by decide)) (okI_b (by decide) (okI_t (kn99 k (hk)) (by decide) (sp_w (by decide) (show isWd 32 = false by decide)) (okI_b (by decide) (okI_t kk5 (by decide) (sp_w (by decide) (show isWd 32 = false by decide)) (okI_b (by decide) (okI_t (kd3 a ha) (by decide) (sp_n' ha (show isWd 32 = false by decide)) (okI_b (by decide) (okI_t kk10 (by decide) (sp_w (by decide) (show isWd 32 = false by decide)) (okI_b (by decide) (okI_t (kd3 b hb) (by decide) (sp_n' hb (show isWd 32 = false by decide)) (okI_b (by decide) (okI_t kk11 (by decide) (sp_w (by decide) (show isWd 32 = false by decide)) (okI_b (by decide) (okI_t (kd3 c hc) (by decide) (sp_n' hc (show isWd 59 = false by decide)) (okI_t ks59 (by decide) sp59 trivial))))))))))))))))
def itF (k a b : Nat) : List (List Int32 × Bool) := [([102, 108, 111, 99, 107], true), ([32], false), (102 :: dgt k, true), ([32], false), ([98, 105, 114, 100, 115], true), ([32], false), (dgt a, true), ([32], false), ([101, 118, 101, 114, 121], true), ([32], false), (dgt b, true), ([59], true)]
theorem tx_F : l ++ sK 42 ++ dgt k ++ sK 43 ++ dgt a ++ sK 36 ++ dgt b ++ sK 32 = l ++ flt (itF k a b) := by
  simp only [sv32, sv36, sv42, sv43, itF, flt_ok, flt_no, flt_nil, List.append_assoc, List.cons_append, List.nil_append, List.append_nil]
theorem to_F : toks (itF k a b) = [[102, 108, 111, 99, 107], 102 :: dgt k, [98, 105, 114, 100, 115], dgt a, [101, 118, 101, 114, 121], dgt b, [59]] := rfl
theorem ok_F (hk : k < 10) (ha : a < 130) (hb : b < 130) : okI (itF k a b) y := (okI_t kk12 (by decide) (sp_w (by decide) (show isWd 32 = false by decide)) (okI_b (by decide) (okI_t (kn102 k (hk)) (by decide) (sp_w (by decide) (show isWd 32 = false by decide)) (okI_b (by decide) (okI_t kk13 (by decide) (sp_w (by decide) (show isWd 32 = false by decide)) (okI_b (by decide) (okI_t (kd3 a ha) (by decide) (sp_n' ha (show isWd 32 = false by decide)) (okI_b (by decide) (okI_t kk7 (by decide) (sp_w (by decide) (show isWd 32 = false by decide)) (okI_b (by decide) (okI_t (kd3 b hb) (by decide) (sp_n' hb (show isWd 59 = false by decide)) (okI_t ks59 (by decide) sp59 trivial))))))))))))
theorem tx_s0 : sK 2 ++ dgt (a3 % 45) = flt [(dgt (a3 % 45), true)] := by
  simp only [sv2, flt_ok, flt_no, flt_nil, List.append_assoc, List.cons_append, List.nil_append, List.append_nil]
theorem ok_s0 (hy : isWd y = false) (h3 : a3 < 130) (h6 : a6 < 130) (h8 : a8 < 10) (h9 : a9 < 10) : okI [(dgt (a3 % 45), true)] y := (okI_t (kd3 (a3 % 45) (by omega)) (by decide) (sp_n' (by omega) hy) trivial)
theorem tx_s1 : sK 3 ++ dgt a8 ++ sK 4 ++ dgt a6 ++ sK 5 = flt [([97, 116], true), ([32], false), (99 :: dgt a8, true), ([43], true), (dgt a6, true), ([45], true), ([51], true)] := by
  simp only [sv3, sv4, sv5, flt_ok, flt_no, flt_nil, List.append_assoc, List.cons_append, List.nil_append, List.append_nil]
theorem ok_s1 (hy : isWd y = false) (h3 : a3 < 130) (h6 : a6 < 130) (h8 : a8 < 10) (h9 : a9 < 10) : okI [([97, 116], true), ([32], false), (99 :: dgt a8, true), ([43], true), (dgt a6, true), ([45], true), ([51], true)] y := (okI_t kk5 (by decide) (sp_w (by decide) (show isWd 32 = false by decide)) (okI_b (by decide) (okI_t (kn99 a8 (h8)) (by decide) (sp_w (by decide) (show isWd 43 = false by decide)) (okI_t ks43 (by decide) sp43 (okI_t (kd3 a6 h6) (by decide) (sp_n' h6 (show isWd 45 = false by decide)) (okI_t ks45 (by decide) sp45 (okI_t kl3 (by decide) (sp_l (by decide) hy) trivial)))))))
theorem tx_s2 : sK 6 ++ dgt a6 ++ sK 7 ++ dgt a3 ++ sK 8 = flt [([109, 105, 110], true), ([40], true), ([100, 105, 114, 116], true), ([40], true), (dgt a6, true), ([41], true), ([44], true), (dgt a3, true), ([41], true), ([45], true), ([50], true)] := by
  simp only [sv6, sv7, sv8, flt_ok, flt_no, flt_nil, List.append_assoc, List.cons_append, List.nil_append, List.append_nil]
theorem ok_s2 (hy : isWd y = false) (h3 : a3 < 130) (h6 : a6 < 130) (h8 : a8 < 10) (h9 : a9 < 10) : okI [([109, 105, 110], true), ([40], true), ([100, 105, 114, 116], true), ([40], true), (dgt a6, true), ([41], true), ([44], true), (dgt a3, true), ([41], true), ([45], true), ([50], true)] y := (okI_t kk29 (by decide) (sp_w (by decide) (show isWd 40 = false by decide)) (okI_t ks40 (by decide) sp40 (okI_t kk21 (by decide) (sp_w (by decide) (show isWd 40 = false by decide)) (okI_t ks40 (by decide) sp40 (okI_t (kd3 a6 h6) (by decide) (sp_n' h6 (show isWd 41 = false by decide)) (okI_t ks41 (by decide) sp41 (okI_t ks44 (by decide) sp44 (okI_t (kd3 a3 h3) (by decide) (sp_n' h3 (show isWd 41 = false by decide)) (okI_t ks41 (by decide) sp41 (okI_t ks45 (by decide) sp45 (okI_t kl2 (by decide) (sp_l (by decide) hy) trivial)))))))))))
theorem tx_s3 : sK 9 ++ dgt a9 ++ sK 10 = flt [([109, 97, 120], true), ([40], true), ([112, 101, 114, 99, 104], true), ([32], false), (102 :: dgt a9, true), ([44], true), ([48], true), ([41], true), ([42], true), ([50], true), ([47], true), ([50], true)] := by
  simp only [sv10, sv9, flt_ok, flt_no, flt_nil, List.append_assoc, List.cons_append, List.nil_append, List.append_nil]
theorem ok_s3 (hy : isWd y = false) (h3 : a3 < 130) (h6 : a6 < 130) (h8 : a8 < 10) (h9 : a9 < 10) : okI [([109, 97, 120], true), ([40], true), ([112, 101, 114, 99, 104], true), ([32], false), (102 :: dgt a9, true), ([44], true), ([48], true), ([41], true), ([42], true), ([50], true), ([47], true), ([50], true)] y := (okI_t kk30 (by decide) (sp_w (by decide) (show isWd 40 = false by decide)) (okI_t ks40 (by decide) sp40 (okI_t kk24 (by decide) (sp_w (by decide) (show isWd 32 = false by decide)) (okI_b (by decide) (okI_t (kn102 a9 (h9)) (by decide) (sp_w (by decide) (show isWd 44 = false by decide)) (okI_t ks44 (by decide) sp44 (okI_t kl0 (by decide) (sp_l (by decide) (show isWd 41 = false by decide)) (okI_t ks41 (by decide) sp41 (okI_t ks42 (by decide) sp42 (okI_t kl2 (by decide) (sp_l (by decide) (show isWd 47 = false by decide)) (okI_t ks47 (by decide) sp47 (okI_t kl2 (by decide) (sp_l (by decide) hy) trivial))))))))))))
theorem tx_s4 : sK 11 = flt [([104, 111, 117, 114], true), ([45], true), ([104, 111, 117, 114], true), ([47], true), ([57], true), ([42], true), ([57], true), ([43], true), ([119, 105, 110, 100], true)] := by
  simp only [sv11, flt_ok, flt_no, flt_nil, List.append_assoc, List.cons_append, List.nil_append, List.append_nil]
theorem ok_s4 (hy : isWd y = false) (h3 : a3 < 130) (h6 : a6 < 130) (h8 : a8 < 10) (h9 : a9 < 10) : okI [([104, 111, 117, 114], true), ([45], true), ([104, 111, 117, 114], true), ([47], true), ([57], true), ([42], true), ([57], true), ([43], true), ([119, 105, 110, 100], true)] y := (okI_t kk18 (by decide) (sp_w (by decide) (show isWd 45 = false by decide)) (okI_t ks45 (by decide) sp45 (okI_t kk18 (by decide) (sp_w (by decide) (show isWd 47 = false by decide)) (okI_t ks47 (by decide) sp47 (okI_t kl9 (by decide) (sp_l (by decide) (show isWd 42 = false by decide)) (okI_t ks42 (by decide) sp42 (okI_t kl9 (by decide) (sp_l (by decide) (show isWd 43 = false by decide)) (okI_t ks43 (by decide) sp43 (okI_t kk19 (by decide) (sp_w (by decide) hy) trivial)))))))))
theorem tx_s5 : sK 12 ++ dgt a6 = flt [([45], true), ([50], true), ([43], true), (dgt a6, true)] := by
  simp only [sv12, flt_ok, flt_no, flt_nil, List.append_assoc, List.cons_append, List.nil_append, List.append_nil]
theorem ok_s5 (hy : isWd y = false) (h3 : a3 < 130) (h6 : a6 < 130) (h8 : a8 < 10) (h9 : a9 < 10) : okI [([45], true), ([50], true), ([43], true), (dgt a6, true)] y := (okI_t ks45 (by decide) sp45 (okI_t kl2 (by decide) (sp_l (by decide) (show isWd 43 = false by decide)) (okI_t ks43 (by decide) sp43 (okI_t (kd3 a6 h6) (by decide) (sp_n' h6 hy) trivial))))
theorem tx_t0 : sK 13 ++ dgt a5 ++ sK 14 = flt [([32], false), ([119, 104, 101, 110], true), ([32], false), ([104, 111, 117, 114], true), ([62], true), (dgt a5, true), ([47], true), ([52], true)] := by
  simp only [sv13, sv14, flt_ok, flt_no, flt_nil, List.append_assoc, List.cons_append, List.nil_append, List.append_nil]
theorem ok_t0 (hy : isWd y = false) (h5 : a5 < 130) (h6 : a6 < 130) (h7 : a7 < 10) (h8 : a8 < 10) (h9 : a9 < 10) : okI [([32], false), ([119, 104, 101, 110], true), ([32], false), ([104, 111, 117, 114], true), ([62], true), (dgt a5, true), ([47], true), ([52], true)] y := (okI_b (by decide) (okI_t kk17 (by decide) (sp_w (by decide) (show isWd 32 = false by decide)) (okI_b (by decide) (okI_t kk18 (by decide) (sp_w (by decide) (show isWd 62 = false by decide)) (okI_t ks62 (by decide) (sp_gt (fst_d h5)).1 (okI_t (kd3 a5 h5) (by decide) (sp_n' h5 (show isWd 47 = false by decide)) (okI_t ks47 (by decide) sp47 (okI_t kl4 (by decide) (sp_l (by decide) hy) trivial))))))))
theorem tx_t1 : sK 15 ++ dgt a7 = flt [([32], false), ([119, 104, 101, 110], true), ([32], false), ([100, 97, 114, 107], true), ([32], false), (98 :: dgt a7, true)] := by
  simp only [sv15, flt_ok, flt_no, flt_nil, List.append_assoc, List.cons_append, List.nil_append, List.append_nil]
theorem ok_t1 (hy : isWd y = false) (h5 : a5 < 130) (h6 : a6 < 130) (h7 : a7 < 10) (h8 : a8 < 10) (h9 : a9 < 10) : okI [([32], false), ([119, 104, 101, 110], true), ([32], false), ([100, 97, 114, 107], true), ([32], false), (98 :: dgt a7, true)] y := (okI_b (by decide) (okI_t kk17 (by decide) (sp_w (by decide) (show isWd 32 = false by decide)) (okI_b (by decide) (okI_t kk25 (by decide) (sp_w (by decide) (show isWd 32 = false by decide)) (okI_b (by decide) (okI_t (kn98 a7 (h7)) (by decide) (sp_w (by decide) hy) trivial))))))
theorem tx_t2 : sK 16 ++ dgt a7 = flt [([32], false), ([119, 104, 101, 110], true), ([32], false), ([110, 111, 116], true), ([32], false), ([100, 97, 114, 107], true), ([32], false), (98 :: dgt a7, true)] := by
  simp only [sv16, flt_ok, flt_no, flt_nil, List.append_assoc, List.cons_append, List.nil_append, List.append_nil]
theorem ok_t2 (hy : isWd y = false) (h5 : a5 < 130) (h6 : a6 < 130) (h7 : a7 < 10) (h8 : a8 < 10) (h9 : a9 < 10) : okI [([32], false), ([119, 104, 101, 110], true), ([32], false), ([110, 111, 116], true), ([32], false), ([100, 97, 114, 107], true), ([32], false), (98 :: dgt a7, true)] y := (okI_b (by decide) (okI_t kk17 (by decide) (sp_w (by decide) (show isWd 32 = false by decide)) (okI_b (by decide) (okI_t kk26 (by decide) (sp_w (by decide) (show isWd 32 = false by decide)) (okI_b (by decide) (okI_t kk25 (by decide) (sp_w (by decide) (show isWd 32 = false by decide)) (okI_b (by decide) (okI_t (kn98 a7 (h7)) (by decide) (sp_w (by decide) hy) trivial))))))))
theorem tx_t3 : sK 17 ++ dgt a6 ++ sK 18 ++ dgt a5 = flt [([32], false), ([119, 104, 101, 110], true), ([32], false), ([100, 105, 114, 116], true), ([40], true), (dgt a6, true), ([41], true), ([62, 61], true), (dgt a5, true)] := by
  simp only [sv17, sv18, flt_ok, flt_no, flt_nil, List.append_assoc, List.cons_append, List.nil_append, List.append_nil]
theorem ok_t3 (hy : isWd y = false) (h5 : a5 < 130) (h6 : a6 < 130) (h7 : a7 < 10) (h8 : a8 < 10) (h9 : a9 < 10) : okI [([32], false), ([119, 104, 101, 110], true), ([32], false), ([100, 105, 114, 116], true), ([40], true), (dgt a6, true), ([41], true), ([62, 61], true), (dgt a5, true)] y := (okI_b (by decide) (okI_t kk17 (by decide) (sp_w (by decide) (show isWd 32 = false by decide)) (okI_b (by decide) (okI_t kk21 (by decide) (sp_w (by decide) (show isWd 40 = false by decide)) (okI_t ks40 (by decide) sp40 (okI_t (kd3 a6 h6) (by decide) (sp_n' h6 (show isWd 41 = false by decide)) (okI_t ks41 (by decide) sp41 (okI_t ks318 (by decide) sp318 (okI_t (kd3 a5 h5) (by decide) (sp_n' h5 hy) trivial)))))))))
theorem tx_t4 : sK 19 ++ dgt a8 ++ sK 20 ++ dgt a8 ++ sK 21 ++ dgt a6 = flt [([32], false), ([119, 104, 101, 110], true), ([32], false), ([119, 97, 116, 101, 114], true), ([32], false), (99 :: dgt a8, true), ([61], true), ([48], true), ([32], false), ([111, 114], true), ([32], false), ([97, 116], true), ([32], false), (99 :: dgt a8, true), ([62], true), (dgt a6, true)] := by
  simp only [sv19, sv20, sv21, flt_ok, flt_no, flt_nil, List.append_assoc, List.cons_append, List.nil_append, List.append_nil]
theorem ok_t4 (hy : isWd y = false) (h5 : a5 < 130) (h6 : a6 < 130) (h7 : a7 < 10) (h8 : a8 < 10) (h9 : a9 < 10) : okI [([32], false), ([119, 104, 101, 110], true), ([32], false), ([119, 97, 116, 101, 114], true), ([32], false), (99 :: dgt a8, true), ([61], true), ([48], true), ([32], false), ([111, 114], true), ([32], false), ([97, 116], true), ([32], false), (99 :: dgt a8, true), ([62], true), (dgt a6, true)] y := (okI_b (by decide) (okI_t kk17 (by decide) (sp_w (by decide) (show isWd 32 = false by decide)) (okI_b (by decide) (okI_t kk23 (by decide) (sp_w (by decide) (show isWd 32 = false by decide)) (okI_b (by decide) (okI_t (kn99 a8 (h8)) (by decide) (sp_w (by decide) (show isWd 61 = false by decide)) (okI_t ks61 (by decide) sp61 (okI_t kl0 (by decide) (sp_l (by decide) (show isWd 32 = false by decide)) (okI_b (by decide) (okI_t kk28 (by decide) (sp_w (by decide) (show isWd 32 = false by decide)) (okI_b (by decide) (okI_t kk5 (by decide) (sp_w (by decide) (show isWd 32 = false by decide)) (okI_b (by decide) (okI_t (kn99 a8 (h8)) (by decide) (sp_w (by decide) (show isWd 62 = false by decide)) (okI_t ks62 (by decide) (sp_gt (fst_d h6)).1 (okI_t (kd3 a6 h6) (by decide) (sp_n' h6 hy) trivial))))))))))))))))
theorem tx_t5 : sK 22 ++ dgt a5 ++ sK 23 ++ dgt a5 = flt [([32], false), ([119, 104, 101, 110], true), ([32], false), ([91], true), ([108, 105, 103, 104, 116], true), ([60], true), (dgt a5, true), ([42], true), ([51, 48], true), ([32], false), ([97, 110, 100], true), ([32], false), ([119, 105, 110, 100], true), ([62, 61], true), ([48], true), ([93], true), ([111, 114], true), ([32], false), ([110, 111, 116], true), ([32], false), ([104, 111, 117, 114], true), ([61], true), (dgt a5, true)] := by
  simp only [sv22, sv23, flt_ok, flt_no, flt_nil, List.append_assoc, List.cons_append, List.nil_append, List.append_nil]
theorem ok_t5 (hy : isWd y = false) (h5 : a5 < 130) (h6 : a6 < 130) (h7 : a7 < 10) (h8 : a8 < 10) (h9 : a9 < 10) : okI [([32], false), ([119, 104, 101, 110], true), ([32], false), ([91], true), ([108, 105, 103, 104, 116], true), ([60], true), (dgt a5, true), ([42], true), ([51, 48], true), ([32], false), ([97, 110, 100], true), ([32], false), ([119, 105, 110, 100], true), ([62, 61], true), ([48], true), ([93], true), ([111, 114], true), ([32], false), ([110, 111, 116], true), ([32], false), ([104, 111, 117, 114], true), ([61], true), (dgt a5, true)] y := (okI_b (by decide) (okI_t kk17 (by decide) (sp_w (by decide) (show isWd 32 = false by decide)) (okI_b (by decide) (okI_t ks91 (by decide) sp91 (okI_t kk20 (by decide) (sp_w (by decide) (show isWd 60 = false by decide)) (okI_t ks60 (by decide) (sp_gt (fst_d h5)).2 (okI_t (kd3 a5 h5) (by decide) (sp_n' h5 (show isWd 42 = false by decide)) (okI_t ks42 (by decide) sp42 (okI_t kl30 (by decide) (sp_l (by decide) (show isWd 32 = false by decide)) (okI_b (by decide) (okI_t kk27 (by decide) (sp_w (by decide) (show isWd 32 = false by decide)) (okI_b (by decide) (okI_t kk19 (by decide) (sp_w (by decide) (show isWd 62 = false by decide)) (okI_t ks318 (by decide) sp318 (okI_t kl0 (by decide) (sp_l (by decide) (show isWd 93 = false by decide)) (okI_t ks93 (by decide) sp93 (okI_t kk28 (by decide) (sp_w (by decide) (show isWd 32 = false by decide)) (okI_b (by decide) (okI_t kk26 (by decide) (sp_w (by decide) (show isWd 32 = false by decide)) (okI_b (by decide) (okI_t kk18 (by decide) (sp_w (by decide) (show isWd 61 = false by decide)) (okI_t ks61 (by decide) sp61 (okI_t (kd3 a5 h5) (by decide) (sp_n' h5 hy) trivial)))))))))))))))))))))))
theorem tx_t6 : sK 24 ++ dgt a6 ++ sK 25 ++ dgt a5 ++ sK 26 ++ dgt a9 = flt [([32], false), ([119, 104, 101, 110], true), ([32], false), ([99, 114, 97, 99, 107], true), ([40], true), (dgt a6, true), ([41], true), ([42], true), ([50], true), ([32], false), ([62], true), ([32], false), (dgt a5, true), ([32], false), ([45], true), ([32], false), ([112, 101, 114, 99, 104], true), ([32], false), (102 :: dgt a9, true)] := by
  simp only [sv24, sv25, sv26, flt_ok, flt_no, flt_nil, List.append_assoc, List.cons_append, List.nil_append, List.append_nil]
theorem ok_t6 (hy : isWd y = false) (h5 : a5 < 130) (h6 : a6 < 130) (h7 : a7 < 10) (h8 : a8 < 10) (h9 : a9 < 10) : okI [([32], false), ([119, 104, 101, 110], true), ([32], false), ([99, 114, 97, 99, 107], true), ([40], true), (dgt a6, true), ([41], true), ([42], true), ([50], true), ([32], false), ([62], true), ([32], false), (dgt a5, true), ([32], false), ([45], true), ([32], false), ([112, 101, 114, 99, 104], true), ([32], false), (102 :: dgt a9, true)] y := (okI_b (by decide) (okI_t kk17 (by decide) (sp_w (by decide) (show isWd 32 = false by decide)) (okI_b (by decide) (okI_t kk22 (by decide) (sp_w (by decide) (show isWd 40 = false by decide)) (okI_t ks40 (by decide) sp40 (okI_t (kd3 a6 h6) (by decide) (sp_n' h6 (show isWd 41 = false by decide)) (okI_t ks41 (by decide) sp41 (okI_t ks42 (by decide) sp42 (okI_t kl2 (by decide) (sp_l (by decide) (show isWd 32 = false by decide)) (okI_b (by decide) (okI_t ks62 (by decide) (show sepOK [62] 32 = true by decide) (okI_b (by decide) (okI_t (kd3 a5 h5) (by decide) (sp_n' h5 (show isWd 32 = false by decide)) (okI_b (by decide) (okI_t ks45 (by decide) sp45 (okI_b (by decide) (okI_t kk24 (by decide) (sp_w (by decide) (show isWd 32 = false by decide)) (okI_b (by decide) (okI_t (kn102 a9 (h9)) (by decide) (sp_w (by decide) hy) trivial)))))))))))))))))))
theorem tx_t7 : sK 27 ++ dgt a5 ++ sK 28 ++ dgt a5 = flt [([32], false), ([119, 104, 101, 110], true), ([32], false), (dgt a5, true), ([47], true), ([50], true), ([42], true), ([50], true), ([61], true), (dgt a5, true)] := by
  simp only [sv27, sv28, flt_ok, flt_no, flt_nil, List.append_assoc, List.cons_append, List.nil_append, List.append_nil]
theorem ok_t7 (hy : isWd y = false) (h5 : a5 < 130) (h6 : a6 < 130) (h7 : a7 < 10) (h8 : a8 < 10) (h9 : a9 < 10) : okI [([32], false), ([119, 104, 101, 110], true), ([32], false), (dgt a5, true), ([47], true), ([50], true), ([42], true), ([50], true), ([61], true), (dgt a5, true)] y := (okI_b (by decide) (okI_t kk17 (by decide) (sp_w (by decide) (show isWd 32 = false by decide)) (okI_b (by decide) (okI_t (kd3 a5 h5) (by decide) (sp_n' h5 (show isWd 47 = false by decide)) (okI_t ks47 (by decide) sp47 (okI_t kl2 (by decide) (sp_l (by decide) (show isWd 42 = false by decide)) (okI_t ks42 (by decide) sp42 (okI_t kl2 (by decide) (sp_l (by decide) (show isWd 61 = false by decide)) (okI_t ks61 (by decide) sp61 (okI_t (kd3 a5 h5) (by decide) (sp_n' h5 hy) trivial))))))))))
theorem tx_s (h2 : a2 < 6) : smT a2 a3 a6 a8 a9 = flt (smI a2 a3 a6 a8 a9) := by
  by_cases c0 : a2 = 0
  · subst c0
    exact tx_s0
  by_cases c1 : a2 = 1
  · subst c1
    exact tx_s1
  by_cases c2 : a2 = 2
  · subst c2
    exact tx_s2
  by_cases c3 : a2 = 3
  · subst c3
    exact tx_s3
  by_cases c4 : a2 = 4
  · subst c4
    exact tx_s4
  by_cases c5 : a2 = 5
  · subst c5
    exact tx_s5
  exfalso
  omega
theorem ok_s (h2 : a2 < 6) (hy : isWd y = false) (h3 : a3 < 130) (h6 : a6 < 130) (h8 : a8 < 10) (h9 : a9 < 10) : okI (smI a2 a3 a6 a8 a9) y := by
  by_cases c0 : a2 = 0
  · subst c0
    exact ok_s0 hy h3 h6 h8 h9
  by_cases c1 : a2 = 1
  · subst c1
    exact ok_s1 hy h3 h6 h8 h9
  by_cases c2 : a2 = 2
  · subst c2
    exact ok_s2 hy h3 h6 h8 h9
  by_cases c3 : a2 = 3
  · subst c3
    exact ok_s3 hy h3 h6 h8 h9
  by_cases c4 : a2 = 4
  · subst c4
    exact ok_s4 hy h3 h6 h8 h9
  by_cases c5 : a2 = 5
  · subst c5
    exact ok_s5 hy h3 h6 h8 h9
  exfalso
  omega
theorem le_s (h2 : a2 < 6) : (toks (smI a2 a3 a6 a8 a9)).length ≤ 11 ∧ (cS a2 a3 a6 a8 a9).length ≤ 9 := by
  by_cases c0 : a2 = 0
  · subst c0
    exact ⟨(by decide : 1 ≤ 11), (by decide : 1 ≤ 9)⟩
  by_cases c1 : a2 = 1
  · subst c1
    exact ⟨(by decide : 6 ≤ 11), (by decide : 5 ≤ 9)⟩
  by_cases c2 : a2 = 2
  · subst c2
    exact ⟨(by decide : 11 ≤ 11), (by decide : 6 ≤ 9)⟩
  by_cases c3 : a2 = 3
  · subst c3
    exact ⟨(by decide : 11 ≤ 11), (by decide : 7 ≤ 9)⟩
  by_cases c4 : a2 = 4
  · subst c4
    exact ⟨(by decide : 9 ≤ 11), (by decide : 9 ≤ 9)⟩
  by_cases c5 : a2 = 5
  · subst c5
    exact ⟨(by decide : 4 ≤ 11), (by decide : 4 ≤ 9)⟩
  exfalso
  omega
theorem tx_t (h4 : a4 ≤ 8) : teT a4 a5 a6 a7 a8 a9 = flt (teI a4 a5 a6 a7 a8 a9) := by
  by_cases c8 : a4 = 8
  · subst c8
    exact sv2
  by_cases c0 : a4 = 0
  · subst c0
    exact tx_t0
  by_cases c1 : a4 = 1
  · subst c1
    exact tx_t1
  by_cases c2 : a4 = 2
  · subst c2
    exact tx_t2
  by_cases c3 : a4 = 3
  · subst c3
    exact tx_t3
  by_cases c4 : a4 = 4
  · subst c4
    exact tx_t4
  by_cases c5 : a4 = 5
  · subst c5
    exact tx_t5
  by_cases c6 : a4 = 6
  · subst c6
    exact tx_t6
  by_cases c7 : a4 = 7
  · subst c7
    exact tx_t7
  exfalso
  omega
theorem ok_t (h4 : a4 ≤ 8) (hy : isWd y = false) (h5 : a5 < 130) (h6 : a6 < 130) (h7 : a7 < 10) (h8 : a8 < 10) (h9 : a9 < 10) : okI (teI a4 a5 a6 a7 a8 a9) y := by
  by_cases c8 : a4 = 8
  · subst c8
    exact trivial
  by_cases c0 : a4 = 0
  · subst c0
    exact ok_t0 hy h5 h6 h7 h8 h9
  by_cases c1 : a4 = 1
  · subst c1
    exact ok_t1 hy h5 h6 h7 h8 h9
  by_cases c2 : a4 = 2
  · subst c2
    exact ok_t2 hy h5 h6 h7 h8 h9
  by_cases c3 : a4 = 3
  · subst c3
    exact ok_t3 hy h5 h6 h7 h8 h9
  by_cases c4 : a4 = 4
  · subst c4
    exact ok_t4 hy h5 h6 h7 h8 h9
  by_cases c5 : a4 = 5
  · subst c5
    exact ok_t5 hy h5 h6 h7 h8 h9
  by_cases c6 : a4 = 6
  · subst c6
    exact ok_t6 hy h5 h6 h7 h8 h9
  by_cases c7 : a4 = 7
  · subst c7
    exact ok_t7 hy h5 h6 h7 h8 h9
  exfalso
  omega
theorem le_t (h4 : a4 ≤ 8) : (toks (teI a4 a5 a6 a7 a8 a9)).length ≤ 17 ∧ (cH a4 a5 a6 a7 a8 a9).length ≤ 14 := by
  by_cases c8 : a4 = 8
  · subst c8
    exact ⟨(by decide : 0 ≤ 17), (by decide : 0 ≤ 14)⟩
  by_cases c0 : a4 = 0
  · subst c0
    exact ⟨(by decide : 6 ≤ 17), (by decide : 5 ≤ 14)⟩
  by_cases c1 : a4 = 1
  · subst c1
    exact ⟨(by decide : 3 ≤ 17), (by decide : 1 ≤ 14)⟩
  by_cases c2 : a4 = 2
  · subst c2
    exact ⟨(by decide : 4 ≤ 17), (by decide : 2 ≤ 14)⟩
  by_cases c3 : a4 = 3
  · subst c3
    exact ⟨(by decide : 7 ≤ 17), (by decide : 4 ≤ 14)⟩
  by_cases c4 : a4 = 4
  · subst c4
    exact ⟨(by decide : 10 ≤ 17), (by decide : 7 ≤ 14)⟩
  by_cases c5 : a4 = 5
  · subst c5
    exact ⟨(by decide : 17 ≤ 17), (by decide : 14 ≤ 14)⟩
  by_cases c6 : a4 = 6
  · subst c6
    exact ⟨(by decide : 12 ≤ 17), (by decide : 8 ≤ 14)⟩
  by_cases c7 : a4 = 7
  · subst c7
    exact ⟨(by decide : 8 ≤ 17), (by decide : 7 ≤ 14)⟩
  exfalso
  omega
theorem fst_t (h4 : a4 ≤ 8) : fst1 (flt (teI a4 a5 a6 a7 a8 a9)) 59 = 32 ∨ fst1 (flt (teI a4 a5 a6 a7 a8 a9)) 59 = 59 := by
  by_cases c8 : a4 = 8
  · subst c8
    exact Or.inr rfl
  by_cases c0 : a4 = 0
  · subst c0
    exact Or.inl rfl
  by_cases c1 : a4 = 1
  · subst c1
    exact Or.inl rfl
  by_cases c2 : a4 = 2
  · subst c2
    exact Or.inl rfl
  by_cases c3 : a4 = 3
  · subst c3
    exact Or.inl rfl
  by_cases c4 : a4 = 4
  · subst c4
    exact Or.inl rfl
  by_cases c5 : a4 = 5
  · subst c5
    exact Or.inl rfl
  by_cases c6 : a4 = 6
  · subst c6
    exact Or.inl rfl
  by_cases c7 : a4 = 7
  · subst c7
    exact Or.inl rfl
  exfalso
  omega
/-- an order's line -/
def itS (m : Nat) (T : List (List Int32 × Bool)) : List (List Int32 × Bool) := [([115, 99, 97, 114, 101], true), ([32], false), (102 :: dgt m, true)] ++ (T ++ [([59], true)])
def itG (m : Nat) (S T : List (List Int32 × Bool)) : List (List Int32 × Bool) := [([103, 111], true), ([32], false), (99 :: dgt m, true), ([32], false), ([116, 111], true), ([32], false)] ++ (S ++ (T ++ [([59], true)]))
theorem ok_59 : okI [([59], true)] y := okI_t ks59 (by decide) sp59 trivial
theorem ok_S (hm : m < 10) (hT : okI T 59) (h1 : fst1 (flt T) 59 = 32) : okI (itS m T) y := by
  refine okI_app _ ?_ (okI_app _ hT ok_59)
  have e : fst1 (flt (T ++ [([59], true)])) y = 32 := by
    rw [flt_app, fst1_app]
    exact h1
  rw [e]
  exact (okI_t kk16 (by decide) (sp_w (by decide) (show isWd 32 = false by decide)) (okI_b (by decide) (okI_t (kn102 m (hm)) (by decide) (sp_w (by decide) (by decide)) trivial)))
theorem ok_G {S T : List (List Int32 × Bool)} (hm : m < 10) (hS : ∀ y, isWd y = false → okI S y) (hT : okI T 59) (h1 : fst1 (flt T) 59 = 32 ∨ fst1 (flt T) 59 = 59) : okI (itG m S T) y := by
  have e : fst1 (flt (T ++ [([59], true)])) y = 32 ∨ fst1 (flt (T ++ [([59], true)])) y = 59 := by
    rw [flt_app, fst1_app]
    exact h1
  have hw : isWd (fst1 (flt (T ++ [([59], true)])) y) = false := by rcases e with e | e <;> rw [e] <;> decide
  refine okI_app _ ?_ (okI_app _ (hS _ hw) (okI_app _ hT ok_59))
  exact (okI_t kk14 (by decide) (sp_w (by decide) (show isWd 32 = false by decide)) (okI_b (by decide) (okI_t (kn99 m (hm)) (by decide) (sp_w (by decide) (show isWd 32 = false by decide)) (okI_b (by decide) (okI_t kk15 (by decide) (sp_w (by decide) (show isWd 32 = false by decide)) (okI_b (by decide) trivial))))))
end RD6
