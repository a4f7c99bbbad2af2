/-! THE START: texts as items, kinds of the words (written by gen999992.py). -/
/-- an item: a token or blanks -/
def flt : List (List Int32 × Bool) → List Int32
  | [] => []
  | t :: T => t.1 ++ flt T
def toks : List (List Int32 × Bool) → List (List Int32)
  | [] => []
  | t :: T => if t.2 = true then t.1 :: toks T else toks T
def fst1 : List Int32 → Int32 → Int32
  | [], y => y
  | x :: _, _ => x
def ascB (x : List Int32) : Bool := x.all (fun c => decide (0 ≤ c) && decide (c < 128))
def okI : List (List Int32 × Bool) → Int32 → Prop
  | [], _ => True
  | t :: T, y => ascB t.1 = true ∧ (if t.2 = true then lexOK t.1 = true ∧ (¬ lexK KW t.1 = 0 ∧ ¬ lexK KW t.1 = -1) ∧ sepOK t.1 (fst1 (flt T) y) = true else t.1.all isBl = true) ∧ okI T y
/-- each token with the blanks ahead of it -/
def led : List Int32 → List (List Int32 × Bool) → List (List Int32 × List Int32)
  | _, [] => []
  | b, t :: T => if t.2 = true then (b, t.1) :: led [] T else led (b ++ t.1) T
section LEX4
variable {x y : Int32} {S T : List (List Int32 × Bool)} {l b pre : List Int32} {n k i j p : Nat}
theorem flt_app : ∀ S : List (List Int32 × Bool), flt (S ++ T) = flt S ++ flt T
  | [] => rfl
  | t :: S => by
    show t.1 ++ flt (S ++ T) = t.1 ++ flt S ++ flt T
    rw [flt_app S, List.append_assoc]
theorem toks_app : ∀ S : List (List Int32 × Bool), toks (S ++ T) = toks S ++ toks T
  | [] => rfl
  | t :: S => by
    show (if t.2 = true then t.1 :: toks (S ++ T) else toks (S ++ T)) = (if t.2 = true then t.1 :: toks S else toks S) ++ toks T
    rw [toks_app S]
    split <;> rfl
theorem fst1_app : fst1 (l ++ b) y = fst1 l (fst1 b y) := by
  cases l <;> rfl
theorem okI_app : ∀ S : List (List Int32 × Bool), okI S (fst1 (flt T) y) → okI T y → okI (S ++ T) y
  | [], _, h => h
  | t :: S, h, h' => by
    obtain ⟨h1, h2, h3⟩ := h
    refine ⟨h1, ?_, okI_app S h3 h'⟩
    show if t.2 = true then lexOK t.1 = true ∧ (¬ lexK KW t.1 = 0 ∧ ¬ lexK KW t.1 = -1) ∧ sepOK t.1 (fst1 (flt (S ++ T)) y) = true else t.1.all isBl = true
    rw [flt_app, fst1_app]
    exact h2
theorem led_toks : ∀ (T : List (List Int32 × Bool)) (b : List Int32), (led b T).map (fun t => t.2) = toks T
  | [], _ => rfl
  | t :: T, b => by
    show (if t.2 = true then (b, t.1) :: led [] T else led (b ++ t.1) T).map _ = if t.2 = true then t.1 :: toks T else toks T
    by_cases c : t.2 = true
    · rw [if_pos c, if_pos c, List.map_cons, led_toks T []]
    · rw [if_neg c, if_neg c, led_toks T (b ++ t.1)]
theorem okI_asc : ∀ T : List (List Int32 × Bool), okI T y → asc (flt T)
  | [], _ => fun i hi => absurd hi (Nat.not_lt_zero _)
  | t :: T, h => by
    intro i hi
    obtain ⟨h1, -, h3⟩ := h
    have hi : i < (t.1 ++ flt T).length := hi
    show ∃ c, c < 128 ∧ (t.1 ++ flt T)[i]? = some (nI c)
    rw [List.length_append] at hi
    by_cases c : i < t.1.length
    · rw [List.getElem?_append_left c]
      obtain ⟨z, hz⟩ : ∃ z, t.1[i]? = some z := ⟨_, List.getElem?_eq_getElem c⟩
      have hz2 := all_get (P := fun c => decide (0 ≤ c) && decide (c < 128)) h1 i z hz
      obtain ⟨k1, k2⟩ := (Bool.and_eq_true _ _).mp hz2
      have k1 := of_decide_eq_true k1
      have k2 := of_decide_eq_true k2
      refine ⟨z.toNatClampNeg, ?_, ?_⟩
      · have h := Int32.lt_iff_toInt_lt.mp k2
        have : (128 : Int32).toInt = 128 := by decide
        rw [Int32.toNatClampNeg]
        omega
      · rw [hz]
        congr 1
        apply Int32.toInt_inj.mp
        have h := Int32.le_iff_toInt_le.mp k1
        have h2 := Int32.lt_iff_toInt_lt.mp k2
        have e0 : (0 : Int32).toInt = 0 := by decide
        have e1 : (128 : Int32).toInt = 128 := by decide
        rw [nI_toInt (by rw [Int32.toNatClampNeg]; omega), Int32.toNatClampNeg]
        omega
    · rw [List.getElem?_append_right (by omega)]
      exact okI_asc T h3 _ (by omega)
theorem chr_get (ha : asc l) (h : l[i]? = some x) : chr l i = x := by
  have hi : i < l.length := (List.getElem?_eq_some_iff.mp h).1
  unfold chr
  rw [if_pos hi]
  exact Option.some.inj ((byI_l ha hi).symm.trans h)
theorem chr_fst (ha : asc l) (he : l = pre ++ b) : chr l pre.length = fst1 b (-1) := by
  rcases b with _ | ⟨x, b⟩
  · unfold chr
    rw [he, List.append_nil, if_neg (Nat.lt_irrefl _)]
    rfl
  · refine chr_get ha ?_
    rw [he, List.getElem?_append_right (Nat.le_refl _), Nat.sub_self]
    rfl
theorem tk_all (ha : asc l) : ∀ (T : List (List Int32 × Bool)) (pre b : List Int32), l = pre ++ b ++ flt T → b.all isBl = true → okI T (-1) → (T = [] → b = []) → (∀ t, T.getLast? = some t → t.2 = true) → tkAt l KW pre.length (led b T)
  | [], pre, b, he, hb, ho, hb0, hl => by
    have : b = [] := hb0 rfl
    subst this
    show chr l pre.length = -1
    exact chr_fst ha (b := []) (by rw [he]; simp [flt])
  | t :: T, pre, b, he, hb, ho, hb0, hl => by
    obtain ⟨h1, h2, h3⟩ := ho
    show tkAt l KW pre.length (if t.2 = true then (b, t.1) :: led [] T else led (b ++ t.1) T)
    have hl2 : ∀ t', T.getLast? = some t' → t'.2 = true := fun t' h' => hl t' (by
      rw [List.getLast?_cons, h']
      rfl)
    by_cases c : t.2 = true
    · rw [if_pos c] at h2 ⊢
      obtain ⟨k1, k2, k3⟩ := h2
      have he' : l = pre ++ (b ++ (t.1 ++ flt T)) := by rw [he, List.append_assoc]; rfl
      refine ⟨fun j hj => ?_, fun j hj => ?_, k1, ?_, k2, ?_⟩
      · have hj : j < b.length := hj
        obtain ⟨z, hz⟩ : ∃ z, b[j]? = some z := ⟨_, List.getElem?_eq_getElem hj⟩
        rw [chr_get ha (x := z) (by rw [he', List.getElem?_append_right (by omega), Nat.add_sub_cancel_left, List.getElem?_append_left hj, hz])]
        exact all_get hb j z hz
      · have hj : j < t.1.length := hj
        obtain ⟨z, hz⟩ : ∃ z, t.1[j]? = some z := ⟨_, List.getElem?_eq_getElem hj⟩
        show t.1[j]? = some (chr l (pre.length + b.length + j))
        rw [chr_get ha (x := z) (by rw [he', List.getElem?_append_right (by omega), show pre.length + b.length + j - pre.length = b.length + j by omega, List.getElem?_append_right (by omega), Nat.add_sub_cancel_left, List.getElem?_append_left hj, hz]), hz]
      · show sepOK t.1 (chr l (pre.length + b.length + t.1.length)) = true
        have e := chr_fst ha (pre := pre ++ b ++ t.1) (b := flt T) (by rw [he']; simp [List.append_assoc])
        rw [List.length_append, List.length_append] at e
        rw [e]
        exact k3
      · have ih := tk_all ha T (pre ++ b ++ t.1) [] (by rw [he']; simp [List.append_assoc]) rfl h3 (fun _ => rfl) hl2
        rw [List.length_append, List.length_append] at ih
        exact ih
    · rw [if_neg c] at h2 ⊢
      refine tk_all ha T pre (b ++ t.1) (by rw [he]; simp [flt, List.append_assoc]) (by rw [List.all_append, hb, h2]; rfl) h3 (fun e => ?_) hl2
      exfalso
      exact c (hl t (by rw [e]; rfl))
end LEX4
theorem sv2 : sK 2 = [] := by decide +kernel
theorem sv3 : sK 3 = [97, 116, 32, 99] := by decide +kernel
theorem sv4 : sK 4 = [43] := by decide +kernel
theorem sv5 : sK 5 = [45, 51] := by decide +kernel
theorem sv6 : sK 6 = [109, 105, 110, 40, 100, 105, 114, 116, 40] := by decide +kernel
theorem sv7 : sK 7 = [41, 44] := by decide +kernel
theorem sv8 : sK 8 = [41, 45, 50] := by decide +kernel
theorem sv9 : sK 9 = [109, 97, 120, 40, 112, 101, 114, 99, 104, 32, 102] := by decide +kernel
theorem sv10 : sK 10 = [44, 48, 41, 42, 50, 47, 50] := by decide +kernel
theorem sv11 : sK 11 = [104, 111, 117, 114, 45, 104, 111, 117, 114, 47, 57, 42, 57, 43, 119, 105, 110, 100] := by decide +kernel
theorem sv12 : sK 12 = [45, 50, 43] := by decide +kernel
theorem sv13 : sK 13 = [32, 119, 104, 101, 110, 32, 104, 111, 117, 114, 62] := by decide +kernel
theorem sv14 : sK 14 = [47, 52] := by decide +kernel
theorem sv15 : sK 15 = [32, 119, 104, 101, 110, 32, 100, 97, 114, 107, 32, 98] := by decide +kernel
theorem sv16 : sK 16 = [32, 119, 104, 101, 110, 32, 110, 111, 116, 32, 100, 97, 114, 107, 32, 98] := by decide +kernel
theorem sv17 : sK 17 = [32, 119, 104, 101, 110, 32, 100, 105, 114, 116, 40] := by decide +kernel
theorem sv18 : sK 18 = [41, 62, 61] := by decide +kernel
theorem sv19 : sK 19 = [32, 119, 104, 101, 110, 32, 119, 97, 116, 101, 114, 32, 99] := by decide +kernel
theorem sv20 : sK 20 = [61, 48, 32, 111, 114, 32, 97, 116, 32, 99] := by decide +kernel
theorem sv21 : sK 21 = [62] := by decide +kernel
theorem sv22 : sK 22 = [32, 119, 104, 101, 110, 32, 91, 108, 105, 103, 104, 116, 60] := by decide +kernel
theorem sv23 : sK 23 = [42, 51, 48, 32, 97, 110, 100, 32, 119, 105, 110, 100, 62, 61, 48, 93, 111, 114, 32, 110, 111, 116, 32, 104, 111, 117, 114, 61] := by decide +kernel
theorem sv24 : sK 24 = [32, 119, 104, 101, 110, 32, 99, 114, 97, 99, 107, 40] := by decide +kernel
theorem sv25 : sK 25 = [41, 42, 50, 32, 62, 32] := by decide +kernel
theorem sv26 : sK 26 = [32, 45, 32, 112, 101, 114, 99, 104, 32, 102] := by decide +kernel
theorem sv27 : sK 27 = [32, 119, 104, 101, 110, 32] := by decide +kernel
theorem sv28 : sK 28 = [47, 50, 42, 50, 61] := by decide +kernel
theorem sv29 : sK 29 = [98, 97, 121, 32, 98] := by decide +kernel
theorem sv30 : sK 30 = [32, 112, 97, 110, 101, 115, 32] := by decide +kernel
theorem sv31 : sK 31 = [32, 116, 104, 105, 99, 107, 32] := by decide +kernel
theorem sv32 : sK 32 = [59] := by decide +kernel
theorem sv33 : sK 33 = [99, 104, 105, 109, 110, 101, 121, 32, 107] := by decide +kernel
theorem sv34 : sK 34 = [32, 97, 116, 32] := by decide +kernel
theorem sv35 : sK 35 = [32, 115, 111, 111, 116, 32] := by decide +kernel
theorem sv36 : sK 36 = [32, 101, 118, 101, 114, 121, 32] := by decide +kernel
theorem sv37 : sK 37 = [32, 114, 101, 97, 99, 104, 32] := by decide +kernel
theorem sv38 : sK 38 = [32, 59, 10] := by decide +kernel
theorem sv39 : sK 39 = [99, 114, 97, 100, 108, 101, 32, 99] := by decide +kernel
theorem sv40 : sK 40 = [32, 115, 112, 101, 101, 100, 32] := by decide +kernel
theorem sv41 : sK 41 = [32, 119, 97, 115, 104, 32] := by decide +kernel
theorem sv42 : sK 42 = [102, 108, 111, 99, 107, 32, 102] := by decide +kernel
theorem sv43 : sK 43 = [32, 98, 105, 114, 100, 115, 32] := by decide +kernel
theorem sv44 : sK 44 = [115, 99, 97, 114, 101, 32, 102] := by decide +kernel
theorem sv45 : sK 45 = [103, 111, 32, 99] := by decide +kernel
theorem sv46 : sK 46 = [32, 116, 111, 32] := by decide +kernel
theorem kk1 : ascB [98, 97, 121] = true ∧ lexOK [98, 97, 121] = true ∧ lexK KW [98, 97, 121] = 1 := by decide +kernel
theorem kk2 : ascB [112, 97, 110, 101, 115] = true ∧ lexOK [112, 97, 110, 101, 115] = true ∧ lexK KW [112, 97, 110, 101, 115] = 2 := by decide +kernel
theorem kk3 : ascB [116, 104, 105, 99, 107] = true ∧ lexOK [116, 104, 105, 99, 107] = true ∧ lexK KW [116, 104, 105, 99, 107] = 3 := by decide +kernel
theorem kk4 : ascB [99, 104, 105, 109, 110, 101, 121] = true ∧ lexOK [99, 104, 105, 109, 110, 101, 121] = true ∧ lexK KW [99, 104, 105, 109, 110, 101, 121] = 4 := by decide +kernel
theorem kk5 : ascB [97, 116] = true ∧ lexOK [97, 116] = true ∧ lexK KW [97, 116] = 5 := by decide +kernel
theorem kk6 : ascB [115, 111, 111, 116] = true ∧ lexOK [115, 111, 111, 116] = true ∧ lexK KW [115, 111, 111, 116] = 6 := by decide +kernel
theorem kk7 : ascB [101, 118, 101, 114, 121] = true ∧ lexOK [101, 118, 101, 114, 121] = true ∧ lexK KW [101, 118, 101, 114, 121] = 7 := by decide +kernel
theorem kk8 : ascB [114, 101, 97, 99, 104] = true ∧ lexOK [114, 101, 97, 99, 104] = true ∧ lexK KW [114, 101, 97, 99, 104] = 8 := by decide +kernel
theorem kk9 : ascB [99, 114, 97, 100, 108, 101] = true ∧ lexOK [99, 114, 97, 100, 108, 101] = true ∧ lexK KW [99, 114, 97, 100, 108, 101] = 9 := by decide +kernel
theorem kk10 : ascB [115, 112, 101, 101, 100] = true ∧ lexOK [115, 112, 101, 101, 100] = true ∧ lexK KW [115, 112, 101, 101, 100] = 10 := by decide +kernel
theorem kk11 : ascB [119, 97, 115, 104] = true ∧ lexOK [119, 97, 115, 104] = true ∧ lexK KW [119, 97, 115, 104] = 11 := by decide +kernel
theorem kk12 : ascB [102, 108, 111, 99, 107] = true ∧ lexOK [102, 108, 111, 99, 107] = true ∧ lexK KW [102, 108, 111, 99, 107] = 12 := by decide +kernel
theorem kk13 : ascB [98, 105, 114, 100, 115] = true ∧ lexOK [98, 105, 114, 100, 115] = true ∧ lexK KW [98, 105, 114, 100, 115] = 13 := by decide +kernel
theorem kk14 : ascB [103, 111] = true ∧ lexOK [103, 111] = true ∧ lexK KW [103, 111] = 14 := by decide +kernel
theorem kk15 : ascB [116, 111] = true ∧ lexOK [116, 111] = true ∧ lexK KW [116, 111] = 15 := by decide +kernel
theorem kk16 : ascB [115, 99, 97, 114, 101] = true ∧ lexOK [115, 99, 97, 114, 101] = true ∧ lexK KW [115, 99, 97, 114, 101] = 16 := by decide +kernel
theorem kk17 : ascB [119, 104, 101, 110] = true ∧ lexOK [119, 104, 101, 110] = true ∧ lexK KW [119, 104, 101, 110] = 17 := by decide +kernel
theorem kk18 : ascB [104, 111, 117, 114] = true ∧ lexOK [104, 111, 117, 114] = true ∧ lexK KW [104, 111, 117, 114] = 18 := by decide +kernel
theorem kk19 : ascB [119, 105, 110, 100] = true ∧ lexOK [119, 105, 110, 100] = true ∧ lexK KW [119, 105, 110, 100] = 19 := by decide +kernel
theorem kk20 : ascB [108, 105, 103, 104, 116] = true ∧ lexOK [108, 105, 103, 104, 116] = true ∧ lexK KW [108, 105, 103, 104, 116] = 20 := by decide +kernel
theorem kk21 : ascB [100, 105, 114, 116] = true ∧ lexOK [100, 105, 114, 116] = true ∧ lexK KW [100, 105, 114, 116] = 21 := by decide +kernel
theorem kk22 : ascB [99, 114, 97, 99, 107] = true ∧ lexOK [99, 114, 97, 99, 107] = true ∧ lexK KW [99, 114, 97, 99, 107] = 22 := by decide +kernel
theorem kk23 : ascB [119, 97, 116, 101, 114] = true ∧ lexOK [119, 97, 116, 101, 114] = true ∧ lexK KW [119, 97, 116, 101, 114] = 23 := by decide +kernel
theorem kk24 : ascB [112, 101, 114, 99, 104] = true ∧ lexOK [112, 101, 114, 99, 104] = true ∧ lexK KW [112, 101, 114, 99, 104] = 24 := by decide +kernel
theorem kk25 : ascB [100, 97, 114, 107] = true ∧ lexOK [100, 97, 114, 107] = true ∧ lexK KW [100, 97, 114, 107] = 25 := by decide +kernel
theorem kk26 : ascB [110, 111, 116] = true ∧ lexOK [110, 111, 116] = true ∧ lexK KW [110, 111, 116] = 26 := by decide +kernel
theorem kk27 : ascB [97, 110, 100] = true ∧ lexOK [97, 110, 100] = true ∧ lexK KW [97, 110, 100] = 27 := by decide +kernel
theorem kk28 : ascB [111, 114] = true ∧ lexOK [111, 114] = true ∧ lexK KW [111, 114] = 28 := by decide +kernel
theorem kk29 : ascB [109, 105, 110] = true ∧ lexOK [109, 105, 110] = true ∧ lexK KW [109, 105, 110] = 29 := by decide +kernel
theorem kk30 : ascB [109, 97, 120] = true ∧ lexOK [109, 97, 120] = true ∧ lexK KW [109, 97, 120] = 30 := by decide +kernel
theorem ks40 : ascB [40] = true ∧ lexOK [40] = true ∧ lexK KW [40] = 40 := by decide +kernel
theorem ks41 : ascB [41] = true ∧ lexOK [41] = true ∧ lexK KW [41] = 41 := by decide +kernel
theorem ks91 : ascB [91] = true ∧ lexOK [91] = true ∧ lexK KW [91] = 91 := by decide +kernel
theorem ks93 : ascB [93] = true ∧ lexOK [93] = true ∧ lexK KW [93] = 93 := by decide +kernel
theorem ks59 : ascB [59] = true ∧ lexOK [59] = true ∧ lexK KW [59] = 59 := by decide +kernel
theorem ks44 : ascB [44] = true ∧ lexOK [44] = true ∧ lexK KW [44] = 44 := by decide +kernel
theorem ks43 : ascB [43] = true ∧ lexOK [43] = true ∧ lexK KW [43] = 43 := by decide +kernel
theorem ks45 : ascB [45] = true ∧ lexOK [45] = true ∧ lexK KW [45] = 45 := by decide +kernel
theorem ks42 : ascB [42] = true ∧ lexOK [42] = true ∧ lexK KW [42] = 42 := by decide +kernel
theorem ks47 : ascB [47] = true ∧ lexOK [47] = true ∧ lexK KW [47] = 47 := by decide +kernel
theorem ks60 : ascB [60] = true ∧ lexOK [60] = true ∧ lexK KW [60] = 60 := by decide +kernel
theorem ks62 : ascB [62] = true ∧ lexOK [62] = true ∧ lexK KW [62] = 62 := by decide +kernel
theorem ks61 : ascB [61] = true ∧ lexOK [61] = true ∧ lexK KW [61] = 61 := by decide +kernel
theorem ks318 : ascB [62, 61] = true ∧ lexOK [62, 61] = true ∧ lexK KW [62, 61] = 318 := by decide +kernel
theorem kn98 : ∀ k, k < 10 → ascB (98 :: dgt k) = true ∧ lexOK (98 :: dgt k) = true ∧ lexK KW (98 :: dgt k) = 97 := by decide +kernel
theorem kn99 : ∀ k, k < 10 → ascB (99 :: dgt k) = true ∧ lexOK (99 :: dgt k) = true ∧ lexK KW (99 :: dgt k) = 97 := by decide +kernel
theorem kn102 : ∀ k, k < 10 → ascB (102 :: dgt k) = true ∧ lexOK (102 :: dgt k) = true ∧ lexK KW (102 :: dgt k) = 97 := by decide +kernel
theorem kn107 : ∀ k, k < 10 → ascB (107 :: dgt k) = true ∧ lexOK (107 :: dgt k) = true ∧ lexK KW (107 :: dgt k) = 97 := by decide +kernel
theorem kd : ∀ n, n < 130 → ascB (dgt n) = true ∧ lexOK (dgt n) = true ∧ lexK KW (dgt n) = 48 ∧ (lexV (dgt n)).toInt32 = nI n ∧ isDg (hd (dgt n)) = true ∧ 0 < (dgt n).length := by decide +kernel
theorem fst_d {n : Nat} {l : List Int32} {y : Int32} (h : n < 130) : isDg (fst1 (dgt n ++ l) y) = true := by
  obtain ⟨-, -, -, -, h1, h2⟩ := kd n h
  rw [fst1_app]
  revert h1 h2
  generalize dgt n = bs
  intro h1 h2
  rcases bs with _ | ⟨x, bs⟩
  · cases h2
  · exact h1
theorem sp_n' {n : Nat} {y : Int32} (h : n < 130) (hy : isWd y = false) : sepOK (dgt n) y = true := by
  unfold sepOK
  rw [if_pos (Or.inr (kd n h).2.2.2.2.1), hy]
  rfl
theorem sp_w {x y : Int32} {bs : List Int32} (h : isLt x = true) (hy : isWd y = false) : sepOK (x :: bs) y = true := by
  unfold sepOK
  rw [if_pos (Or.inl (show isLt (hd (x :: bs)) = true from h)), hy]
  rfl
theorem sp_gt {y : Int32} (hy : isDg y = true) : sepOK [62] y = true ∧ sepOK [60] y = true := by
  have hne : y ≠ 61 := fun e => by rw [e] at hy; exact absurd hy (by decide)
  refine ⟨?_, ?_⟩
  · show decide (y ≠ 61) = true
    exact decide_eq_true hne
  · show decide (y ≠ 61) = true
    exact decide_eq_true hne
