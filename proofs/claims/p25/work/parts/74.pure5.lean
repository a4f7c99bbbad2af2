/-! PURE: flocks (written by gen74.py). -/
section PURE5
variable {Q A A1 A' : Mem} {M : Mm} {n fb : Nat → Nat} {p k b c q f j B : Nat} {v w i : Int32} {vs : List Int32}

theorem RS_1 (hS : RS A M n) : RS (sm A 1 p v) (um M 2 p 1 v) n := by
  obtain ⟨h0, h1, h2, h3⟩ := hS
  refine ⟨?_, fun p' hp' => ?_, fun c' hc' => ?_, fun f' hf' => ?_⟩
  · rw [sm_ne (show 0 ≠ 1 by decide), um_t (show 0 ≠ 2 by decide)]
    exact h0
  · have h := h1 p' hp'
    simp only [sm_x, um_x, h, (eq_false (show ¬ 2 = 1 by decide)), (eq_false (show ¬ 3 = 1 by decide)), (eq_false (show ¬ 2 = 1 by decide)), (eq_false (show ¬ 3 = 1 by decide)), true_and, and_true, false_and, and_false, if_false, eq_self, and_self]
  · have h := h2 c' hc'
    simp only [sm_x, um_t (show 4 ≠ 2 by decide), h, (eq_false (show ¬ 4 = 1 by decide)), (eq_false (show ¬ 5 = 1 by decide)), (eq_false (show ¬ 6 = 1 by decide)), (eq_false (show ¬ 0 = 1 by decide)), (eq_false (show ¬ 3 = 1 by decide)), (eq_false (show ¬ 4 = 1 by decide)), true_and, and_true, false_and, and_false, if_false, eq_self, and_self]
  · have h := h3 f' hf'
    simp only [sm_x, um_t (show 5 ≠ 2 by decide), h, (eq_false (show ¬ 7 = 1 by decide)), (eq_false (show ¬ 8 = 1 by decide)), (eq_false (show ¬ 0 = 1 by decide)), (eq_false (show ¬ 3 = 1 by decide)), true_and, and_true, false_and, and_false, if_false, eq_self, and_self]
theorem RS_2 (hS : RS A M n) : RS (sm A 2 p v) (um M 2 p 2 v) n := by
  obtain ⟨h0, h1, h2, h3⟩ := hS
  refine ⟨?_, fun p' hp' => ?_, fun c' hc' => ?_, fun f' hf' => ?_⟩
  · rw [sm_ne (show 0 ≠ 2 by decide), um_t (show 0 ≠ 2 by decide)]
    exact h0
  · have h := h1 p' hp'
    simp only [sm_x, um_x, h, (eq_false (show ¬ 1 = 2 by decide)), (eq_false (show ¬ 3 = 2 by decide)), (eq_false (show ¬ 1 = 2 by decide)), (eq_false (show ¬ 3 = 2 by decide)), true_and, and_true, false_and, and_false, if_false, eq_self, and_self]
  · have h := h2 c' hc'
    simp only [sm_x, um_t (show 4 ≠ 2 by decide), h, (eq_false (show ¬ 4 = 2 by decide)), (eq_false (show ¬ 5 = 2 by decide)), (eq_false (show ¬ 6 = 2 by decide)), (eq_false (show ¬ 0 = 2 by decide)), (eq_false (show ¬ 3 = 2 by decide)), (eq_false (show ¬ 4 = 2 by decide)), true_and, and_true, false_and, and_false, if_false, eq_self, and_self]
  · have h := h3 f' hf'
    simp only [sm_x, um_t (show 5 ≠ 2 by decide), h, (eq_false (show ¬ 7 = 2 by decide)), (eq_false (show ¬ 8 = 2 by decide)), (eq_false (show ¬ 0 = 2 by decide)), (eq_false (show ¬ 3 = 2 by decide)), true_and, and_true, false_and, and_false, if_false, eq_self, and_self]
theorem RS_3 (hS : RS A M n) : RS (sm A 3 p v) (um M 2 p 3 v) n := by
  obtain ⟨h0, h1, h2, h3⟩ := hS
  refine ⟨?_, fun p' hp' => ?_, fun c' hc' => ?_, fun f' hf' => ?_⟩
  · rw [sm_ne (show 0 ≠ 3 by decide), um_t (show 0 ≠ 2 by decide)]
    exact h0
  · have h := h1 p' hp'
    simp only [sm_x, um_x, h, (eq_false (show ¬ 1 = 3 by decide)), (eq_false (show ¬ 2 = 3 by decide)), (eq_false (show ¬ 1 = 3 by decide)), (eq_false (show ¬ 2 = 3 by decide)), true_and, and_true, false_and, and_false, if_false, eq_self, and_self]
  · have h := h2 c' hc'
    simp only [sm_x, um_t (show 4 ≠ 2 by decide), h, (eq_false (show ¬ 4 = 3 by decide)), (eq_false (show ¬ 5 = 3 by decide)), (eq_false (show ¬ 6 = 3 by decide)), (eq_false (show ¬ 0 = 3 by decide)), (eq_false (show ¬ 4 = 3 by decide)), true_and, and_true, false_and, and_false, if_false, eq_self, and_self]
  · have h := h3 f' hf'
    simp only [sm_x, um_t (show 5 ≠ 2 by decide), h, (eq_false (show ¬ 7 = 3 by decide)), (eq_false (show ¬ 8 = 3 by decide)), (eq_false (show ¬ 0 = 3 by decide)), true_and, and_true, false_and, and_false, if_false, eq_self, and_self]
theorem RS_4 (hS : RS A M n) : RS (sm A 4 c v) (um M 4 c 0 v) n := by
  obtain ⟨h0, h1, h2, h3⟩ := hS
  refine ⟨?_, fun p' hp' => ?_, fun c' hc' => ?_, fun f' hf' => ?_⟩
  · rw [sm_ne (show 0 ≠ 4 by decide), um_t (show 0 ≠ 4 by decide)]
    exact h0
  · have h := h1 p' hp'
    simp only [sm_x, um_t (show 2 ≠ 4 by decide), h, (eq_false (show ¬ 1 = 4 by decide)), (eq_false (show ¬ 2 = 4 by decide)), (eq_false (show ¬ 3 = 4 by decide)), (eq_false (show ¬ 1 = 0 by decide)), (eq_false (show ¬ 2 = 0 by decide)), (eq_false (show ¬ 3 = 0 by decide)), true_and, and_true, false_and, and_false, if_false, eq_self, and_self]
  · have h := h2 c' hc'
    simp only [sm_x, um_x, h, (eq_false (show ¬ 5 = 4 by decide)), (eq_false (show ¬ 6 = 4 by decide)), (eq_false (show ¬ 3 = 0 by decide)), (eq_false (show ¬ 4 = 0 by decide)), true_and, and_true, false_and, and_false, if_false, eq_self, and_self]
  · have h := h3 f' hf'
    simp only [sm_x, um_t (show 5 ≠ 4 by decide), h, (eq_false (show ¬ 7 = 4 by decide)), (eq_false (show ¬ 8 = 4 by decide)), (eq_false (show ¬ 3 = 0 by decide)), true_and, and_true, false_and, and_false, if_false, eq_self, and_self]
theorem RS_5 (hS : RS A M n) : RS (sm A 5 c v) (um M 4 c 3 v) n := by
  obtain ⟨h0, h1, h2, h3⟩ := hS
  refine ⟨?_, fun p' hp' => ?_, fun c' hc' => ?_, fun f' hf' => ?_⟩
  · rw [sm_ne (show 0 ≠ 5 by decide), um_t (show 0 ≠ 4 by decide)]
    exact h0
  · have h := h1 p' hp'
    simp only [sm_x, um_t (show 2 ≠ 4 by decide), h, (eq_false (show ¬ 1 = 5 by decide)), (eq_false (show ¬ 2 = 5 by decide)), (eq_false (show ¬ 3 = 5 by decide)), (eq_false (show ¬ 1 = 3 by decide)), (eq_false (show ¬ 2 = 3 by decide)), true_and, and_true, false_and, and_false, if_false, eq_self, and_self]
  · have h := h2 c' hc'
    simp only [sm_x, um_x, h, (eq_false (show ¬ 4 = 5 by decide)), (eq_false (show ¬ 6 = 5 by decide)), (eq_false (show ¬ 0 = 3 by decide)), (eq_false (show ¬ 4 = 3 by decide)), true_and, and_true, false_and, and_false, if_false, eq_self, and_self]
  · have h := h3 f' hf'
    simp only [sm_x, um_t (show 5 ≠ 4 by decide), h, (eq_false (show ¬ 7 = 5 by decide)), (eq_false (show ¬ 8 = 5 by decide)), (eq_false (show ¬ 0 = 3 by decide)), true_and, and_true, false_and, and_false, if_false, eq_self, and_self]
theorem RS_6 (hS : RS A M n) : RS (sm A 6 c v) (um M 4 c 4 v) n := by
  obtain ⟨h0, h1, h2, h3⟩ := hS
  refine ⟨?_, fun p' hp' => ?_, fun c' hc' => ?_, fun f' hf' => ?_⟩
  · rw [sm_ne (show 0 ≠ 6 by decide), um_t (show 0 ≠ 4 by decide)]
    exact h0
  · have h := h1 p' hp'
    simp only [sm_x, um_t (show 2 ≠ 4 by decide), h, (eq_false (show ¬ 1 = 6 by decide)), (eq_false (show ¬ 2 = 6 by decide)), (eq_false (show ¬ 3 = 6 by decide)), (eq_false (show ¬ 1 = 4 by decide)), (eq_false (show ¬ 2 = 4 by decide)), (eq_false (show ¬ 3 = 4 by decide)), true_and, and_true, false_and, and_false, if_false, eq_self, and_self]
  · have h := h2 c' hc'
    simp only [sm_x, um_x, h, (eq_false (show ¬ 4 = 6 by decide)), (eq_false (show ¬ 5 = 6 by decide)), (eq_false (show ¬ 0 = 4 by decide)), (eq_false (show ¬ 3 = 4 by decide)), true_and, and_true, false_and, and_false, if_false, eq_self, and_self]
  · have h := h3 f' hf'
    simp only [sm_x, um_t (show 5 ≠ 4 by decide), h, (eq_false (show ¬ 7 = 6 by decide)), (eq_false (show ¬ 8 = 6 by decide)), (eq_false (show ¬ 0 = 4 by decide)), (eq_false (show ¬ 3 = 4 by decide)), true_and, and_true, false_and, and_false, if_false, eq_self, and_self]
theorem RS_7 (hS : RS A M n) : RS (sm A 7 f v) (um M 5 f 0 v) n := by
  obtain ⟨h0, h1, h2, h3⟩ := hS
  refine ⟨?_, fun p' hp' => ?_, fun c' hc' => ?_, fun f' hf' => ?_⟩
  · rw [sm_ne (show 0 ≠ 7 by decide), um_t (show 0 ≠ 5 by decide)]
    exact h0
  · have h := h1 p' hp'
    simp only [sm_x, um_t (show 2 ≠ 5 by decide), h, (eq_false (show ¬ 1 = 7 by decide)), (eq_false (show ¬ 2 = 7 by decide)), (eq_false (show ¬ 3 = 7 by decide)), (eq_false (show ¬ 1 = 0 by decide)), (eq_false (show ¬ 2 = 0 by decide)), (eq_false (show ¬ 3 = 0 by decide)), true_and, and_true, false_and, and_false, if_false, eq_self, and_self]
  · have h := h2 c' hc'
    simp only [sm_x, um_t (show 4 ≠ 5 by decide), h, (eq_false (show ¬ 4 = 7 by decide)), (eq_false (show ¬ 5 = 7 by decide)), (eq_false (show ¬ 6 = 7 by decide)), (eq_false (show ¬ 3 = 0 by decide)), (eq_false (show ¬ 4 = 0 by decide)), true_and, and_true, false_and, and_false, if_false, eq_self, and_self]
  · have h := h3 f' hf'
    simp only [sm_x, um_x, h, (eq_false (show ¬ 8 = 7 by decide)), (eq_false (show ¬ 3 = 0 by decide)), true_and, and_true, false_and, and_false, if_false, eq_self, and_self]
theorem RS_8 (hS : RS A M n) : RS (sm A 8 f v) (um M 5 f 3 v) n := by
  obtain ⟨h0, h1, h2, h3⟩ := hS
  refine ⟨?_, fun p' hp' => ?_, fun c' hc' => ?_, fun f' hf' => ?_⟩
  · rw [sm_ne (show 0 ≠ 8 by decide), um_t (show 0 ≠ 5 by decide)]
    exact h0
  · have h := h1 p' hp'
    simp only [sm_x, um_t (show 2 ≠ 5 by decide), h, (eq_false (show ¬ 1 = 8 by decide)), (eq_false (show ¬ 2 = 8 by decide)), (eq_false (show ¬ 3 = 8 by decide)), (eq_false (show ¬ 1 = 3 by decide)), (eq_false (show ¬ 2 = 3 by decide)), true_and, and_true, false_and, and_false, if_false, eq_self, and_self]
  · have h := h2 c' hc'
    simp only [sm_x, um_t (show 4 ≠ 5 by decide), h, (eq_false (show ¬ 4 = 8 by decide)), (eq_false (show ¬ 5 = 8 by decide)), (eq_false (show ¬ 6 = 8 by decide)), (eq_false (show ¬ 0 = 3 by decide)), (eq_false (show ¬ 4 = 3 by decide)), true_and, and_true, false_and, and_false, if_false, eq_self, and_self]
  · have h := h3 f' hf'
    simp only [sm_x, um_x, h, (eq_false (show ¬ 7 = 8 by decide)), (eq_false (show ¬ 0 = 3 by decide)), true_and, and_true, false_and, and_false, if_false, eq_self, and_self]
theorem RZ_1 (hZ : RZ A n) (hp : p < n 2) : RZ (sm A 1 p v) n := by
  intro p' hp'
  rw [sm_x, if_neg (fun e => by omega), sm_ne (by decide)]
  exact hZ p' hp'
theorem RZ_2 (hZ : RZ A n) (hp : p < n 2) : RZ (sm A 2 p v) n := by
  intro p' hp'
  rw [sm_ne (show 1 ≠ 2 by decide), sm_x, if_neg (fun e => by omega)]
  exact hZ p' hp'
theorem RZ_r (hZ : RZ A n) {a : Nat} (h1 : a ≠ 1) (h2 : a ≠ 2) : RZ (sm A a j v) n := by
  intro p' hp'
  rw [sm_ne (fun e => h1 e.symm), sm_ne (fun e => h2 e.symm)]
  exact hZ p' hp'
/-- the plan speaks of rows that do not change -/
def PLs (M M' : Mm) : Prop := M' 1 = M 1 ∧ M' 3 = M 3 ∧ M' 6 = M 6 ∧ (∀ p, M' 2 p 0 = M 2 p 0) ∧ (∀ c, M' 4 c 1 = M 4 c 1 ∧ M' 4 c 2 = M 4 c 2) ∧ (∀ f, M' 5 f 1 = M 5 f 1 ∧ M' 5 f 2 = M 5 f 2)
theorem PLs_r : PLs M M := ⟨rfl, rfl, rfl, fun _ => rfl, fun _ => ⟨rfl, rfl⟩, fun _ => ⟨rfl, rfl⟩⟩
theorem PLs_t {M1 M2 : Mm} (h : PLs M M1) (h' : PLs M1 M2) : PLs M M2 := ⟨h'.1.trans h.1, h'.2.1.trans h.2.1, h'.2.2.1.trans h.2.2.1, fun p => (h'.2.2.2.1 p).trans (h.2.2.2.1 p), fun c => ⟨(h'.2.2.2.2.1 c).1.trans (h.2.2.2.2.1 c).1, (h'.2.2.2.2.1 c).2.trans (h.2.2.2.2.1 c).2⟩, fun f => ⟨(h'.2.2.2.2.2 f).1.trans (h.2.2.2.2.2 f).1, (h'.2.2.2.2.2 f).2.trans (h.2.2.2.2.2 f).2⟩⟩
theorem PLs_2 (hj : 0 ≠ j) : PLs M (um M 2 p j v) := ⟨um_t (by decide), um_t (by decide), um_t (by decide), fun _ => um_c hj, fun c => ⟨congrFun (congrFun (um_t (by decide)) c) 1, congrFun (congrFun (um_t (by decide)) c) 2⟩, fun c => ⟨congrFun (congrFun (um_t (by decide)) c) 1, congrFun (congrFun (um_t (by decide)) c) 2⟩⟩
theorem PLs_4 (h1 : 1 ≠ j) (h2 : 2 ≠ j) : PLs M (um M 4 p j v) := ⟨um_t (by decide), um_t (by decide), um_t (by decide), fun c => congrFun (congrFun (um_t (by decide)) c) 0, fun c => ⟨um_c h1, um_c h2⟩, fun c => ⟨congrFun (congrFun (um_t (by decide)) c) 1, congrFun (congrFun (um_t (by decide)) c) 2⟩⟩
theorem PLs_5 (h1 : 1 ≠ j) (h2 : 2 ≠ j) : PLs M (um M 5 p j v) := ⟨um_t (by decide), um_t (by decide), um_t (by decide), fun c => congrFun (congrFun (um_t (by decide)) c) 0, fun c => ⟨congrFun (congrFun (um_t (by decide)) c) 1, congrFun (congrFun (um_t (by decide)) c) 2⟩, fun c => ⟨um_c h1, um_c h2⟩⟩
theorem PLs_0 : PLs M (um M 0 p j v) := ⟨um_t (by decide), um_t (by decide), um_t (by decide), fun c => congrFun (congrFun (um_t (by decide)) c) 0, fun c => ⟨congrFun (congrFun (um_t (by decide)) c) 1, congrFun (congrFun (um_t (by decide)) c) 2⟩, fun c => ⟨congrFun (congrFun (um_t (by decide)) c) 1, congrFun (congrFun (um_t (by decide)) c) 2⟩⟩
theorem RP_s {M' : Mm} (h : PLs M M') (hP : RP Q M n fb) : RP Q M' n fb := by
  unfold RP at *
  rw [h.1, h.2.1]
  simp only [h.2.2.2.1, h.2.2.2.2.1, h.2.2.2.2.2]
  exact hP
theorem RO_s {M' : Mm} (h : PLs M M') (hO : RO Q M n) : RO Q M' n := by
  unfold RO at *
  rw [h.2.2.1]
  exact hO
theorem PG_2 (hG : PG M n) (hp : M 2 p 3 = 0) : PG (um M 2 p 1 v) n := by
  intro p' hp'
  simp only [um_x]
  by_cases e : p' = p
  · subst e
    exact Or.inl (by rw [if_neg (fun q => by cases q.2)]; exact hp)
  · rw [if_neg (fun q => e q.1), if_neg (fun q => e q.1), if_neg (fun q => e q.1)]
    exact hG p' hp'
theorem PG_t {t : Nat} (hG : PG M n) (h : 2 ≠ t) : PG (um M t p j v) n := by
  unfold PG
  rw [um_t h]
  exact hG
theorem PB_t {t : Nat} (hB : PB' M n B) (h : 2 ≠ t) : PB' (um M t p j v) n B := by
  unfold PB'
  rw [um_t h]
  exact hB
theorem PB_2 {x : Nat} (hB : PB' M n B) (hx : x ≤ B) (hp : M 2 p 3 = 0) : PB' (um M 2 p 1 (nI x)) n B := by
  intro p' hp'
  simp only [um_x]
  by_cases e : p' = p
  · subst e
    rw [if_pos (by simp), if_neg (by simp)]
    exact ⟨⟨x, rfl, hx⟩, Or.inl hp⟩
  · rw [if_neg (fun q => e q.1), if_neg (fun q => e q.1)]
    exact hB p' hp'
theorem PBB_le {B' : Nat} (hB : PB' M n B) (h : B ≤ B') : PB' M n B' := fun p hp => ⟨let ⟨x, h1, h2⟩ := (hB p hp).1; ⟨x, h1, Nat.le_trans h2 h⟩, (hB p hp).2⟩
-- the cleanest
theorem itr_snoc {S : Type} {f : Nat → S → S} : ∀ (m k : Nat) (s : S), itr f k (m + 1) s = f (k + m) (itr f k m s)
  | 0, k, s => rfl
  | m + 1, k, s => by
    show itr f (k + 1) (m + 1) (f k s) = f (k + (m + 1)) (itr f (k + 1) m (f k s))
    rw [itr_snoc m (k + 1) (f k s), show k + 1 + m = k + (m + 1) by omega]
/-- the better of two -/
def cmb (M : Mm) (a b : Int32) : Int32 := if a < 0 then b else if b < 0 then a else if M 2 b.toNatClampNeg 1 < M 2 a.toNatClampNeg 1 then b else a
theorem cl_eq (hC : CX Q A M n fb B) : clL Q A w = sBe M n w := by
  obtain ⟨hP, hS, hZ, hG, hB, hB2, hV, hO⟩ := hC
  have n2 := hP.2.1.2.1
  unfold clL sBe
  rw [hP.1.2.1, itI_0 (by omega)]
  have hcl : ∀ k b, k < n 2 → (b = -1 ∨ vx b (n 2)) → clS Q A w (nI k) b = if nI k = w then b else if sFr M n (nI k) = false then b else if b < 0 then nI k else if M 2 b.toNatClampNeg 1 ≤ M 2 k 1 then b else nI k := by
    intro k b hk hb
    unfold clS
    rw [frL_k hP hS hV hk, ca_n (by omega) (by decide), (hS.2.1 k hk).1]
    rcases hb with rfl | hb
    · rw [if_pos rfl]
      by_cases c1 : nI k = w
      · rw [if_pos c1, if_pos c1]
      rw [if_neg c1, if_neg c1]
      by_cases c2 : sFr M n (nI k) = false
      · rw [if_pos c2, if_pos c2]
      rw [if_neg c2, if_neg c2, if_pos (by decide)]
    · have hne : ¬ b = -1 := fun e => by
        have := hb.1
        rw [e] at this
        exact absurd this (by decide)
      have hb0 : ¬ b < 0 := by rw [hb.1]; exact nI_pos (by have := hb.2; omega)
      have hd : ca 40 (A 1) b = M 2 b.toNatClampNeg 1 := (ca_vx hb (by omega) (by decide)).trans (hS.2.1 _ hb.2).1
      rw [if_neg hne, hd]
      by_cases c3 : M 2 b.toNatClampNeg 1 ≤ M 2 k 1
      · rw [if_pos c3]
        by_cases c1 : nI k = w
        · rw [if_pos c1]
        rw [if_neg c1]
        by_cases c2 : sFr M n (nI k) = false
        · rw [if_pos c2]
        rw [if_neg c2, if_neg hb0, if_pos c3]
      · rw [if_neg c3]
        by_cases c1 : nI k = w
        · rw [if_pos c1, if_pos c1]
        rw [if_neg c1, if_neg c1]
        by_cases c2 : sFr M n (nI k) = false
        · rw [if_pos c2, if_pos c2]
        rw [if_neg c2, if_neg c2, if_neg hb0, if_neg c3]
  have hok : ∀ k b, k < n 2 → (b = -1 ∨ vx b (n 2)) → (clS Q A w (nI k) b = -1 ∨ vx (clS Q A w (nI k) b) (n 2)) := by
    intro k b hk hb
    rw [hcl k b hk hb]
    have := vx_nI hk (by omega)
    repeat' split
    all_goals first | exact hb | exact Or.inr this
  have key : ∀ m, m ≤ n 2 → (itr (fun k => clS Q A w (nI k)) 0 m (-1) = -1 ∨ vx (itr (fun k => clS Q A w (nI k)) 0 m (-1)) (n 2)) ∧ ∀ b, itd (sBs M n w) m b = cmb M (itr (fun k => clS Q A w (nI k)) 0 m (-1)) b := by
    intro m
    induction m with
    | zero => intro _; exact ⟨Or.inl rfl, fun b => (if_pos (show (-1 : Int32) < 0 by decide)).symm⟩
    | succ m ih =>
      intro hm
      obtain ⟨i1, i2⟩ := ih (by omega)
      rw [itr_snoc, Nat.zero_add]
      refine ⟨hok m _ (by omega) i1, fun b => ?_⟩
      show itd (sBs M n w) m (sBs M n w m b) = _
      rw [i2, hcl m _ (by omega) i1]
      revert i1
      generalize itr (fun k => clS Q A w (nI k)) 0 m (-1) = a
      intro i1
      unfold sBs
      by_cases c1 : nI m = w
      · rw [if_pos c1, if_pos c1]
      rw [if_neg c1, if_neg c1]
      by_cases c2 : sFr M n (nI m) = false
      · rw [if_pos c2, if_pos c2]
      rw [if_neg c2, if_neg c2]
      have hm0 : ¬ nI m < 0 := nI_pos (by omega)
      have hmc : (nI m).toNatClampNeg = m := nI_clamp (by omega)
      by_cases a0 : a < 0
      · rw [if_pos a0]
        unfold cmb
        rw [if_pos a0, if_neg hm0, hmc]
      · rw [if_neg a0]
        unfold cmb
        rw [if_neg a0]
        by_cases b0 : b < 0
        · rw [if_pos b0, if_neg hm0, hmc]
          by_cases c3 : M 2 a.toNatClampNeg 1 ≤ M 2 m 1
          · rw [if_pos c3, if_neg a0, if_pos b0, if_neg (Int32.not_lt.mpr c3)]
          · rw [if_neg c3, if_neg hm0, if_pos b0, if_pos (Int32.not_le.mp c3)]
        · rw [if_neg b0]
          by_cases c3 : M 2 a.toNatClampNeg 1 ≤ M 2 m 1
          · rw [if_pos c3, if_neg a0, if_neg b0]
            by_cases c4 : M 2 b.toNatClampNeg 1 < M 2 m 1
            · rw [if_pos c4, if_neg b0]
            · rw [if_neg c4, if_neg hm0, hmc, if_neg (Int32.not_lt.mpr c3), if_neg]
              rw [Int32.lt_iff_toInt_lt] at *
              rw [Int32.le_iff_toInt_le] at c3
              omega
          · rw [if_neg c3, if_neg hm0, if_neg b0, hmc]
            by_cases c4 : M 2 b.toNatClampNeg 1 < M 2 m 1
            · rw [if_pos c4, if_neg b0, if_pos]
              rw [Int32.lt_iff_toInt_lt] at *
              rw [Int32.le_iff_toInt_le] at c3
              omega
            · rw [if_neg c4, if_neg hm0, hmc, if_pos (Int32.not_le.mp c3)]
  obtain ⟨k1, k2⟩ := key (n 2) (Nat.le_refl _)
  rw [k2]
  unfold cmb
  rcases k1 with k1 | k1
  · rw [k1]; rfl
  · have : ¬ itr (fun k => clS Q A w (nI k)) 0 (n 2) (-1) < 0 := by
      rw [k1.1]
      exact nI_pos (by have := k1.2; omega)
    rw [if_neg this, if_pos (by decide)]
-- a flock
theorem CX_s {M' : Mm} {B' : Nat} (h : PLs M M') (hC : CX Q A M n fb B) (hS : RS A' M' n) (hZ : RZ A' n) (hG : PG M' n) (hB : PB' M' n B') (hB2 : B' < 2 ^ 30) (hV : vS M' n) : CX Q A' M' n fb B' := ⟨RP_s h hC.1, hS, hZ, hG, hB, hB2, hV, RO_s h hC.2.2.2.2.2.2.2⟩
theorem ho_eq {e : Int32} (h0 : A 0 0 = M 0 0 0) (he : ¬ e ≤ 0) : hoL A e = decide (M 0 0 0 - M 0 0 0 / e * e = 0) := by
  unfold hoL
  rw [if_neg he, h0]
  by_cases c : M 0 0 0 - M 0 0 0 / e * e = 0
  · rw [if_neg (not_not_intro c), decide_eq_true c]
  · rw [if_pos c, decide_eq_false c]
/-- a flock goes, or not -/
theorem sGo_eq (hC : CX Q A M n fb B) (hf : f < n 5) (he : ¬ M 5 f 2 ≤ 0) : sGo M n f = (if hoL A (ca 3 (Q 13) (nI f)) = true then true else if frL Q A (ca 3 (A 7) (nI f)) = false then true else toB (scL Q A (nI f))) := by
  have n5 := hC.1.2.1.2.2.2.2.2.1
  have n2 := hC.1.2.1.2.1
  have hv := (hC.2.2.2.2.2.2.1.2.1 f hf).2
  obtain ⟨s1, s2⟩ := scd_eq (f := f) hC
  unfold sGo sG0
  rw [ca_n (by omega) (by decide), ca_n (by omega) (by decide), (hC.2.1.2.2.2 f hf).1, (hC.1.2.2.2.2.2.2 f hf).2, ho_eq hC.2.1.1.1 he]
  by_cases c1 : M 5 f 0 < 0
  · rw [if_pos c1, sG1_t, frL_neg c1]
    split <;> rfl
  rw [if_neg c1]
  have hx := hv.resolve_left c1
  have hfr : frL Q A (M 5 f 0) = sFr M n (M 5 f 0) := by
    have h := frL_k hC.1 hC.2.1 hC.2.2.2.2.2.2.1 hx.2
    rw [← hx.1] at h
    exact h
  rw [hfr]
  by_cases c2 : M 0 0 0 - M 0 0 0 / M 5 f 2 * M 5 f 2 = 0
  · rw [if_pos c2, decide_eq_true c2, if_pos rfl, sG1_t]
  rw [if_neg c2, decide_eq_false c2, if_neg (show ¬ (false = true) by decide)]
  by_cases c3 : sFr M n (M 5 f 0) = false
  · rw [if_pos c3, if_pos c3, sG1_t]
  · rw [if_neg c3, if_neg c3, s2]
end PURE5
