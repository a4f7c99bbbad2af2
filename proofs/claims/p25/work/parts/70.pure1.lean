/-! PURE: the class' arcade and Sim's tell the same: light, what is free. -/
theorem rng_n {a m : Nat} (ha : a < 2 ^ 31) (hm : m < 2 ^ 31) : rng (nI a) (nI m) = m - a := by
  unfold rng
  rw [nI_toInt ha, nI_toInt hm]
  omega
theorem rng_0 {m : Nat} (hm : m < 2 ^ 31) : rng 0 (nI m) = m := rng_n (a := 0) (by decide) hm
theorem itI_n {S : Type} {f : Int32 → S → S} : ∀ (m a : Nat) (s : S), itI f (nI a) m s = itr (fun k => f (nI k)) a m s
  | 0, _, _ => rfl
  | m + 1, a, s => by
    unfold itI itr
    rw [nI_1]
    exact itI_n m (a + 1) (f (nI a) s)
theorem itxI_n {S R : Type} {f : Int32 → S → R ⊕ S} : ∀ (m a : Nat) (s : S), itxI f (nI a) m s = itx (fun k => f (nI k)) a m s
  | 0, _, _ => rfl
  | m + 1, a, s => by
    unfold itxI itx
    rw [nI_1]
    cases f (nI a) s with
    | inl r => rfl
    | inr s' => exact itxI_n m (a + 1) s'
theorem itI_0 {S : Type} {f : Int32 → S → S} {m : Nat} (hm : m < 2 ^ 31) (s : S) : itI f 0 (rng 0 (nI m)) s = itr (fun k => f (nI k)) 0 m s := by
  rw [rng_0 hm]
  exact itI_n m 0 s
theorem itxI_0 {S R : Type} {f : Int32 → S → R ⊕ S} {m : Nat} (hm : m < 2 ^ 31) (s : S) : itxI f 0 (rng 0 (nI m)) s = itx (fun k => f (nI k)) 0 m s := by
  rw [rng_0 hm]
  exact itxI_n m 0 s
theorem itr_sim {S T : Type} {f : Nat → S → S} {g : Nat → T → T} {P : S → T → Prop} {m : Nat} (st : ∀ k a b, k < m → P a b → P (f k a) (g k b)) : ∀ q k a b, k + q = m → P a b → P (itr f k q a) (itr g k q b)
  | 0, _, _, _, _, h => h
  | q + 1, k, a, b, e, h => itr_sim st q (k + 1) (f k a) (g k b) (by omega) (st k a b (by omega) h)
theorem itr_simI {S T : Type} {f : Nat → S → S} {g : Nat → T → T} {P : Nat → S → T → Prop} {m : Nat} (st : ∀ k a b, k < m → P k a b → P (k + 1) (f k a) (g k b)) : ∀ q k a b, k + q = m → P k a b → P m (itr f k q a) (itr g k q b)
  | 0, k, _, _, e, h => by rw [Nat.add_zero] at e; rw [← e]; exact h
  | q + 1, k, a, b, e, h => itr_simI st q (k + 1) (f k a) (g k b) (by omega) (st k a b (by omega) h)
theorem itr_eq {S : Type} {f g : Nat → S → S} {m : Nat} (st : ∀ k a, k < m → f k a = g k a) {q k : Nat} {a : S} (e : k + q = m) : itr f k q a = itr g k q a :=
  itr_sim (P := fun a b => a = b) (m := m) (fun k a b hk h => by rw [h]; exact st k b hk) q k a a e rfl
theorem itr_split {S : Type} {f : Nat → S → S} : ∀ (a b k : Nat) (s : S), itr f k (a + b) s = itr f (k + a) b (itr f k a s)
  | 0, b, k, s => by rw [Nat.zero_add, Nat.add_zero]; rfl
  | a + 1, b, k, s => by
    rw [show a + 1 + b = (a + b) + 1 by omega]
    show itr f (k + 1) (a + b) (f k s) = itr f (k + (a + 1)) b (itr f (k + 1) a (f k s))
    rw [itr_split a b (k + 1) (f k s), show k + 1 + a = k + (a + 1) by omega]
theorem itr_none {S : Type} {f : Nat → S → S} {m : Nat} (st : ∀ k a, k < m → f k a = a) : ∀ q k a, k + q = m → itr f k q a = a
  | 0, _, _, _ => rfl
  | q + 1, k, a, e => by
    show itr f (k + 1) q (f k a) = a
    rw [st k a (by omega)]
    exact itr_none st q (k + 1) a (by omega)
theorem ca_n {n k : Nat} {a : Nat → Int32} (hk : k < n) (hn : n ≤ 50000000) : ca n a (nI k) = a k := by
  unfold ca
  rw [if_pos (in_big hk hn), nI_clamp (by omega)]
theorem ca_neg {n : Nat} {a : Nat → Int32} {i : Int32} (hi : i < 0) (hn : n ≤ 50000000) : ca n a i = 0 := by
  unfold ca
  rw [ix_in_of hn]
  simp [hi]
theorem sp_n {A : Mem} {a n k : Nat} {v : Int32} (hk : k < n) (hn : n ≤ 50000000) : sp A a n (nI k) v = sm A a k v := by
  unfold sp
  rw [if_pos (in_big hk hn), nI_clamp (by omega)]
theorem sp_neg {A : Mem} {a n : Nat} {i v : Int32} (hi : i < 0) (hn : n ≤ 50000000) : sp A a n i v = A := by
  unfold sp
  rw [ix_in_of hn]
  simp [hi]
theorem sm_x {A : Mem} {a k b j : Nat} {v : Int32} : sm A a k v b j = if b = a ∧ j = k then v else A b j := by
  unfold sm
  by_cases h : b = a
  · rw [if_pos h]
    unfold upd
    by_cases h' : j = k
    · rw [if_pos h', if_pos ⟨h, h'⟩]
    · rw [if_neg h', if_neg (fun q => h' q.2)]
  · rw [if_neg h, if_neg (fun q => h q.1)]
/-- the plan is Sim's: fb: first panes of bays -/
def RP (Q : Mem) (M : Mm) (n fb : Nat → Nat) : Prop :=
  (Q 0 0 = nI (n 1) ∧ Q 0 1 = nI (n 2) ∧ Q 0 2 = nI (n 3) ∧ Q 0 3 = nI (n 4) ∧ Q 0 4 = nI (n 5) ∧ Q 0 5 = nI (n 6)) ∧
  (n 1 ≤ 4 ∧ n 2 ≤ 32 ∧ 0 < n 2 ∧ n 3 ≤ 4 ∧ n 4 ≤ 3 ∧ n 5 ≤ 3 ∧ n 6 ≤ 7) ∧
  (fb 0 = 0 ∧ fb (n 1) = n 2 ∧ ∀ b, b < n 1 → Q 1 b = M 1 b 0 ∧ Q 2 b = M 1 b 1 ∧ Q 3 b = nI (fb b) ∧ M 1 b 0 = nI (fb (b + 1) - fb b) ∧ fb b ≤ fb (b + 1) ∧ fb (b + 1) ≤ n 2) ∧
  (∀ p, p < n 2 → Q 4 p = M 2 p 0 ∧ ∃ b, b < n 1 ∧ M 2 p 0 = nI b ∧ fb b ≤ p ∧ p < fb (b + 1)) ∧
  (∀ k, k < n 3 → Q 5 k = M 3 k 0 ∧ Q 6 k = M 3 k 1 ∧ Q 7 k = M 3 k 2 ∧ Q 8 k = M 3 k 3) ∧
  (∀ c, c < n 4 → Q 10 c = M 4 c 1 ∧ Q 11 c = M 4 c 2) ∧
  (∀ f, f < n 5 → Q 12 f = M 5 f 1 ∧ Q 13 f = M 5 f 2)
/-- the state is Sim's -/
def RS (A : Mem) (M : Mm) (n : Nat → Nat) : Prop :=
  (A 0 0 = M 0 0 0 ∧ A 0 1 = M 0 0 1 ∧ A 0 3 = M 0 0 3) ∧
  (∀ p, p < n 2 → A 1 p = M 2 p 1 ∧ A 2 p = M 2 p 2 ∧ A 3 p = M 2 p 3) ∧
  (∀ c, c < n 4 → A 4 c = M 4 c 0 ∧ A 5 c = M 4 c 3 ∧ A 6 c = M 4 c 4) ∧
  (∀ f, f < n 5 → A 7 f = M 5 f 0 ∧ A 8 f = M 5 f 3)
/-- panes: let go without dirt and cracks, or not; dirt at most B -/
def PB' (M : Mm) (n : Nat → Nat) (B : Nat) : Prop := ∀ p, p < n 2 → (∃ x, M 2 p 1 = nI x ∧ x ≤ B) ∧ (M 2 p 3 = 0 ∨ (M 2 p 3 = 1 ∧ M 2 p 1 = 0))
section PURE1
variable {Q A : Mem} {M : Mm} {n fb : Nat → Nat} {p k b c q B : Nat} {i : Int32}
theorem whL_k (hP : RP Q M n fb) (hS : RS A M n) (hk : k < n 2) : whL Q A (nI k) = decide (M 2 k 3 = 0) := by
  obtain ⟨⟨-, q1, -⟩, ⟨-, n2, -⟩, -⟩ := hP
  unfold whL
  rw [if_neg (nI_pos (by omega)), q1, if_neg (nI_ge hk (by omega)), ca_n (by omega) (by decide), (hS.2.1 k hk).2.2]
  by_cases h : M 2 k 3 = 0
  · rw [if_neg (not_not_intro h), decide_eq_true h]
  · rw [if_pos h, decide_eq_false h]
theorem whL_neg (hi : i < 0) : whL Q A i = false := if_pos hi
theorem frL_neg (hi : i < 0) : frL Q A i = false := by
  unfold frL
  rw [whL_neg hi, if_pos rfl]
/-- far from a pane -/
theorem far_c {x : Nat} (hx : x < 100) (hk : k < 100) : (1 < diL (nI x) (nI k)) ↔ (nI x < nI k - 1 ∨ ¬ nI x ≤ nI k + 1) := by
  rw [show nI k + 1 = nI (k + 1) from nI_1 k]
  have h1 : (nI k - 1).toInt = (k : Int) - 1 := pk_sub_toInt (a := k) (b := 1) (by omega) (by decide)
  rw [Int32.lt_iff_toInt_lt (x := nI x), h1, nI_toInt (by omega), nI_leI (by omega) (by omega)]
  unfold diL
  split
  · next c =>
    have c := (nI_leI (by omega) (by omega)).mp c
    rw [pk_sub c, show (1 : Int32) = nI 1 from rfl, nI_ltI (by decide) (by omega)]
    omega
  · next c =>
    have c : ¬ x ≤ k := fun h => c (nI_le h (by omega))
    rw [pk_sub (by omega), show (1 : Int32) = nI 1 from rfl, nI_ltI (by decide) (by omega)]
    omega
theorem frL_k (hP : RP Q M n fb) (hS : RS A M n) (hV : vS M n) (hk : k < n 2) : frL Q A (nI k) = sFr M n (nI k) := by
  have hw := whL_k hP hS hk
  obtain ⟨⟨-, q1, -, q3, -⟩, ⟨-, n2, -, -, n4, -⟩, -⟩ := hP
  unfold frL sFr
  rw [hw, nI_clamp (by omega), q3, itxI_0 (by omega)]
  have step : ∀ c, c < n 4 → (frS Q A (nI k) (nI c) = .inr () ∧ ∀ a, sFb M (nI k) c a = a) ∨ (frS Q A (nI k) (nI c) = .inl () ∧ ∀ a, sFb M (nI k) c a = false) := by
    intro c hc
    have hv := hV.2.2.1 c hc
    have e4 := (hS.2.2.1 c hc).1
    unfold frS sFb
    rw [ca_n (by omega) (by decide), e4, hS.1.2.2]
    by_cases c1 : nI c = M 0 0 3
    · exact Or.inl ⟨if_pos c1, fun a => if_pos c1⟩
    rw [if_neg c1]
    simp only [if_neg c1]
    have hx := hv.2
    rw [hv.1]
    have hf := far_c (x := (M 4 c 0).toNatClampNeg) (k := k) (by omega) (by omega)
    by_cases c2 : nI (M 4 c 0).toNatClampNeg < nI k - 1
    · exact Or.inl ⟨if_pos (hf.mpr (Or.inl c2)), fun a => if_pos c2⟩
    simp only [if_neg c2]
    by_cases c3 : nI (M 4 c 0).toNatClampNeg ≤ nI k + 1
    · exact Or.inr ⟨if_neg (fun h => (hf.mp h).elim c2 (fun h => h c3)), fun a => if_pos c3⟩
    · exact Or.inl ⟨if_pos (hf.mpr (Or.inr c3)), fun a => if_neg c3⟩
  have f1 : ∀ q k', k' + q = n 4 → itr (sFb M (nI k)) k' q false = false := by
    intro q
    induction q with
    | zero => intro _ _; rfl
    | succ q ih =>
      intro k' e
      show itr (sFb M (nI k)) (k' + 1) q (sFb M (nI k) k' false) = false
      rcases step k' (by omega) with h | h
      · rw [h.2]; exact ih _ (by omega)
      · rw [h.2]; exact ih _ (by omega)
  by_cases c0 : M 2 k 3 = 0
  · rw [decide_eq_true c0, if_neg (by decide), if_pos c0]
    have : ∀ q k', k' + q = n 4 → bad (itx (fun c (_ : Unit) => frS Q A (nI k) (nI c)) k' q ()) = itr (sFb M (nI k)) k' q true := by
      intro q
      induction q with
      | zero => intro _ _; rfl
      | succ q ih =>
        intro k' e
        unfold itx
        show _ = itr (sFb M (nI k)) (k' + 1) q (sFb M (nI k) k' true)
        rcases step k' (by omega) with h | h
        · rw [h.1, h.2]; exact ih _ (by omega)
        · rw [h.1, h.2, f1 q _ (by omega)]; rfl
    exact this (n 4) 0 (by omega)
  · rw [decide_eq_false c0, if_pos rfl, if_neg c0]
    exact (f1 (n 4) 0 (by omega)).symm
-- light
theorem liS_k (hP : RP Q M n fb) (hS : RS A M n) (hB : PB' M n B) (hB2 : B < 2 ^ 30) (hk : k < n 2) (s : Int32) : liS A (nI k) s = s + sLi M k := by
  obtain ⟨-, ⟨-, n2, -⟩, -⟩ := hP
  obtain ⟨⟨x, hx, hxB⟩, hg⟩ := hB k hk
  unfold liS sLi
  rw [if_neg (nI_pos (by omega)), if_neg (nI_ge (b := 40) (by omega) (by decide)), nI_clamp (by omega), (hS.2.1 k hk).1]
  have h100 : (100 : Int32) = nI 100 := rfl
  rcases hg with hg | ⟨hg, h0⟩
  · rw [if_neg (show ¬ M 2 k 3 = 1 by rw [hg]; decide), hx, h100]
    by_cases c1 : nI 100 ≤ nI x
    · have c1' := (nI_leI (by decide) (by omega)).mp c1
      rw [if_pos c1]
      by_cases c2 : nI x ≤ nI 100
      · have c2' := (nI_leI (by omega) (by decide)).mp c2
        rw [if_pos c2, show x = 100 by omega]
        exact (Int32.add_zero s).symm
      · rw [if_neg c2]; exact (Int32.add_zero s).symm
    · rw [if_neg c1, if_pos (Int32.le_of_lt (Int32.not_le.mp c1))]
  · rw [if_pos hg, h0, if_neg (by decide)]
    rfl
theorem liL_k (hP : RP Q M n fb) (hS : RS A M n) (hB : PB' M n B) (hB2 : B < 2 ^ 30) {a b : Nat} (hab : a ≤ b) (hb : b ≤ n 2) : liL A (nI a) (nI b) = itr (fun k s => s + sLi M k) a (b - a) 0 := by
  have n2 := hP.2.1.2.1
  unfold liL
  rw [rng_n (by omega) (by omega), itI_n]
  exact itr_eq (m := b) (fun k s hk => liS_k hP hS hB hB2 (by omega) s) (by omega)
theorem light_eq (hP : RP Q M n fb) (hS : RS A M n) (hB : PB' M n B) (hB2 : B < 2 ^ 30) : liL A 0 (Q 0 1) = sLf M n (-1) := by
  rw [hP.1.2.1]
  refine (liL_k (a := 0) hP hS hB hB2 (Nat.zero_le _) (Nat.le_refl _)).trans ?_
  unfold sLf
  exact itr_eq (m := n 2) (fun k s _ => by unfold sLo; rw [if_pos (by decide)]) (by omega)
theorem bay_p (hP : RP Q M n fb) (hb : b < n 1) (hp : p < n 2) : (M 2 p 0 = nI b) ↔ (fb b ≤ p ∧ p < fb (b + 1)) := by
  obtain ⟨-, ⟨n1, -⟩, ⟨-, -, hf⟩, hbay, -⟩ := hP
  obtain ⟨-, b1, h1, h2, h3, h4⟩ := hbay p hp
  have mono : ∀ j i, i ≤ j → j ≤ n 1 → fb i ≤ fb j := by
    intro j
    induction j with
    | zero => intro i hi _; rw [show i = 0 by omega]; exact Nat.le_refl _
    | succ j ih =>
      intro i hi hj
      by_cases e : i = j + 1
      · rw [e]; exact Nat.le_refl _
      · exact Nat.le_trans (ih i (by omega) (by omega)) (hf j (by omega)).2.2.2.2.1
  rw [h2]
  constructor
  · intro e
    have e := (nI_eq (by omega) (by omega)).mp e
    rw [← e]
    exact ⟨h3, h4⟩
  · rintro ⟨g1, g2⟩
    by_cases c : b1 < b
    · have := mono b (b1 + 1) (by omega) (by omega)
      omega
    by_cases c2 : b < b1
    · have := mono b1 (b + 1) (by omega) (by omega)
      omega
    rw [show b1 = b by omega]
theorem lbL_k (hP : RP Q M n fb) (hS : RS A M n) (hB : PB' M n B) (hB2 : B < 2 ^ 30) (hb : b < n 1) : lbL Q A (nI b) = sLf M n (nI b) := by
  have n1 := hP.2.1.1
  have n2 := hP.2.1.2.1
  obtain ⟨e1, -, e3, e4, e5, e6⟩ := hP.2.2.1.2.2 b hb
  unfold lbL
  rw [ca_n (by omega) (by decide), ca_n (by omega) (by decide), e3, e1, e4, nI_add, show fb b + (fb (b + 1) - fb b) = fb (b + 1) by omega]
  rw [liL_k hP hS hB hB2 e5 e6]
  unfold sLf
  have hs : n 2 = fb b + ((fb (b + 1) - fb b) + (n 2 - fb (b + 1))) := by omega
  have hsl : ∀ k s, sLo M (nI b) k s = if M 2 k 0 = nI b then s + sLi M k else s := by
    intro k s
    unfold sLo
    rw [if_neg (nI_pos (by omega))]
  have hbp := fun p hp => bay_p hP hb (p := p) hp
  rw [show itr (sLo M (nI b)) 0 (n 2) 0 = itr (sLo M (nI b)) 0 (fb b + ((fb (b + 1) - fb b) + (n 2 - fb (b + 1)))) 0 by rw [← hs]]
  rw [itr_split, itr_split, Nat.zero_add]
  rw [itr_none (m := fb b) (fun k s hk => by rw [hsl, if_neg (fun h => by have := (hbp k (by omega)).mp h; omega)]) (fb b) 0 0 (by omega)]
  have h3 : itr (sLo M (nI b)) (fb b + (fb (b + 1) - fb b)) (n 2 - fb (b + 1)) (itr (sLo M (nI b)) (fb b) (fb (b + 1) - fb b) 0) = itr (sLo M (nI b)) (fb b) (fb (b + 1) - fb b) 0 := by
    rw [show fb b + (fb (b + 1) - fb b) = fb (b + 1) by omega]
    have key : ∀ q k a, k + q = n 2 → fb (b + 1) ≤ k → itr (sLo M (nI b)) k q a = a := by
      intro q
      induction q with
      | zero => intro k a _ _; rfl
      | succ q ih =>
        intro k a e hk
        show itr (sLo M (nI b)) (k + 1) q (sLo M (nI b) k a) = a
        rw [hsl, if_neg (fun h => by have := (hbp k (by omega)).mp h; omega)]
        exact ih (k + 1) a (by omega) (by omega)
    exact key _ _ _ (by omega) (Nat.le_refl _)
  rw [h3]
  have key : ∀ q k a, k + q = fb (b + 1) → fb b ≤ k → itr (fun k s => s + sLi M k) k q a = itr (sLo M (nI b)) k q a := by
    intro q
    induction q with
    | zero => intro k a _ _; rfl
    | succ q ih =>
      intro k a e hk
      show itr (fun k s => s + sLi M k) (k + 1) q (a + sLi M k) = itr (sLo M (nI b)) (k + 1) q (sLo M (nI b) k a)
      rw [hsl, if_pos ((hbp k (by omega)).mpr ⟨hk, by omega⟩)]
      exact ih (k + 1) _ (by omega) (by omega)
  exact key _ _ _ (by omega) (Nat.le_refl _)
theorem daL_k (hP : RP Q M n fb) (hS : RS A M n) (hB : PB' M n B) (hB2 : B < 2 ^ 30) (hb : b < n 1) : daL Q A (nI b) = sDa M n (nI b) := by
  have n1 := hP.2.1.1
  unfold daL sDa
  rw [lbL_k hP hS hB hB2 hb, ca_n (by omega) (by decide), (hP.2.2.1.2.2 b hb).1, nI_clamp (by omega), Int32.mul_comm]
theorem dbL_eq (hP : RP Q M n fb) (hS : RS A M n) (hB : PB' M n B) (hB2 : B < 2 ^ 30) : dbL Q A = sDk M n := by
  have n1 := hP.2.1.1
  unfold dbL sDk
  rw [hP.1.1, itI_0 (by omega)]
  refine itr_eq (m := n 1) (fun b s hb => ?_) (by omega)
  unfold dbS
  rw [daL_k hP hS hB hB2 hb]
  split
  · exact (Int32.add_zero s).symm
  · rfl
theorem adL_eq (hP : RP Q M n fb) (hS : RS A M n) : adL Q A = sDi M n := by
  have n2 := hP.2.1.2.1
  unfold adL sDi
  rw [hP.1.2.1, itI_0 (by omega)]
  refine itr_eq (m := n 2) (fun p s hp => ?_) (by omega)
  rw [ca_n (by omega) (by decide), (hS.2.1 p hp).1]
end PURE1
