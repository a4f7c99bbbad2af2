/-! PURE: foresee, costs, advise, spare. -/
section PURE13
variable {Q A A1 A' Z Z' : Mem} {M M' : Mm} {n fb : Nat → Nat} {p k b c q f j B m : Nat} {v w i x y len : Int32}
theorem li_b (hB : PB' M n B) (hB2 : B < 2 ^ 30) (hk : k < n 2) : ∃ x, sLi M k = nI x ∧ x ≤ 100 := by
  obtain ⟨⟨x, hx, hxB⟩, -⟩ := hB k hk
  unfold sLi
  by_cases c : M 2 k 3 = 1
  · exact ⟨100, if_pos c, Nat.le_refl _⟩
  · rw [if_neg c, hx]
    by_cases c2 : nI x ≤ 100
    · have c3 : x ≤ 100 := (nI_leI (by omega) (by decide)).mp (show nI x ≤ nI 100 from c2)
      rw [if_pos c2]
      exact ⟨100 - x, pk_sub (a := 100) (b := x) c3, by omega⟩
    · exact ⟨0, by rw [if_neg c2]; rfl, Nat.zero_le _⟩
theorem lf_b (hB : PB' M n B) (hB2 : B < 2 ^ 30) : ∃ x, sLf M n (-1) = nI x ∧ x ≤ 100 * n 2 := by
  unfold sLf
  refine itr_simI (P := fun k (s : Int32) (_ : Unit) => ∃ x, s = nI x ∧ x ≤ 100 * k) (g := fun _ u => u) (m := n 2) (fun k s u hk h => ?_) (n 2) 0 0 () (by omega) ⟨0, rfl, Nat.zero_le _⟩
  obtain ⟨x, h1, h2⟩ := h
  obtain ⟨y, h3, h4⟩ := li_b hB hB2 hk
  refine ⟨x + y, ?_, by omega⟩
  unfold sLo
  rw [if_pos (by decide), h1, h3, nI_add]
theorem INV_li (hI : INV Q A M n fb) : liL A 0 (Q 0 1) = sLf M n (-1) := light_eq hI.1.1 hI.1.2.1 hI.1.2.2.2.2.1 hI.1.2.2.2.2.2.1
theorem INV_ad (hI : INV Q A M n fb) : adL Q A = sDi M n := adL_eq hI.1.1 hI.1.2.1
theorem INV_db (hI : INV Q A M n fb) : dbL Q A = sDk M n := dbL_eq hI.1.1 hI.1.2.1 hI.1.2.2.2.2.1 hI.1.2.2.2.2.2.1
/-- one hour foreseen -/
theorem fs_eq (hI : INV Q Z M n fb) (hA : TZ A) : TZ (fsM Q Z A 1) ∧ fsL Q Z A 1 0 = (sPa M n).1 ∧ fsL Q Z A 1 1 = sLf (sPs M n) n (-1) ∧ fsL Q Z A 1 2 = sDi (sPs M n) n ∧ fsL Q Z A 1 3 = sDk (sPs M n) n := by
  have h := gn_eq (m := 1) (cf_I hI hA) (by decide)
  rw [hrs_1] at h
  have h1 : INV Q (fsM Q Z A 1) (sPs M n) n fb := h.1
  refine ⟨TZ_I h1, ?_, INV_li h1, INV_ad h1, INV_db h1⟩
  show gnL Q (cfL Z A) (nI 1) 0 2 - Z 0 2 = _
  rw [h.2.1, cf_0.2.2.1, Int32.add_comm, Int32.add_sub_cancel]
/-- costs of the wind there is -/
theorem co_eq (hI : INV Q Z M n fb) (hA : TZ A) (hm : m < 2 ^ 31) : adL Q (coB Q Z A (nI m) (M 0 0 1)) - adL Q (coA Q Z A (nI m)) = 0 ∧ TZ (coB Q Z A (nI m) (M 0 0 1)) := by
  have h1 := (gn_eq (m := m) (cf_I hI hA) hm).1
  have hw : M 0 0 1 = Z 0 1 := hI.1.2.1.1.2.1.symm
  have h2 := cf_I (A := coA Q Z A (nI m)) hI (TZ_I h1)
  have e : sm (cfL Z (coA Q Z A (nI m))) 0 1 (M 0 0 1) = cfL Z (coA Q Z A (nI m)) := by
    funext a b
    rw [sm_x]
    by_cases c : a = 0 ∧ b = 1
    · rw [if_pos c, c.1, c.2, hw]
      rfl
    · rw [if_neg c]
  have h3 : INV Q (coB Q Z A (nI m) (M 0 0 1)) (hrs n m M).2 n fb := by
    unfold coB
    rw [e]
    exact (gn_eq (m := m) h2 hm).1
  refine ⟨?_, TZ_I h3⟩
  rw [INV_ad h3, INV_ad (show INV Q (coA Q Z A (nI m)) _ n fb from h1), Int32.sub_self]
/-- spared cradle -/
theorem INV_spare (hI : INV Q A M n fb) : INV Q (sm A 0 3 w) (um M 0 0 3 w) n fb := by
  obtain ⟨⟨hP, ⟨g0, g1, g2, g3⟩, hZ, hG, hB, hB2, hV, hO⟩, ⟨r1, r2, r3, r4, r5⟩, hW, hK⟩ := hI
  have hpl : PLs M (um M 0 0 3 w) := PLs_0
  refine ⟨⟨RP_s hpl hP, ⟨?_, ?_, ?_, ?_⟩, RZ_r hZ (by decide) (by decide), PG_t hG (by decide), PB_t hB (by decide), hB2, vS_0 hV, RO_s hpl hO⟩, ⟨?_, ?_, ?_, ?_, ?_⟩, WI_t hW (by decide), ?_⟩
  · rw [sm_x, sm_x, sm_x, if_neg (by decide), if_neg (by decide), if_pos ⟨rfl, rfl⟩, um_c (by decide), um_c (by decide), um_e]
    exact ⟨g0.1, g0.2.1, rfl⟩
  · rw [sm_ne (show 1 ≠ 0 by decide), sm_ne (show 2 ≠ 0 by decide), sm_ne (show 3 ≠ 0 by decide), um_t (show 2 ≠ 0 by decide)]
    exact g1
  · rw [sm_ne (show 4 ≠ 0 by decide), sm_ne (show 5 ≠ 0 by decide), sm_ne (show 6 ≠ 0 by decide), um_t (show 4 ≠ 0 by decide)]
    exact g2
  · rw [sm_ne (show 7 ≠ 0 by decide), sm_ne (show 8 ≠ 0 by decide), um_t (show 5 ≠ 0 by decide)]
    exact g3
  · rw [um_t (show 3 ≠ 0 by decide)]; exact r1
  · rw [um_t (show 4 ≠ 0 by decide)]; exact r2
  · rw [um_t (show 5 ≠ 0 by decide)]; exact r3
  · rw [um_t (show 1 ≠ 0 by decide)]; exact r4
  · rw [um_c (by decide)]; exact r5
  · unfold KI
    rw [um_t (show 2 ≠ 0 by decide), um_t (show 1 ≠ 0 by decide)]
    exact hK
/-- the best of k tried, its light, the trial -/
def BT (k : Nat) (s : Int32 × Int32 × Mem) : Prop := TZ s.2.2 ∧ ((k = 0 ∧ s.1 = -1 ∧ s.2.1 = -1) ∨ (0 < k ∧ (∃ a, s.1 = nI a ∧ a < k) ∧ ∃ x, s.2.1 = nI x ∧ x < 2 ^ 30))
theorem BT_step (hk : k < 1000) {s : Int32 × Int32 × Mem} {A' : Mem} {l : Nat} (hs : BT k s) (h1 : TZ A') (hl : l < 2 ^ 30) : BT (k + 1) (if nI l ≤ s.2.1 then (s.1, s.2.1, A') else (nI k, nI l, A')) := by
  obtain ⟨-, h⟩ := hs
  rcases h with ⟨h0, a1, a2⟩ | ⟨h0, ⟨a, a1, a2⟩, x, x1, x2⟩
  · rw [if_neg (by rw [a2, Int32.le_iff_toInt_le, nI_toInt (by omega)]; show ¬ (l : Int) ≤ -1; omega)]
    exact ⟨h1, Or.inr ⟨Nat.succ_pos _, ⟨k, rfl, Nat.lt_succ_self _⟩, l, rfl, hl⟩⟩
  · split
    · exact ⟨h1, Or.inr ⟨Nat.succ_pos _, ⟨a, a1, by omega⟩, x, x1, x2⟩⟩
    · exact ⟨h1, Or.inr ⟨Nat.succ_pos _, ⟨k, rfl, Nat.lt_succ_self _⟩, l, rfl, hl⟩⟩
theorem li_n (hI : INV Q A M n fb) : ∃ l, liL A 0 (Q 0 1) = nI l ∧ l < 2 ^ 30 := by
  obtain ⟨x, h1, h2⟩ := lf_b hI.1.2.2.2.2.1 hI.1.2.2.2.2.2.1
  have n2 := hI.1.1.2.1.2.1
  exact ⟨x, (INV_li hI).trans h1, by omega⟩
theorem av_eq (hI : INV Q Z M n fb) (hA : TZ A) (hc : c < n 4) (hm : m < 2 ^ 31) : (∃ a, (avL Q Z A (nI c) (nI m)).1 = nI a ∧ a < n 2) ∧ TZ (avL Q Z A (nI c) (nI m)).2.2 := by
  have n2 := hI.1.1.2.1.2.1
  have n20 := hI.1.1.2.1.2.2.1
  have n4 := hI.1.1.2.1.2.2.2.2.1
  have key : BT (n 2) (avL Q Z A (nI c) (nI m)) := by
    unfold avL
    rw [hI.1.1.1.2.1, itI_0 (by omega)]
    refine itr_simI (P := fun k s (_ : Unit) => BT k s) (g := fun _ u => u) (m := n 2) (fun k s u hk h => ?_) (n 2) 0 (-1, -1, A) () (by omega) ⟨hA, Or.inl ⟨rfl, rfl, rfl⟩⟩
    have h1 := INV_carry (c := c) (cf_I hI h.1) hk
    rw [← sp_n (n := 3) (show c < 3 by omega) (by decide)] at h1
    have h2 : INV Q (adB Q Z s.2.2 (nI c) (nI m) (nI k)) _ n fb := (gn_eq (m := m) h1 hm).1
    obtain ⟨l, h3, h4⟩ := li_n h2
    unfold adS
    rw [h3]
    exact BT_step (by omega) h (TZ_I h2) h4
  obtain ⟨h1, h⟩ := key
  rcases h with ⟨h0, -⟩ | ⟨-, h, -⟩
  · omega
  · exact ⟨h, h1⟩
theorem pr_eq (hI : INV Q Z M n fb) (hA : TZ A) (h4 : 0 < n 4) (hm : m < 2 ^ 31) : (∃ a, (prL Q Z A (nI m)).1 = nI a ∧ a < n 4) ∧ TZ (prL Q Z A (nI m)).2.2 := by
  have n4 := hI.1.1.2.1.2.2.2.2.1
  have key : BT (n 4) (prL Q Z A (nI m)) := by
    unfold prL
    rw [hI.1.1.1.2.2.2.1, itI_0 (by omega)]
    refine itr_simI (P := fun k s (_ : Unit) => BT k s) (g := fun _ u => u) (m := n 4) (fun k s u hk h => ?_) (n 4) 0 (-1, -1, A) () (by omega) ⟨hA, Or.inl ⟨rfl, rfl, rfl⟩⟩
    have h1 := INV_spare (w := nI k) (cf_I hI h.1)
    have h2 : INV Q (prB Q Z s.2.2 (nI m) (nI k)) _ n fb := (gn_eq (m := m) h1 hm).1
    obtain ⟨l, h3, h4⟩ := li_n h2
    unfold prS
    rw [h3]
    exact BT_step (by omega) h (TZ_I h2) h4
  obtain ⟨h1, h⟩ := key
  rcases h with ⟨h0, -⟩ | ⟨-, h, -⟩
  · omega
  · exact ⟨h, h1⟩
end PURE13
