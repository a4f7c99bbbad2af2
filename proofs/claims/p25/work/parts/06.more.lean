/-! MORE STEPS WITH CELLS: statics, rows of rows, the machine's own methods. -/
section IXH
variable {P : ix_P} {mi : ix_M} {own : String} {D : va_G} {ad0 : Nat → Nat} {cA : Nat → ClassId} {A : Nat → Prop} {ro : ix_H} {p : Program} {l : Launch} {e : Env} {R : Room} {s : State} {m : MethodId} {args : Array Value} {below : List Frame} {meth : Method} {c : Code} {Q : State → Prop} {n0 s0 pc pc' len nL : Nat} {lv lv' : ix_L} {st st' : List Value} {h h' : ix_H} {ad : Nat → Nat} {H H1 : Heap} {locs locs1 : List Loc} {ls : Array Slot}
theorem ix_wSin {x : Nat × Nat × ix_G} (hm : x ∈ ix_ST P) : ∀ w ∈ ix_wS P x, w ∈ ix_WL P := fun w hw => by
  unfold ix_WL
  simp only [List.mem_append, List.mem_flatMap]
  exact Or.inr (Or.inr (Or.inr (Or.inr (Or.inr (Or.inr (Or.inr (Or.inl ⟨x, hm, hw⟩)))))))
theorem ix_wAin {x : Nat × Nat × Nat} (hm : x ∈ ix_AT P) : ∀ w ∈ ix_wA P x, w ∈ ix_WL P := fun w hw => by
  unfold ix_WL
  simp only [List.mem_append, List.mem_flatMap]
  exact Or.inr (Or.inr (Or.inr (Or.inr (Or.inr (Or.inr (Or.inr (Or.inr (Or.inl ⟨x, hm, hw⟩))))))))
theorem ix_wVin {x : Nat × Nat × Nat} (hm : x ∈ ix_NV P) : ∀ w ∈ ix_wV P x, w ∈ ix_WL P := fun w hw => by
  unfold ix_WL
  simp only [List.mem_append, List.mem_flatMap]
  exact Or.inr (Or.inr (Or.inr (Or.inr (Or.inr (Or.inr (Or.inr (Or.inr (Or.inr (Or.inl ⟨x, hm, hw⟩)))))))))
theorem ix_wXin {x : Nat × Nat × ix_Xc} (hm : x ∈ ix_XT P) : ∀ w ∈ ix_wX P x, w ∈ ix_WL P := fun w hw => by
  unfold ix_WL
  simp only [List.mem_append, List.mem_flatMap]
  exact Or.inr (Or.inr (Or.inr (Or.inr (Or.inr (Or.inr (Or.inr (Or.inr (Or.inr (Or.inr (Or.inl ⟨x, hm, hw⟩))))))))))
theorem ix_wHin {x : Nat × Nat × ix_Hc} (hm : x ∈ ix_HT P) : ∀ w ∈ ix_wH P x, w ∈ ix_WL P := fun w hw => by
  unfold ix_WL
  simp only [List.mem_append, List.mem_flatMap]
  exact Or.inr (Or.inr (Or.inr (Or.inr (Or.inr (Or.inr (Or.inr (Or.inr (Or.inr (Or.inr (Or.inr ⟨x, hm, hw⟩))))))))))
theorem ix_cats {r : List Value} : ((r.map (ix_v ad)).map fun v => v.category).sum = (r.map Value.category).sum := by
  rw [List.map_map]
  congr 1
  exact List.map_congr_left fun v _ => ix_v_cat ad v

theorem ix_p_getstatic {i : Nat} (X : ix_X P mi own D ad0 cA A ro p s m args meth c) (hd : decode mi.2.2.1 pc = .ok (.getstatic i, len)) (q : ix_s1 P mi pc lv st h len (.getstatic i) = some (.inl (pc', lv', st', h'))) (hR : h'.length - n0 ≤ R.cells ∧ ix_sz h' - s0 ≤ R.slots ∧ 1 ≤ R.frames ∧ 60 ≤ R.locals) (k : ix_W P D ad0 cA A ro p l e R s m args below meth c Q n0 s0 mi.2.2.2.1 pc' lv' st' h') : ix_W P D ad0 cA A ro p l e R s m args below meth c Q n0 s0 mi.2.2.2.1 pc lv st h := by
  obtain ⟨hx, hb, hml, hr, hlocks, hon, hown, hini, hK, hts, hV, hA, hO⟩ := X
  obtain ⟨ht0, ht1, ht2, ht3, ht5⟩ := ix_ty0 hV
  simp only [ix_s1] at q
  split at q
  · next hlen =>
    subst hlen
    split at q
    · next C n d x hx0 =>
      obtain ⟨rfl, rfl, rfl, rfl⟩ := ix_go_eq q
      have hm := ix_fd_mem hx0
      have hw1 := ix_wSin hm
      unfold ix_wS at hw1
      simp only at hw1
      rw [hon] at hw1
      have hZ := (hO.2.2.1 _ _ _ hm).2
      intro ad H locs ls hI hL hw
      exact va_gets hx hb hZ hI.2.2.1 hown (hts _ (hw1 _ (List.mem_singleton.mpr rfl))) (fun _ h9 => h9) hd (k ad H locs ls hI hL (hw.push trivial))
    · next C n d hx0 =>
      obtain ⟨rfl, rfl, rfl, rfl⟩ := ix_go_eq q
      have hm := ix_fd_mem hx0
      have hw1 := ix_wSin hm
      unfold ix_wS at hw1
      simp only at hw1
      rw [hon] at hw1
      have hZ := (hO.2.2.1 _ _ _ hm).2
      intro ad H locs ls hI hL hw
      exact va_gets hx hb hZ hI.2.2.1 hown (hts _ (hw1 _ (List.mem_singleton.mpr rfl))) (fun _ h9 => h9) hd (k ad H locs ls hI hL (hw.push trivial))
    · next C n d x hx0 =>
      split at q
      · next hlt =>
        obtain ⟨rfl, rfl, rfl, rfl⟩ := ix_go_eq q
        have hm := ix_fd_mem hx0
        have hw1 := ix_wSin hm
        unfold ix_wS at hw1
        simp only at hw1
        rw [hon] at hw1
        have hZ := (hO.2.2.1 _ _ _ hm).2
        intro ad H locs ls hI hL hw
        have e1 : ad x = ad0 x := hI.2.2.2.1 x (Nat.lt_of_lt_of_le hlt hI.2.2.2.2.2.1)
        have hZ2 : va_Z C n d (.ref (ad x)) A s s.heap := by rw [e1]; exact hZ
        exact va_gets hx hb hZ2 hI.2.2.1 hown (hts _ (hw1 _ (List.mem_singleton.mpr rfl))) (fun _ h9 => h9) hd (k ad H locs ls hI hL (hw.push (Nat.lt_of_lt_of_le hlt (Nat.le_trans hI.2.2.2.2.2.1 hI.2.2.2.2.2.2.1))))
      · cases q
    · cases q
  · cases q
theorem ix_p_anewarray {i : Nat} (X : ix_X P mi own D ad0 cA A ro p s m args meth c) (hd : decode mi.2.2.1 pc = .ok (.anewarray i, len)) (q : ix_s1 P mi pc lv st h len (.anewarray i) = some (.inl (pc', lv', st', h'))) (hR : h'.length - n0 ≤ R.cells ∧ ix_sz h' - s0 ≤ R.slots ∧ 1 ≤ R.frames ∧ 60 ≤ R.locals) (k : ix_W P D ad0 cA A ro p l e R s m args below meth c Q n0 s0 mi.2.2.2.1 pc' lv' st' h') : ix_W P D ad0 cA A ro p l e R s m args below meth c Q n0 s0 mi.2.2.2.1 pc lv st h := by
  obtain ⟨hx, hb, hml, hr, hlocks, hon, hown, hini, hK, hts, hV, hA, hO⟩ := X
  obtain ⟨ht0, ht1, ht2, ht3, ht5⟩ := ix_ty0 hV
  simp only [ix_s1] at q
  split at q
  · next hlen =>
    subst hlen
    obtain ⟨n, r, rfl, q2⟩ := ix_i_eq q
    split at q2
    · next hc =>
      obtain ⟨rfl, rfl, rfl, rfl⟩ := ix_go_eq q2
      obtain ⟨hx0, hbig⟩ := hc
      obtain ⟨hn0, hnb⟩ := ix_big_eq hbig
      have hw1 := ix_wAin (ix_fd_mem hx0)
      unfold ix_wA at hw1
      simp only at hw1
      rw [hon] at hw1
      have hcl := hts _ (hw1 (.classLink own i "[I") (by simp))
      have hao : (Cond.arrayOver (.array .int)).before args s = true := hts _ (ix_wTin (List.mem_of_getElem? ht5) (List.mem_singleton.mpr rfl))
      intro ad H locs ls hI hL hw
      obtain ⟨hR1, hR2, -, -⟩ := hR
      rw [List.length_append, List.length_singleton] at hR1
      rw [ix_sz_push] at hR2
      have hn0' := hI.2.2.2.2.2.2
      have hcs : ix_cs (.inl (5, n.toNatClampNeg, ix_z (.array .int))) = n.toNatClampNeg := rfl
      rw [hcs] at hR2
      refine W.anewA (t := .int) hx hb hown hcl hao (g := F0 m pc ls (.int n :: r.map (ix_v ad))) rfl hd rfl hn0 (by omega) (by omega) (by omega) fun cA1 kA comp f1 f2 f3 f4 => ?_
      have h9 : s.vm.findClass ("[" ++ (FieldType.array .int).toString) = some (cA 5) := (hK.2 5 _ (ix_ty_get ht5)).2
      obtain rfl : cA 5 = cA1 := Option.some.inj (h9.symm.trans f1)
      generalize hH1 : H.push ({ cls := cA 5, slots := Array.replicate n.toNatClampNeg .null, vm := .none } : Cell) = H1
      have z1 : H1.size = H.size + 1 := by rw [← hH1, Array.size_push]
      have e1 : H1[H.size]? = some (arrV (cA 5) n.toNatClampNeg (fun _ => .null)) := by rw [← hH1, Array.getElem?_push_size, ← arrV_new]
      have o1 : ∀ q : Nat, q < H.size → H1[q]? = H[q]? := fun q hq => by rw [← hH1, Array.getElem?_push, if_neg (Nat.ne_of_lt hq)]
      have hk : ∀ (k : Nat) (x : Nat × va_E), (ix_w ad cA (ix_NR P) h)[k]? = some x → H1[x.1]? = H[x.1]? := fun k x hx => o1 x.1 ((hI.1 k x hx).lt)
      have hc9 : ix_c (ix_up ad h.length H.size) cA (.inl (5, n.toNatClampNeg, ix_z (.array .int))) = .inl (cA 5, n.toNatClampNeg, .inr (.inr (.inr (.inr (fun _ => none))))) := rfl
      have hS1 : va_S A s.heap H1 locs := ⟨Nat.le_trans hI.2.2.1.1 (by omega), fun x h1 h2 => (o1 x (Nat.lt_of_lt_of_le h1 hI.2.2.1.1)).trans (hI.2.2.1.2.1 x h1 h2), hI.2.2.1.2.2⟩
      have hI1 := hI.push (q := H.size) hw hc9 ((hI.1.kept hk).app (fun k x hx => by
        have hz : k < 1 := (List.getElem?_eq_some_iff.mp hx).1
        rw [show k = 0 by omega] at hx
        cases hx
        show H1[H.size]? = some (vp_cell _ _)
        rw [e1, vp_cell_q]
        rfl)) (hI.2.1.push hI.1 rfl (hA _ hI.2.2.1.1)) hS1
      refine W.eq (g2 := F0 m (pc + 3) ls (.ref H.size :: r.map (ix_v ad))) rfl ?_
      refine k.at hI1 (hL.up hw) ((hw.pop.app (h1 := [_]) (fun x hx => by rw [List.mem_singleton.mp hx]; exact fun j z hz => by cases hz)).push (by show h.length < _; rw [List.length_append]; exact Nat.lt_succ_self _)) ?_ (by rw [List.length_append, List.length_singleton]; omega) (by rw [ix_sz_push, hcs]; omega)
      rw [List.map_cons, ix_vs_up hw.pop]
      show Value.ref (ix_up ad h.length H.size h.length) :: _ = _
      rw [ix_up_eq]
    · cases q2
  · cases q
theorem ix_p_checkcast {i : Nat} (X : ix_X P mi own D ad0 cA A ro p s m args meth c) (hd : decode mi.2.2.1 pc = .ok (.checkcast i, len)) (q : ix_s1 P mi pc lv st h len (.checkcast i) = some (.inl (pc', lv', st', h'))) (hR : h'.length - n0 ≤ R.cells ∧ ix_sz h' - s0 ≤ R.slots ∧ 1 ≤ R.frames ∧ 60 ≤ R.locals) (k : ix_W P D ad0 cA A ro p l e R s m args below meth c Q n0 s0 mi.2.2.2.1 pc' lv' st' h') : ix_W P D ad0 cA A ro p l e R s m args below meth c Q n0 s0 mi.2.2.2.1 pc lv st h := by
  obtain ⟨hx, hb, hml, hr, hlocks, hon, hown, hini, hK, hts, hV, hA, hO⟩ := X
  obtain ⟨ht0, ht1, ht2, ht3, ht5⟩ := ix_ty0 hV
  simp only [ix_s1] at q
  split at q
  · next hlen =>
    subst hlen
    obtain ⟨o, r, rfl, q2⟩ := ix_r_eq q
    obtain ⟨t, n, a, ho, q3⟩ := ix_ar_eq q2
    split at q3
    · next hc =>
      obtain ⟨rfl, rfl, rfl, rfl⟩ := ix_go_eq q3
      obtain ⟨hn, rfl, hx0⟩ := hc
      have hw1 := ix_wAin (ix_fd_mem hx0)
      unfold ix_wA at hw1
      simp only at hw1
      rw [hon] at hw1
      have hcl := hts _ (hw1 (.classLink own i "[B") (by simp))
      have hnm : s.vm.findClass "[B" = some (cA 2) := (hK.2 2 _ (ix_ty_get ht2)).2
      intro ad H locs ls hI hL hw
      exact va_castA hx hb hown hcl hI.1 (o - ix_NR P) (ix_w_get (ad := ad) (cA := cA) ho hn) hnm hd (k ad H locs ls hI hL hw)
    · cases q3
  · cases q
theorem ix_p_objinit {i : Nat} (X : ix_X P mi own D ad0 cA A ro p s m args meth c) (hd : decode mi.2.2.1 pc = .ok (.invokespecial i, len)) (q : ix_s1 P mi pc lv st h len (.invokespecial i) = some (.inl (pc', lv', st', h'))) (hR : h'.length - n0 ≤ R.cells ∧ ix_sz h' - s0 ≤ R.slots ∧ 1 ≤ R.frames ∧ 60 ≤ R.locals) (k : ix_W P D ad0 cA A ro p l e R s m args below meth c Q n0 s0 mi.2.2.2.1 pc' lv' st' h') : ix_W P D ad0 cA A ro p l e R s m args below meth c Q n0 s0 mi.2.2.2.1 pc lv st h := by
  obtain ⟨hx, hb, hml, hr, hlocks, hon, hown, hini, hK, hts, hV, hA, hO⟩ := X
  obtain ⟨ht0, ht1, ht2, ht3, ht5⟩ := ix_ty0 hV
  simp only [ix_s1] at q
  split at q
  · next hlen =>
    obtain ⟨rfl, hx0⟩ := hlen
    obtain ⟨o, r, rfl, q2⟩ := ix_r_eq q
    split at q2
    · next hc =>
      obtain ⟨rfl, rfl, rfl, rfl⟩ := ix_go_eq q2
      have hw1 := ix_wVin (ix_fd_mem hx0)
      unfold ix_wV at hw1
      simp only at hw1
      rw [hon] at hw1
      intro ad H locs ls hI hL hw
      refine W.objInit hx hb hown (hts _ (hw1 (.methodLink own i objectInit) (by simp))) (hts _ (hw1 (.instanceMethod objectInit) (by simp))) (hts _ (hw1 (.code objectInit ⟨#[0xb1]⟩ 1 none) (by simp))) rfl (by rw [hml]; exact hL.2.1) rfl hd hR.2.2.1 ?_ ?_
      · have e9 := ix_cats (ad := ad) (r := st')
        show 2 * 0 + ((st'.map (ix_v ad)).map fun v => v.category).sum + 12 ≤ R.locals
        have := hR.2.2.2
        omega
      · exact k ad H locs ls hI hL hw.pop
    · cases q2
  · cases q
theorem ix_p_arraycopy {i : Nat} (X : ix_X P mi own D ad0 cA A ro p s m args meth c) (hd : decode mi.2.2.1 pc = .ok (.invokestatic i, len)) (q : ix_s1 P mi pc lv st h len (.invokestatic i) = some (.inl (pc', lv', st', h'))) (hR : h'.length - n0 ≤ R.cells ∧ ix_sz h' - s0 ≤ R.slots ∧ 1 ≤ R.frames ∧ 60 ≤ R.locals) (k : ix_W P D ad0 cA A ro p l e R s m args below meth c Q n0 s0 mi.2.2.2.1 pc' lv' st' h') : ix_W P D ad0 cA A ro p l e R s m args below meth c Q n0 s0 mi.2.2.2.1 pc lv st h := by
  obtain ⟨hx, hb, hml, hr, hlocks, hon, hown, hini, hK, hts, hV, hA, hO⟩ := X
  obtain ⟨ht0, ht1, ht2, ht3, ht5⟩ := ix_ty0 hV
  simp only [ix_s1] at q
  split at q
  · next hlen =>
    obtain ⟨rfl, hx0⟩ := hlen
    unfold ix_cy at q
    split at q
    · next n dp d sp o r =>
      obtain ⟨t, n0', f, ho, q2⟩ := ix_ai_eq q
      obtain ⟨t2, n1, g, hdd, q3⟩ := ix_ai_eq q2
      split at q3
      · next hc =>
        obtain ⟨rfl, rfl, rfl, rfl⟩ := ix_go_eq q3
        obtain ⟨hn, hne, ht, rfl, c1, c2, c3, c4, c5, c6⟩ := hc
        have hw1 := ix_wVin (ix_fd_mem hx0)
        unfold ix_wV at hw1
        simp only at hw1
        rw [hon] at hw1
        have w1 := hts _ (hw1 (.methodLink own i arraycopyName) (by simp))
        have w2 := hts _ (hw1 (.native arraycopyName) (by simp))
        have w3 := hts _ (hw1 (.static arraycopyName) (by simp))
        have w4 := hts _ (hw1 (.initialized "java/lang/System") (by simp))
        intro ad H locs ls hI hL hw
        have hed := ix_w_get (ad := ad) (cA := cA) hdd hn
        have hloc : ((st'.map (ix_v ad)).map fun v => v.category).sum + (nativeFrameWords "java/lang/System" "arraycopy" 5 + 11) ≤ R.locals := by
          rw [ix_cats]
          have h9 : nativeFrameWords "java/lang/System" "arraycopy" 5 + 11 ≤ 50 := by decide
          have := hR.2.2.2
          omega
        have hwc : ix_wc h.length (.inl (t2, n1, .inl (va_cpy f g sp.toNatClampNeg dp.toNatClampNeg n.toNatClampNeg))) := by
          rintro rfl j
          unfold va_cpy
          split
          · exact hw.2.2 _ (List.mem_of_getElem? ho) rfl _
          · exact hw.2.2 _ (List.mem_of_getElem? hdd) rfl _
        have hfit : ∀ (ty : FieldType), (ix_TY P)[t2]? = some ty → ∀ j, fits ty (.int (f j)) = true := by
          intro ty hty j
          rcases ht with ⟨rfl, -⟩ | rfl
          · rw [ht0] at hty
            cases hty
            rfl
          · rw [ht2] at hty
            cases hty
            exact hw.2.2 _ (List.mem_of_getElem? ho) rfl j
        have hprim : ∃ ty, (ix_TY P)[t2]? = some ty ∧ refKind ty = false := by
          rcases ht with ⟨rfl, -⟩ | rfl
          · exact ⟨_, ht0, rfl⟩
          · exact ⟨_, ht2, rfl⟩
        obtain ⟨ty, hty, hpr⟩ := hprim
        by_cases hno : ix_NR P ≤ o
        · have heo := ix_w_get (ad := ad) (cA := cA) ho hno
          exact va_copyi hx hb (by rw [hml]; exact hL.2.1.symm) hown w1 w2 w3 w4 hK hI.1 hI.2.1 hI.2.2.1 (o - ix_NR P) (d - ix_NR P) t2 t2 heo hed (ix_ty_get hty) (ix_ty_get hty) hpr c1 c2 c3 c4 c5 (fun j _ => hfit ty hty _) hR.2.2.1 hloc hd (fun H1 locs1 hP1 hD1 hS1 => k.at (hI.set hn hdd rfl rfl hP1 hD1 hS1) hL (hw.pop.pop.pop.pop.pop.set hwc) rfl (by rw [List.length_set]) (ix_szs hdd rfl))
        · have hold := hI.old (Nat.lt_of_not_le hno) ho
          obtain ⟨ty9, g1, g2⟩ := hO.1 _ _ hold.1
          rw [← hold.2] at g2
          rcases ht with ⟨-, h9⟩ | rfl
          · exact absurd h9 hno
          · rw [ht2] at g1
            cases g1
            exact vk_copyt hx hb (by rw [hml]; exact hL.2.1.symm) hown w1 w2 w3 w4 hK hI.1 hI.2.1 hI.2.2.1 g2 (d - ix_NR P) 2 hed (ix_ty_get ht2) c1 c2 c3 c4 c5 (fun j _ => hfit _ ht2 _) hR.2.2.1 hloc hd (fun H1 locs1 hP1 hD1 hS1 => k.at (hI.set hn hdd rfl rfl hP1 hD1 hS1) hL (hw.pop.pop.pop.pop.pop.set hwc) rfl (by rw [List.length_set]) (ix_szs hdd rfl))
      · cases q3
    · cases q
  · split at q
    · next hlen =>
      obtain ⟨rfl, hx0⟩ := hlen
      obtain ⟨x, y, r, rfl, q2⟩ := ix_ii_eq q
      obtain ⟨hcat, q3⟩ := Option.ite_none_right_eq_some.mp q2
      obtain ⟨rfl, rfl, rfl, rfl⟩ := ix_go_eq q3
      have hw1 := ix_wVin (ix_fd_mem hx0)
      unfold ix_wV at hw1
      simp only at hw1
      rw [hon] at hw1
      intro ad H locs ls hI hL hw
      exact va_mmax hx hb (by rw [hml]; exact hL.2.1.symm) hown (hts _ (hw1 (.methodLink own i Lib.Math.max.name) (by simp))) (hts _ (hw1 (.static Lib.Math.max.name) (by simp))) (hts _ (hw1 (.initialized "java/lang/Math") (by simp))) (hts _ (hw1 (.code Lib.Math.max.name Lib.Math.max.code 2 (some .int)) (by simp))) hR.2.2.1 (by rw [ix_cats]; have := hR.2.2.2; omega) hR.1 hR.2.1 hd (k ad H locs ls hI hL (hw.pop.pop.push trivial))
    · split at q
      · next hlen =>
        obtain ⟨rfl, hx0⟩ := hlen
        obtain ⟨x, y, r, rfl, q2⟩ := ix_ii_eq q
        obtain ⟨hcat, q3⟩ := Option.ite_none_right_eq_some.mp q2
        obtain ⟨rfl, rfl, rfl, rfl⟩ := ix_go_eq q3
        have hw1 := ix_wVin (ix_fd_mem hx0)
        unfold ix_wV at hw1
        simp only at hw1
        rw [hon] at hw1
        intro ad H locs ls hI hL hw
        exact va_mmin hx hb (by rw [hml]; exact hL.2.1.symm) hown (hts _ (hw1 (.methodLink own i Lib.Math.min.name) (by simp))) (hts _ (hw1 (.static Lib.Math.min.name) (by simp))) (hts _ (hw1 (.initialized "java/lang/Math") (by simp))) (hts _ (hw1 (.code Lib.Math.min.name Lib.Math.min.code 2 (some .int)) (by simp))) hR.2.2.1 (by rw [ix_cats]; have := hR.2.2.2; omega) hR.1 hR.2.1 hd (k ad H locs ls hI hL (hw.pop.pop.push trivial))
      · cases q
theorem ix_p_clone {i : Nat} (X : ix_X P mi own D ad0 cA A ro p s m args meth c) (hd : decode mi.2.2.1 pc = .ok (.invokevirtual i, len)) (q : ix_s1 P mi pc lv st h len (.invokevirtual i) = some (.inl (pc', lv', st', h'))) (hR : h'.length - n0 ≤ R.cells ∧ ix_sz h' - s0 ≤ R.slots ∧ 1 ≤ R.frames ∧ 60 ≤ R.locals) (k : ix_W P D ad0 cA A ro p l e R s m args below meth c Q n0 s0 mi.2.2.2.1 pc' lv' st' h') : ix_W P D ad0 cA A ro p l e R s m args below meth c Q n0 s0 mi.2.2.2.1 pc lv st h := by
  obtain ⟨hx, hb, hml, hr, hlocks, hon, hown, hini, hK, hts, hV, hA, hO⟩ := X
  obtain ⟨ht0, ht1, ht2, ht3, ht5⟩ := ix_ty0 hV
  simp only [ix_s1] at q
  split at q
  · next hlen =>
    obtain ⟨rfl, hx0⟩ := hlen
    obtain ⟨o, r, rfl, q2⟩ := ix_r_eq q
    obtain ⟨t, n, a, ho, q3⟩ := ix_ai_eq q2
    split at q3
    · next hc =>
      obtain ⟨rfl, rfl, rfl, rfl⟩ := ix_go_eq q3
      obtain ⟨hn, rfl, hcat⟩ := hc
      have hw1 := ix_wVin (ix_fd_mem hx0)
      unfold ix_wV at hw1
      simp only at hw1
      rw [hon] at hw1
      intro ad H locs ls hI hL hw
      obtain ⟨hR1, hR2, hR3, hR4⟩ := hR
      rw [List.length_append, List.length_singleton] at hR1
      rw [ix_sz_push] at hR2
      have hn0' := hI.2.2.2.2.2.2
      have hcs : ix_cs (.inl (2, n, .inl a)) = n := rfl
      rw [hcs] at hR2
      have hnm : s.vm.findClass "[B" = some (cA 2) := (hK.2 2 _ (ix_ty_get ht2)).2
      refine va_clone hx hb (by rw [hml]; exact hL.2.1.symm) hown (ad := "[B") (hts _ (hw1 _ (by simp))) (hts _ (hw1 _ (by simp))) (hts _ (hw1 _ (by simp))) (hts _ (hw1 _ (by simp))) (hts _ (hw1 _ (by simp))) (va_Nw.of rfl (hts _ (hw1 (.castable "[B" "java/lang/Cloneable") (by simp)))) hK hI.1 hI.2.1 hI.2.2.1 hA (o - ix_NR P) 2 (ix_w_get (ad := ad) (cA := cA) ho hn) (ix_ty_get ht2) hnm (fun j v hv => ?_) hR3 (by rw [ix_cats]; omega) (by omega) (by show _ + n ≤ _; omega) hd (fun q9 H1 _ hP1 hD1 hS1 => ?_)
      · have hv1 : (vp_cell (cA 2) (n, .inl a)).slots[j]? = some v := hv
        have hj : j < n := by
          have := (Array.getElem?_eq_some_iff.mp hv1).1
          rw [vp_cell_i, arrV_size] at this
          exact this
        rw [vp_cell_i, arrV_read _ _ hj] at hv1
        cases hv1
        exact hw.2.2 _ (List.mem_of_getElem? ho) rfl j
      · have hI1 := hI.push (q := q9) (x := .inl (2, n, .inl a)) hw rfl hP1 hD1 hS1
        refine k.at hI1 (hL.up hw) ((hw.pop.app (h1 := [_]) (fun x hx => by rw [List.mem_singleton.mp hx]; exact (hw.2.2 _ (List.mem_of_getElem? ho)).mono (Nat.le_add_right _ _))).push (by show h.length < _; rw [List.length_append]; exact Nat.lt_succ_self _)) ?_ (by rw [List.length_append, List.length_singleton]; omega) (by rw [ix_sz_push, hcs]; show _ + n = _; omega)
        rw [List.map_cons, ix_vs_up hw.pop]
        show Value.ref (ix_up ad h.length q9 h.length) :: _ = _
        rw [ix_up_eq]
    · cases q3
  · cases q
end IXH
