/-! A STEP WITHOUT CELLS is the JVM's (written by gen04.py). -/
section IXS
variable {P : ix_P} {mi : ix_M} {own : String} {D : va_G} {ad0 : Nat → Nat} {cA : Nat → ClassId} {A : Nat → Prop} {ro : ix_H} {p : Program} {l : Launch} {e : Env} {R : Room} {s : State} {m : MethodId} {args : Array Value} {below : List Frame} {meth : Method} {c : Code} {Q : State → Prop} {n0 s0 pc pc' len : Nat} {lv lv' : ix_L} {st st' : List Value} {h h' : ix_H}
theorem ix_p_iconst {n : Int} (X : ix_X P mi own D ad0 cA A ro p s m args meth c) (hd : decode mi.2.2.1 pc = .ok (.iconst n, len)) (q : ix_s1 P mi pc lv st h len (.iconst n) = some (.inl (pc', lv', st', h'))) (k : ix_W P D ad0 cA A ro p l e R s m args below meth c Q n0 s0 mi.2.2.2.1 pc' lv' st' h') : ix_W P D ad0 cA A ro p l e R s m args below meth c Q n0 s0 mi.2.2.2.1 pc lv st h := by
  obtain ⟨hx, hb, hml, hr, hlocks, hon, hown, hini, hK, hts, hV, hA, hO⟩ := X
  simp only [ix_s1] at q
  split at q
  · next hlen =>
    subst hlen
    obtain ⟨rfl, rfl, rfl, rfl⟩ := ix_go_eq q
    intro ad H locs ls hI hL hw
    exact lv_iconst hx hb hd rfl (k ad H locs ls hI hL (hw.push trivial))
  · cases q
theorem ix_p_bipush {n : Int} (X : ix_X P mi own D ad0 cA A ro p s m args meth c) (hd : decode mi.2.2.1 pc = .ok (.bipush n, len)) (q : ix_s1 P mi pc lv st h len (.bipush n) = some (.inl (pc', lv', st', h'))) (k : ix_W P D ad0 cA A ro p l e R s m args below meth c Q n0 s0 mi.2.2.2.1 pc' lv' st' h') : ix_W P D ad0 cA A ro p l e R s m args below meth c Q n0 s0 mi.2.2.2.1 pc lv st h := by
  obtain ⟨hx, hb, hml, hr, hlocks, hon, hown, hini, hK, hts, hV, hA, hO⟩ := X
  simp only [ix_s1] at q
  split at q
  · next hlen =>
    subst hlen
    obtain ⟨rfl, rfl, rfl, rfl⟩ := ix_go_eq q
    intro ad H locs ls hI hL hw
    exact lv_bipush hx hb hd rfl (k ad H locs ls hI hL (hw.push trivial))
  · cases q
theorem ix_p_sipush {n : Int} (X : ix_X P mi own D ad0 cA A ro p s m args meth c) (hd : decode mi.2.2.1 pc = .ok (.sipush n, len)) (q : ix_s1 P mi pc lv st h len (.sipush n) = some (.inl (pc', lv', st', h'))) (k : ix_W P D ad0 cA A ro p l e R s m args below meth c Q n0 s0 mi.2.2.2.1 pc' lv' st' h') : ix_W P D ad0 cA A ro p l e R s m args below meth c Q n0 s0 mi.2.2.2.1 pc lv st h := by
  obtain ⟨hx, hb, hml, hr, hlocks, hon, hown, hini, hK, hts, hV, hA, hO⟩ := X
  simp only [ix_s1] at q
  split at q
  · next hlen =>
    subst hlen
    obtain ⟨rfl, rfl, rfl, rfl⟩ := ix_go_eq q
    intro ad H locs ls hI hL hw
    exact lv_sipush hx hb hd rfl (k ad H locs ls hI hL (hw.push trivial))
  · cases q
theorem ix_p_lconst {n : Fin 2} (X : ix_X P mi own D ad0 cA A ro p s m args meth c) (hd : decode mi.2.2.1 pc = .ok (.lconst n, len)) (q : ix_s1 P mi pc lv st h len (.lconst n) = some (.inl (pc', lv', st', h'))) (k : ix_W P D ad0 cA A ro p l e R s m args below meth c Q n0 s0 mi.2.2.2.1 pc' lv' st' h') : ix_W P D ad0 cA A ro p l e R s m args below meth c Q n0 s0 mi.2.2.2.1 pc lv st h := by
  obtain ⟨hx, hb, hml, hr, hlocks, hon, hown, hini, hK, hts, hV, hA, hO⟩ := X
  simp only [ix_s1] at q
  split at q
  · next hlen =>
    subst hlen
    obtain ⟨rfl, rfl, rfl, rfl⟩ := ix_go_eq q
    intro ad H locs ls hI hL hw
    exact lv_lconst hx hb hd rfl (k ad H locs ls hI hL (hw.push trivial))
  · cases q
theorem ix_p_aconst_null  (X : ix_X P mi own D ad0 cA A ro p s m args meth c) (hd : decode mi.2.2.1 pc = .ok (.aconst_null, len)) (q : ix_s1 P mi pc lv st h len (.aconst_null) = some (.inl (pc', lv', st', h'))) (k : ix_W P D ad0 cA A ro p l e R s m args below meth c Q n0 s0 mi.2.2.2.1 pc' lv' st' h') : ix_W P D ad0 cA A ro p l e R s m args below meth c Q n0 s0 mi.2.2.2.1 pc lv st h := by
  obtain ⟨hx, hb, hml, hr, hlocks, hon, hown, hini, hK, hts, hV, hA, hO⟩ := X
  simp only [ix_s1] at q
  split at q
  · next hlen =>
    subst hlen
    obtain ⟨rfl, rfl, rfl, rfl⟩ := ix_go_eq q
    intro ad H locs ls hI hL hw
    exact lv_null hx hb hd (k ad H locs ls hI hL (hw.push trivial))
  · cases q
theorem ix_p_dconst {n : Fin 2} (X : ix_X P mi own D ad0 cA A ro p s m args meth c) (hd : decode mi.2.2.1 pc = .ok (.dconst n, len)) (q : ix_s1 P mi pc lv st h len (.dconst n) = some (.inl (pc', lv', st', h'))) (k : ix_W P D ad0 cA A ro p l e R s m args below meth c Q n0 s0 mi.2.2.2.1 pc' lv' st' h') : ix_W P D ad0 cA A ro p l e R s m args below meth c Q n0 s0 mi.2.2.2.1 pc lv st h := by
  obtain ⟨hx, hb, hml, hr, hlocks, hon, hown, hini, hK, hts, hV, hA, hO⟩ := X
  simp only [ix_s1] at q
  split at q
  · next hlen =>
    obtain ⟨rfl, rfl⟩ := hlen
    obtain ⟨rfl, rfl, rfl, rfl⟩ := ix_go_eq q
    intro ad H locs ls hI hL hw
    exact lv_dconst0 hx hb hd (k ad H locs ls hI hL (hw.push trivial))
  · cases q
theorem ix_p_ldc {i : Nat} (X : ix_X P mi own D ad0 cA A ro p s m args meth c) (hd : decode mi.2.2.1 pc = .ok (.ldc i, len)) (q : ix_s1 P mi pc lv st h len (.ldc i) = some (.inl (pc', lv', st', h'))) (k : ix_W P D ad0 cA A ro p l e R s m args below meth c Q n0 s0 mi.2.2.2.1 pc' lv' st' h') : ix_W P D ad0 cA A ro p l e R s m args below meth c Q n0 s0 mi.2.2.2.1 pc lv st h := by
  obtain ⟨hx, hb, hml, hr, hlocks, hon, hown, hini, hK, hts, hV, hA, hO⟩ := X
  simp only [ix_s1] at q
  split at q
  · next hlen =>
    subst hlen
    split at q
    · next x tx hq =>
      obtain ⟨rfl, rfl, rfl, rfl⟩ := ix_go_eq q
      intro ad H locs ls hI hL hw
      have hm := ix_fd_mem hq
      have hc : (Cond.constant own i x).before args s = true := hts _ (by unfold ix_WL; simp only [List.mem_append, List.mem_flatMap]; exact Or.inr (Or.inr (Or.inr (Or.inl ⟨_, hm, by simp [ix_wK, hon]⟩))))
      exact lv_ldc hx hb hown hc hd (k ad H locs ls hI hL (hw.push trivial))
    · next x tx hq =>
      split at q
      · next hlt =>
        obtain ⟨rfl, rfl, rfl, rfl⟩ := ix_go_eq q
        intro ad H locs ls hI hL hw
        have hZ := (hO.2.1 _ _ _ _ _ (ix_fd_mem hq) hon).2
        rw [← hI.2.2.2.1 x (Nat.lt_of_lt_of_le hlt hI.2.2.2.2.2.1)] at hZ
        exact va_ldcS hx hb hown hZ hd (k ad H locs ls hI hL (hw.push (Nat.lt_of_lt_of_le hlt (Nat.le_trans hI.2.2.2.2.2.1 hI.2.2.2.2.2.2.1))))
      · cases q
    · cases q
  · cases q
theorem ix_p_ldc_w {i : Nat} (X : ix_X P mi own D ad0 cA A ro p s m args meth c) (hd : decode mi.2.2.1 pc = .ok (.ldc_w i, len)) (q : ix_s1 P mi pc lv st h len (.ldc_w i) = some (.inl (pc', lv', st', h'))) (k : ix_W P D ad0 cA A ro p l e R s m args below meth c Q n0 s0 mi.2.2.2.1 pc' lv' st' h') : ix_W P D ad0 cA A ro p l e R s m args below meth c Q n0 s0 mi.2.2.2.1 pc lv st h := by
  obtain ⟨hx, hb, hml, hr, hlocks, hon, hown, hini, hK, hts, hV, hA, hO⟩ := X
  simp only [ix_s1] at q
  split at q
  · next hlen =>
    subst hlen
    split at q
    · next x tx hq =>
      obtain ⟨rfl, rfl, rfl, rfl⟩ := ix_go_eq q
      intro ad H locs ls hI hL hw
      have hm := ix_fd_mem hq
      have hc : (Cond.constant own i x).before args s = true := hts _ (by unfold ix_WL; simp only [List.mem_append, List.mem_flatMap]; exact Or.inr (Or.inr (Or.inr (Or.inl ⟨_, hm, by simp [ix_wK, hon]⟩))))
      exact lv_ldcw hx hb hown hc hd (k ad H locs ls hI hL (hw.push trivial))
    · cases q
  · cases q
theorem ix_p_ldc2_w {i : Nat} (X : ix_X P mi own D ad0 cA A ro p s m args meth c) (hd : decode mi.2.2.1 pc = .ok (.ldc2_w i, len)) (q : ix_s1 P mi pc lv st h len (.ldc2_w i) = some (.inl (pc', lv', st', h'))) (k : ix_W P D ad0 cA A ro p l e R s m args below meth c Q n0 s0 mi.2.2.2.1 pc' lv' st' h') : ix_W P D ad0 cA A ro p l e R s m args below meth c Q n0 s0 mi.2.2.2.1 pc lv st h := by
  obtain ⟨hx, hb, hml, hr, hlocks, hon, hown, hini, hK, hts, hV, hA, hO⟩ := X
  simp only [ix_s1] at q
  split at q
  · next hlen =>
    subst hlen
    split at q
    · next x tx hq =>
      obtain ⟨rfl, rfl, rfl, rfl⟩ := ix_go_eq q
      intro ad H locs ls hI hL hw
      have hm := ix_fd_mem hq
      have hc : (Cond.constantLong own i x).before args s = true := hts _ (by unfold ix_WL; simp only [List.mem_append, List.mem_flatMap]; exact Or.inr (Or.inr (Or.inr (Or.inl ⟨_, hm, by simp [ix_wK, hon]⟩))))
      exact lv_ldc2 hx hb hown hc hd (k ad H locs ls hI hL (hw.push trivial))
    · cases q
  · cases q
theorem ix_p_iload {i : Nat} (X : ix_X P mi own D ad0 cA A ro p s m args meth c) (hd : decode mi.2.2.1 pc = .ok (.iload i, len)) (q : ix_s1 P mi pc lv st h len (.iload i) = some (.inl (pc', lv', st', h'))) (k : ix_W P D ad0 cA A ro p l e R s m args below meth c Q n0 s0 mi.2.2.2.1 pc' lv' st' h') : ix_W P D ad0 cA A ro p l e R s m args below meth c Q n0 s0 mi.2.2.2.1 pc lv st h := by
  obtain ⟨hx, hb, hml, hr, hlocks, hon, hown, hini, hK, hts, hV, hA, hO⟩ := X
  simp only [ix_s1] at q
  split at q
  · next hlen =>
    subst hlen
    obtain ⟨v, hv, hg, rfl, rfl, rfl, rfl⟩ := ix_ld_eq q
    obtain ⟨x, rfl⟩ := ix_gi_eq hg
    intro ad H locs ls hI hL hw
    exact lv_iload hx hb hd (hL.2.2.2 _ _ hv) (k ad H locs ls hI hL (hw.ld hv))
  · cases q
theorem ix_p_iload_n {i : Fin 4} (X : ix_X P mi own D ad0 cA A ro p s m args meth c) (hd : decode mi.2.2.1 pc = .ok (.iload_n i, len)) (q : ix_s1 P mi pc lv st h len (.iload_n i) = some (.inl (pc', lv', st', h'))) (k : ix_W P D ad0 cA A ro p l e R s m args below meth c Q n0 s0 mi.2.2.2.1 pc' lv' st' h') : ix_W P D ad0 cA A ro p l e R s m args below meth c Q n0 s0 mi.2.2.2.1 pc lv st h := by
  obtain ⟨hx, hb, hml, hr, hlocks, hon, hown, hini, hK, hts, hV, hA, hO⟩ := X
  simp only [ix_s1] at q
  split at q
  · next hlen =>
    subst hlen
    obtain ⟨v, hv, hg, rfl, rfl, rfl, rfl⟩ := ix_ld_eq q
    obtain ⟨x, rfl⟩ := ix_gi_eq hg
    intro ad H locs ls hI hL hw
    exact lv_iload_n hx hb hd rfl (hL.2.2.2 _ _ hv) (k ad H locs ls hI hL (hw.ld hv))
  · cases q
theorem ix_p_lload {i : Nat} (X : ix_X P mi own D ad0 cA A ro p s m args meth c) (hd : decode mi.2.2.1 pc = .ok (.lload i, len)) (q : ix_s1 P mi pc lv st h len (.lload i) = some (.inl (pc', lv', st', h'))) (k : ix_W P D ad0 cA A ro p l e R s m args below meth c Q n0 s0 mi.2.2.2.1 pc' lv' st' h') : ix_W P D ad0 cA A ro p l e R s m args below meth c Q n0 s0 mi.2.2.2.1 pc lv st h := by
  obtain ⟨hx, hb, hml, hr, hlocks, hon, hown, hini, hK, hts, hV, hA, hO⟩ := X
  simp only [ix_s1] at q
  split at q
  · next hlen =>
    subst hlen
    obtain ⟨v, hv, hg, rfl, rfl, rfl, rfl⟩ := ix_ld_eq q
    obtain ⟨x, rfl⟩ := ix_gl_eq hg
    intro ad H locs ls hI hL hw
    exact lv_lload hx hb hd (hL.2.2.2 _ _ hv) (k ad H locs ls hI hL (hw.ld hv))
  · cases q
theorem ix_p_lload_n {i : Fin 4} (X : ix_X P mi own D ad0 cA A ro p s m args meth c) (hd : decode mi.2.2.1 pc = .ok (.lload_n i, len)) (q : ix_s1 P mi pc lv st h len (.lload_n i) = some (.inl (pc', lv', st', h'))) (k : ix_W P D ad0 cA A ro p l e R s m args below meth c Q n0 s0 mi.2.2.2.1 pc' lv' st' h') : ix_W P D ad0 cA A ro p l e R s m args below meth c Q n0 s0 mi.2.2.2.1 pc lv st h := by
  obtain ⟨hx, hb, hml, hr, hlocks, hon, hown, hini, hK, hts, hV, hA, hO⟩ := X
  simp only [ix_s1] at q
  split at q
  · next hlen =>
    subst hlen
    obtain ⟨v, hv, hg, rfl, rfl, rfl, rfl⟩ := ix_ld_eq q
    obtain ⟨x, rfl⟩ := ix_gl_eq hg
    intro ad H locs ls hI hL hw
    exact lv_lload_n hx hb hd rfl (hL.2.2.2 _ _ hv) (k ad H locs ls hI hL (hw.ld hv))
  · cases q
theorem ix_p_dload {i : Nat} (X : ix_X P mi own D ad0 cA A ro p s m args meth c) (hd : decode mi.2.2.1 pc = .ok (.dload i, len)) (q : ix_s1 P mi pc lv st h len (.dload i) = some (.inl (pc', lv', st', h'))) (k : ix_W P D ad0 cA A ro p l e R s m args below meth c Q n0 s0 mi.2.2.2.1 pc' lv' st' h') : ix_W P D ad0 cA A ro p l e R s m args below meth c Q n0 s0 mi.2.2.2.1 pc lv st h := by
  obtain ⟨hx, hb, hml, hr, hlocks, hon, hown, hini, hK, hts, hV, hA, hO⟩ := X
  simp only [ix_s1] at q
  split at q
  · next hlen =>
    subst hlen
    obtain ⟨v, hv, hg, rfl, rfl, rfl, rfl⟩ := ix_ld_eq q
    obtain ⟨x, rfl⟩ := ix_gd_eq hg
    intro ad H locs ls hI hL hw
    exact lv_dload hx hb hd (hL.2.2.2 _ _ hv) (k ad H locs ls hI hL (hw.ld hv))
  · cases q
theorem ix_p_dload_n {i : Fin 4} (X : ix_X P mi own D ad0 cA A ro p s m args meth c) (hd : decode mi.2.2.1 pc = .ok (.dload_n i, len)) (q : ix_s1 P mi pc lv st h len (.dload_n i) = some (.inl (pc', lv', st', h'))) (k : ix_W P D ad0 cA A ro p l e R s m args below meth c Q n0 s0 mi.2.2.2.1 pc' lv' st' h') : ix_W P D ad0 cA A ro p l e R s m args below meth c Q n0 s0 mi.2.2.2.1 pc lv st h := by
  obtain ⟨hx, hb, hml, hr, hlocks, hon, hown, hini, hK, hts, hV, hA, hO⟩ := X
  simp only [ix_s1] at q
  split at q
  · next hlen =>
    subst hlen
    obtain ⟨v, hv, hg, rfl, rfl, rfl, rfl⟩ := ix_ld_eq q
    obtain ⟨x, rfl⟩ := ix_gd_eq hg
    intro ad H locs ls hI hL hw
    exact lv_dload_n hx hb hd rfl (hL.2.2.2 _ _ hv) (k ad H locs ls hI hL (hw.ld hv))
  · cases q
theorem ix_p_aload {i : Nat} (X : ix_X P mi own D ad0 cA A ro p s m args meth c) (hd : decode mi.2.2.1 pc = .ok (.aload i, len)) (q : ix_s1 P mi pc lv st h len (.aload i) = some (.inl (pc', lv', st', h'))) (k : ix_W P D ad0 cA A ro p l e R s m args below meth c Q n0 s0 mi.2.2.2.1 pc' lv' st' h') : ix_W P D ad0 cA A ro p l e R s m args below meth c Q n0 s0 mi.2.2.2.1 pc lv st h := by
  obtain ⟨hx, hb, hml, hr, hlocks, hon, hown, hini, hK, hts, hV, hA, hO⟩ := X
  simp only [ix_s1] at q
  split at q
  · next hlen =>
    subst hlen
    obtain ⟨v, hv, hg, rfl, rfl, rfl, rfl⟩ := ix_ld_eq q
    rcases ix_ga_eq hg with rfl | ⟨x, rfl⟩
    · intro ad H locs ls hI hL hw
      exact lv_aloadN hx hb hd (hL.2.2.2 _ _ hv) (k ad H locs ls hI hL (hw.ld hv))
    · intro ad H locs ls hI hL hw
      exact lv_aload hx hb hd (hL.2.2.2 _ _ hv) (k ad H locs ls hI hL (hw.ld hv))
  · cases q
theorem ix_p_aload_n {i : Fin 4} (X : ix_X P mi own D ad0 cA A ro p s m args meth c) (hd : decode mi.2.2.1 pc = .ok (.aload_n i, len)) (q : ix_s1 P mi pc lv st h len (.aload_n i) = some (.inl (pc', lv', st', h'))) (k : ix_W P D ad0 cA A ro p l e R s m args below meth c Q n0 s0 mi.2.2.2.1 pc' lv' st' h') : ix_W P D ad0 cA A ro p l e R s m args below meth c Q n0 s0 mi.2.2.2.1 pc lv st h := by
  obtain ⟨hx, hb, hml, hr, hlocks, hon, hown, hini, hK, hts, hV, hA, hO⟩ := X
  simp only [ix_s1] at q
  split at q
  · next hlen =>
    subst hlen
    obtain ⟨v, hv, hg, rfl, rfl, rfl, rfl⟩ := ix_ld_eq q
    rcases ix_ga_eq hg with rfl | ⟨x, rfl⟩
    · intro ad H locs ls hI hL hw
      exact lv_aload_nN hx hb hd rfl (hL.2.2.2 _ _ hv) (k ad H locs ls hI hL (hw.ld hv))
    · intro ad H locs ls hI hL hw
      exact lv_aload_n hx hb hd rfl (hL.2.2.2 _ _ hv) (k ad H locs ls hI hL (hw.ld hv))
  · cases q
theorem ix_p_istore {i : Nat} (X : ix_X P mi own D ad0 cA A ro p s m args meth c) (hd : decode mi.2.2.1 pc = .ok (.istore i, len)) (q : ix_s1 P mi pc lv st h len (.istore i) = some (.inl (pc', lv', st', h'))) (k : ix_W P D ad0 cA A ro p l e R s m args below meth c Q n0 s0 mi.2.2.2.1 pc' lv' st' h') : ix_W P D ad0 cA A ro p l e R s m args below meth c Q n0 s0 mi.2.2.2.1 pc lv st h := by
  obtain ⟨hx, hb, hml, hr, hlocks, hon, hown, hini, hK, hts, hV, hA, hO⟩ := X
  simp only [ix_s1] at q
  split at q
  · next hlen =>
    subst hlen
    obtain ⟨v, r, rfl, hg, hlt, rfl, rfl, rfl, rfl⟩ := ix_sv_eq q
    obtain ⟨x, rfl⟩ := ix_gi_eq hg
    intro ad H locs ls hI hL hw
    exact lv_istore hx hb hd hL.has (hL.1 ▸ hlt) rfl (fun ls' h9 => k ad H locs ls' hI (hL.st h9) hw.st)
  · cases q
theorem ix_p_istore_n {i : Fin 4} (X : ix_X P mi own D ad0 cA A ro p s m args meth c) (hd : decode mi.2.2.1 pc = .ok (.istore_n i, len)) (q : ix_s1 P mi pc lv st h len (.istore_n i) = some (.inl (pc', lv', st', h'))) (k : ix_W P D ad0 cA A ro p l e R s m args below meth c Q n0 s0 mi.2.2.2.1 pc' lv' st' h') : ix_W P D ad0 cA A ro p l e R s m args below meth c Q n0 s0 mi.2.2.2.1 pc lv st h := by
  obtain ⟨hx, hb, hml, hr, hlocks, hon, hown, hini, hK, hts, hV, hA, hO⟩ := X
  simp only [ix_s1] at q
  split at q
  · next hlen =>
    subst hlen
    obtain ⟨v, r, rfl, hg, hlt, rfl, rfl, rfl, rfl⟩ := ix_sv_eq q
    obtain ⟨x, rfl⟩ := ix_gi_eq hg
    intro ad H locs ls hI hL hw
    exact lv_istore_n hx hb hd rfl hL.has (hL.1 ▸ hlt) rfl (fun ls' h9 => k ad H locs ls' hI (hL.st h9) hw.st)
  · cases q
theorem ix_p_astore {i : Nat} (X : ix_X P mi own D ad0 cA A ro p s m args meth c) (hd : decode mi.2.2.1 pc = .ok (.astore i, len)) (q : ix_s1 P mi pc lv st h len (.astore i) = some (.inl (pc', lv', st', h'))) (k : ix_W P D ad0 cA A ro p l e R s m args below meth c Q n0 s0 mi.2.2.2.1 pc' lv' st' h') : ix_W P D ad0 cA A ro p l e R s m args below meth c Q n0 s0 mi.2.2.2.1 pc lv st h := by
  obtain ⟨hx, hb, hml, hr, hlocks, hon, hown, hini, hK, hts, hV, hA, hO⟩ := X
  simp only [ix_s1] at q
  split at q
  · next hlen =>
    subst hlen
    obtain ⟨v, r, rfl, hg, hlt, rfl, rfl, rfl, rfl⟩ := ix_sv_eq q
    rcases ix_ga_eq hg with rfl | ⟨x, rfl⟩
    · intro ad H locs ls hI hL hw
      exact lv_astoreN hx hb hd hL.has (hL.1 ▸ hlt) rfl (fun ls' h9 => k ad H locs ls' hI (hL.st h9) hw.st)
    · intro ad H locs ls hI hL hw
      exact lv_astore hx hb hd hL.has (hL.1 ▸ hlt) rfl (fun ls' h9 => k ad H locs ls' hI (hL.st h9) hw.st)
  · cases q
theorem ix_p_astore_n {i : Fin 4} (X : ix_X P mi own D ad0 cA A ro p s m args meth c) (hd : decode mi.2.2.1 pc = .ok (.astore_n i, len)) (q : ix_s1 P mi pc lv st h len (.astore_n i) = some (.inl (pc', lv', st', h'))) (k : ix_W P D ad0 cA A ro p l e R s m args below meth c Q n0 s0 mi.2.2.2.1 pc' lv' st' h') : ix_W P D ad0 cA A ro p l e R s m args below meth c Q n0 s0 mi.2.2.2.1 pc lv st h := by
  obtain ⟨hx, hb, hml, hr, hlocks, hon, hown, hini, hK, hts, hV, hA, hO⟩ := X
  simp only [ix_s1] at q
  split at q
  · next hlen =>
    subst hlen
    obtain ⟨v, r, rfl, hg, hlt, rfl, rfl, rfl, rfl⟩ := ix_sv_eq q
    rcases ix_ga_eq hg with rfl | ⟨x, rfl⟩
    · intro ad H locs ls hI hL hw
      exact lv_astore_nN hx hb hd rfl hL.has (hL.1 ▸ hlt) rfl (fun ls' h9 => k ad H locs ls' hI (hL.st h9) hw.st)
    · intro ad H locs ls hI hL hw
      exact lv_astore_n hx hb hd rfl hL.has (hL.1 ▸ hlt) rfl (fun ls' h9 => k ad H locs ls' hI (hL.st h9) hw.st)
  · cases q
theorem ix_p_lstore {i : Nat} (X : ix_X P mi own D ad0 cA A ro p s m args meth c) (hd : decode mi.2.2.1 pc = .ok (.lstore i, len)) (q : ix_s1 P mi pc lv st h len (.lstore i) = some (.inl (pc', lv', st', h'))) (k : ix_W P D ad0 cA A ro p l e R s m args below meth c Q n0 s0 mi.2.2.2.1 pc' lv' st' h') : ix_W P D ad0 cA A ro p l e R s m args below meth c Q n0 s0 mi.2.2.2.1 pc lv st h := by
  obtain ⟨hx, hb, hml, hr, hlocks, hon, hown, hini, hK, hts, hV, hA, hO⟩ := X
  simp only [ix_s1] at q
  split at q
  · next hlen =>
    subst hlen
    obtain ⟨v, r, rfl, hg, hlt, rfl, rfl, rfl, rfl⟩ := ix_sv2_eq q
    obtain ⟨x, rfl⟩ := ix_gl_eq hg
    intro ad H locs ls hI hL hw
    exact lv_lstore hx hb hd hL.has (hL.1 ▸ hlt) rfl (fun ls' h9 => k ad H locs ls' hI (hL.st2 (Or.inl ⟨_, rfl⟩) h9) hw.st2)
  · cases q
theorem ix_p_lstore_n {i : Fin 4} (X : ix_X P mi own D ad0 cA A ro p s m args meth c) (hd : decode mi.2.2.1 pc = .ok (.lstore_n i, len)) (q : ix_s1 P mi pc lv st h len (.lstore_n i) = some (.inl (pc', lv', st', h'))) (k : ix_W P D ad0 cA A ro p l e R s m args below meth c Q n0 s0 mi.2.2.2.1 pc' lv' st' h') : ix_W P D ad0 cA A ro p l e R s m args below meth c Q n0 s0 mi.2.2.2.1 pc lv st h := by
  obtain ⟨hx, hb, hml, hr, hlocks, hon, hown, hini, hK, hts, hV, hA, hO⟩ := X
  simp only [ix_s1] at q
  split at q
  · next hlen =>
    subst hlen
    obtain ⟨v, r, rfl, hg, hlt, rfl, rfl, rfl, rfl⟩ := ix_sv2_eq q
    obtain ⟨x, rfl⟩ := ix_gl_eq hg
    intro ad H locs ls hI hL hw
    exact lv_lstore_n hx hb hd rfl hL.has (hL.1 ▸ hlt) rfl (fun ls' h9 => k ad H locs ls' hI (hL.st2 (Or.inl ⟨_, rfl⟩) h9) hw.st2)
  · cases q
theorem ix_p_iinc {i : Nat} {n : Int} (X : ix_X P mi own D ad0 cA A ro p s m args meth c) (hd : decode mi.2.2.1 pc = .ok (.iinc i n, len)) (q : ix_s1 P mi pc lv st h len (.iinc i n) = some (.inl (pc', lv', st', h'))) (k : ix_W P D ad0 cA A ro p l e R s m args below meth c Q n0 s0 mi.2.2.2.1 pc' lv' st' h') : ix_W P D ad0 cA A ro p l e R s m args below meth c Q n0 s0 mi.2.2.2.1 pc lv st h := by
  obtain ⟨hx, hb, hml, hr, hlocks, hon, hown, hini, hK, hts, hV, hA, hO⟩ := X
  simp only [ix_s1] at q
  split at q
  · next hlen =>
    obtain ⟨rfl, hlt⟩ := hlen
    split at q
    · next x hv =>
      obtain ⟨rfl, rfl, rfl, rfl⟩ := ix_go_eq q
      intro ad H locs ls hI hL hw
      obtain ⟨j, hj⟩ := List.getElem?_of_mem (ix_al_mem.mpr ⟨_, hv, rfl⟩ : (i, ix_v ad (.int x)) ∈ ix_al ad lv)
      exact lv_iinc hx hb hd hL.has hj rfl (hL.1 ▸ hlt) rfl (fun ls' h9 => k ad H locs ls' hI (hL.st h9) (ix_wf.st (v := .int _) (hw.push trivial)))
    · cases q
  · cases q
theorem ix_p_pop  (X : ix_X P mi own D ad0 cA A ro p s m args meth c) (hd : decode mi.2.2.1 pc = .ok (.pop, len)) (q : ix_s1 P mi pc lv st h len (.pop) = some (.inl (pc', lv', st', h'))) (k : ix_W P D ad0 cA A ro p l e R s m args below meth c Q n0 s0 mi.2.2.2.1 pc' lv' st' h') : ix_W P D ad0 cA A ro p l e R s m args below meth c Q n0 s0 mi.2.2.2.1 pc lv st h := by
  obtain ⟨hx, hb, hml, hr, hlocks, hon, hown, hini, hK, hts, hV, hA, hO⟩ := X
  simp only [ix_s1] at q
  split at q
  · next hlen =>
    subst hlen
    split at q
    · next v r =>
      split at q
      · next hv =>
        obtain ⟨rfl, rfl, rfl, rfl⟩ := ix_go_eq q
        intro ad H locs ls hI hL hw
        exact lv_pop hx hb hd (ix_k1_eq hv) (k ad H locs ls hI hL hw.pop)
      · cases q
    · cases q
  · cases q
theorem ix_p_dup  (X : ix_X P mi own D ad0 cA A ro p s m args meth c) (hd : decode mi.2.2.1 pc = .ok (.dup, len)) (q : ix_s1 P mi pc lv st h len (.dup) = some (.inl (pc', lv', st', h'))) (k : ix_W P D ad0 cA A ro p l e R s m args below meth c Q n0 s0 mi.2.2.2.1 pc' lv' st' h') : ix_W P D ad0 cA A ro p l e R s m args below meth c Q n0 s0 mi.2.2.2.1 pc lv st h := by
  obtain ⟨hx, hb, hml, hr, hlocks, hon, hown, hini, hK, hts, hV, hA, hO⟩ := X
  simp only [ix_s1] at q
  split at q
  · next hlen =>
    subst hlen
    split at q
    · next v r =>
      split at q
      · next hv =>
        obtain ⟨rfl, rfl, rfl, rfl⟩ := ix_go_eq q
        intro ad H locs ls hI hL hw
        exact lv_dup hx hb hd (ix_k1_eq hv) (k ad H locs ls hI hL (hw.push hw.top))
      · cases q
    · cases q
  · cases q
theorem ix_p_dup_x1  (X : ix_X P mi own D ad0 cA A ro p s m args meth c) (hd : decode mi.2.2.1 pc = .ok (.dup_x1, len)) (q : ix_s1 P mi pc lv st h len (.dup_x1) = some (.inl (pc', lv', st', h'))) (k : ix_W P D ad0 cA A ro p l e R s m args below meth c Q n0 s0 mi.2.2.2.1 pc' lv' st' h') : ix_W P D ad0 cA A ro p l e R s m args below meth c Q n0 s0 mi.2.2.2.1 pc lv st h := by
  obtain ⟨hx, hb, hml, hr, hlocks, hon, hown, hini, hK, hts, hV, hA, hO⟩ := X
  simp only [ix_s1] at q
  split at q
  · next hlen =>
    subst hlen
    split at q
    · next v w r =>
      split at q
      · next hv =>
        simp only [Bool.and_eq_true] at hv
        obtain ⟨rfl, rfl, rfl, rfl⟩ := ix_go_eq q
        intro ad H locs ls hI hL hw
        exact lv_dup_x1 hx hb hd (ix_k1_eq hv.1) (ix_k1_eq hv.2) (k ad H locs ls hI hL (((hw.pop.pop.push hw.top).push hw.pop.top).push hw.top))
      · cases q
    · cases q
  · cases q
theorem ix_p_dup2  (X : ix_X P mi own D ad0 cA A ro p s m args meth c) (hd : decode mi.2.2.1 pc = .ok (.dup2, len)) (q : ix_s1 P mi pc lv st h len (.dup2) = some (.inl (pc', lv', st', h'))) (k : ix_W P D ad0 cA A ro p l e R s m args below meth c Q n0 s0 mi.2.2.2.1 pc' lv' st' h') : ix_W P D ad0 cA A ro p l e R s m args below meth c Q n0 s0 mi.2.2.2.1 pc lv st h := by
  obtain ⟨hx, hb, hml, hr, hlocks, hon, hown, hini, hK, hts, hV, hA, hO⟩ := X
  simp only [ix_s1] at q
  split at q
  · next hlen =>
    subst hlen
    split at q
    · next v w r =>
      split at q
      · next hv =>
        simp only [Bool.and_eq_true] at hv
        obtain ⟨rfl, rfl, rfl, rfl⟩ := ix_go_eq q
        intro ad H locs ls hI hL hw
        exact lv_dup2_11 hx hb hd (ix_k1_eq hv.1) (ix_k1_eq hv.2) (k ad H locs ls hI hL ((hw.push hw.pop.top).push hw.top))
      · cases q
    · cases q
  · cases q
theorem ix_p_iadd  (X : ix_X P mi own D ad0 cA A ro p s m args meth c) (hd : decode mi.2.2.1 pc = .ok (.iadd, len)) (q : ix_s1 P mi pc lv st h len (.iadd) = some (.inl (pc', lv', st', h'))) (k : ix_W P D ad0 cA A ro p l e R s m args below meth c Q n0 s0 mi.2.2.2.1 pc' lv' st' h') : ix_W P D ad0 cA A ro p l e R s m args below meth c Q n0 s0 mi.2.2.2.1 pc lv st h := by
  obtain ⟨hx, hb, hml, hr, hlocks, hon, hown, hini, hK, hts, hV, hA, hO⟩ := X
  simp only [ix_s1] at q
  split at q
  · next hlen =>
    subst hlen
    obtain ⟨x, y, r, rfl, q2⟩ := ix_ii_eq q
    obtain ⟨rfl, rfl, rfl, rfl⟩ := ix_go_eq q2
    intro ad H locs ls hI hL hw
    exact lv_iadd hx hb hd (k ad H locs ls hI hL (hw.pop.pop.push trivial))
  · cases q
theorem ix_p_isub  (X : ix_X P mi own D ad0 cA A ro p s m args meth c) (hd : decode mi.2.2.1 pc = .ok (.isub, len)) (q : ix_s1 P mi pc lv st h len (.isub) = some (.inl (pc', lv', st', h'))) (k : ix_W P D ad0 cA A ro p l e R s m args below meth c Q n0 s0 mi.2.2.2.1 pc' lv' st' h') : ix_W P D ad0 cA A ro p l e R s m args below meth c Q n0 s0 mi.2.2.2.1 pc lv st h := by
  obtain ⟨hx, hb, hml, hr, hlocks, hon, hown, hini, hK, hts, hV, hA, hO⟩ := X
  simp only [ix_s1] at q
  split at q
  · next hlen =>
    subst hlen
    obtain ⟨x, y, r, rfl, q2⟩ := ix_ii_eq q
    obtain ⟨rfl, rfl, rfl, rfl⟩ := ix_go_eq q2
    intro ad H locs ls hI hL hw
    exact lv_isub hx hb hd (k ad H locs ls hI hL (hw.pop.pop.push trivial))
  · cases q
theorem ix_p_imul  (X : ix_X P mi own D ad0 cA A ro p s m args meth c) (hd : decode mi.2.2.1 pc = .ok (.imul, len)) (q : ix_s1 P mi pc lv st h len (.imul) = some (.inl (pc', lv', st', h'))) (k : ix_W P D ad0 cA A ro p l e R s m args below meth c Q n0 s0 mi.2.2.2.1 pc' lv' st' h') : ix_W P D ad0 cA A ro p l e R s m args below meth c Q n0 s0 mi.2.2.2.1 pc lv st h := by
  obtain ⟨hx, hb, hml, hr, hlocks, hon, hown, hini, hK, hts, hV, hA, hO⟩ := X
  simp only [ix_s1] at q
  split at q
  · next hlen =>
    subst hlen
    obtain ⟨x, y, r, rfl, q2⟩ := ix_ii_eq q
    obtain ⟨rfl, rfl, rfl, rfl⟩ := ix_go_eq q2
    intro ad H locs ls hI hL hw
    exact lv_imul hx hb hd (k ad H locs ls hI hL (hw.pop.pop.push trivial))
  · cases q
theorem ix_p_iand  (X : ix_X P mi own D ad0 cA A ro p s m args meth c) (hd : decode mi.2.2.1 pc = .ok (.iand, len)) (q : ix_s1 P mi pc lv st h len (.iand) = some (.inl (pc', lv', st', h'))) (k : ix_W P D ad0 cA A ro p l e R s m args below meth c Q n0 s0 mi.2.2.2.1 pc' lv' st' h') : ix_W P D ad0 cA A ro p l e R s m args below meth c Q n0 s0 mi.2.2.2.1 pc lv st h := by
  obtain ⟨hx, hb, hml, hr, hlocks, hon, hown, hini, hK, hts, hV, hA, hO⟩ := X
  simp only [ix_s1] at q
  split at q
  · next hlen =>
    subst hlen
    obtain ⟨x, y, r, rfl, q2⟩ := ix_ii_eq q
    obtain ⟨rfl, rfl, rfl, rfl⟩ := ix_go_eq q2
    intro ad H locs ls hI hL hw
    exact lv_iand hx hb hd (k ad H locs ls hI hL (hw.pop.pop.push trivial))
  · cases q
theorem ix_p_ior  (X : ix_X P mi own D ad0 cA A ro p s m args meth c) (hd : decode mi.2.2.1 pc = .ok (.ior, len)) (q : ix_s1 P mi pc lv st h len (.ior) = some (.inl (pc', lv', st', h'))) (k : ix_W P D ad0 cA A ro p l e R s m args below meth c Q n0 s0 mi.2.2.2.1 pc' lv' st' h') : ix_W P D ad0 cA A ro p l e R s m args below meth c Q n0 s0 mi.2.2.2.1 pc lv st h := by
  obtain ⟨hx, hb, hml, hr, hlocks, hon, hown, hini, hK, hts, hV, hA, hO⟩ := X
  simp only [ix_s1] at q
  split at q
  · next hlen =>
    subst hlen
    obtain ⟨x, y, r, rfl, q2⟩ := ix_ii_eq q
    obtain ⟨rfl, rfl, rfl, rfl⟩ := ix_go_eq q2
    intro ad H locs ls hI hL hw
    exact lv_ior hx hb hd (k ad H locs ls hI hL (hw.pop.pop.push trivial))
  · cases q
theorem ix_p_ixor  (X : ix_X P mi own D ad0 cA A ro p s m args meth c) (hd : decode mi.2.2.1 pc = .ok (.ixor, len)) (q : ix_s1 P mi pc lv st h len (.ixor) = some (.inl (pc', lv', st', h'))) (k : ix_W P D ad0 cA A ro p l e R s m args below meth c Q n0 s0 mi.2.2.2.1 pc' lv' st' h') : ix_W P D ad0 cA A ro p l e R s m args below meth c Q n0 s0 mi.2.2.2.1 pc lv st h := by
  obtain ⟨hx, hb, hml, hr, hlocks, hon, hown, hini, hK, hts, hV, hA, hO⟩ := X
  simp only [ix_s1] at q
  split at q
  · next hlen =>
    subst hlen
    obtain ⟨x, y, r, rfl, q2⟩ := ix_ii_eq q
    obtain ⟨rfl, rfl, rfl, rfl⟩ := ix_go_eq q2
    intro ad H locs ls hI hL hw
    exact lv_ixor hx hb hd (k ad H locs ls hI hL (hw.pop.pop.push trivial))
  · cases q
theorem ix_p_ishl  (X : ix_X P mi own D ad0 cA A ro p s m args meth c) (hd : decode mi.2.2.1 pc = .ok (.ishl, len)) (q : ix_s1 P mi pc lv st h len (.ishl) = some (.inl (pc', lv', st', h'))) (k : ix_W P D ad0 cA A ro p l e R s m args below meth c Q n0 s0 mi.2.2.2.1 pc' lv' st' h') : ix_W P D ad0 cA A ro p l e R s m args below meth c Q n0 s0 mi.2.2.2.1 pc lv st h := by
  obtain ⟨hx, hb, hml, hr, hlocks, hon, hown, hini, hK, hts, hV, hA, hO⟩ := X
  simp only [ix_s1] at q
  split at q
  · next hlen =>
    subst hlen
    obtain ⟨x, y, r, rfl, q2⟩ := ix_ii_eq q
    obtain ⟨rfl, rfl, rfl, rfl⟩ := ix_go_eq q2
    intro ad H locs ls hI hL hw
    exact lv_ishl hx hb hd (k ad H locs ls hI hL (hw.pop.pop.push trivial))
  · cases q
theorem ix_p_ishr  (X : ix_X P mi own D ad0 cA A ro p s m args meth c) (hd : decode mi.2.2.1 pc = .ok (.ishr, len)) (q : ix_s1 P mi pc lv st h len (.ishr) = some (.inl (pc', lv', st', h'))) (k : ix_W P D ad0 cA A ro p l e R s m args below meth c Q n0 s0 mi.2.2.2.1 pc' lv' st' h') : ix_W P D ad0 cA A ro p l e R s m args below meth c Q n0 s0 mi.2.2.2.1 pc lv st h := by
  obtain ⟨hx, hb, hml, hr, hlocks, hon, hown, hini, hK, hts, hV, hA, hO⟩ := X
  simp only [ix_s1] at q
  split at q
  · next hlen =>
    subst hlen
    obtain ⟨x, y, r, rfl, q2⟩ := ix_ii_eq q
    obtain ⟨rfl, rfl, rfl, rfl⟩ := ix_go_eq q2
    intro ad H locs ls hI hL hw
    exact lv_ishr hx hb hd (k ad H locs ls hI hL (hw.pop.pop.push trivial))
  · cases q
theorem ix_p_iushr  (X : ix_X P mi own D ad0 cA A ro p s m args meth c) (hd : decode mi.2.2.1 pc = .ok (.iushr, len)) (q : ix_s1 P mi pc lv st h len (.iushr) = some (.inl (pc', lv', st', h'))) (k : ix_W P D ad0 cA A ro p l e R s m args below meth c Q n0 s0 mi.2.2.2.1 pc' lv' st' h') : ix_W P D ad0 cA A ro p l e R s m args below meth c Q n0 s0 mi.2.2.2.1 pc lv st h := by
  obtain ⟨hx, hb, hml, hr, hlocks, hon, hown, hini, hK, hts, hV, hA, hO⟩ := X
  simp only [ix_s1] at q
  split at q
  · next hlen =>
    subst hlen
    obtain ⟨x, y, r, rfl, q2⟩ := ix_ii_eq q
    obtain ⟨rfl, rfl, rfl, rfl⟩ := ix_go_eq q2
    intro ad H locs ls hI hL hw
    exact lv_iushr hx hb hd rfl (k ad H locs ls hI hL (hw.pop.pop.push trivial))
  · cases q
theorem ix_p_idiv  (X : ix_X P mi own D ad0 cA A ro p s m args meth c) (hd : decode mi.2.2.1 pc = .ok (.idiv, len)) (q : ix_s1 P mi pc lv st h len (.idiv) = some (.inl (pc', lv', st', h'))) (k : ix_W P D ad0 cA A ro p l e R s m args below meth c Q n0 s0 mi.2.2.2.1 pc' lv' st' h') : ix_W P D ad0 cA A ro p l e R s m args below meth c Q n0 s0 mi.2.2.2.1 pc lv st h := by
  obtain ⟨hx, hb, hml, hr, hlocks, hon, hown, hini, hK, hts, hV, hA, hO⟩ := X
  simp only [ix_s1] at q
  split at q
  · next hlen =>
    subst hlen
    obtain ⟨x, y, r, rfl, q2⟩ := ix_ii_eq q
    split at q2
    · cases q2
    · next hne =>
      obtain ⟨rfl, rfl, rfl, rfl⟩ := ix_go_eq q2
      intro ad H locs ls hI hL hw
      exact lv_idiv hx hb hd hne (k ad H locs ls hI hL (hw.pop.pop.push trivial))
  · cases q
theorem ix_p_irem  (X : ix_X P mi own D ad0 cA A ro p s m args meth c) (hd : decode mi.2.2.1 pc = .ok (.irem, len)) (q : ix_s1 P mi pc lv st h len (.irem) = some (.inl (pc', lv', st', h'))) (k : ix_W P D ad0 cA A ro p l e R s m args below meth c Q n0 s0 mi.2.2.2.1 pc' lv' st' h') : ix_W P D ad0 cA A ro p l e R s m args below meth c Q n0 s0 mi.2.2.2.1 pc lv st h := by
  obtain ⟨hx, hb, hml, hr, hlocks, hon, hown, hini, hK, hts, hV, hA, hO⟩ := X
  simp only [ix_s1] at q
  split at q
  · next hlen =>
    subst hlen
    obtain ⟨x, y, r, rfl, q2⟩ := ix_ii_eq q
    split at q2
    · cases q2
    · next hne =>
      obtain ⟨rfl, rfl, rfl, rfl⟩ := ix_go_eq q2
      intro ad H locs ls hI hL hw
      exact lv_irem hx hb hd hne (k ad H locs ls hI hL (hw.pop.pop.push trivial))
  · cases q
theorem ix_p_ineg  (X : ix_X P mi own D ad0 cA A ro p s m args meth c) (hd : decode mi.2.2.1 pc = .ok (.ineg, len)) (q : ix_s1 P mi pc lv st h len (.ineg) = some (.inl (pc', lv', st', h'))) (k : ix_W P D ad0 cA A ro p l e R s m args below meth c Q n0 s0 mi.2.2.2.1 pc' lv' st' h') : ix_W P D ad0 cA A ro p l e R s m args below meth c Q n0 s0 mi.2.2.2.1 pc lv st h := by
  obtain ⟨hx, hb, hml, hr, hlocks, hon, hown, hini, hK, hts, hV, hA, hO⟩ := X
  simp only [ix_s1] at q
  split at q
  · next hlen =>
    subst hlen
    obtain ⟨x, r, rfl, q2⟩ := ix_i_eq q
    obtain ⟨rfl, rfl, rfl, rfl⟩ := ix_go_eq q2
    intro ad H locs ls hI hL hw
    exact lv_ineg hx hb hd (k ad H locs ls hI hL (hw.pop.push trivial))
  · cases q
theorem ix_p_i2d  (X : ix_X P mi own D ad0 cA A ro p s m args meth c) (hd : decode mi.2.2.1 pc = .ok (.i2d, len)) (q : ix_s1 P mi pc lv st h len (.i2d) = some (.inl (pc', lv', st', h'))) (k : ix_W P D ad0 cA A ro p l e R s m args below meth c Q n0 s0 mi.2.2.2.1 pc' lv' st' h') : ix_W P D ad0 cA A ro p l e R s m args below meth c Q n0 s0 mi.2.2.2.1 pc lv st h := by
  obtain ⟨hx, hb, hml, hr, hlocks, hon, hown, hini, hK, hts, hV, hA, hO⟩ := X
  simp only [ix_s1] at q
  split at q
  · next hlen =>
    subst hlen
    obtain ⟨x, r, rfl, q2⟩ := ix_i_eq q
    obtain ⟨rfl, rfl, rfl, rfl⟩ := ix_go_eq q2
    intro ad H locs ls hI hL hw
    exact lv_i2d hx hb hd (k ad H locs ls hI hL (hw.pop.push trivial))
  · cases q
theorem ix_p_i2l  (X : ix_X P mi own D ad0 cA A ro p s m args meth c) (hd : decode mi.2.2.1 pc = .ok (.i2l, len)) (q : ix_s1 P mi pc lv st h len (.i2l) = some (.inl (pc', lv', st', h'))) (k : ix_W P D ad0 cA A ro p l e R s m args below meth c Q n0 s0 mi.2.2.2.1 pc' lv' st' h') : ix_W P D ad0 cA A ro p l e R s m args below meth c Q n0 s0 mi.2.2.2.1 pc lv st h := by
  obtain ⟨hx, hb, hml, hr, hlocks, hon, hown, hini, hK, hts, hV, hA, hO⟩ := X
  simp only [ix_s1] at q
  split at q
  · next hlen =>
    subst hlen
    obtain ⟨x, r, rfl, q2⟩ := ix_i_eq q
    obtain ⟨rfl, rfl, rfl, rfl⟩ := ix_go_eq q2
    intro ad H locs ls hI hL hw
    exact lv_i2l hx hb hd rfl (k ad H locs ls hI hL (hw.pop.push trivial))
  · cases q
theorem ix_p_i2b  (X : ix_X P mi own D ad0 cA A ro p s m args meth c) (hd : decode mi.2.2.1 pc = .ok (.i2b, len)) (q : ix_s1 P mi pc lv st h len (.i2b) = some (.inl (pc', lv', st', h'))) (k : ix_W P D ad0 cA A ro p l e R s m args below meth c Q n0 s0 mi.2.2.2.1 pc' lv' st' h') : ix_W P D ad0 cA A ro p l e R s m args below meth c Q n0 s0 mi.2.2.2.1 pc lv st h := by
  obtain ⟨hx, hb, hml, hr, hlocks, hon, hown, hini, hK, hts, hV, hA, hO⟩ := X
  simp only [ix_s1] at q
  split at q
  · next hlen =>
    subst hlen
    obtain ⟨x, r, rfl, q2⟩ := ix_i_eq q
    obtain ⟨rfl, rfl, rfl, rfl⟩ := ix_go_eq q2
    intro ad H locs ls hI hL hw
    exact lv_i2b hx hb hd rfl (k ad H locs ls hI hL (hw.pop.push trivial))
  · cases q
theorem ix_p_i2c  (X : ix_X P mi own D ad0 cA A ro p s m args meth c) (hd : decode mi.2.2.1 pc = .ok (.i2c, len)) (q : ix_s1 P mi pc lv st h len (.i2c) = some (.inl (pc', lv', st', h'))) (k : ix_W P D ad0 cA A ro p l e R s m args below meth c Q n0 s0 mi.2.2.2.1 pc' lv' st' h') : ix_W P D ad0 cA A ro p l e R s m args below meth c Q n0 s0 mi.2.2.2.1 pc lv st h := by
  obtain ⟨hx, hb, hml, hr, hlocks, hon, hown, hini, hK, hts, hV, hA, hO⟩ := X
  simp only [ix_s1] at q
  split at q
  · next hlen =>
    subst hlen
    obtain ⟨x, r, rfl, q2⟩ := ix_i_eq q
    obtain ⟨rfl, rfl, rfl, rfl⟩ := ix_go_eq q2
    intro ad H locs ls hI hL hw
    exact lv_i2c hx hb hd rfl (k ad H locs ls hI hL (hw.pop.push trivial))
  · cases q
theorem ix_p_l2i  (X : ix_X P mi own D ad0 cA A ro p s m args meth c) (hd : decode mi.2.2.1 pc = .ok (.l2i, len)) (q : ix_s1 P mi pc lv st h len (.l2i) = some (.inl (pc', lv', st', h'))) (k : ix_W P D ad0 cA A ro p l e R s m args below meth c Q n0 s0 mi.2.2.2.1 pc' lv' st' h') : ix_W P D ad0 cA A ro p l e R s m args below meth c Q n0 s0 mi.2.2.2.1 pc lv st h := by
  obtain ⟨hx, hb, hml, hr, hlocks, hon, hown, hini, hK, hts, hV, hA, hO⟩ := X
  simp only [ix_s1] at q
  split at q
  · next hlen =>
    subst hlen
    obtain ⟨x, r, rfl, q2⟩ := ix_l_eq q
    obtain ⟨rfl, rfl, rfl, rfl⟩ := ix_go_eq q2
    intro ad H locs ls hI hL hw
    exact lv_l2i hx hb hd rfl (k ad H locs ls hI hL (hw.pop.push trivial))
  · cases q
theorem ix_p_ladd  (X : ix_X P mi own D ad0 cA A ro p s m args meth c) (hd : decode mi.2.2.1 pc = .ok (.ladd, len)) (q : ix_s1 P mi pc lv st h len (.ladd) = some (.inl (pc', lv', st', h'))) (k : ix_W P D ad0 cA A ro p l e R s m args below meth c Q n0 s0 mi.2.2.2.1 pc' lv' st' h') : ix_W P D ad0 cA A ro p l e R s m args below meth c Q n0 s0 mi.2.2.2.1 pc lv st h := by
  obtain ⟨hx, hb, hml, hr, hlocks, hon, hown, hini, hK, hts, hV, hA, hO⟩ := X
  simp only [ix_s1] at q
  split at q
  · next hlen =>
    subst hlen
    obtain ⟨x, y, r, rfl, q2⟩ := ix_ll_eq q
    obtain ⟨rfl, rfl, rfl, rfl⟩ := ix_go_eq q2
    intro ad H locs ls hI hL hw
    exact lv_ladd hx hb hd (k ad H locs ls hI hL (hw.pop.pop.push trivial))
  · cases q
theorem ix_p_lmul  (X : ix_X P mi own D ad0 cA A ro p s m args meth c) (hd : decode mi.2.2.1 pc = .ok (.lmul, len)) (q : ix_s1 P mi pc lv st h len (.lmul) = some (.inl (pc', lv', st', h'))) (k : ix_W P D ad0 cA A ro p l e R s m args below meth c Q n0 s0 mi.2.2.2.1 pc' lv' st' h') : ix_W P D ad0 cA A ro p l e R s m args below meth c Q n0 s0 mi.2.2.2.1 pc lv st h := by
  obtain ⟨hx, hb, hml, hr, hlocks, hon, hown, hini, hK, hts, hV, hA, hO⟩ := X
  simp only [ix_s1] at q
  split at q
  · next hlen =>
    subst hlen
    obtain ⟨x, y, r, rfl, q2⟩ := ix_ll_eq q
    obtain ⟨rfl, rfl, rfl, rfl⟩ := ix_go_eq q2
    intro ad H locs ls hI hL hw
    exact lv_lmul hx hb hd (k ad H locs ls hI hL (hw.pop.pop.push trivial))
  · cases q
theorem ix_p_lcmp  (X : ix_X P mi own D ad0 cA A ro p s m args meth c) (hd : decode mi.2.2.1 pc = .ok (.lcmp, len)) (q : ix_s1 P mi pc lv st h len (.lcmp) = some (.inl (pc', lv', st', h'))) (k : ix_W P D ad0 cA A ro p l e R s m args below meth c Q n0 s0 mi.2.2.2.1 pc' lv' st' h') : ix_W P D ad0 cA A ro p l e R s m args below meth c Q n0 s0 mi.2.2.2.1 pc lv st h := by
  obtain ⟨hx, hb, hml, hr, hlocks, hon, hown, hini, hK, hts, hV, hA, hO⟩ := X
  simp only [ix_s1] at q
  split at q
  · next hlen =>
    subst hlen
    obtain ⟨x, y, r, rfl, q2⟩ := ix_ll_eq q
    obtain ⟨rfl, rfl, rfl, rfl⟩ := ix_go_eq q2
    intro ad H locs ls hI hL hw
    exact W.lcmp hx hb hd (k ad H locs ls hI hL (hw.pop.pop.push trivial))
  · cases q
theorem ix_p_dcmp {op : CmpOp} (X : ix_X P mi own D ad0 cA A ro p s m args meth c) (hd : decode mi.2.2.1 pc = .ok (.dcmp op, len)) (q : ix_s1 P mi pc lv st h len (.dcmp op) = some (.inl (pc', lv', st', h'))) (k : ix_W P D ad0 cA A ro p l e R s m args below meth c Q n0 s0 mi.2.2.2.1 pc' lv' st' h') : ix_W P D ad0 cA A ro p l e R s m args below meth c Q n0 s0 mi.2.2.2.1 pc lv st h := by
  obtain ⟨hx, hb, hml, hr, hlocks, hon, hown, hini, hK, hts, hV, hA, hO⟩ := X
  simp only [ix_s1] at q
  split at q
  · next hlen =>
    subst hlen
    obtain ⟨x, y, r, rfl, q2⟩ := ix_dd_eq q
    obtain ⟨rfl, rfl, rfl, rfl⟩ := ix_go_eq q2
    intro ad H locs ls hI hL hw
    exact lv_dcmp hx hb hd (k ad H locs ls hI hL (hw.pop.pop.push trivial))
  · cases q
theorem ix_p_ddiv  (X : ix_X P mi own D ad0 cA A ro p s m args meth c) (hd : decode mi.2.2.1 pc = .ok (.ddiv, len)) (q : ix_s1 P mi pc lv st h len (.ddiv) = some (.inl (pc', lv', st', h'))) (k : ix_W P D ad0 cA A ro p l e R s m args below meth c Q n0 s0 mi.2.2.2.1 pc' lv' st' h') : ix_W P D ad0 cA A ro p l e R s m args below meth c Q n0 s0 mi.2.2.2.1 pc lv st h := by
  obtain ⟨hx, hb, hml, hr, hlocks, hon, hown, hini, hK, hts, hV, hA, hO⟩ := X
  simp only [ix_s1] at q
  split at q
  · next hlen =>
    subst hlen
    obtain ⟨x, y, r, rfl, q2⟩ := ix_dd_eq q
    split at q2
    · next hne =>
      obtain ⟨rfl, rfl, rfl, rfl⟩ := ix_go_eq q2
      intro ad H locs ls hI hL hw
      exact lv_ddiv hx hb hd hne (k ad H locs ls hI hL (hw.pop.pop.push trivial))
    · cases q2
  · cases q
theorem ix_p_goto {off : Int} (X : ix_X P mi own D ad0 cA A ro p s m args meth c) (hd : decode mi.2.2.1 pc = .ok (.goto off, len)) (q : ix_s1 P mi pc lv st h len (.goto off) = some (.inl (pc', lv', st', h'))) (k : ix_W P D ad0 cA A ro p l e R s m args below meth c Q n0 s0 mi.2.2.2.1 pc' lv' st' h') : ix_W P D ad0 cA A ro p l e R s m args below meth c Q n0 s0 mi.2.2.2.1 pc lv st h := by
  obtain ⟨hx, hb, hml, hr, hlocks, hon, hown, hini, hK, hts, hV, hA, hO⟩ := X
  simp only [ix_s1] at q
  split at q
  · next hlen =>
    obtain ⟨rfl, ho⟩ := hlen
    obtain ⟨rfl, rfl, rfl, rfl⟩ := ix_go_eq q
    intro ad H locs ls hI hL hw
    exact lv_goto hx hb hd (ix_ok_eq ho) (k ad H locs ls hI hL hw)
  · cases q
theorem ix_p_ifCond {cc : ClassFile.Cond} {off : Int} (X : ix_X P mi own D ad0 cA A ro p s m args meth c) (hd : decode mi.2.2.1 pc = .ok (.ifCond cc off, len)) (q : ix_s1 P mi pc lv st h len (.ifCond cc off) = some (.inl (pc', lv', st', h'))) (k : ix_W P D ad0 cA A ro p l e R s m args below meth c Q n0 s0 mi.2.2.2.1 pc' lv' st' h') : ix_W P D ad0 cA A ro p l e R s m args below meth c Q n0 s0 mi.2.2.2.1 pc lv st h := by
  obtain ⟨hx, hb, hml, hr, hlocks, hon, hown, hini, hK, hts, hV, hA, hO⟩ := X
  simp only [ix_s1] at q
  split at q
  · next hlen =>
    subst hlen
    obtain ⟨x, r, rfl, q2⟩ := ix_i_eq q
    obtain ⟨ht, rfl, rfl, rfl, hcase⟩ := ix_br_eq q2
    intro ad H locs ls hI hL hw
    cases cc
    · refine lv_if_eq hx hb hd ht (fun c9 => ?_) (fun c9 => ?_)
      · rcases hcase with ⟨hb9, rfl⟩ | ⟨hb9, rfl⟩
        · exact k ad H locs ls hI hL hw.pop
        · exact absurd c9 (of_decide_eq_false hb9)
      · rcases hcase with ⟨hb9, rfl⟩ | ⟨hb9, rfl⟩
        · exact absurd (of_decide_eq_true hb9) c9
        · exact k ad H locs ls hI hL hw.pop
    · refine lv_if_ne hx hb hd ht (fun c9 => ?_) (fun c9 => ?_)
      · rcases hcase with ⟨hb9, rfl⟩ | ⟨hb9, rfl⟩
        · exact k ad H locs ls hI hL hw.pop
        · exact absurd c9 (of_decide_eq_false hb9)
      · rcases hcase with ⟨hb9, rfl⟩ | ⟨hb9, rfl⟩
        · exact absurd c9 (of_decide_eq_true hb9)
        · exact k ad H locs ls hI hL hw.pop
    · refine lv_if_lt hx hb hd ht (fun c9 => ?_) (fun c9 => ?_)
      · rcases hcase with ⟨hb9, rfl⟩ | ⟨hb9, rfl⟩
        · exact k ad H locs ls hI hL hw.pop
        · exact absurd c9 (of_decide_eq_false hb9)
      · rcases hcase with ⟨hb9, rfl⟩ | ⟨hb9, rfl⟩
        · exact absurd (of_decide_eq_true hb9) c9
        · exact k ad H locs ls hI hL hw.pop
    · refine lv_if_ge hx hb hd ht (fun c9 => ?_) (fun c9 => ?_)
      · rcases hcase with ⟨hb9, rfl⟩ | ⟨hb9, rfl⟩
        · exact k ad H locs ls hI hL hw.pop
        · exact absurd c9 (of_decide_eq_false hb9)
      · rcases hcase with ⟨hb9, rfl⟩ | ⟨hb9, rfl⟩
        · exact absurd (of_decide_eq_true hb9) c9
        · exact k ad H locs ls hI hL hw.pop
    · refine lv_if_gt hx hb hd ht (fun c9 => ?_) (fun c9 => ?_)
      · rcases hcase with ⟨hb9, rfl⟩ | ⟨hb9, rfl⟩
        · exact k ad H locs ls hI hL hw.pop
        · exact absurd c9 (of_decide_eq_false hb9)
      · rcases hcase with ⟨hb9, rfl⟩ | ⟨hb9, rfl⟩
        · exact absurd (of_decide_eq_true hb9) c9
        · exact k ad H locs ls hI hL hw.pop
    · refine lv_if_le hx hb hd ht (fun c9 => ?_) (fun c9 => ?_)
      · rcases hcase with ⟨hb9, rfl⟩ | ⟨hb9, rfl⟩
        · exact k ad H locs ls hI hL hw.pop
        · exact absurd c9 (of_decide_eq_false hb9)
      · rcases hcase with ⟨hb9, rfl⟩ | ⟨hb9, rfl⟩
        · exact absurd (of_decide_eq_true hb9) c9
        · exact k ad H locs ls hI hL hw.pop
  · cases q
theorem ix_p_if_icmp {cc : ClassFile.Cond} {off : Int} (X : ix_X P mi own D ad0 cA A ro p s m args meth c) (hd : decode mi.2.2.1 pc = .ok (.if_icmp cc off, len)) (q : ix_s1 P mi pc lv st h len (.if_icmp cc off) = some (.inl (pc', lv', st', h'))) (k : ix_W P D ad0 cA A ro p l e R s m args below meth c Q n0 s0 mi.2.2.2.1 pc' lv' st' h') : ix_W P D ad0 cA A ro p l e R s m args below meth c Q n0 s0 mi.2.2.2.1 pc lv st h := by
  obtain ⟨hx, hb, hml, hr, hlocks, hon, hown, hini, hK, hts, hV, hA, hO⟩ := X
  simp only [ix_s1] at q
  split at q
  · next hlen =>
    subst hlen
    obtain ⟨x, y, r, rfl, q2⟩ := ix_ii_eq q
    obtain ⟨ht, rfl, rfl, rfl, hcase⟩ := ix_br_eq q2
    intro ad H locs ls hI hL hw
    cases cc
    · refine lv_icmp_eq hx hb hd ht (fun c9 => ?_) (fun c9 => ?_)
      · rcases hcase with ⟨hb9, rfl⟩ | ⟨hb9, rfl⟩
        · exact k ad H locs ls hI hL hw.pop.pop
        · exact absurd c9 (of_decide_eq_false hb9)
      · rcases hcase with ⟨hb9, rfl⟩ | ⟨hb9, rfl⟩
        · exact absurd (of_decide_eq_true hb9) c9
        · exact k ad H locs ls hI hL hw.pop.pop
    · refine lv_icmp_ne hx hb hd ht (fun c9 => ?_) (fun c9 => ?_)
      · rcases hcase with ⟨hb9, rfl⟩ | ⟨hb9, rfl⟩
        · exact k ad H locs ls hI hL hw.pop.pop
        · exact absurd c9 (of_decide_eq_false hb9)
      · rcases hcase with ⟨hb9, rfl⟩ | ⟨hb9, rfl⟩
        · exact absurd c9 (of_decide_eq_true hb9)
        · exact k ad H locs ls hI hL hw.pop.pop
    · refine lv_icmp_lt hx hb hd ht (fun c9 => ?_) (fun c9 => ?_)
      · rcases hcase with ⟨hb9, rfl⟩ | ⟨hb9, rfl⟩
        · exact k ad H locs ls hI hL hw.pop.pop
        · exact absurd c9 (of_decide_eq_false hb9)
      · rcases hcase with ⟨hb9, rfl⟩ | ⟨hb9, rfl⟩
        · exact absurd (of_decide_eq_true hb9) c9
        · exact k ad H locs ls hI hL hw.pop.pop
    · refine lv_icmp_ge hx hb hd ht (fun c9 => ?_) (fun c9 => ?_)
      · rcases hcase with ⟨hb9, rfl⟩ | ⟨hb9, rfl⟩
        · exact k ad H locs ls hI hL hw.pop.pop
        · exact absurd c9 (of_decide_eq_false hb9)
      · rcases hcase with ⟨hb9, rfl⟩ | ⟨hb9, rfl⟩
        · exact absurd (of_decide_eq_true hb9) c9
        · exact k ad H locs ls hI hL hw.pop.pop
    · refine lv_icmp_gt hx hb hd ht (fun c9 => ?_) (fun c9 => ?_)
      · rcases hcase with ⟨hb9, rfl⟩ | ⟨hb9, rfl⟩
        · exact k ad H locs ls hI hL hw.pop.pop
        · exact absurd c9 (of_decide_eq_false hb9)
      · rcases hcase with ⟨hb9, rfl⟩ | ⟨hb9, rfl⟩
        · exact absurd (of_decide_eq_true hb9) c9
        · exact k ad H locs ls hI hL hw.pop.pop
    · refine lv_icmp_le hx hb hd ht (fun c9 => ?_) (fun c9 => ?_)
      · rcases hcase with ⟨hb9, rfl⟩ | ⟨hb9, rfl⟩
        · exact k ad H locs ls hI hL hw.pop.pop
        · exact absurd c9 (of_decide_eq_false hb9)
      · rcases hcase with ⟨hb9, rfl⟩ | ⟨hb9, rfl⟩
        · exact absurd (of_decide_eq_true hb9) c9
        · exact k ad H locs ls hI hL hw.pop.pop
  · cases q
theorem ix_p_ifnull {off : Int} (X : ix_X P mi own D ad0 cA A ro p s m args meth c) (hd : decode mi.2.2.1 pc = .ok (.ifnull off, len)) (q : ix_s1 P mi pc lv st h len (.ifnull off) = some (.inl (pc', lv', st', h'))) (k : ix_W P D ad0 cA A ro p l e R s m args below meth c Q n0 s0 mi.2.2.2.1 pc' lv' st' h') : ix_W P D ad0 cA A ro p l e R s m args below meth c Q n0 s0 mi.2.2.2.1 pc lv st h := by
  obtain ⟨hx, hb, hml, hr, hlocks, hon, hown, hini, hK, hts, hV, hA, hO⟩ := X
  simp only [ix_s1] at q
  split at q
  · next hlen =>
    subst hlen
    obtain ⟨v, r, rfl, hv, q2⟩ := ix_a_eq q
    obtain ⟨ht, rfl, rfl, rfl, hcase⟩ := ix_br_eq q2
    rcases hv with rfl | ⟨x, rfl⟩
    · rcases hcase with ⟨hb9, rfl⟩ | ⟨hb9, rfl⟩
      · intro ad H locs ls hI hL hw
        exact lv_ifnullN hx hb hd ht (k ad H locs ls hI hL hw.pop)
      · simp at hb9
    · rcases hcase with ⟨hb9, rfl⟩ | ⟨hb9, rfl⟩
      · simp at hb9
      · intro ad H locs ls hI hL hw
        exact lv_ifnull hx hb hd (k ad H locs ls hI hL hw.pop)
  · cases q
theorem ix_p_ifnonnull {off : Int} (X : ix_X P mi own D ad0 cA A ro p s m args meth c) (hd : decode mi.2.2.1 pc = .ok (.ifnonnull off, len)) (q : ix_s1 P mi pc lv st h len (.ifnonnull off) = some (.inl (pc', lv', st', h'))) (k : ix_W P D ad0 cA A ro p l e R s m args below meth c Q n0 s0 mi.2.2.2.1 pc' lv' st' h') : ix_W P D ad0 cA A ro p l e R s m args below meth c Q n0 s0 mi.2.2.2.1 pc lv st h := by
  obtain ⟨hx, hb, hml, hr, hlocks, hon, hown, hini, hK, hts, hV, hA, hO⟩ := X
  simp only [ix_s1] at q
  split at q
  · next hlen =>
    subst hlen
    obtain ⟨v, r, rfl, hv, q2⟩ := ix_a_eq q
    obtain ⟨ht, rfl, rfl, rfl, hcase⟩ := ix_br_eq q2
    rcases hv with rfl | ⟨x, rfl⟩
    · rcases hcase with ⟨hb9, rfl⟩ | ⟨hb9, rfl⟩
      · simp at hb9
      · intro ad H locs ls hI hL hw
        exact lv_ifnonnullN hx hb hd (k ad H locs ls hI hL hw.pop)
    · rcases hcase with ⟨hb9, rfl⟩ | ⟨hb9, rfl⟩
      · intro ad H locs ls hI hL hw
        exact lv_ifnonnull hx hb hd ht (k ad H locs ls hI hL hw.pop)
      · simp at hb9
  · cases q
theorem ix_p_tableswitch {dflt lo hi : Int} {offs : Array Int} (X : ix_X P mi own D ad0 cA A ro p s m args meth c) (hd : decode mi.2.2.1 pc = .ok (.tableswitch dflt lo hi offs, len)) (q : ix_s1 P mi pc lv st h len (.tableswitch dflt lo hi offs) = some (.inl (pc', lv', st', h'))) (k : ix_W P D ad0 cA A ro p l e R s m args below meth c Q n0 s0 mi.2.2.2.1 pc' lv' st' h') : ix_W P D ad0 cA A ro p l e R s m args below meth c Q n0 s0 mi.2.2.2.1 pc lv st h := by
  obtain ⟨hx, hb, hml, hr, hlocks, hon, hown, hini, hK, hts, hV, hA, hO⟩ := X
  simp only [ix_s1] at q
  obtain ⟨x, r, rfl, q2⟩ := ix_i_eq q
  split at q2
  · next hc =>
    split at q2
    · next ho =>
      obtain ⟨rfl, rfl, rfl, rfl⟩ := ix_go_eq q2
      intro ad H locs ls hI hL hw
      exact lv_tableOut hx hb hd hc (ix_ok_eq ho) (k ad H locs ls hI hL hw.pop)
    · cases q2
  · next hc =>
    split at q2
    · next off hoff =>
      split at q2
      · next ho =>
        obtain ⟨rfl, rfl, rfl, rfl⟩ := ix_go_eq q2
        intro ad H locs ls hI hL hw
        exact lv_tableIn hx hb hd (fun z => hc (Or.inl z)) (fun z => hc (Or.inr z)) hoff (ix_ok_eq ho) (k ad H locs ls hI hL hw.pop)
      · cases q2
    · cases q2
theorem ix_p_lookupswitch {dflt : Int} {ps : Array (Int × Int)} (X : ix_X P mi own D ad0 cA A ro p s m args meth c) (hd : decode mi.2.2.1 pc = .ok (.lookupswitch dflt ps, len)) (q : ix_s1 P mi pc lv st h len (.lookupswitch dflt ps) = some (.inl (pc', lv', st', h'))) (k : ix_W P D ad0 cA A ro p l e R s m args below meth c Q n0 s0 mi.2.2.2.1 pc' lv' st' h') : ix_W P D ad0 cA A ro p l e R s m args below meth c Q n0 s0 mi.2.2.2.1 pc lv st h := by
  obtain ⟨hx, hb, hml, hr, hlocks, hon, hown, hini, hK, hts, hV, hA, hO⟩ := X
  simp only [ix_s1] at q
  split at q
  · next hps =>
    obtain ⟨x, r, rfl, q2⟩ := ix_i_eq q
    split at q2
    · next ho =>
      obtain ⟨rfl, rfl, rfl, rfl⟩ := ix_go_eq q2
      intro ad H locs ls hI hL hw
      exact lv_lookup hx hb hd hps rfl (ix_ok_eq ho) (k ad H locs ls hI hL hw.pop)
    · cases q2
  · cases q
end IXS
