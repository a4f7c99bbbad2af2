/-! THE LAW: below, cell. -/
theorem and31 (x : Int32) : ∃ a : Nat, x &&& 2147483647 = nI a ∧ a < 2 ^ 31 := by
  refine ⟨x.toBitVec.toNat % 2 ^ 31, ?_, Nat.mod_lt _ (by decide)⟩
  apply Int32.toBitVec_inj.mp
  apply BitVec.eq_of_toNat_eq
  rw [Int32.toBitVec_and, BitVec.toNat_and, show (2147483647 : Int32).toBitVec.toNat = 2 ^ 31 - 1 from rfl, Nat.and_two_pow_sub_one_eq_mod]
  show _ = (BitVec.ofNat 32 _).toNat
  rw [BitVec.toNat_ofNat, Nat.mod_eq_of_lt (Nat.lt_trans (Nat.mod_lt _ (by decide)) (by decide))]
def blw (x : Int32) (m : Nat) : Nat := (x &&& 2147483647).toNatClampNeg % m
theorem blw_lt {x : Int32} {m : Nat} (h : 0 < m) : blw x m < m := Nat.mod_lt _ h
section ACT
variable {fv : Value} {d : Nat} {h : ix_H} {x : Int32} {m N o k : Nat} {f : Nat → Int32}
theorem m167 (h0 : 0 < m) (hm : m < 2 ^ 31) : xe (ixP fv) d 167 0 [some (.int x), some (.int (nI m))] [] h = some (.inl (some (.int (nI (blw x m)))), h) := by
  have hne : nI m ≠ 0 := fun e => by
    have := (nI_eq (b := 0) (by omega) (by decide)).mp e
    omega
  obtain ⟨a, ha, ha2⟩ := and31 x
  have e : (x &&& 2147483647) - (x &&& 2147483647) / nI m * nI m = nI (blw x m) := by
    unfold blw
    rw [ha, nI_clamp (by omega), pk_div (a := a) (d := m) (by omega) (by omega) (by omega), pk_mul, pk_sub (Nat.div_mul_le_self a m)]
    congr 1
    have := Nat.div_add_mod a m
    rw [Nat.mul_comm] at this
    omega
  simp only [q167_0, q167_1, q167_3, q167_4, q167_6 (st := []), q167_5 hne, i10, eq_self, e]
end ACT
