/-! a WAY as one long: how in the low three bits, the number above -/
def c_way (k n : Int32) : Int64 := (n.toInt64 <<< ((3 : Int32).toInt64 &&& 63)) ||| k.toInt64
def c_kw (k : Int32) : Prop := k = 0 ∨ k = 1 ∨ k = 2 ∨ k = 3 ∨ k = 4 ∨ k = 5
theorem c_b7 : ∀ i, i < 64 → (7#64).getLsbD i = decide (i < 3) := by decide
theorem c_and7 (y : BitVec 64) : (y <<< 3) &&& 7#64 = 0#64 := by
  apply BitVec.eq_of_getLsbD_eq
  intro i hi
  rw [BitVec.getLsbD_and, BitVec.getLsbD_shiftLeft, c_b7 i hi]
  by_cases h : i < 3
  · simp [h]
  · simp [h]
theorem c_shl (n : Int32) : (n.toInt64 <<< ((3 : Int32).toInt64 &&& 63)).toBitVec = n.toInt64.toBitVec <<< 3 := by
  rw [Int64.toBitVec_shiftLeft]
  have : (((3 : Int32).toInt64 &&& 63).toBitVec.smod 64) = 3#64 := by decide
  rw [this]
  rfl
theorem c_how {k n : Int32} (hk : c_kw k) : (c_way k n &&& 7).toInt32 = k := by
  have e : c_way k n &&& 7 = k.toInt64 := by
    apply Int64.toBitVec_inj.mp
    rw [c_way, Int64.toBitVec_and, Int64.toBitVec_or, c_shl]
    rw [show (7 : Int64).toBitVec = 7#64 from rfl]
    have h1 : (n.toInt64.toBitVec <<< 3 ||| k.toInt64.toBitVec) &&& 7#64 = ((n.toInt64.toBitVec <<< 3) &&& 7#64) ||| (k.toInt64.toBitVec &&& 7#64) := by
      apply BitVec.eq_of_getLsbD_eq
      intro i hi
      simp only [BitVec.getLsbD_and, BitVec.getLsbD_or]
      cases (n.toInt64.toBitVec <<< 3).getLsbD i <;> cases k.toInt64.toBitVec.getLsbD i <;> cases (7#64).getLsbD i <;> rfl
    rw [h1, c_and7, BitVec.zero_or]
    rcases hk with rfl | rfl | rfl | rfl | rfl | rfl <;> decide
  rw [e]
  rcases hk with rfl | rfl | rfl | rfl | rfl | rfl <;> decide
theorem c_num {k n : Int32} (hk : c_kw k) : (c_way k n >>> ((3 : Int32).toInt64 &&& 63)).toInt32 = n := by
  apply Int32.toBitVec_inj.mp
  rw [Int64.toBitVec_toInt32, Int64.toBitVec_shiftRight, c_way, Int64.toBitVec_or, c_shl]
  have : (((3 : Int32).toInt64 &&& 63).toBitVec.smod 64) = 3#64 := by decide
  rw [this]
  apply BitVec.eq_of_getLsbD_eq
  intro i hi
  have hk3 : k.toInt64.toBitVec.getLsbD (3 + i) = false := by
    have : ∀ j, j < 64 → ∀ q : Int32, (q = 0 ∨ q = 1 ∨ q = 2 ∨ q = 3 ∨ q = 4 ∨ q = 5) → 3 ≤ j → q.toInt64.toBitVec.getLsbD j = false := by
      intro j hj q hq h3
      rcases hq with rfl | rfl | rfl | rfl | rfl | rfl <;> revert j <;> decide
    exact this (3 + i) (by omega) k hk (by omega)
  have hs : (n.toInt64.toBitVec <<< 3).getLsbD (3 + i) = n.toInt64.toBitVec.getLsbD i := by
    rw [BitVec.getLsbD_shiftLeft]
    have h1 : decide (3 + i < 64) = true := decide_eq_true (by omega)
    have h2 : decide (3 + i < 3) = false := decide_eq_false (by omega)
    rw [h1, h2, Nat.add_sub_cancel_left]
    rfl
  have hn : n.toInt64.toBitVec.getLsbD i = n.toBitVec.getLsbD i := by
    rw [Int32.toBitVec_toInt64, BitVec.getLsbD_signExtend]
    simp [hi, show i < 64 by omega]
  rw [BitVec.getLsbD_signExtend, decide_eq_true hi, Bool.true_and, if_pos (show i < 64 by omega)]
  rw [BitVec.sshiftRight_eq', BitVec.getLsbD_sshiftRight]
  rw [show (3#64).toNat = 3 from rfl, decide_eq_false (show ¬ 64 ≤ i by omega), if_pos (show 3 + i < 64 by omega)]
  rw [BitVec.getLsbD_or, hk3, hs, hn]
  simp
theorem c_way0 : c_way 0 0 = 0 := by decide
theorem c_cmp {k n : Int32} (hk : c_kw k) (h0 : k = 0 → n = 0) : lg_cmp (c_way k n) 0 = 0 ↔ k = 0 := by
  have e : lg_cmp (c_way k n) 0 = 0 ↔ c_way k n = 0 := by
    unfold lg_cmp
    by_cases h1 : c_way k n > 0
    · rw [if_pos h1]
      refine ⟨fun q => absurd q (by decide), fun q => ?_⟩
      rw [q] at h1
      exact absurd h1 (by decide)
    · rw [if_neg h1]
      by_cases h2 : c_way k n = 0
      · rw [if_pos h2]
        exact ⟨fun _ => h2, fun _ => rfl⟩
      · rw [if_neg h2]
        exact ⟨fun q => absurd q (by decide), fun q => absurd q h2⟩
  rw [e]
  constructor
  · intro q
    have := c_how (n := n) hk
    rw [q] at this
    rw [← this]
    decide
  · intro q
    rw [q, h0 q]
    exact c_way0
