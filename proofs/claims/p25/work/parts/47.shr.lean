/-! a share of people is a number -/
def vfb (a b : Int) : Bool := decide (FP.ddiv (FP.i2d (iI a)) (FP.i2d (iI b)) &&& 0x7fffffffffffffff ≤ 0x7ff0000000000000)
theorem vfb_all : (List.range 61).all (fun a => (List.range 180).all fun b => vfb (a : Int) ((b : Int) + 1)) = true := by decide +kernel
theorem shr_n {a b : Int} (ha : 0 ≤ a ∧ a ≤ 60) (hb : 0 < b ∧ b ≤ 180) : vf_n64 (FP.ddiv (FP.i2d (iI a)) (FP.i2d (iI b))) := by
  have h := List.all_eq_true.mp vfb_all a.toNat (List.mem_range.mpr (by omega))
  have h2 := List.all_eq_true.mp h (b.toNat - 1) (List.mem_range.mpr (by omega))
  rw [show ((a.toNat : Nat) : Int) = a by omega, show ((b.toNat - 1 : Nat) : Int) + 1 = b by omega] at h2
  unfold vf_n64
  unfold vfb at h2
  exact of_decide_eq_true h2
