/-- how many bits of a word below 4096 -/
def popc (x : Nat) : Nat := cnt (fun i => decide (bt x i = 1)) 12
def bcF (x : Int32) : Int32 :=
  let a := x - ((x.toUInt32 >>> ((iZ 1).toUInt32 &&& Int32.toUInt32 31)).toInt32 &&& iZ 1431655765)
  let b := (a &&& iZ 858993459) + ((a.toUInt32 >>> ((iZ 2).toUInt32 &&& Int32.toUInt32 31)).toInt32 &&& iZ 858993459)
  let c := (b + (b.toUInt32 >>> ((iZ 4).toUInt32 &&& Int32.toUInt32 31)).toInt32) &&& iZ 252645135
  let d := c + (c.toUInt32 >>> ((iZ 8).toUInt32 &&& Int32.toUInt32 31)).toInt32
  let e := d + (d.toUInt32 >>> ((iZ 16).toUInt32 &&& Int32.toUInt32 31)).toInt32
  e &&& iZ 63
theorem bcF_all : (List.range 4096).all (fun n => decide (bcF (iZ (n : Int)) = iZ (popc n : Int))) = true := by decide +kernel
theorem bcF_ok {n : Nat} (h : n < 4096) : bcF (iZ (n : Int)) = iZ (popc n : Int) := of_decide_eq_true (List.all_eq_true.mp bcF_all n (List.mem_range.mpr h))
theorem popc_all : (List.range 4096).all (fun n => decide (n = 0 ∨ (popc (n &&& (n - 1)) + 1 = popc n ∧ n &&& (n - 1) < 4096))) = true := by decide +kernel
theorem popc_step {n : Nat} (h : n < 4096) (h0 : n ≠ 0) : popc (n &&& (n - 1)) + 1 = popc n ∧ n &&& (n - 1) < 4096 := (of_decide_eq_true (List.all_eq_true.mp popc_all n (List.mem_range.mpr h))).resolve_left h0
theorem popc_le (n : Nat) : popc n ≤ 12 := cnt_le _ 12
theorem popc_0 : popc 0 = 0 := by decide +kernel
theorem xor_lt {a b : Nat} (ha : a < 4096) (hb : b < 4096) : a ^^^ b < 4096 := Nat.xor_lt_two_pow (n := 12) ha hb
