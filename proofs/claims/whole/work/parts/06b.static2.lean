theorem wd_511 : (Cond.static ({ cls := "java/lang/Integer", name := "bitCount", desc := "(I)I" } : MethodName)) ∈ gt := gt_of (List.mem_of_getElem? (i := 511) (by decide +kernel)) (by decide +kernel)
theorem c_RX8_41 : Cond.methodLink RX8 41 mJ6_bitCount_0f7a4.1 ∈ gt ∧ Cond.static mJ6_bitCount_0f7a4.1 ∈ gt := ⟨wd_510, wd_511⟩
theorem c_RX11_194 : Cond.methodLink RX11 194 mJ6_bitCount_0f7a4.1 ∈ gt ∧ Cond.static mJ6_bitCount_0f7a4.1 ∈ gt := ⟨wd_599, wd_511⟩
theorem c_RX2_26 : Cond.methodLink RX2 26 mJ6_bitCount_0f7a4.1 ∈ gt ∧ Cond.static mJ6_bitCount_0f7a4.1 ∈ gt := ⟨wd_609, wd_511⟩
