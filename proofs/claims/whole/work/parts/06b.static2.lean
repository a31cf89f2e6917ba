theorem wd_591 : (Cond.static ({ cls := "java/lang/Integer", name := "bitCount", desc := "(I)I" } : MethodName)) ∈ gt := gt_of (List.mem_of_getElem? (i := 591) (by decide +kernel)) (by decide +kernel)
theorem c_RX11_194 : Cond.methodLink RX11 194 mJ6_bitCount_0f7a4.1 ∈ gt ∧ Cond.static mJ6_bitCount_0f7a4.1 ∈ gt := ⟨wd_590, wd_591⟩
theorem c_RX2_26 : Cond.methodLink RX2 26 mJ6_bitCount_0f7a4.1 ∈ gt ∧ Cond.static mJ6_bitCount_0f7a4.1 ∈ gt := ⟨wd_605, wd_591⟩
