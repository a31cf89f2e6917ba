/-! the law's loop -/
theorem vI_R {v : Value} (h : vI v) : ∃ z : Int, zR z ∧ v = .int (iZ z) := by
  obtain ⟨z, rfl⟩ := h
  exact ⟨(iZ z).toInt, zR_of _, by rw [← iZ_of]⟩
theorem and31 (x : Int32) : ∃ w : Nat, w < 32 ∧ x &&& iZ 31 = iZ (w : Int) := by
  refine ⟨(x.toBitVec &&& 31#32).toNat, ?_, ?_⟩
  · rw [BitVec.toNat_and]
    exact Nat.lt_of_le_of_lt Nat.and_le_right (by decide)
  · rw [nZ]
    apply Int32.toBitVec_inj.mp
    apply BitVec.eq_of_toNat_eq
    have h31 : (iZ 31).toBitVec = 31#32 := by decide
    rw [Int32.toBitVec_and, h31]
    simp [nI]
theorem lcmp_self (x : Int64) : lg_cmp x x = iZ 0 := by
  unfold lg_cmp
  simp [iZ_0]
set_option maxRecDepth 100000 in
set_option maxHeartbeats 4000000 in
theorem k_law0 {κ : Kx} {k : Cx} {σ : St} {Q : State → Prop} (hI : Inv k σ) (hlen : cLen k ≤ 2048) (hxs : ∀ j, zR (cXs k j)) {i : Nat} (hi : i + 3 < cLen k) {cs ss : Nat} (hcs : cs + 20 ≤ 600000) (hss : ss + 9934 ≤ 7302250) (kk : ∀ σ2 : St, Inv k σ2 → V κ k 4 (cs + 20) (ss + 9934) Q 692 [some (.ref (cScr k)), some (.ref (cBase k)), some (.ref (cBase k + 14)), some (.int (iZ (i : Int)))] [] σ2) {nm : String} (S : Ok κ k cL_law 4 RL ret nm 12 600000 7302250) : V κ k 4 cs ss Q 136 [some (.ref (cScr k)), some (.ref (cBase k)), some (.ref (cBase k + 14)), some (.int (iZ (i : Int)))] [] σ := by
  obtain ⟨fsx, hfsx⟩ := hI.x
  have hz1 := hxs ((i : Int) + 1).toNat
  have hz2 := hxs ((i : Int) + 2).toNat
  have hz3 := hxs ((i : Int) + 3).toNat
  obtain ⟨v9, hv9, C1⟩ := bb_begin (L0 := κ.2.1) hI hz1 hz2 hz3
  obtain ⟨z, hz, rfl⟩ := vI_R hv9
  refine r_aload_n S dL_law_136 rfl ?_
  refine r_aload_n S dL_law_137 rfl ?_
  refine r_iload_n S dL_law_138 rfl ?_
  refine r_iconst S dL_law_139 ?_
  refine r_iadd S dL_law_140 ?_
  refine r_sald S dL_law_141 ⟨by omega, by omega⟩ (by omega) ?_
  refine r_aload_n S dL_law_142 rfl ?_
  refine r_iload_n S dL_law_143 rfl ?_
  refine r_iconst S dL_law_144 ?_
  refine r_iadd S dL_law_145 ?_
  refine r_sald S dL_law_146 ⟨by omega, by omega⟩ (by omega) ?_
  refine r_aload_n S dL_law_147 rfl ?_
  refine r_iload_n S dL_law_148 rfl ?_
  refine r_iconst S dL_law_149 ?_
  refine r_iadd S dL_law_150 ?_
  refine r_sald S dL_law_151 ⟨by omega, by omega⟩ (by omega) ?_
  refine r_callV S (C1) k_mX11_begin c_RL_13_10 dL_law_152 (by decide) ⟨by omega, by omega⟩ (by repeat (first | assumption | exact sUp_same | exact sNew_same | refine sUp_ne (by first | assumption | omega) ?_)) rfl rfl (Nat.le_of_ble_eq_true rfl) (fun r σ' hp => ?_)
  obtain ⟨_, rfl, rfl, ⟨fs9, hfs9⟩, C2⟩ := hp
  try simp only [Option.toList_some, Option.toList_none, List.cons_append, List.nil_append]
  refine r_aload_n S dL_law_155 rfl ?_
  refine r_aload_n S dL_law_156 rfl ?_
  refine r_iload_n S dL_law_157 rfl ?_
  refine r_iconst S dL_law_158 ?_
  refine r_iadd S dL_law_159 ?_
  refine r_sald S dL_law_160 ⟨by omega, by omega⟩ (by omega) ?_
  refine r_aload_n S dL_law_161 rfl ?_
  refine r_iload_n S dL_law_162 rfl ?_
  refine r_iconst S dL_law_163 ?_
  refine r_iadd S dL_law_164 ?_
  refine r_sald S dL_law_165 ⟨by omega, by omega⟩ (by omega) ?_
  refine r_aload_n S dL_law_166 rfl ?_
  refine r_iload_n S dL_law_167 rfl ?_
  refine r_iconst S dL_law_168 ?_
  refine r_iadd S dL_law_169 ?_
  refine r_sald S dL_law_170 ⟨by omega, by omega⟩ (by omega) ?_
  refine r_callV S (C2) k_mX12_begin c_RL_17_11 dL_law_171 (by decide) ⟨by omega, by omega⟩ (by repeat (first | assumption | exact sUp_same | exact sNew_same | refine sUp_ne (by first | assumption | omega) ?_)) rfl rfl (Nat.le_of_ble_eq_true rfl) (fun r σ' hp => ?_)
  obtain ⟨_, rfl, rfl, hI2⟩ := hp
  try simp only [Option.toList_some, Option.toList_none, List.cons_append, List.nil_append]
  refine r_icmp_eq S dL_law_174 (tgt := 692) (by decide) hz hz (fun h_174 => ?_) (fun h_174 => ?_)
  · exact V.wide (by omega) (by omega) (kk _ hI2)
  · exact absurd rfl h_174

set_option maxRecDepth 100000 in
set_option maxHeartbeats 4000000 in
theorem k_law1 {κ : Kx} {k : Cx} {σ : St} {Q : State → Prop} (hI : Inv k σ) (hlen : cLen k ≤ 2048) (hxs : ∀ j, zR (cXs k j)) {i : Nat} (hi : i + 3 < cLen k) {cs ss : Nat} (hcs : cs + 20 ≤ 600000) (hss : ss + 9934 ≤ 7302250) (kk : ∀ σ2 : St, Inv k σ2 → V κ k 4 (cs + 20) (ss + 9934) Q 692 [some (.ref (cScr k)), some (.ref (cBase k)), some (.ref (cBase k + 14)), some (.int (iZ (i : Int)))] [] σ2) {nm : String} (S : Ok κ k cL_law 4 RL ret nm 12 600000 7302250) : V κ k 4 cs ss Q 179 [some (.ref (cScr k)), some (.ref (cBase k)), some (.ref (cBase k + 14)), some (.int (iZ (i : Int)))] [] σ := by
  obtain ⟨fsx, hfsx⟩ := hI.x
  have hz1 := hxs ((i : Int) + 1).toNat
  have hz2 := hxs ((i : Int) + 2).toNat
  have hz3 := hxs ((i : Int) + 3).toNat
  refine r_aload_n S dL_law_179 rfl ?_
  refine r_aload_n S dL_law_180 rfl ?_
  refine r_iload_n S dL_law_181 rfl ?_
  refine r_iconst S dL_law_182 ?_
  refine r_iadd S dL_law_183 ?_
  refine r_sald S dL_law_184 ⟨by omega, by omega⟩ (by omega) ?_
  refine r_aload_n S dL_law_185 rfl ?_
  refine r_iload_n S dL_law_186 rfl ?_
  refine r_iconst S dL_law_187 ?_
  refine r_iadd S dL_law_188 ?_
  refine r_sald S dL_law_189 ⟨by omega, by omega⟩ (by omega) ?_
  refine r_if_eq S dL_law_190 (tgt := 197) (by decide) hz2 (fun h_190 => ?_) (fun h_190 => ?_)
  · refine r_iconst S dL_law_197 ?_
    refine r_aload_n S dL_law_198 rfl ?_
    refine r_iload_n S dL_law_199 rfl ?_
    refine r_iconst S dL_law_200 ?_
    refine r_iadd S dL_law_201 ?_
    refine r_sald S dL_law_202 ⟨by omega, by omega⟩ (by omega) ?_
    refine r_if_eq S dL_law_203 (tgt := 210) (by decide) hz3 (fun h_203 => ?_) (fun h_203 => ?_)
    · refine r_iconst S dL_law_210 ?_
      obtain ⟨v9, hv9, C1⟩ := bb_cost (L0 := κ.2.1) hI hz1 (y := 0) (b := 0) (by decide) (by decide)
      obtain ⟨z, hz, rfl⟩ := vI_R hv9
      refine r_callV S (C1) k_mX11_cost c_RL_18_10 dL_law_211 (by decide) ⟨by omega, by omega⟩ (by repeat (first | assumption | exact sUp_same | exact sNew_same | refine sUp_ne (by first | assumption | omega) ?_)) rfl rfl (Nat.le_of_ble_eq_true rfl) (fun r σ' hp => ?_)
      obtain ⟨_, rfl, rfl, ⟨fs9, hfs9⟩, C2⟩ := hp
      try simp only [Option.toList_some, Option.toList_none, List.cons_append, List.nil_append]
      refine r_aload_n S dL_law_214 rfl ?_
      refine r_aload_n S dL_law_215 rfl ?_
      refine r_iload_n S dL_law_216 rfl ?_
      refine r_iconst S dL_law_217 ?_
      refine r_iadd S dL_law_218 ?_
      refine r_sald S dL_law_219 ⟨by omega, by omega⟩ (by omega) ?_
      refine r_aload_n S dL_law_220 rfl ?_
      refine r_iload_n S dL_law_221 rfl ?_
      refine r_iconst S dL_law_222 ?_
      refine r_iadd S dL_law_223 ?_
      refine r_sald S dL_law_224 ⟨by omega, by omega⟩ (by omega) ?_
      refine r_if_eq S dL_law_225 (tgt := 232) (by decide) hz2 (fun h_225 => ?_) (fun h_225 => ?_)
      · refine r_iconst S dL_law_232 ?_
        refine r_aload_n S dL_law_233 rfl ?_
        refine r_iload_n S dL_law_234 rfl ?_
        refine r_iconst S dL_law_235 ?_
        refine r_iadd S dL_law_236 ?_
        refine r_sald S dL_law_237 ⟨by omega, by omega⟩ (by omega) ?_
        refine r_if_eq S dL_law_238 (tgt := 245) (by decide) hz3 (fun h_238 => ?_) (fun h_238 => ?_)
        · refine r_iconst S dL_law_245 ?_
          refine r_callV S (C2) k_mX12_cost c_RL_22_11 dL_law_246 (by decide) ⟨by omega, by omega⟩ (by repeat (first | assumption | exact sUp_same | exact sNew_same | refine sUp_ne (by first | assumption | omega) ?_)) rfl rfl (Nat.le_of_ble_eq_true rfl) (fun r σ' hp => ?_)
          obtain ⟨_, rfl, rfl, hI2⟩ := hp
          try simp only [Option.toList_some, Option.toList_none, List.cons_append, List.nil_append]
          refine r_icmp_eq S dL_law_249 (tgt := 692) (by decide) hz hz (fun h_249 => ?_) (fun h_249 => ?_)
          · exact V.wide (by omega) (by omega) (kk _ hI2)
          · exact absurd rfl h_249
        · omega
      · omega
    · refine r_iconst S dL_law_206 ?_
      refine r_goto S dL_law_207 (tgt := 211) (by decide) ?_
      obtain ⟨v9, hv9, C1⟩ := bb_cost (L0 := κ.2.1) hI hz1 (y := 0) (b := 1) (by decide) (by decide)
      obtain ⟨z, hz, rfl⟩ := vI_R hv9
      refine r_callV S (C1) k_mX11_cost c_RL_18_10 dL_law_211 (by decide) ⟨by omega, by omega⟩ (by repeat (first | assumption | exact sUp_same | exact sNew_same | refine sUp_ne (by first | assumption | omega) ?_)) rfl rfl (Nat.le_of_ble_eq_true rfl) (fun r σ' hp => ?_)
      obtain ⟨_, rfl, rfl, ⟨fs9, hfs9⟩, C2⟩ := hp
      try simp only [Option.toList_some, Option.toList_none, List.cons_append, List.nil_append]
      refine r_aload_n S dL_law_214 rfl ?_
      refine r_aload_n S dL_law_215 rfl ?_
      refine r_iload_n S dL_law_216 rfl ?_
      refine r_iconst S dL_law_217 ?_
      refine r_iadd S dL_law_218 ?_
      refine r_sald S dL_law_219 ⟨by omega, by omega⟩ (by omega) ?_
      refine r_aload_n S dL_law_220 rfl ?_
      refine r_iload_n S dL_law_221 rfl ?_
      refine r_iconst S dL_law_222 ?_
      refine r_iadd S dL_law_223 ?_
      refine r_sald S dL_law_224 ⟨by omega, by omega⟩ (by omega) ?_
      refine r_if_eq S dL_law_225 (tgt := 232) (by decide) hz2 (fun h_225 => ?_) (fun h_225 => ?_)
      · refine r_iconst S dL_law_232 ?_
        refine r_aload_n S dL_law_233 rfl ?_
        refine r_iload_n S dL_law_234 rfl ?_
        refine r_iconst S dL_law_235 ?_
        refine r_iadd S dL_law_236 ?_
        refine r_sald S dL_law_237 ⟨by omega, by omega⟩ (by omega) ?_
        refine r_if_eq S dL_law_238 (tgt := 245) (by decide) hz3 (fun h_238 => ?_) (fun h_238 => ?_)
        · omega
        · refine r_iconst S dL_law_241 ?_
          refine r_goto S dL_law_242 (tgt := 246) (by decide) ?_
          refine r_callV S (C2) k_mX12_cost c_RL_22_11 dL_law_246 (by decide) ⟨by omega, by omega⟩ (by repeat (first | assumption | exact sUp_same | exact sNew_same | refine sUp_ne (by first | assumption | omega) ?_)) rfl rfl (Nat.le_of_ble_eq_true rfl) (fun r σ' hp => ?_)
          obtain ⟨_, rfl, rfl, hI2⟩ := hp
          try simp only [Option.toList_some, Option.toList_none, List.cons_append, List.nil_append]
          refine r_icmp_eq S dL_law_249 (tgt := 692) (by decide) hz hz (fun h_249 => ?_) (fun h_249 => ?_)
          · exact V.wide (by omega) (by omega) (kk _ hI2)
          · exact absurd rfl h_249
      · omega
  · refine r_iconst S dL_law_193 ?_
    refine r_goto S dL_law_194 (tgt := 198) (by decide) ?_
    refine r_aload_n S dL_law_198 rfl ?_
    refine r_iload_n S dL_law_199 rfl ?_
    refine r_iconst S dL_law_200 ?_
    refine r_iadd S dL_law_201 ?_
    refine r_sald S dL_law_202 ⟨by omega, by omega⟩ (by omega) ?_
    refine r_if_eq S dL_law_203 (tgt := 210) (by decide) hz3 (fun h_203 => ?_) (fun h_203 => ?_)
    · refine r_iconst S dL_law_210 ?_
      obtain ⟨v9, hv9, C1⟩ := bb_cost (L0 := κ.2.1) hI hz1 (y := 1) (b := 0) (by decide) (by decide)
      obtain ⟨z, hz, rfl⟩ := vI_R hv9
      refine r_callV S (C1) k_mX11_cost c_RL_18_10 dL_law_211 (by decide) ⟨by omega, by omega⟩ (by repeat (first | assumption | exact sUp_same | exact sNew_same | refine sUp_ne (by first | assumption | omega) ?_)) rfl rfl (Nat.le_of_ble_eq_true rfl) (fun r σ' hp => ?_)
      obtain ⟨_, rfl, rfl, ⟨fs9, hfs9⟩, C2⟩ := hp
      try simp only [Option.toList_some, Option.toList_none, List.cons_append, List.nil_append]
      refine r_aload_n S dL_law_214 rfl ?_
      refine r_aload_n S dL_law_215 rfl ?_
      refine r_iload_n S dL_law_216 rfl ?_
      refine r_iconst S dL_law_217 ?_
      refine r_iadd S dL_law_218 ?_
      refine r_sald S dL_law_219 ⟨by omega, by omega⟩ (by omega) ?_
      refine r_aload_n S dL_law_220 rfl ?_
      refine r_iload_n S dL_law_221 rfl ?_
      refine r_iconst S dL_law_222 ?_
      refine r_iadd S dL_law_223 ?_
      refine r_sald S dL_law_224 ⟨by omega, by omega⟩ (by omega) ?_
      refine r_if_eq S dL_law_225 (tgt := 232) (by decide) hz2 (fun h_225 => ?_) (fun h_225 => ?_)
      · omega
      · refine r_iconst S dL_law_228 ?_
        refine r_goto S dL_law_229 (tgt := 233) (by decide) ?_
        refine r_aload_n S dL_law_233 rfl ?_
        refine r_iload_n S dL_law_234 rfl ?_
        refine r_iconst S dL_law_235 ?_
        refine r_iadd S dL_law_236 ?_
        refine r_sald S dL_law_237 ⟨by omega, by omega⟩ (by omega) ?_
        refine r_if_eq S dL_law_238 (tgt := 245) (by decide) hz3 (fun h_238 => ?_) (fun h_238 => ?_)
        · refine r_iconst S dL_law_245 ?_
          refine r_callV S (C2) k_mX12_cost c_RL_22_11 dL_law_246 (by decide) ⟨by omega, by omega⟩ (by repeat (first | assumption | exact sUp_same | exact sNew_same | refine sUp_ne (by first | assumption | omega) ?_)) rfl rfl (Nat.le_of_ble_eq_true rfl) (fun r σ' hp => ?_)
          obtain ⟨_, rfl, rfl, hI2⟩ := hp
          try simp only [Option.toList_some, Option.toList_none, List.cons_append, List.nil_append]
          refine r_icmp_eq S dL_law_249 (tgt := 692) (by decide) hz hz (fun h_249 => ?_) (fun h_249 => ?_)
          · exact V.wide (by omega) (by omega) (kk _ hI2)
          · exact absurd rfl h_249
        · omega
    · refine r_iconst S dL_law_206 ?_
      refine r_goto S dL_law_207 (tgt := 211) (by decide) ?_
      obtain ⟨v9, hv9, C1⟩ := bb_cost (L0 := κ.2.1) hI hz1 (y := 1) (b := 1) (by decide) (by decide)
      obtain ⟨z, hz, rfl⟩ := vI_R hv9
      refine r_callV S (C1) k_mX11_cost c_RL_18_10 dL_law_211 (by decide) ⟨by omega, by omega⟩ (by repeat (first | assumption | exact sUp_same | exact sNew_same | refine sUp_ne (by first | assumption | omega) ?_)) rfl rfl (Nat.le_of_ble_eq_true rfl) (fun r σ' hp => ?_)
      obtain ⟨_, rfl, rfl, ⟨fs9, hfs9⟩, C2⟩ := hp
      try simp only [Option.toList_some, Option.toList_none, List.cons_append, List.nil_append]
      refine r_aload_n S dL_law_214 rfl ?_
      refine r_aload_n S dL_law_215 rfl ?_
      refine r_iload_n S dL_law_216 rfl ?_
      refine r_iconst S dL_law_217 ?_
      refine r_iadd S dL_law_218 ?_
      refine r_sald S dL_law_219 ⟨by omega, by omega⟩ (by omega) ?_
      refine r_aload_n S dL_law_220 rfl ?_
      refine r_iload_n S dL_law_221 rfl ?_
      refine r_iconst S dL_law_222 ?_
      refine r_iadd S dL_law_223 ?_
      refine r_sald S dL_law_224 ⟨by omega, by omega⟩ (by omega) ?_
      refine r_if_eq S dL_law_225 (tgt := 232) (by decide) hz2 (fun h_225 => ?_) (fun h_225 => ?_)
      · omega
      · refine r_iconst S dL_law_228 ?_
        refine r_goto S dL_law_229 (tgt := 233) (by decide) ?_
        refine r_aload_n S dL_law_233 rfl ?_
        refine r_iload_n S dL_law_234 rfl ?_
        refine r_iconst S dL_law_235 ?_
        refine r_iadd S dL_law_236 ?_
        refine r_sald S dL_law_237 ⟨by omega, by omega⟩ (by omega) ?_
        refine r_if_eq S dL_law_238 (tgt := 245) (by decide) hz3 (fun h_238 => ?_) (fun h_238 => ?_)
        · omega
        · refine r_iconst S dL_law_241 ?_
          refine r_goto S dL_law_242 (tgt := 246) (by decide) ?_
          refine r_callV S (C2) k_mX12_cost c_RL_22_11 dL_law_246 (by decide) ⟨by omega, by omega⟩ (by repeat (first | assumption | exact sUp_same | exact sNew_same | refine sUp_ne (by first | assumption | omega) ?_)) rfl rfl (Nat.le_of_ble_eq_true rfl) (fun r σ' hp => ?_)
          obtain ⟨_, rfl, rfl, hI2⟩ := hp
          try simp only [Option.toList_some, Option.toList_none, List.cons_append, List.nil_append]
          refine r_icmp_eq S dL_law_249 (tgt := 692) (by decide) hz hz (fun h_249 => ?_) (fun h_249 => ?_)
          · exact V.wide (by omega) (by omega) (kk _ hI2)
          · exact absurd rfl h_249

set_option maxRecDepth 100000 in
set_option maxHeartbeats 4000000 in
theorem k_law2 {κ : Kx} {k : Cx} {σ : St} {Q : State → Prop} (hI : Inv k σ) (hlen : cLen k ≤ 2048) (hxs : ∀ j, zR (cXs k j)) {i : Nat} (hi : i + 3 < cLen k) {cs ss : Nat} (hcs : cs + 20 ≤ 600000) (hss : ss + 9934 ≤ 7302250) (kk : ∀ σ2 : St, Inv k σ2 → V κ k 4 (cs + 20) (ss + 9934) Q 692 [some (.ref (cScr k)), some (.ref (cBase k)), some (.ref (cBase k + 14)), some (.int (iZ (i : Int)))] [] σ2) {nm : String} (S : Ok κ k cL_law 4 RL ret nm 12 600000 7302250) : V κ k 4 cs ss Q 254 [some (.ref (cScr k)), some (.ref (cBase k)), some (.ref (cBase k + 14)), some (.int (iZ (i : Int)))] [] σ := by
  obtain ⟨fsx, hfsx⟩ := hI.x
  have hz1 := hxs ((i : Int) + 1).toNat
  obtain ⟨v9, hv9, C1⟩ := bb_ask (L0 := κ.2.1) hI hz1
  obtain ⟨z, hz, rfl⟩ := vI_R hv9
  refine r_aload_n S dL_law_254 rfl ?_
  refine r_aload_n S dL_law_255 rfl ?_
  refine r_iload_n S dL_law_256 rfl ?_
  refine r_iconst S dL_law_257 ?_
  refine r_iadd S dL_law_258 ?_
  refine r_sald S dL_law_259 ⟨by omega, by omega⟩ (by omega) ?_
  refine r_callV S (C1) k_mX11_ask c_RL_23_10 dL_law_260 (by decide) ⟨by omega, by omega⟩ (by repeat (first | assumption | exact sUp_same | exact sNew_same | refine sUp_ne (by first | assumption | omega) ?_)) rfl rfl (Nat.le_of_ble_eq_true rfl) (fun r σ' hp => ?_)
  obtain ⟨_, rfl, rfl, ⟨fs9, hfs9⟩, C2⟩ := hp
  try simp only [Option.toList_some, Option.toList_none, List.cons_append, List.nil_append]
  refine r_aload_n S dL_law_263 rfl ?_
  refine r_aload_n S dL_law_264 rfl ?_
  refine r_iload_n S dL_law_265 rfl ?_
  refine r_iconst S dL_law_266 ?_
  refine r_iadd S dL_law_267 ?_
  refine r_sald S dL_law_268 ⟨by omega, by omega⟩ (by omega) ?_
  refine r_callV S (C2) k_mX12_ask c_RL_27_11 dL_law_269 (by decide) ⟨by omega, by omega⟩ (by repeat (first | assumption | exact sUp_same | exact sNew_same | refine sUp_ne (by first | assumption | omega) ?_)) rfl rfl (Nat.le_of_ble_eq_true rfl) (fun r σ' hp => ?_)
  obtain ⟨_, rfl, rfl, hI2⟩ := hp
  try simp only [Option.toList_some, Option.toList_none, List.cons_append, List.nil_append]
  refine r_icmp_eq S dL_law_272 (tgt := 692) (by decide) hz hz (fun h_272 => ?_) (fun h_272 => ?_)
  · exact V.wide (by omega) (by omega) (kk _ hI2)
  · exact absurd rfl h_272

set_option maxRecDepth 100000 in
set_option maxHeartbeats 4000000 in
theorem k_law3 {κ : Kx} {k : Cx} {σ : St} {Q : State → Prop} (hI : Inv k σ) (hlen : cLen k ≤ 2048) (hxs : ∀ j, zR (cXs k j)) {i : Nat} (hi : i + 3 < cLen k) {cs ss : Nat} (hcs : cs + 20 ≤ 600000) (hss : ss + 9934 ≤ 7302250) (kk : ∀ σ2 : St, Inv k σ2 → V κ k 4 (cs + 20) (ss + 9934) Q 692 [some (.ref (cScr k)), some (.ref (cBase k)), some (.ref (cBase k + 14)), some (.int (iZ (i : Int)))] [] σ2) {nm : String} (S : Ok κ k cL_law 4 RL ret nm 12 600000 7302250) : V κ k 4 cs ss Q 277 [some (.ref (cScr k)), some (.ref (cBase k)), some (.ref (cBase k + 14)), some (.int (iZ (i : Int)))] [] σ := by
  obtain ⟨fsx, hfsx⟩ := hI.x
  have hz1 := hxs ((i : Int) + 1).toNat
  refine r_aload_n S dL_law_277 rfl ?_
  refine r_aload_n S dL_law_278 rfl ?_
  refine r_iload_n S dL_law_279 rfl ?_
  refine r_iconst S dL_law_280 ?_
  refine r_iadd S dL_law_281 ?_
  refine r_sald S dL_law_282 ⟨by omega, by omega⟩ (by omega) ?_
  refine r_if_eq S dL_law_283 (tgt := 290) (by decide) hz1 (fun h_283 => ?_) (fun h_283 => ?_)
  · refine r_iconst S dL_law_290 ?_
    obtain ⟨v9, hv9, C1⟩ := bb_answer (L0 := κ.2.1) hI (y := 0) (by decide)
    obtain ⟨z, hz, rfl⟩ := vI_R hv9
    refine r_callV S (C1) k_mX11_answer c_RL_28_10 dL_law_291 (by decide) ⟨by omega, by omega⟩ (by repeat (first | assumption | exact sUp_same | exact sNew_same | refine sUp_ne (by first | assumption | omega) ?_)) rfl rfl (Nat.le_of_ble_eq_true rfl) (fun r σ' hp => ?_)
    obtain ⟨_, rfl, rfl, ⟨fs9, hfs9⟩, C2⟩ := hp
    try simp only [Option.toList_some, Option.toList_none, List.cons_append, List.nil_append]
    refine r_aload_n S dL_law_294 rfl ?_
    refine r_aload_n S dL_law_295 rfl ?_
    refine r_iload_n S dL_law_296 rfl ?_
    refine r_iconst S dL_law_297 ?_
    refine r_iadd S dL_law_298 ?_
    refine r_sald S dL_law_299 ⟨by omega, by omega⟩ (by omega) ?_
    refine r_if_eq S dL_law_300 (tgt := 307) (by decide) hz1 (fun h_300 => ?_) (fun h_300 => ?_)
    · refine r_iconst S dL_law_307 ?_
      refine r_callV S (C2) k_mX12_answer c_RL_32_11 dL_law_308 (by decide) ⟨by omega, by omega⟩ (by repeat (first | assumption | exact sUp_same | exact sNew_same | refine sUp_ne (by first | assumption | omega) ?_)) rfl rfl (Nat.le_of_ble_eq_true rfl) (fun r σ' hp => ?_)
      obtain ⟨_, rfl, rfl, hI2⟩ := hp
      try simp only [Option.toList_some, Option.toList_none, List.cons_append, List.nil_append]
      refine r_icmp_eq S dL_law_311 (tgt := 692) (by decide) hz hz (fun h_311 => ?_) (fun h_311 => ?_)
      · exact V.wide (by omega) (by omega) (kk _ hI2)
      · exact absurd rfl h_311
    · omega
  · refine r_iconst S dL_law_286 ?_
    refine r_goto S dL_law_287 (tgt := 291) (by decide) ?_
    obtain ⟨v9, hv9, C1⟩ := bb_answer (L0 := κ.2.1) hI (y := 1) (by decide)
    obtain ⟨z, hz, rfl⟩ := vI_R hv9
    refine r_callV S (C1) k_mX11_answer c_RL_28_10 dL_law_291 (by decide) ⟨by omega, by omega⟩ (by repeat (first | assumption | exact sUp_same | exact sNew_same | refine sUp_ne (by first | assumption | omega) ?_)) rfl rfl (Nat.le_of_ble_eq_true rfl) (fun r σ' hp => ?_)
    obtain ⟨_, rfl, rfl, ⟨fs9, hfs9⟩, C2⟩ := hp
    try simp only [Option.toList_some, Option.toList_none, List.cons_append, List.nil_append]
    refine r_aload_n S dL_law_294 rfl ?_
    refine r_aload_n S dL_law_295 rfl ?_
    refine r_iload_n S dL_law_296 rfl ?_
    refine r_iconst S dL_law_297 ?_
    refine r_iadd S dL_law_298 ?_
    refine r_sald S dL_law_299 ⟨by omega, by omega⟩ (by omega) ?_
    refine r_if_eq S dL_law_300 (tgt := 307) (by decide) hz1 (fun h_300 => ?_) (fun h_300 => ?_)
    · omega
    · refine r_iconst S dL_law_303 ?_
      refine r_goto S dL_law_304 (tgt := 308) (by decide) ?_
      refine r_callV S (C2) k_mX12_answer c_RL_32_11 dL_law_308 (by decide) ⟨by omega, by omega⟩ (by repeat (first | assumption | exact sUp_same | exact sNew_same | refine sUp_ne (by first | assumption | omega) ?_)) rfl rfl (Nat.le_of_ble_eq_true rfl) (fun r σ' hp => ?_)
      obtain ⟨_, rfl, rfl, hI2⟩ := hp
      try simp only [Option.toList_some, Option.toList_none, List.cons_append, List.nil_append]
      refine r_icmp_eq S dL_law_311 (tgt := 692) (by decide) hz hz (fun h_311 => ?_) (fun h_311 => ?_)
      · exact V.wide (by omega) (by omega) (kk _ hI2)
      · exact absurd rfl h_311

set_option maxRecDepth 100000 in
set_option maxHeartbeats 4000000 in
theorem k_law4 {κ : Kx} {k : Cx} {σ : St} {Q : State → Prop} (hI : Inv k σ) (hlen : cLen k ≤ 2048) (hxs : ∀ j, zR (cXs k j)) {i : Nat} (hi : i + 3 < cLen k) {cs ss : Nat} (hcs : cs + 20 ≤ 600000) (hss : ss + 9934 ≤ 7302250) (kk : ∀ σ2 : St, Inv k σ2 → V κ k 4 (cs + 20) (ss + 9934) Q 692 [some (.ref (cScr k)), some (.ref (cBase k)), some (.ref (cBase k + 14)), some (.int (iZ (i : Int)))] [] σ2) {nm : String} (S : Ok κ k cL_law 4 RL ret nm 12 600000 7302250) : V κ k 4 cs ss Q 316 [some (.ref (cScr k)), some (.ref (cBase k)), some (.ref (cBase k + 14)), some (.int (iZ (i : Int)))] [] σ := by
  obtain ⟨fsx, hfsx⟩ := hI.x
  obtain ⟨v9, hv9, C1⟩ := bb_back (L0 := κ.2.1) hI
  obtain ⟨z, hz, rfl⟩ := vI_R hv9
  refine r_aload_n S dL_law_316 rfl ?_
  refine r_callV S (C1) k_mX11_back c_RL_33_10 dL_law_317 (by decide) ⟨by omega, by omega⟩ (by repeat (first | assumption | exact sUp_same | exact sNew_same | refine sUp_ne (by first | assumption | omega) ?_)) rfl rfl (Nat.le_of_ble_eq_true rfl) (fun r σ' hp => ?_)
  obtain ⟨_, rfl, rfl, ⟨fs9, hfs9⟩, C2⟩ := hp
  try simp only [Option.toList_some, Option.toList_none, List.cons_append, List.nil_append]
  refine r_aload_n S dL_law_320 rfl ?_
  refine r_callV S (C2) k_mX12_back c_RL_37_11 dL_law_321 (by decide) ⟨by omega, by omega⟩ (by repeat (first | assumption | exact sUp_same | exact sNew_same | refine sUp_ne (by first | assumption | omega) ?_)) rfl rfl (Nat.le_of_ble_eq_true rfl) (fun r σ' hp => ?_)
  obtain ⟨_, rfl, rfl, hI2⟩ := hp
  try simp only [Option.toList_some, Option.toList_none, List.cons_append, List.nil_append]
  refine r_icmp_eq S dL_law_324 (tgt := 692) (by decide) hz hz (fun h_324 => ?_) (fun h_324 => ?_)
  · exact V.wide (by omega) (by omega) (kk _ hI2)
  · exact absurd rfl h_324

set_option maxRecDepth 100000 in
set_option maxHeartbeats 4000000 in
theorem k_law5 {κ : Kx} {k : Cx} {σ : St} {Q : State → Prop} (hI : Inv k σ) (hlen : cLen k ≤ 2048) (hxs : ∀ j, zR (cXs k j)) {i : Nat} (hi : i + 3 < cLen k) {cs ss : Nat} (hcs : cs + 20 ≤ 600000) (hss : ss + 9934 ≤ 7302250) (kk : ∀ σ2 : St, Inv k σ2 → V κ k 4 (cs + 20) (ss + 9934) Q 692 [some (.ref (cScr k)), some (.ref (cBase k)), some (.ref (cBase k + 14)), some (.int (iZ (i : Int)))] [] σ2) {nm : String} (S : Ok κ k cL_law 4 RL ret nm 12 600000 7302250) : V κ k 4 cs ss Q 329 [some (.ref (cScr k)), some (.ref (cBase k)), some (.ref (cBase k + 14)), some (.int (iZ (i : Int)))] [] σ := by
  obtain ⟨fsx, hfsx⟩ := hI.x
  have hz1 := hxs ((i : Int) + 1).toNat
  obtain ⟨v9, hv9, C1⟩ := bb_left (L0 := κ.2.1) hI hz1
  obtain ⟨z, hz, rfl⟩ := vI_R hv9
  refine r_aload_n S dL_law_329 rfl ?_
  refine r_aload_n S dL_law_330 rfl ?_
  refine r_iload_n S dL_law_331 rfl ?_
  refine r_iconst S dL_law_332 ?_
  refine r_iadd S dL_law_333 ?_
  refine r_sald S dL_law_334 ⟨by omega, by omega⟩ (by omega) ?_
  refine r_callV S (C1) k_mX11_left c_RL_38_10 dL_law_335 (by decide) ⟨by omega, by omega⟩ (by repeat (first | assumption | exact sUp_same | exact sNew_same | refine sUp_ne (by first | assumption | omega) ?_)) rfl rfl (Nat.le_of_ble_eq_true rfl) (fun r σ' hp => ?_)
  obtain ⟨_, rfl, rfl, ⟨fs9, hfs9⟩, C2⟩ := hp
  try simp only [Option.toList_some, Option.toList_none, List.cons_append, List.nil_append]
  refine r_aload_n S dL_law_338 rfl ?_
  refine r_aload_n S dL_law_339 rfl ?_
  refine r_iload_n S dL_law_340 rfl ?_
  refine r_iconst S dL_law_341 ?_
  refine r_iadd S dL_law_342 ?_
  refine r_sald S dL_law_343 ⟨by omega, by omega⟩ (by omega) ?_
  refine r_callV S (C2) k_mX12_left c_RL_41_11 dL_law_344 (by decide) ⟨by omega, by omega⟩ (by repeat (first | assumption | exact sUp_same | exact sNew_same | refine sUp_ne (by first | assumption | omega) ?_)) rfl rfl (Nat.le_of_ble_eq_true rfl) (fun r σ' hp => ?_)
  obtain ⟨_, rfl, rfl, hI2⟩ := hp
  try simp only [Option.toList_some, Option.toList_none, List.cons_append, List.nil_append]
  refine r_icmp_eq S dL_law_347 (tgt := 692) (by decide) hz hz (fun h_347 => ?_) (fun h_347 => ?_)
  · exact V.wide (by omega) (by omega) (kk _ hI2)
  · exact absurd rfl h_347

set_option maxRecDepth 100000 in
set_option maxHeartbeats 4000000 in
theorem k_law6 {κ : Kx} {k : Cx} {σ : St} {Q : State → Prop} (hI : Inv k σ) (hlen : cLen k ≤ 2048) (hxs : ∀ j, zR (cXs k j)) {i : Nat} (hi : i + 3 < cLen k) {cs ss : Nat} (hcs : cs + 20 ≤ 600000) (hss : ss + 9934 ≤ 7302250) (kk : ∀ σ2 : St, Inv k σ2 → V κ k 4 (cs + 20) (ss + 9934) Q 692 [some (.ref (cScr k)), some (.ref (cBase k)), some (.ref (cBase k + 14)), some (.int (iZ (i : Int)))] [] σ2) {nm : String} (S : Ok κ k cL_law 4 RL ret nm 12 600000 7302250) : V κ k 4 cs ss Q 352 [some (.ref (cScr k)), some (.ref (cBase k)), some (.ref (cBase k + 14)), some (.int (iZ (i : Int)))] [] σ := by
  obtain ⟨fsx, hfsx⟩ := hI.x
  have hz1 := hxs ((i : Int) + 1).toNat
  obtain ⟨v9, hv9, C1⟩ := bb_state (L0 := κ.2.1) hI hz1
  obtain ⟨z, hz, rfl⟩ := vI_R hv9
  refine r_aload_n S dL_law_352 rfl ?_
  refine r_aload_n S dL_law_353 rfl ?_
  refine r_iload_n S dL_law_354 rfl ?_
  refine r_iconst S dL_law_355 ?_
  refine r_iadd S dL_law_356 ?_
  refine r_sald S dL_law_357 ⟨by omega, by omega⟩ (by omega) ?_
  refine r_callV S (C1) k_mX11_state c_RL_42_10 dL_law_358 (by decide) ⟨by omega, by omega⟩ (by repeat (first | assumption | exact sUp_same | exact sNew_same | refine sUp_ne (by first | assumption | omega) ?_)) rfl rfl (Nat.le_of_ble_eq_true rfl) (fun r σ' hp => ?_)
  obtain ⟨_, rfl, rfl, ⟨fs9, hfs9⟩, C2⟩ := hp
  try simp only [Option.toList_some, Option.toList_none, List.cons_append, List.nil_append]
  refine r_aload_n S dL_law_361 rfl ?_
  refine r_aload_n S dL_law_362 rfl ?_
  refine r_iload_n S dL_law_363 rfl ?_
  refine r_iconst S dL_law_364 ?_
  refine r_iadd S dL_law_365 ?_
  refine r_sald S dL_law_366 ⟨by omega, by omega⟩ (by omega) ?_
  refine r_callV S (C2) k_mX12_state c_RL_45_11 dL_law_367 (by decide) ⟨by omega, by omega⟩ (by repeat (first | assumption | exact sUp_same | exact sNew_same | refine sUp_ne (by first | assumption | omega) ?_)) rfl rfl (Nat.le_of_ble_eq_true rfl) (fun r σ' hp => ?_)
  obtain ⟨_, rfl, rfl, hI2⟩ := hp
  try simp only [Option.toList_some, Option.toList_none, List.cons_append, List.nil_append]
  refine r_icmp_eq S dL_law_370 (tgt := 692) (by decide) hz hz (fun h_370 => ?_) (fun h_370 => ?_)
  · exact V.wide (by omega) (by omega) (kk _ hI2)
  · exact absurd rfl h_370

set_option maxRecDepth 100000 in
set_option maxHeartbeats 4000000 in
theorem k_law7 {κ : Kx} {k : Cx} {σ : St} {Q : State → Prop} (hI : Inv k σ) (hlen : cLen k ≤ 2048) (hxs : ∀ j, zR (cXs k j)) {i : Nat} (hi : i + 3 < cLen k) {cs ss : Nat} (hcs : cs + 20 ≤ 600000) (hss : ss + 9934 ≤ 7302250) (kk : ∀ σ2 : St, Inv k σ2 → V κ k 4 (cs + 20) (ss + 9934) Q 692 [some (.ref (cScr k)), some (.ref (cBase k)), some (.ref (cBase k + 14)), some (.int (iZ (i : Int)))] [] σ2) {nm : String} (S : Ok κ k cL_law 4 RL ret nm 12 600000 7302250) : V κ k 4 cs ss Q 375 [some (.ref (cScr k)), some (.ref (cBase k)), some (.ref (cBase k + 14)), some (.int (iZ (i : Int)))] [] σ := by
  obtain ⟨fsx, hfsx⟩ := hI.x
  obtain ⟨v9, hv9, C1⟩ := bb_found (L0 := κ.2.1) hI
  obtain ⟨z, hz, rfl⟩ := vI_R hv9
  refine r_aload_n S dL_law_375 rfl ?_
  refine r_callV S (C1) k_mX11_found c_RL_46_10 dL_law_376 (by decide) ⟨by omega, by omega⟩ (by repeat (first | assumption | exact sUp_same | exact sNew_same | refine sUp_ne (by first | assumption | omega) ?_)) rfl rfl (Nat.le_of_ble_eq_true rfl) (fun r σ' hp => ?_)
  obtain ⟨_, rfl, rfl, ⟨fs9, hfs9⟩, C2⟩ := hp
  try simp only [Option.toList_some, Option.toList_none, List.cons_append, List.nil_append]
  refine r_aload_n S dL_law_379 rfl ?_
  refine r_callV S (C2) k_mX12_found c_RL_49_11 dL_law_380 (by decide) ⟨by omega, by omega⟩ (by repeat (first | assumption | exact sUp_same | exact sNew_same | refine sUp_ne (by first | assumption | omega) ?_)) rfl rfl (Nat.le_of_ble_eq_true rfl) (fun r σ' hp => ?_)
  obtain ⟨_, rfl, rfl, hI2⟩ := hp
  try simp only [Option.toList_some, Option.toList_none, List.cons_append, List.nil_append]
  refine r_icmp_eq S dL_law_383 (tgt := 692) (by decide) hz hz (fun h_383 => ?_) (fun h_383 => ?_)
  · exact V.wide (by omega) (by omega) (kk _ hI2)
  · exact absurd rfl h_383

set_option maxRecDepth 100000 in
set_option maxHeartbeats 4000000 in
theorem k_law8 {κ : Kx} {k : Cx} {σ : St} {Q : State → Prop} (hI : Inv k σ) (hlen : cLen k ≤ 2048) (hxs : ∀ j, zR (cXs k j)) {i : Nat} (hi : i + 3 < cLen k) {cs ss : Nat} (hcs : cs + 20 ≤ 600000) (hss : ss + 9934 ≤ 7302250) (kk : ∀ σ2 : St, Inv k σ2 → V κ k 4 (cs + 20) (ss + 9934) Q 692 [some (.ref (cScr k)), some (.ref (cBase k)), some (.ref (cBase k + 14)), some (.int (iZ (i : Int)))] [] σ2) {nm : String} (S : Ok κ k cL_law 4 RL ret nm 12 600000 7302250) : V κ k 4 cs ss Q 388 [some (.ref (cScr k)), some (.ref (cBase k)), some (.ref (cBase k + 14)), some (.int (iZ (i : Int)))] [] σ := by
  obtain ⟨fsx, hfsx⟩ := hI.x
  obtain ⟨v9, hv9, C1⟩ := bb_fewest (L0 := κ.2.1) hI
  obtain ⟨z, hz, rfl⟩ := vI_R hv9
  refine r_aload_n S dL_law_388 rfl ?_
  refine r_callV S (C1) k_mX11_fewest c_RL_50_10 dL_law_389 (by decide) ⟨by omega, by omega⟩ (by repeat (first | assumption | exact sUp_same | exact sNew_same | refine sUp_ne (by first | assumption | omega) ?_)) rfl rfl (Nat.le_of_ble_eq_true rfl) (fun r σ' hp => ?_)
  obtain ⟨_, rfl, rfl, ⟨fs9, hfs9⟩, C2⟩ := hp
  try simp only [Option.toList_some, Option.toList_none, List.cons_append, List.nil_append]
  refine r_aload_n S dL_law_392 rfl ?_
  refine r_callV S (C2) k_mX12_fewest c_RL_53_11 dL_law_393 (by decide) ⟨by omega, by omega⟩ (by repeat (first | assumption | exact sUp_same | exact sNew_same | refine sUp_ne (by first | assumption | omega) ?_)) rfl rfl (Nat.le_of_ble_eq_true rfl) (fun r σ' hp => ?_)
  obtain ⟨_, rfl, rfl, hI2⟩ := hp
  try simp only [Option.toList_some, Option.toList_none, List.cons_append, List.nil_append]
  refine r_icmp_eq S dL_law_396 (tgt := 692) (by decide) hz hz (fun h_396 => ?_) (fun h_396 => ?_)
  · exact V.wide (by omega) (by omega) (kk _ hI2)
  · exact absurd rfl h_396

set_option maxRecDepth 100000 in
set_option maxHeartbeats 4000000 in
theorem k_law9 {κ : Kx} {k : Cx} {σ : St} {Q : State → Prop} (hI : Inv k σ) (hlen : cLen k ≤ 2048) (hxs : ∀ j, zR (cXs k j)) {i : Nat} (hi : i + 3 < cLen k) {cs ss : Nat} (hcs : cs + 20 ≤ 600000) (hss : ss + 9934 ≤ 7302250) (kk : ∀ σ2 : St, Inv k σ2 → V κ k 4 (cs + 20) (ss + 9934) Q 692 [some (.ref (cScr k)), some (.ref (cBase k)), some (.ref (cBase k + 14)), some (.int (iZ (i : Int)))] [] σ2) {nm : String} (S : Ok κ k cL_law 4 RL ret nm 12 600000 7302250) : V κ k 4 cs ss Q 401 [some (.ref (cScr k)), some (.ref (cBase k)), some (.ref (cBase k + 14)), some (.int (iZ (i : Int)))] [] σ := by
  obtain ⟨fsx, hfsx⟩ := hI.x
  obtain ⟨v9, hv9, C1⟩ := bb_spans (L0 := κ.2.1) hI
  obtain ⟨z, hz, rfl⟩ := vI_R hv9
  refine r_aload_n S dL_law_401 rfl ?_
  refine r_callV S (C1) k_mX11_spans c_RL_54_10 dL_law_402 (by decide) ⟨by omega, by omega⟩ (by repeat (first | assumption | exact sUp_same | exact sNew_same | refine sUp_ne (by first | assumption | omega) ?_)) rfl rfl (Nat.le_of_ble_eq_true rfl) (fun r σ' hp => ?_)
  obtain ⟨_, rfl, rfl, ⟨fs9, hfs9⟩, C2⟩ := hp
  try simp only [Option.toList_some, Option.toList_none, List.cons_append, List.nil_append]
  refine r_aload_n S dL_law_405 rfl ?_
  refine r_callV S (C2) k_mX12_spans c_RL_57_11 dL_law_406 (by decide) ⟨by omega, by omega⟩ (by repeat (first | assumption | exact sUp_same | exact sNew_same | refine sUp_ne (by first | assumption | omega) ?_)) rfl rfl (Nat.le_of_ble_eq_true rfl) (fun r σ' hp => ?_)
  obtain ⟨_, rfl, rfl, hI2⟩ := hp
  try simp only [Option.toList_some, Option.toList_none, List.cons_append, List.nil_append]
  refine r_icmp_eq S dL_law_409 (tgt := 692) (by decide) hz hz (fun h_409 => ?_) (fun h_409 => ?_)
  · exact V.wide (by omega) (by omega) (kk _ hI2)
  · exact absurd rfl h_409

set_option maxRecDepth 100000 in
set_option maxHeartbeats 4000000 in
theorem k_law10 {κ : Kx} {k : Cx} {σ : St} {Q : State → Prop} (hI : Inv k σ) (hlen : cLen k ≤ 2048) (hxs : ∀ j, zR (cXs k j)) {i : Nat} (hi : i + 3 < cLen k) {cs ss : Nat} (hcs : cs + 20 ≤ 600000) (hss : ss + 9934 ≤ 7302250) (kk : ∀ σ2 : St, Inv k σ2 → V κ k 4 (cs + 20) (ss + 9934) Q 692 [some (.ref (cScr k)), some (.ref (cBase k)), some (.ref (cBase k + 14)), some (.int (iZ (i : Int)))] [] σ2) {nm : String} (S : Ok κ k cL_law 4 RL ret nm 12 600000 7302250) : V κ k 4 cs ss Q 414 [some (.ref (cScr k)), some (.ref (cBase k)), some (.ref (cBase k + 14)), some (.int (iZ (i : Int)))] [] σ := by
  obtain ⟨fsx, hfsx⟩ := hI.x
  have hz1 := hxs ((i : Int) + 1).toNat
  obtain ⟨_, ⟨z, rfl⟩, C1⟩ := bb_weight (L0 := κ.2.1) hI hz1
  refine r_aload_n S dL_law_414 rfl ?_
  refine r_aload_n S dL_law_415 rfl ?_
  refine r_iload_n S dL_law_416 rfl ?_
  refine r_iconst S dL_law_417 ?_
  refine r_iadd S dL_law_418 ?_
  refine r_sald S dL_law_419 ⟨by omega, by omega⟩ (by omega) ?_
  refine r_callV S (C1) k_mX11_weight c_RL_58_10 dL_law_420 (by decide) ⟨by omega, by omega⟩ (by repeat (first | assumption | exact sUp_same | exact sNew_same | refine sUp_ne (by first | assumption | omega) ?_)) rfl rfl (Nat.le_of_ble_eq_true rfl) (fun r σ' hp => ?_)
  obtain ⟨_, rfl, rfl, ⟨fs9, hfs9⟩, C2⟩ := hp
  try simp only [Option.toList_some, Option.toList_none, List.cons_append, List.nil_append]
  refine r_aload_n S dL_law_423 rfl ?_
  refine r_aload_n S dL_law_424 rfl ?_
  refine r_iload_n S dL_law_425 rfl ?_
  refine r_iconst S dL_law_426 ?_
  refine r_iadd S dL_law_427 ?_
  refine r_sald S dL_law_428 ⟨by omega, by omega⟩ (by omega) ?_
  refine r_callV S (C2) k_mX12_weight c_RL_62_11 dL_law_429 (by decide) ⟨by omega, by omega⟩ (by repeat (first | assumption | exact sUp_same | exact sNew_same | refine sUp_ne (by first | assumption | omega) ?_)) rfl rfl (Nat.le_of_ble_eq_true rfl) (fun r σ' hp => ?_)
  obtain ⟨_, rfl, rfl, hI2⟩ := hp
  try simp only [Option.toList_some, Option.toList_none, List.cons_append, List.nil_append]
  refine r_lcmp S dL_law_432 (lcmp_self _) ?_
  refine r_if_eq S dL_law_433 (tgt := 692) (by decide) ⟨by omega, by omega⟩ (fun h_433 => ?_) (fun h_433 => ?_)
  · exact V.wide (by omega) (by omega) (kk _ hI2)
  · omega

set_option maxRecDepth 100000 in
set_option maxHeartbeats 4000000 in
theorem k_law11 {κ : Kx} {k : Cx} {σ : St} {Q : State → Prop} (hI : Inv k σ) (hlen : cLen k ≤ 2048) (hxs : ∀ j, zR (cXs k j)) {i : Nat} (hi : i + 3 < cLen k) {cs ss : Nat} (hcs : cs + 20 ≤ 600000) (hss : ss + 9934 ≤ 7302250) (kk : ∀ σ2 : St, Inv k σ2 → V κ k 4 (cs + 20) (ss + 9934) Q 692 [some (.ref (cScr k)), some (.ref (cBase k)), some (.ref (cBase k + 14)), some (.int (iZ (i : Int)))] [] σ2) {nm : String} (S : Ok κ k cL_law 4 RL ret nm 12 600000 7302250) : V κ k 4 cs ss Q 438 [some (.ref (cScr k)), some (.ref (cBase k)), some (.ref (cBase k + 14)), some (.int (iZ (i : Int)))] [] σ := by
  obtain ⟨fsx, hfsx⟩ := hI.x
  obtain ⟨v9, hv9, C1⟩ := bb_best (L0 := κ.2.1) hI
  obtain ⟨z, hz, rfl⟩ := vI_R hv9
  refine r_aload_n S dL_law_438 rfl ?_
  refine r_callV S (C1) k_mX11_best c_RL_63_10 dL_law_439 (by decide) ⟨by omega, by omega⟩ (by repeat (first | assumption | exact sUp_same | exact sNew_same | refine sUp_ne (by first | assumption | omega) ?_)) rfl rfl (Nat.le_of_ble_eq_true rfl) (fun r σ' hp => ?_)
  obtain ⟨_, rfl, rfl, ⟨fs9, hfs9⟩, C2⟩ := hp
  try simp only [Option.toList_some, Option.toList_none, List.cons_append, List.nil_append]
  refine r_aload_n S dL_law_442 rfl ?_
  refine r_callV S (C2) k_mX12_best c_RL_66_11 dL_law_443 (by decide) ⟨by omega, by omega⟩ (by repeat (first | assumption | exact sUp_same | exact sNew_same | refine sUp_ne (by first | assumption | omega) ?_)) rfl rfl (Nat.le_of_ble_eq_true rfl) (fun r σ' hp => ?_)
  obtain ⟨_, rfl, rfl, hI2⟩ := hp
  try simp only [Option.toList_some, Option.toList_none, List.cons_append, List.nil_append]
  refine r_icmp_eq S dL_law_446 (tgt := 692) (by decide) hz hz (fun h_446 => ?_) (fun h_446 => ?_)
  · exact V.wide (by omega) (by omega) (kk _ hI2)
  · exact absurd rfl h_446

set_option maxRecDepth 100000 in
set_option maxHeartbeats 4000000 in
theorem k_law12 {κ : Kx} {k : Cx} {σ : St} {Q : State → Prop} (hI : Inv k σ) (hlen : cLen k ≤ 2048) (hxs : ∀ j, zR (cXs k j)) {i : Nat} (hi : i + 3 < cLen k) {cs ss : Nat} (hcs : cs + 20 ≤ 600000) (hss : ss + 9934 ≤ 7302250) (kk : ∀ σ2 : St, Inv k σ2 → V κ k 4 (cs + 20) (ss + 9934) Q 692 [some (.ref (cScr k)), some (.ref (cBase k)), some (.ref (cBase k + 14)), some (.int (iZ (i : Int)))] [] σ2) {nm : String} (S : Ok κ k cL_law 4 RL ret nm 12 600000 7302250) : V κ k 4 cs ss Q 451 [some (.ref (cScr k)), some (.ref (cBase k)), some (.ref (cBase k + 14)), some (.int (iZ (i : Int)))] [] σ := by
  obtain ⟨fsx, hfsx⟩ := hI.x
  obtain ⟨v9, hv9, C1⟩ := bb_worse (L0 := κ.2.1) hI
  obtain ⟨z, hz, rfl⟩ := vI_R hv9
  refine r_aload_n S dL_law_451 rfl ?_
  refine r_callV S (C1) k_mX11_worse c_RL_67_10 dL_law_452 (by decide) ⟨by omega, by omega⟩ (by repeat (first | assumption | exact sUp_same | exact sNew_same | refine sUp_ne (by first | assumption | omega) ?_)) rfl rfl (Nat.le_of_ble_eq_true rfl) (fun r σ' hp => ?_)
  obtain ⟨_, rfl, rfl, ⟨fs9, hfs9⟩, C2⟩ := hp
  try simp only [Option.toList_some, Option.toList_none, List.cons_append, List.nil_append]
  refine r_aload_n S dL_law_455 rfl ?_
  refine r_callV S (C2) k_mX12_worse c_RL_70_11 dL_law_456 (by decide) ⟨by omega, by omega⟩ (by repeat (first | assumption | exact sUp_same | exact sNew_same | refine sUp_ne (by first | assumption | omega) ?_)) rfl rfl (Nat.le_of_ble_eq_true rfl) (fun r σ' hp => ?_)
  obtain ⟨_, rfl, rfl, hI2⟩ := hp
  try simp only [Option.toList_some, Option.toList_none, List.cons_append, List.nil_append]
  refine r_icmp_eq S dL_law_459 (tgt := 692) (by decide) hz hz (fun h_459 => ?_) (fun h_459 => ?_)
  · exact V.wide (by omega) (by omega) (kk _ hI2)
  · exact absurd rfl h_459

set_option maxRecDepth 100000 in
set_option maxHeartbeats 4000000 in
theorem k_law13 {κ : Kx} {k : Cx} {σ : St} {Q : State → Prop} (hI : Inv k σ) (hlen : cLen k ≤ 2048) (hxs : ∀ j, zR (cXs k j)) {i : Nat} (hi : i + 3 < cLen k) {cs ss : Nat} (hcs : cs + 20 ≤ 600000) (hss : ss + 9934 ≤ 7302250) (kk : ∀ σ2 : St, Inv k σ2 → V κ k 4 (cs + 20) (ss + 9934) Q 692 [some (.ref (cScr k)), some (.ref (cBase k)), some (.ref (cBase k + 14)), some (.int (iZ (i : Int)))] [] σ2) {nm : String} (S : Ok κ k cL_law 4 RL ret nm 12 600000 7302250) : V κ k 4 cs ss Q 464 [some (.ref (cScr k)), some (.ref (cBase k)), some (.ref (cBase k + 14)), some (.int (iZ (i : Int)))] [] σ := by
  obtain ⟨fsx, hfsx⟩ := hI.x
  have hz1 := hxs ((i : Int) + 1).toNat
  obtain ⟨v9, hv9, C1⟩ := bb_set (L0 := κ.2.1) hI hz1
  obtain ⟨z, hz, rfl⟩ := vI_R hv9
  refine r_aload_n S dL_law_464 rfl ?_
  refine r_aload_n S dL_law_465 rfl ?_
  refine r_iload_n S dL_law_466 rfl ?_
  refine r_iconst S dL_law_467 ?_
  refine r_iadd S dL_law_468 ?_
  refine r_sald S dL_law_469 ⟨by omega, by omega⟩ (by omega) ?_
  refine r_callV S (C1) k_mX11_set c_RL_71_10 dL_law_470 (by decide) ⟨by omega, by omega⟩ (by repeat (first | assumption | exact sUp_same | exact sNew_same | refine sUp_ne (by first | assumption | omega) ?_)) rfl rfl (Nat.le_of_ble_eq_true rfl) (fun r σ' hp => ?_)
  obtain ⟨_, rfl, rfl, ⟨fs9, hfs9⟩, C2⟩ := hp
  try simp only [Option.toList_some, Option.toList_none, List.cons_append, List.nil_append]
  refine r_aload_n S dL_law_473 rfl ?_
  refine r_aload_n S dL_law_474 rfl ?_
  refine r_iload_n S dL_law_475 rfl ?_
  refine r_iconst S dL_law_476 ?_
  refine r_iadd S dL_law_477 ?_
  refine r_sald S dL_law_478 ⟨by omega, by omega⟩ (by omega) ?_
  refine r_callV S (C2) k_mX12_set c_RL_74_11 dL_law_479 (by decide) ⟨by omega, by omega⟩ (by repeat (first | assumption | exact sUp_same | exact sNew_same | refine sUp_ne (by first | assumption | omega) ?_)) rfl rfl (Nat.le_of_ble_eq_true rfl) (fun r σ' hp => ?_)
  obtain ⟨_, rfl, rfl, hI2⟩ := hp
  try simp only [Option.toList_some, Option.toList_none, List.cons_append, List.nil_append]
  refine r_icmp_eq S dL_law_482 (tgt := 692) (by decide) hz hz (fun h_482 => ?_) (fun h_482 => ?_)
  · exact V.wide (by omega) (by omega) (kk _ hI2)
  · exact absurd rfl h_482

set_option maxRecDepth 100000 in
set_option maxHeartbeats 4000000 in
theorem k_law14 {κ : Kx} {k : Cx} {σ : St} {Q : State → Prop} (hI : Inv k σ) (hlen : cLen k ≤ 2048) (hxs : ∀ j, zR (cXs k j)) {i : Nat} (hi : i + 3 < cLen k) {cs ss : Nat} (hcs : cs + 20 ≤ 600000) (hss : ss + 9934 ≤ 7302250) (kk : ∀ σ2 : St, Inv k σ2 → V κ k 4 (cs + 20) (ss + 9934) Q 692 [some (.ref (cScr k)), some (.ref (cBase k)), some (.ref (cBase k + 14)), some (.int (iZ (i : Int)))] [] σ2) {nm : String} (S : Ok κ k cL_law 4 RL ret nm 12 600000 7302250) : V κ k 4 cs ss Q 487 [some (.ref (cScr k)), some (.ref (cBase k)), some (.ref (cBase k + 14)), some (.int (iZ (i : Int)))] [] σ := by
  obtain ⟨fsx, hfsx⟩ := hI.x
  obtain ⟨v9, hv9, C1⟩ := bb_drop (L0 := κ.2.1) hI
  obtain ⟨z, hz, rfl⟩ := vI_R hv9
  refine r_aload_n S dL_law_487 rfl ?_
  refine r_callV S (C1) k_mX11_drop c_RL_75_10 dL_law_488 (by decide) ⟨by omega, by omega⟩ (by repeat (first | assumption | exact sUp_same | exact sNew_same | refine sUp_ne (by first | assumption | omega) ?_)) rfl rfl (Nat.le_of_ble_eq_true rfl) (fun r σ' hp => ?_)
  obtain ⟨_, rfl, rfl, ⟨fs9, hfs9⟩, C2⟩ := hp
  try simp only [Option.toList_some, Option.toList_none, List.cons_append, List.nil_append]
  refine r_aload_n S dL_law_491 rfl ?_
  refine r_callV S (C2) k_mX12_drop c_RL_78_11 dL_law_492 (by decide) ⟨by omega, by omega⟩ (by repeat (first | assumption | exact sUp_same | exact sNew_same | refine sUp_ne (by first | assumption | omega) ?_)) rfl rfl (Nat.le_of_ble_eq_true rfl) (fun r σ' hp => ?_)
  obtain ⟨_, rfl, rfl, hI2⟩ := hp
  try simp only [Option.toList_some, Option.toList_none, List.cons_append, List.nil_append]
  refine r_icmp_eq S dL_law_495 (tgt := 692) (by decide) hz hz (fun h_495 => ?_) (fun h_495 => ?_)
  · exact V.wide (by omega) (by omega) (kk _ hI2)
  · exact absurd rfl h_495

set_option maxRecDepth 100000 in
set_option maxHeartbeats 4000000 in
theorem k_law15 {κ : Kx} {k : Cx} {σ : St} {Q : State → Prop} (hI : Inv k σ) (hlen : cLen k ≤ 2048) (hxs : ∀ j, zR (cXs k j)) {i : Nat} (hi : i + 3 < cLen k) {cs ss : Nat} (hcs : cs + 20 ≤ 600000) (hss : ss + 9934 ≤ 7302250) (kk : ∀ σ2 : St, Inv k σ2 → V κ k 4 (cs + 20) (ss + 9934) Q 692 [some (.ref (cScr k)), some (.ref (cBase k)), some (.ref (cBase k + 14)), some (.int (iZ (i : Int)))] [] σ2) {nm : String} (S : Ok κ k cL_law 4 RL ret nm 12 600000 7302250) : V κ k 4 cs ss Q 500 [some (.ref (cScr k)), some (.ref (cBase k)), some (.ref (cBase k + 14)), some (.int (iZ (i : Int)))] [] σ := by
  obtain ⟨fsx, hfsx⟩ := hI.x
  have hz1 := hxs ((i : Int) + 1).toNat
  obtain ⟨v9, hv9, C1⟩ := bb_word (L0 := κ.2.1) hI hz1
  obtain ⟨z, hz, rfl⟩ := vI_R hv9
  refine r_aload_n S dL_law_500 rfl ?_
  refine r_aload_n S dL_law_501 rfl ?_
  refine r_iload_n S dL_law_502 rfl ?_
  refine r_iconst S dL_law_503 ?_
  refine r_iadd S dL_law_504 ?_
  refine r_sald S dL_law_505 ⟨by omega, by omega⟩ (by omega) ?_
  refine r_callV S (C1) k_mX11_word c_RL_79_10 dL_law_506 (by decide) ⟨by omega, by omega⟩ (by repeat (first | assumption | exact sUp_same | exact sNew_same | refine sUp_ne (by first | assumption | omega) ?_)) rfl rfl (Nat.le_of_ble_eq_true rfl) (fun r σ' hp => ?_)
  obtain ⟨_, rfl, rfl, ⟨fs9, hfs9⟩, C2⟩ := hp
  try simp only [Option.toList_some, Option.toList_none, List.cons_append, List.nil_append]
  refine r_aload_n S dL_law_509 rfl ?_
  refine r_aload_n S dL_law_510 rfl ?_
  refine r_iload_n S dL_law_511 rfl ?_
  refine r_iconst S dL_law_512 ?_
  refine r_iadd S dL_law_513 ?_
  refine r_sald S dL_law_514 ⟨by omega, by omega⟩ (by omega) ?_
  refine r_callV S (C2) k_mX12_word c_RL_82_11 dL_law_515 (by decide) ⟨by omega, by omega⟩ (by repeat (first | assumption | exact sUp_same | exact sNew_same | refine sUp_ne (by first | assumption | omega) ?_)) rfl rfl (Nat.le_of_ble_eq_true rfl) (fun r σ' hp => ?_)
  obtain ⟨_, rfl, rfl, hI2⟩ := hp
  try simp only [Option.toList_some, Option.toList_none, List.cons_append, List.nil_append]
  refine r_icmp_eq S dL_law_518 (tgt := 692) (by decide) hz hz (fun h_518 => ?_) (fun h_518 => ?_)
  · exact V.wide (by omega) (by omega) (kk _ hI2)
  · exact absurd rfl h_518

set_option maxRecDepth 100000 in
set_option maxHeartbeats 4000000 in
theorem k_law16 {κ : Kx} {k : Cx} {σ : St} {Q : State → Prop} (hI : Inv k σ) (hlen : cLen k ≤ 2048) (hxs : ∀ j, zR (cXs k j)) {i : Nat} (hi : i + 3 < cLen k) {cs ss : Nat} (hcs : cs + 20 ≤ 600000) (hss : ss + 9934 ≤ 7302250) (kk : ∀ σ2 : St, Inv k σ2 → V κ k 4 (cs + 20) (ss + 9934) Q 692 [some (.ref (cScr k)), some (.ref (cBase k)), some (.ref (cBase k + 14)), some (.int (iZ (i : Int)))] [] σ2) {nm : String} (S : Ok κ k cL_law 4 RL ret nm 12 600000 7302250) : V κ k 4 cs ss Q 523 [some (.ref (cScr k)), some (.ref (cBase k)), some (.ref (cBase k + 14)), some (.int (iZ (i : Int)))] [] σ := by
  obtain ⟨fsx, hfsx⟩ := hI.x
  have hz1 := hxs ((i : Int) + 1).toNat
  have hz2 := hxs ((i : Int) + 2).toNat
  obtain ⟨v9, hv9, C1⟩ := bb_apart (L0 := κ.2.1) hI hz1 hz2
  obtain ⟨z, hz, rfl⟩ := vI_R hv9
  refine r_aload_n S dL_law_523 rfl ?_
  refine r_aload_n S dL_law_524 rfl ?_
  refine r_iload_n S dL_law_525 rfl ?_
  refine r_iconst S dL_law_526 ?_
  refine r_iadd S dL_law_527 ?_
  refine r_sald S dL_law_528 ⟨by omega, by omega⟩ (by omega) ?_
  refine r_aload_n S dL_law_529 rfl ?_
  refine r_iload_n S dL_law_530 rfl ?_
  refine r_iconst S dL_law_531 ?_
  refine r_iadd S dL_law_532 ?_
  refine r_sald S dL_law_533 ⟨by omega, by omega⟩ (by omega) ?_
  refine r_callV S (C1) k_mX11_apart c_RL_83_10 dL_law_534 (by decide) ⟨by omega, by omega⟩ (by repeat (first | assumption | exact sUp_same | exact sNew_same | refine sUp_ne (by first | assumption | omega) ?_)) rfl rfl (Nat.le_of_ble_eq_true rfl) (fun r σ' hp => ?_)
  obtain ⟨_, rfl, rfl, ⟨fs9, hfs9⟩, C2⟩ := hp
  try simp only [Option.toList_some, Option.toList_none, List.cons_append, List.nil_append]
  refine r_aload_n S dL_law_537 rfl ?_
  refine r_aload_n S dL_law_538 rfl ?_
  refine r_iload_n S dL_law_539 rfl ?_
  refine r_iconst S dL_law_540 ?_
  refine r_iadd S dL_law_541 ?_
  refine r_sald S dL_law_542 ⟨by omega, by omega⟩ (by omega) ?_
  refine r_aload_n S dL_law_543 rfl ?_
  refine r_iload_n S dL_law_544 rfl ?_
  refine r_iconst S dL_law_545 ?_
  refine r_iadd S dL_law_546 ?_
  refine r_sald S dL_law_547 ⟨by omega, by omega⟩ (by omega) ?_
  refine r_callV S (C2) k_mX12_apart c_RL_87_11 dL_law_548 (by decide) ⟨by omega, by omega⟩ (by repeat (first | assumption | exact sUp_same | exact sNew_same | refine sUp_ne (by first | assumption | omega) ?_)) rfl rfl (Nat.le_of_ble_eq_true rfl) (fun r σ' hp => ?_)
  obtain ⟨_, rfl, rfl, hI2⟩ := hp
  try simp only [Option.toList_some, Option.toList_none, List.cons_append, List.nil_append]
  refine r_icmp_eq S dL_law_551 (tgt := 692) (by decide) hz hz (fun h_551 => ?_) (fun h_551 => ?_)
  · exact V.wide (by omega) (by omega) (kk _ hI2)
  · exact absurd rfl h_551

set_option maxRecDepth 100000 in
set_option maxHeartbeats 4000000 in
theorem k_law17 {κ : Kx} {k : Cx} {σ : St} {Q : State → Prop} (hI : Inv k σ) (hlen : cLen k ≤ 2048) (hxs : ∀ j, zR (cXs k j)) {i : Nat} (hi : i + 3 < cLen k) {cs ss : Nat} (hcs : cs + 20 ≤ 600000) (hss : ss + 9934 ≤ 7302250) (kk : ∀ σ2 : St, Inv k σ2 → V κ k 4 (cs + 20) (ss + 9934) Q 692 [some (.ref (cScr k)), some (.ref (cBase k)), some (.ref (cBase k + 14)), some (.int (iZ (i : Int)))] [] σ2) {nm : String} (S : Ok κ k cL_law 4 RL ret nm 12 600000 7302250) : V κ k 4 cs ss Q 556 [some (.ref (cScr k)), some (.ref (cBase k)), some (.ref (cBase k + 14)), some (.int (iZ (i : Int)))] [] σ := by
  obtain ⟨fsx, hfsx⟩ := hI.x
  have hz1 := hxs ((i : Int) + 1).toNat
  have hz2 := hxs ((i : Int) + 2).toNat
  obtain ⟨v9, hv9, C1⟩ := bb_serves (L0 := κ.2.1) hI hz1 hz2
  obtain ⟨z, hz, rfl⟩ := vI_R hv9
  refine r_aload_n S dL_law_556 rfl ?_
  refine r_aload_n S dL_law_557 rfl ?_
  refine r_iload_n S dL_law_558 rfl ?_
  refine r_iconst S dL_law_559 ?_
  refine r_iadd S dL_law_560 ?_
  refine r_sald S dL_law_561 ⟨by omega, by omega⟩ (by omega) ?_
  refine r_aload_n S dL_law_562 rfl ?_
  refine r_iload_n S dL_law_563 rfl ?_
  refine r_iconst S dL_law_564 ?_
  refine r_iadd S dL_law_565 ?_
  refine r_sald S dL_law_566 ⟨by omega, by omega⟩ (by omega) ?_
  refine r_callV S (C1) k_mX11_serves c_RL_88_10 dL_law_567 (by decide) ⟨by omega, by omega⟩ (by repeat (first | assumption | exact sUp_same | exact sNew_same | refine sUp_ne (by first | assumption | omega) ?_)) rfl rfl (Nat.le_of_ble_eq_true rfl) (fun r σ' hp => ?_)
  obtain ⟨_, rfl, rfl, ⟨fs9, hfs9⟩, C2⟩ := hp
  try simp only [Option.toList_some, Option.toList_none, List.cons_append, List.nil_append]
  refine r_aload_n S dL_law_570 rfl ?_
  refine r_aload_n S dL_law_571 rfl ?_
  refine r_iload_n S dL_law_572 rfl ?_
  refine r_iconst S dL_law_573 ?_
  refine r_iadd S dL_law_574 ?_
  refine r_sald S dL_law_575 ⟨by omega, by omega⟩ (by omega) ?_
  refine r_aload_n S dL_law_576 rfl ?_
  refine r_iload_n S dL_law_577 rfl ?_
  refine r_iconst S dL_law_578 ?_
  refine r_iadd S dL_law_579 ?_
  refine r_sald S dL_law_580 ⟨by omega, by omega⟩ (by omega) ?_
  refine r_callV S (C2) k_mX12_serves c_RL_91_11 dL_law_581 (by decide) ⟨by omega, by omega⟩ (by repeat (first | assumption | exact sUp_same | exact sNew_same | refine sUp_ne (by first | assumption | omega) ?_)) rfl rfl (Nat.le_of_ble_eq_true rfl) (fun r σ' hp => ?_)
  obtain ⟨_, rfl, rfl, hI2⟩ := hp
  try simp only [Option.toList_some, Option.toList_none, List.cons_append, List.nil_append]
  refine r_icmp_eq S dL_law_584 (tgt := 692) (by decide) hz hz (fun h_584 => ?_) (fun h_584 => ?_)
  · exact V.wide (by omega) (by omega) (kk _ hI2)
  · exact absurd rfl h_584

set_option maxRecDepth 100000 in
set_option maxHeartbeats 4000000 in
theorem k_law18 {κ : Kx} {k : Cx} {σ : St} {Q : State → Prop} (hI : Inv k σ) (hlen : cLen k ≤ 2048) (hxs : ∀ j, zR (cXs k j)) {i : Nat} (hi : i + 3 < cLen k) {cs ss : Nat} (hcs : cs + 20 ≤ 600000) (hss : ss + 9934 ≤ 7302250) (kk : ∀ σ2 : St, Inv k σ2 → V κ k 4 (cs + 20) (ss + 9934) Q 692 [some (.ref (cScr k)), some (.ref (cBase k)), some (.ref (cBase k + 14)), some (.int (iZ (i : Int)))] [] σ2) {nm : String} (S : Ok κ k cL_law 4 RL ret nm 12 600000 7302250) : V κ k 4 cs ss Q 589 [some (.ref (cScr k)), some (.ref (cBase k)), some (.ref (cBase k + 14)), some (.int (iZ (i : Int)))] [] σ := by
  obtain ⟨fsx, hfsx⟩ := hI.x
  have hz1 := hxs ((i : Int) + 1).toNat
  have hz2 := hxs ((i : Int) + 2).toNat
  have hz3 := hxs ((i : Int) + 3).toNat
  obtain ⟨v9, hv9, C1⟩ := bb_read (L0 := κ.2.1) hI hz1 hz2 hz3
  obtain ⟨z, hz, rfl⟩ := vI_R hv9
  refine r_aload_n S dL_law_589 rfl ?_
  refine r_aload_n S dL_law_590 rfl ?_
  refine r_iload_n S dL_law_591 rfl ?_
  refine r_iconst S dL_law_592 ?_
  refine r_iadd S dL_law_593 ?_
  refine r_sald S dL_law_594 ⟨by omega, by omega⟩ (by omega) ?_
  refine r_aload_n S dL_law_595 rfl ?_
  refine r_iload_n S dL_law_596 rfl ?_
  refine r_iconst S dL_law_597 ?_
  refine r_iadd S dL_law_598 ?_
  refine r_sald S dL_law_599 ⟨by omega, by omega⟩ (by omega) ?_
  refine r_aload_n S dL_law_600 rfl ?_
  refine r_iload_n S dL_law_601 rfl ?_
  refine r_iconst S dL_law_602 ?_
  refine r_iadd S dL_law_603 ?_
  refine r_sald S dL_law_604 ⟨by omega, by omega⟩ (by omega) ?_
  refine r_callV S (C1) k_mX11_read c_RL_92_10 dL_law_605 (by decide) ⟨by omega, by omega⟩ (by repeat (first | assumption | exact sUp_same | exact sNew_same | refine sUp_ne (by first | assumption | omega) ?_)) rfl rfl (Nat.le_of_ble_eq_true rfl) (fun r σ' hp => ?_)
  obtain ⟨_, rfl, rfl, ⟨fs9, hfs9⟩, C2⟩ := hp
  try simp only [Option.toList_some, Option.toList_none, List.cons_append, List.nil_append]
  refine r_aload_n S dL_law_608 rfl ?_
  refine r_aload_n S dL_law_609 rfl ?_
  refine r_iload_n S dL_law_610 rfl ?_
  refine r_iconst S dL_law_611 ?_
  refine r_iadd S dL_law_612 ?_
  refine r_sald S dL_law_613 ⟨by omega, by omega⟩ (by omega) ?_
  refine r_aload_n S dL_law_614 rfl ?_
  refine r_iload_n S dL_law_615 rfl ?_
  refine r_iconst S dL_law_616 ?_
  refine r_iadd S dL_law_617 ?_
  refine r_sald S dL_law_618 ⟨by omega, by omega⟩ (by omega) ?_
  refine r_aload_n S dL_law_619 rfl ?_
  refine r_iload_n S dL_law_620 rfl ?_
  refine r_iconst S dL_law_621 ?_
  refine r_iadd S dL_law_622 ?_
  refine r_sald S dL_law_623 ⟨by omega, by omega⟩ (by omega) ?_
  refine r_callV S (C2) k_mX12_read c_RL_95_11 dL_law_624 (by decide) ⟨by omega, by omega⟩ (by repeat (first | assumption | exact sUp_same | exact sNew_same | refine sUp_ne (by first | assumption | omega) ?_)) rfl rfl (Nat.le_of_ble_eq_true rfl) (fun r σ' hp => ?_)
  obtain ⟨_, rfl, rfl, hI2⟩ := hp
  try simp only [Option.toList_some, Option.toList_none, List.cons_append, List.nil_append]
  refine r_icmp_eq S dL_law_627 (tgt := 692) (by decide) hz hz (fun h_627 => ?_) (fun h_627 => ?_)
  · exact V.wide (by omega) (by omega) (kk _ hI2)
  · exact absurd rfl h_627

set_option maxRecDepth 100000 in
set_option maxHeartbeats 4000000 in
theorem k_law19 {κ : Kx} {k : Cx} {σ : St} {Q : State → Prop} (hI : Inv k σ) (hlen : cLen k ≤ 2048) (hxs : ∀ j, zR (cXs k j)) {i : Nat} (hi : i + 3 < cLen k) {cs ss : Nat} (hcs : cs + 20 ≤ 600000) (hss : ss + 9934 ≤ 7302250) (kk : ∀ σ2 : St, Inv k σ2 → V κ k 4 (cs + 20) (ss + 9934) Q 692 [some (.ref (cScr k)), some (.ref (cBase k)), some (.ref (cBase k + 14)), some (.int (iZ (i : Int)))] [] σ2) {nm : String} (S : Ok κ k cL_law 4 RL ret nm 12 600000 7302250) : V κ k 4 cs ss Q 632 [some (.ref (cScr k)), some (.ref (cBase k)), some (.ref (cBase k + 14)), some (.int (iZ (i : Int)))] [] σ := by
  obtain ⟨fsx, hfsx⟩ := hI.x
  have hz1 := hxs ((i : Int) + 1).toNat
  obtain ⟨v9, hv9, C1⟩ := bb_play (L0 := κ.2.1) hI hz1
  obtain ⟨z, hz, rfl⟩ := vI_R hv9
  refine r_aload_n S dL_law_632 rfl ?_
  refine r_aload_n S dL_law_633 rfl ?_
  refine r_iload_n S dL_law_634 rfl ?_
  refine r_iconst S dL_law_635 ?_
  refine r_iadd S dL_law_636 ?_
  refine r_sald S dL_law_637 ⟨by omega, by omega⟩ (by omega) ?_
  refine r_callV S (C1) k_mX11_play c_RL_96_10 dL_law_638 (by decide) ⟨by omega, by omega⟩ (by repeat (first | assumption | exact sUp_same | exact sNew_same | refine sUp_ne (by first | assumption | omega) ?_)) rfl rfl (Nat.le_of_ble_eq_true rfl) (fun r σ' hp => ?_)
  obtain ⟨_, rfl, rfl, ⟨fs9, hfs9⟩, C2⟩ := hp
  try simp only [Option.toList_some, Option.toList_none, List.cons_append, List.nil_append]
  refine r_aload_n S dL_law_641 rfl ?_
  refine r_aload_n S dL_law_642 rfl ?_
  refine r_iload_n S dL_law_643 rfl ?_
  refine r_iconst S dL_law_644 ?_
  refine r_iadd S dL_law_645 ?_
  refine r_sald S dL_law_646 ⟨by omega, by omega⟩ (by omega) ?_
  refine r_callV S (C2) k_mX12_play c_RL_99_11 dL_law_647 (by decide) ⟨by omega, by omega⟩ (by repeat (first | assumption | exact sUp_same | exact sNew_same | refine sUp_ne (by first | assumption | omega) ?_)) rfl rfl (Nat.le_of_ble_eq_true rfl) (fun r σ' hp => ?_)
  obtain ⟨_, rfl, rfl, hI2⟩ := hp
  try simp only [Option.toList_some, Option.toList_none, List.cons_append, List.nil_append]
  refine r_icmp_eq S dL_law_650 (tgt := 692) (by decide) hz hz (fun h_650 => ?_) (fun h_650 => ?_)
  · exact V.wide (by omega) (by omega) (kk _ hI2)
  · exact absurd rfl h_650

set_option maxRecDepth 100000 in
set_option maxHeartbeats 4000000 in
theorem k_law20 {κ : Kx} {k : Cx} {σ : St} {Q : State → Prop} (hI : Inv k σ) (hlen : cLen k ≤ 2048) (hxs : ∀ j, zR (cXs k j)) {i : Nat} (hi : i + 3 < cLen k) {cs ss : Nat} (hcs : cs + 20 ≤ 600000) (hss : ss + 9934 ≤ 7302250) (kk : ∀ σ2 : St, Inv k σ2 → V κ k 4 (cs + 20) (ss + 9934) Q 692 [some (.ref (cScr k)), some (.ref (cBase k)), some (.ref (cBase k + 14)), some (.int (iZ (i : Int)))] [] σ2) {nm : String} (S : Ok κ k cL_law 4 RL ret nm 12 600000 7302250) : V κ k 4 cs ss Q 655 [some (.ref (cScr k)), some (.ref (cBase k)), some (.ref (cBase k + 14)), some (.int (iZ (i : Int)))] [] σ := by
  obtain ⟨fsx, hfsx⟩ := hI.x
  have hz1 := hxs ((i : Int) + 1).toNat
  obtain ⟨v9, hv9, C1⟩ := bb_told (L0 := κ.2.1) hI hz1
  obtain ⟨z, hz, rfl⟩ := vI_R hv9
  refine r_aload_n S dL_law_655 rfl ?_
  refine r_aload_n S dL_law_656 rfl ?_
  refine r_iload_n S dL_law_657 rfl ?_
  refine r_iconst S dL_law_658 ?_
  refine r_iadd S dL_law_659 ?_
  refine r_sald S dL_law_660 ⟨by omega, by omega⟩ (by omega) ?_
  refine r_callV S (C1) k_mX11_told c_RL_100_10 dL_law_661 (by decide) ⟨by omega, by omega⟩ (by repeat (first | assumption | exact sUp_same | exact sNew_same | refine sUp_ne (by first | assumption | omega) ?_)) rfl rfl (Nat.le_of_ble_eq_true rfl) (fun r σ' hp => ?_)
  obtain ⟨_, rfl, rfl, ⟨fs9, hfs9⟩, C2⟩ := hp
  try simp only [Option.toList_some, Option.toList_none, List.cons_append, List.nil_append]
  refine r_aload_n S dL_law_664 rfl ?_
  refine r_aload_n S dL_law_665 rfl ?_
  refine r_iload_n S dL_law_666 rfl ?_
  refine r_iconst S dL_law_667 ?_
  refine r_iadd S dL_law_668 ?_
  refine r_sald S dL_law_669 ⟨by omega, by omega⟩ (by omega) ?_
  refine r_callV S (C2) k_mX12_told c_RL_103_11 dL_law_670 (by decide) ⟨by omega, by omega⟩ (by repeat (first | assumption | exact sUp_same | exact sNew_same | refine sUp_ne (by first | assumption | omega) ?_)) rfl rfl (Nat.le_of_ble_eq_true rfl) (fun r σ' hp => ?_)
  obtain ⟨_, rfl, rfl, hI2⟩ := hp
  try simp only [Option.toList_some, Option.toList_none, List.cons_append, List.nil_append]
  refine r_icmp_eq S dL_law_673 (tgt := 692) (by decide) hz hz (fun h_673 => ?_) (fun h_673 => ?_)
  · exact V.wide (by omega) (by omega) (kk _ hI2)
  · exact absurd rfl h_673

set_option maxRecDepth 100000 in
set_option maxHeartbeats 4000000 in
theorem k_law21 {κ : Kx} {k : Cx} {σ : St} {Q : State → Prop} (hI : Inv k σ) (hlen : cLen k ≤ 2048) (hxs : ∀ j, zR (cXs k j)) {i : Nat} (hi : i + 3 < cLen k) {cs ss : Nat} (hcs : cs + 20 ≤ 600000) (hss : ss + 9934 ≤ 7302250) (kk : ∀ σ2 : St, Inv k σ2 → V κ k 4 (cs + 20) (ss + 9934) Q 692 [some (.ref (cScr k)), some (.ref (cBase k)), some (.ref (cBase k + 14)), some (.int (iZ (i : Int)))] [] σ2) {nm : String} (S : Ok κ k cL_law 4 RL ret nm 12 600000 7302250) : V κ k 4 cs ss Q 678 [some (.ref (cScr k)), some (.ref (cBase k)), some (.ref (cBase k + 14)), some (.int (iZ (i : Int)))] [] σ := by
  obtain ⟨fsx, hfsx⟩ := hI.x
  obtain ⟨_, ⟨z, rfl⟩, C1⟩ := bb_trace (L0 := κ.2.1) hI
  refine r_aload_n S dL_law_678 rfl ?_
  refine r_callV S (C1) k_mX11_trace c_RL_104_10 dL_law_679 (by decide) ⟨by omega, by omega⟩ (by repeat (first | assumption | exact sUp_same | exact sNew_same | refine sUp_ne (by first | assumption | omega) ?_)) rfl rfl (Nat.le_of_ble_eq_true rfl) (fun r σ' hp => ?_)
  obtain ⟨_, rfl, rfl, ⟨fs9, hfs9⟩, C2⟩ := hp
  try simp only [Option.toList_some, Option.toList_none, List.cons_append, List.nil_append]
  refine r_aload_n S dL_law_682 rfl ?_
  refine r_callV S (C2) k_mX12_trace c_RL_108_11 dL_law_683 (by decide) ⟨by omega, by omega⟩ (by repeat (first | assumption | exact sUp_same | exact sNew_same | refine sUp_ne (by first | assumption | omega) ?_)) rfl rfl (Nat.le_of_ble_eq_true rfl) (fun r σ' hp => ?_)
  obtain ⟨_, rfl, rfl, hI2⟩ := hp
  try simp only [Option.toList_some, Option.toList_none, List.cons_append, List.nil_append]
  refine r_lcmp S dL_law_686 (lcmp_self _) ?_
  refine r_if_eq S dL_law_687 (tgt := 692) (by decide) ⟨by omega, by omega⟩ (fun h_687 => ?_) (fun h_687 => ?_)
  · exact V.wide (by omega) (by omega) (kk _ hI2)
  · omega

set_option maxRecDepth 100000 in
set_option maxHeartbeats 4000000 in
theorem l_law {κ : Kx} {k : Cx} {σ : St} {Q : State → Prop} (hlen : cLen k ≤ 2048) (hxs : ∀ j, zR (cXs k j)) (hend : ∀ (σ2 : St) (cs ss : Nat), cs ≤ 600000 → ss ≤ 7302250 → V κ k 4 cs ss Q 698 [none, none, none, none] [] σ2) {nm : String} (S : Ok κ k cL_law 4 RL ret nm 12 600000 7302250) : ∀ (r j : Nat), j + r = 513 → ∀ i : Nat, i = 4 * j → ∀ (σc : St) (cs ss : Nat), Inv k σc → cs ≤ 30 + 20 * j → ss ≤ 260000 + 9934 * j → V κ k 4 cs ss Q 18 [some (.ref (cScr k)), some (.ref (cBase k)), some (.ref (cBase k + 14)), some (.int (iZ (i : Int)))] [] σc := by
  intro r
  induction r with
  | zero =>
    intro j hj i hi4 σc cs ss hI hcs hss
    refine r_iload_n S dL_law_18 rfl ?_
    refine r_aload_n S dL_law_19 rfl ?_
    refine r_slen S dL_law_20 ?_
    refine r_iconst S dL_law_21 ?_
    refine r_isub S dL_law_22 ?_
    refine r_icmp_gt S dL_law_23 (tgt := 698) (by decide) ⟨by omega, by omega⟩ ⟨by omega, by omega⟩ (fun h_23 => ?_) (fun h_23 => ?_)
    · refine V.mask [false, false, false, false] (lv' := [none, none, none, none]) rfl ?_
      exact hend _ _ _ (by omega) (by omega)
    · omega
  | succ r ih =>
    intro j hj i hi4 σc cs ss hI hcs hss
    obtain ⟨w, hw, ew⟩ := and31 (iZ (cXs k (i : Int).toNat))
    have hnext : ∀ σ2 : St, Inv k σ2 → V κ k 4 (cs + 20) (ss + 9934) Q 692 [some (.ref (cScr k)), some (.ref (cBase k)), some (.ref (cBase k + 14)), some (.int (iZ (i : Int)))] [] σ2 := fun σ2 hI2 => by
      refine r_iinc S dL_law_692 rfl rfl (by decide) (lv' := [_, _, _, _]) rfl ?_
      
      refine r_goto S dL_law_695 (tgt := 18) (by decide) ?_
      exact ih (j + 1) (by omega) (i + 4) (by omega) _ _ _ hI2 (by omega) (by omega)
    refine r_iload_n S dL_law_18 rfl ?_
    refine r_aload_n S dL_law_19 rfl ?_
    refine r_slen S dL_law_20 ?_
    refine r_iconst S dL_law_21 ?_
    refine r_isub S dL_law_22 ?_
    refine r_icmp_gt S dL_law_23 (tgt := 698) (by decide) ⟨by omega, by omega⟩ ⟨by omega, by omega⟩ (fun h_23 => ?_) (fun h_23 => ?_)
    · refine V.mask [false, false, false, false] (lv' := [none, none, none, none]) rfl ?_
      exact hend _ _ _ (by omega) (by omega)
    · refine r_aload_n S dL_law_26 rfl ?_
      refine r_iload_n S dL_law_27 rfl ?_
      refine r_sald S dL_law_28 ⟨by omega, by omega⟩ (by omega) ?_
      refine r_bipush S dL_law_29 (by decide) ?_
      refine r_iand S dL_law_31 (ew) ?_
      rcases (show w = 0 ∨ w = 1 ∨ w = 2 ∨ w = 3 ∨ w = 4 ∨ w = 5 ∨ w = 6 ∨ w = 7 ∨ w = 8 ∨ w = 9 ∨ w = 10 ∨ w = 11 ∨ w = 12 ∨ w = 13 ∨ w = 14 ∨ w = 15 ∨ w = 16 ∨ w = 17 ∨ w = 18 ∨ w = 19 ∨ w = 20 ∨ w = 21 ∨ 22 ≤ w by omega) with e9 | e9 | e9 | e9 | e9 | e9 | e9 | e9 | e9 | e9 | e9 | e9 | e9 | e9 | e9 | e9 | e9 | e9 | e9 | e9 | e9 | e9 | e9
      · subst e9
        refine r_tswIn S dL_law_32 (tgt := 136) ⟨by decide, by decide⟩ (by decide) (by decide) rfl (by decide) ?_
        exact k_law0 hI hlen hxs (by omega) (by omega) (by omega) hnext S
      · subst e9
        refine r_tswIn S dL_law_32 (tgt := 179) ⟨by decide, by decide⟩ (by decide) (by decide) rfl (by decide) ?_
        exact k_law1 hI hlen hxs (by omega) (by omega) (by omega) hnext S
      · subst e9
        refine r_tswIn S dL_law_32 (tgt := 254) ⟨by decide, by decide⟩ (by decide) (by decide) rfl (by decide) ?_
        exact k_law2 hI hlen hxs (by omega) (by omega) (by omega) hnext S
      · subst e9
        refine r_tswIn S dL_law_32 (tgt := 277) ⟨by decide, by decide⟩ (by decide) (by decide) rfl (by decide) ?_
        exact k_law3 hI hlen hxs (by omega) (by omega) (by omega) hnext S
      · subst e9
        refine r_tswIn S dL_law_32 (tgt := 316) ⟨by decide, by decide⟩ (by decide) (by decide) rfl (by decide) ?_
        exact k_law4 hI hlen hxs (by omega) (by omega) (by omega) hnext S
      · subst e9
        refine r_tswIn S dL_law_32 (tgt := 329) ⟨by decide, by decide⟩ (by decide) (by decide) rfl (by decide) ?_
        exact k_law5 hI hlen hxs (by omega) (by omega) (by omega) hnext S
      · subst e9
        refine r_tswIn S dL_law_32 (tgt := 352) ⟨by decide, by decide⟩ (by decide) (by decide) rfl (by decide) ?_
        exact k_law6 hI hlen hxs (by omega) (by omega) (by omega) hnext S
      · subst e9
        refine r_tswIn S dL_law_32 (tgt := 375) ⟨by decide, by decide⟩ (by decide) (by decide) rfl (by decide) ?_
        exact k_law7 hI hlen hxs (by omega) (by omega) (by omega) hnext S
      · subst e9
        refine r_tswIn S dL_law_32 (tgt := 388) ⟨by decide, by decide⟩ (by decide) (by decide) rfl (by decide) ?_
        exact k_law8 hI hlen hxs (by omega) (by omega) (by omega) hnext S
      · subst e9
        refine r_tswIn S dL_law_32 (tgt := 401) ⟨by decide, by decide⟩ (by decide) (by decide) rfl (by decide) ?_
        exact k_law9 hI hlen hxs (by omega) (by omega) (by omega) hnext S
      · subst e9
        refine r_tswIn S dL_law_32 (tgt := 414) ⟨by decide, by decide⟩ (by decide) (by decide) rfl (by decide) ?_
        exact k_law10 hI hlen hxs (by omega) (by omega) (by omega) hnext S
      · subst e9
        refine r_tswIn S dL_law_32 (tgt := 438) ⟨by decide, by decide⟩ (by decide) (by decide) rfl (by decide) ?_
        exact k_law11 hI hlen hxs (by omega) (by omega) (by omega) hnext S
      · subst e9
        refine r_tswIn S dL_law_32 (tgt := 451) ⟨by decide, by decide⟩ (by decide) (by decide) rfl (by decide) ?_
        exact k_law12 hI hlen hxs (by omega) (by omega) (by omega) hnext S
      · subst e9
        refine r_tswIn S dL_law_32 (tgt := 464) ⟨by decide, by decide⟩ (by decide) (by decide) rfl (by decide) ?_
        exact k_law13 hI hlen hxs (by omega) (by omega) (by omega) hnext S
      · subst e9
        refine r_tswIn S dL_law_32 (tgt := 487) ⟨by decide, by decide⟩ (by decide) (by decide) rfl (by decide) ?_
        exact k_law14 hI hlen hxs (by omega) (by omega) (by omega) hnext S
      · subst e9
        refine r_tswIn S dL_law_32 (tgt := 500) ⟨by decide, by decide⟩ (by decide) (by decide) rfl (by decide) ?_
        exact k_law15 hI hlen hxs (by omega) (by omega) (by omega) hnext S
      · subst e9
        refine r_tswIn S dL_law_32 (tgt := 523) ⟨by decide, by decide⟩ (by decide) (by decide) rfl (by decide) ?_
        exact k_law16 hI hlen hxs (by omega) (by omega) (by omega) hnext S
      · subst e9
        refine r_tswIn S dL_law_32 (tgt := 556) ⟨by decide, by decide⟩ (by decide) (by decide) rfl (by decide) ?_
        exact k_law17 hI hlen hxs (by omega) (by omega) (by omega) hnext S
      · subst e9
        refine r_tswIn S dL_law_32 (tgt := 589) ⟨by decide, by decide⟩ (by decide) (by decide) rfl (by decide) ?_
        exact k_law18 hI hlen hxs (by omega) (by omega) (by omega) hnext S
      · subst e9
        refine r_tswIn S dL_law_32 (tgt := 632) ⟨by decide, by decide⟩ (by decide) (by decide) rfl (by decide) ?_
        exact k_law19 hI hlen hxs (by omega) (by omega) (by omega) hnext S
      · subst e9
        refine r_tswIn S dL_law_32 (tgt := 655) ⟨by decide, by decide⟩ (by decide) (by decide) rfl (by decide) ?_
        exact k_law20 hI hlen hxs (by omega) (by omega) (by omega) hnext S
      · subst e9
        refine r_tswIn S dL_law_32 (tgt := 678) ⟨by decide, by decide⟩ (by decide) (by decide) rfl (by decide) ?_
        exact k_law21 hI hlen hxs (by omega) (by omega) (by omega) hnext S
      · refine r_tswOut S dL_law_32 (tgt := 692) ⟨by omega, by omega⟩ (by omega) (by decide) ?_
        exact V.wide (by omega) (by omega) (hnext _ hI)
