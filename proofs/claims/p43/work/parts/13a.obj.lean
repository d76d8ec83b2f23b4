theorem k_oi : Cond.instanceMethod objectInit ∈ oTT := oT_1 (List.mem_of_getElem? (i := 34) (by decide +kernel)) (by decide +kernel)
theorem k_oc : Cond.code objectInit ⟨#[0xb1]⟩ 1 none ∈ oTT := oT_1 (List.mem_of_getElem? (i := 35) (by decide +kernel)) (by decide +kernel)
abbrev cNS : ByteArray := prog_32_method_4_code
