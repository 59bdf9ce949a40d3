set_option maxRecDepth 100000 in
theorem fx_objc : Cond.code objectInit ⟨#[0xb1]⟩ 1 none ∈ lg_tbl := fx_c 61 rfl
