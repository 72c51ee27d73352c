set_option maxRecDepth 100000 in
theorem jw_arrI : Cond.arrayClass .int ∈ ra_WS := ra_in 115 (by decide +kernel) (by decide +kernel)
set_option maxRecDepth 100000 in
theorem jw_arrZ : Cond.arrayClass .boolean ∈ ra_WS := ra_in 1110 (by decide +kernel) (by decide +kernel)
set_option maxRecDepth 100000 in
theorem jw_obj1 : Cond.instanceMethod Lib.objectInit ∈ ra_WS := ra_in 88 (by decide +kernel) (by decide +kernel)
set_option maxRecDepth 100000 in
theorem jw_obj2 : Cond.code Lib.objectInit ⟨#[0xb1]⟩ 1 none ∈ ra_WS := ra_in 89 (by decide +kernel) (by decide +kernel)
