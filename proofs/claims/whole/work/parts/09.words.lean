def cn_J : String := "java/lang/Integer"
def rm_R_isOutside : Room := { frames := 1, cells := 0, slots := 0, locals := 64 }
abbrev mi_R_isOutside : ra_MI := (⟨cn_R, "isOutside", "(III)Z"⟩, prog_1_method_42_code, 3, (some .boolean), rm_R_isOutside, 3)
set_option maxRecDepth 100000 in
theorem co_R_isOutside {R : Room} (h1 : 1 + 1 ≤ R.frames) (h2 : 8 + (3 + 11) + 64 ≤ R.locals) : ra_CO R mi_R_isOutside := ⟨rfl, rfl, h1, h2, ra_in 492 (by decide +kernel) (by decide +kernel), ra_in 62 (by decide +kernel) (by decide +kernel), by decide +kernel, by decide +kernel⟩
set_option maxRecDepth 100000 in
theorem st_R_isOutside : Cond.static (mi_R_isOutside).1 ∈ ra_WS := ra_in 491 (by decide +kernel) (by decide +kernel)
def rm_V_textOf : Room := { frames := 1, cells := 0, slots := 0, locals := 64 }
abbrev mi_V_textOf : ra_MI := (⟨cn_V, "textOf", "(I)LRoofAcross$Text;"⟩, prog_10_method_2_code, 2, (some (.object "RoofAcross$Text")), rm_V_textOf, 2)
set_option maxRecDepth 100000 in
theorem co_V_textOf {R : Room} (h1 : 1 + 1 ≤ R.frames) (h2 : 8 + (2 + 11) + 64 ≤ R.locals) : ra_CO R mi_V_textOf := ⟨rfl, rfl, h1, h2, ra_in 496 (by decide +kernel) (by decide +kernel), ra_in 63 (by decide +kernel) (by decide +kernel), by decide +kernel, by decide +kernel⟩
set_option maxRecDepth 100000 in
theorem im_V_textOf : Cond.instanceMethod (mi_V_textOf).1 ∈ ra_WS := ra_in 494 (by decide +kernel) (by decide +kernel)
set_option maxRecDepth 100000 in
theorem se_V_textOf : Cond.selects (mi_V_textOf).1.cls (mi_V_textOf).1 (mi_V_textOf).1 ∈ ra_WS := ra_in 495 (by decide +kernel) (by decide +kernel)
def rm_V_temperAt : Room := { frames := 6, cells := 0, slots := 0, locals := 300 }
abbrev mi_V_temperAt : ra_MI := (⟨cn_V, "temperAt", "(I)I"⟩, prog_10_method_9_code, 2, (some .int), rm_V_temperAt, 2)
set_option maxRecDepth 100000 in
theorem co_V_temperAt {R : Room} (h1 : 6 + 1 ≤ R.frames) (h2 : 8 + (2 + 11) + 300 ≤ R.locals) : ra_CO R mi_V_temperAt := ⟨rfl, rfl, h1, h2, ra_in 516 (by decide +kernel) (by decide +kernel), ra_in 63 (by decide +kernel) (by decide +kernel), by decide +kernel, by decide +kernel⟩
set_option maxRecDepth 100000 in
theorem im_V_temperAt : Cond.instanceMethod (mi_V_temperAt).1 ∈ ra_WS := ra_in 515 (by decide +kernel) (by decide +kernel)
set_option maxRecDepth 100000 in
theorem se_V_temperAt : Cond.selects (mi_V_temperAt).1.cls (mi_V_temperAt).1 (mi_V_temperAt).1 ∈ ra_WS := ra_in 3 (by decide +kernel) (by decide +kernel)
def rm_T_isFigureAt : Room := { frames := 1, cells := 0, slots := 0, locals := 64 }
abbrev mi_T_isFigureAt : ra_MI := (⟨cn_T, "isFigureAt", "(I)Z"⟩, prog_9_method_2_code, 2, (some .boolean), rm_T_isFigureAt, 2)
set_option maxRecDepth 100000 in
theorem co_T_isFigureAt {R : Room} (h1 : 1 + 1 ≤ R.frames) (h2 : 8 + (2 + 11) + 64 ≤ R.locals) : ra_CO R mi_T_isFigureAt := ⟨rfl, rfl, h1, h2, ra_in 607 (by decide +kernel) (by decide +kernel), ra_in 64 (by decide +kernel) (by decide +kernel), by decide +kernel, by decide +kernel⟩
set_option maxRecDepth 100000 in
theorem im_T_isFigureAt : Cond.instanceMethod (mi_T_isFigureAt).1 ∈ ra_WS := ra_in 605 (by decide +kernel) (by decide +kernel)
set_option maxRecDepth 100000 in
theorem se_T_isFigureAt : Cond.selects (mi_T_isFigureAt).1.cls (mi_T_isFigureAt).1 (mi_T_isFigureAt).1 ∈ ra_WS := ra_in 606 (by decide +kernel) (by decide +kernel)
def rm_V_fitsInHouse : Room := { frames := 7, cells := 0, slots := 0, locals := 321 }
abbrev mi_V_fitsInHouse : ra_MI := (⟨cn_V, "fitsInHouse", "(I)Z"⟩, prog_10_method_8_code, 2, (some .boolean), rm_V_fitsInHouse, 2)
set_option maxRecDepth 100000 in
theorem co_V_fitsInHouse {R : Room} (h1 : 7 + 1 ≤ R.frames) (h2 : 8 + (2 + 11) + 321 ≤ R.locals) : ra_CO R mi_V_fitsInHouse := ⟨rfl, rfl, h1, h2, ra_in 512 (by decide +kernel) (by decide +kernel), ra_in 63 (by decide +kernel) (by decide +kernel), by decide +kernel, by decide +kernel⟩
set_option maxRecDepth 100000 in
theorem im_V_fitsInHouse : Cond.instanceMethod (mi_V_fitsInHouse).1 ∈ ra_WS := ra_in 511 (by decide +kernel) (by decide +kernel)
set_option maxRecDepth 100000 in
theorem se_V_fitsInHouse : Cond.selects (mi_V_fitsInHouse).1.cls (mi_V_fitsInHouse).1 (mi_V_fitsInHouse).1 ∈ ra_WS := ra_in 2 (by decide +kernel) (by decide +kernel)
def rm_V_findHousesFault : Room := { frames := 8, cells := 0, slots := 0, locals := 342 }
abbrev mi_V_findHousesFault : ra_MI := (⟨cn_V, "findHousesFault", "()I"⟩, prog_10_method_7_code, 2, (some .int), rm_V_findHousesFault, 1)
set_option maxRecDepth 100000 in
theorem co_V_findHousesFault {R : Room} (h1 : 8 + 1 ≤ R.frames) (h2 : 8 + (2 + 11) + 342 ≤ R.locals) : ra_CO R mi_V_findHousesFault := ⟨rfl, rfl, h1, h2, ra_in 508 (by decide +kernel) (by decide +kernel), ra_in 63 (by decide +kernel) (by decide +kernel), by decide +kernel, by decide +kernel⟩
set_option maxRecDepth 100000 in
theorem im_V_findHousesFault : Cond.instanceMethod (mi_V_findHousesFault).1 ∈ ra_WS := ra_in 507 (by decide +kernel) (by decide +kernel)
set_option maxRecDepth 100000 in
theorem se_V_findHousesFault : Cond.selects (mi_V_findHousesFault).1.cls (mi_V_findHousesFault).1 (mi_V_findHousesFault).1 ∈ ra_WS := ra_in 1 (by decide +kernel) (by decide +kernel)
def rm_T_figureAt : Room := { frames := 1, cells := 0, slots := 0, locals := 64 }
abbrev mi_T_figureAt : ra_MI := (⟨cn_T, "figureAt", "(I)I"⟩, prog_9_method_3_code, 2, (some .int), rm_T_figureAt, 2)
set_option maxRecDepth 100000 in
theorem co_T_figureAt {R : Room} (h1 : 1 + 1 ≤ R.frames) (h2 : 8 + (2 + 11) + 64 ≤ R.locals) : ra_CO R mi_T_figureAt := ⟨rfl, rfl, h1, h2, ra_in 615 (by decide +kernel) (by decide +kernel), ra_in 64 (by decide +kernel) (by decide +kernel), by decide +kernel, by decide +kernel⟩
set_option maxRecDepth 100000 in
theorem im_T_figureAt : Cond.instanceMethod (mi_T_figureAt).1 ∈ ra_WS := ra_in 613 (by decide +kernel) (by decide +kernel)
set_option maxRecDepth 100000 in
theorem se_T_figureAt : Cond.selects (mi_T_figureAt).1.cls (mi_T_figureAt).1 (mi_T_figureAt).1 ∈ ra_WS := ra_in 614 (by decide +kernel) (by decide +kernel)
def rm_V_readHouses : Room := { frames := 7, cells := 0, slots := 0, locals := 321 }
abbrev mi_V_readHouses : ra_MI := (⟨cn_V, "readHouses", "()V"⟩, prog_10_method_10_code, 2, none, rm_V_readHouses, 1)
set_option maxRecDepth 100000 in
theorem co_V_readHouses {R : Room} (h1 : 7 + 1 ≤ R.frames) (h2 : 8 + (2 + 11) + 321 ≤ R.locals) : ra_CO R mi_V_readHouses := ⟨rfl, rfl, h1, h2, ra_in 611 (by decide +kernel) (by decide +kernel), ra_in 63 (by decide +kernel) (by decide +kernel), by decide +kernel, by decide +kernel⟩
set_option maxRecDepth 100000 in
theorem im_V_readHouses : Cond.instanceMethod (mi_V_readHouses).1 ∈ ra_WS := ra_in 610 (by decide +kernel) (by decide +kernel)
set_option maxRecDepth 100000 in
theorem se_V_readHouses : Cond.selects (mi_V_readHouses).1.cls (mi_V_readHouses).1 (mi_V_readHouses).1 ∈ ra_WS := ra_in 4 (by decide +kernel) (by decide +kernel)
def rm_R_has : Room := { frames := 1, cells := 0, slots := 0, locals := 64 }
abbrev mi_R_has : ra_MI := (⟨cn_R, "has", "(II)Z"⟩, prog_1_method_43_code, 2, (some .boolean), rm_R_has, 2)
set_option maxRecDepth 100000 in
theorem co_R_has {R : Room} (h1 : 1 + 1 ≤ R.frames) (h2 : 8 + (2 + 11) + 64 ≤ R.locals) : ra_CO R mi_R_has := ⟨rfl, rfl, h1, h2, ra_in 623 (by decide +kernel) (by decide +kernel), ra_in 62 (by decide +kernel) (by decide +kernel), by decide +kernel, by decide +kernel⟩
set_option maxRecDepth 100000 in
theorem st_R_has : Cond.static (mi_R_has).1 ∈ ra_WS := ra_in 622 (by decide +kernel) (by decide +kernel)
def rm_V_findLotsFault : Room := { frames := 2, cells := 0, slots := 0, locals := 86 }
abbrev mi_V_findLotsFault : ra_MI := (⟨cn_V, "findLotsFault", "()I"⟩, prog_10_method_11_code, 4, (some .int), rm_V_findLotsFault, 1)
set_option maxRecDepth 100000 in
theorem co_V_findLotsFault {R : Room} (h1 : 2 + 1 ≤ R.frames) (h2 : 8 + (4 + 11) + 86 ≤ R.locals) : ra_CO R mi_V_findLotsFault := ⟨rfl, rfl, h1, h2, ra_in 619 (by decide +kernel) (by decide +kernel), ra_in 63 (by decide +kernel) (by decide +kernel), by decide +kernel, by decide +kernel⟩
set_option maxRecDepth 100000 in
theorem im_V_findLotsFault : Cond.instanceMethod (mi_V_findLotsFault).1 ∈ ra_WS := ra_in 618 (by decide +kernel) (by decide +kernel)
set_option maxRecDepth 100000 in
theorem se_V_findLotsFault : Cond.selects (mi_V_findLotsFault).1.cls (mi_V_findLotsFault).1 (mi_V_findLotsFault).1 ∈ ra_WS := ra_in 5 (by decide +kernel) (by decide +kernel)
def rm_V_readLots : Room := { frames := 2, cells := 0, slots := 0, locals := 85 }
abbrev mi_V_readLots : ra_MI := (⟨cn_V, "readLots", "()V"⟩, prog_10_method_12_code, 3, none, rm_V_readLots, 1)
set_option maxRecDepth 100000 in
theorem co_V_readLots {R : Room} (h1 : 2 + 1 ≤ R.frames) (h2 : 8 + (3 + 11) + 85 ≤ R.locals) : ra_CO R mi_V_readLots := ⟨rfl, rfl, h1, h2, ra_in 627 (by decide +kernel) (by decide +kernel), ra_in 63 (by decide +kernel) (by decide +kernel), by decide +kernel, by decide +kernel⟩
set_option maxRecDepth 100000 in
theorem im_V_readLots : Cond.instanceMethod (mi_V_readLots).1 ∈ ra_WS := ra_in 626 (by decide +kernel) (by decide +kernel)
set_option maxRecDepth 100000 in
theorem se_V_readLots : Cond.selects (mi_V_readLots).1.cls (mi_V_readLots).1 (mi_V_readLots).1 ∈ ra_WS := ra_in 6 (by decide +kernel) (by decide +kernel)
def rm_V_readRings : Room := { frames := 2, cells := 0, slots := 0, locals := 85 }
abbrev mi_V_readRings : ra_MI := (⟨cn_V, "readRings", "()V"⟩, prog_10_method_13_code, 5, none, rm_V_readRings, 1)
set_option maxRecDepth 100000 in
theorem co_V_readRings {R : Room} (h1 : 2 + 1 ≤ R.frames) (h2 : 8 + (5 + 11) + 85 ≤ R.locals) : ra_CO R mi_V_readRings := ⟨rfl, rfl, h1, h2, ra_in 631 (by decide +kernel) (by decide +kernel), ra_in 63 (by decide +kernel) (by decide +kernel), by decide +kernel, by decide +kernel⟩
set_option maxRecDepth 100000 in
theorem im_V_readRings : Cond.instanceMethod (mi_V_readRings).1 ∈ ra_WS := ra_in 630 (by decide +kernel) (by decide +kernel)
set_option maxRecDepth 100000 in
theorem se_V_readRings : Cond.selects (mi_V_readRings).1.cls (mi_V_readRings).1 (mi_V_readRings).1 ∈ ra_WS := ra_in 7 (by decide +kernel) (by decide +kernel)
def rm_V_readTexts : Room := { frames := 9, cells := 0, slots := 0, locals := 363 }
abbrev mi_V_readTexts : ra_MI := (⟨cn_V, "readTexts", "()V"⟩, prog_10_method_6_code, 1, none, rm_V_readTexts, 1)
set_option maxRecDepth 100000 in
theorem co_V_readTexts {R : Room} (h1 : 9 + 1 ≤ R.frames) (h2 : 8 + (1 + 11) + 363 ≤ R.locals) : ra_CO R mi_V_readTexts := ⟨rfl, rfl, h1, h2, ra_in 504 (by decide +kernel) (by decide +kernel), ra_in 63 (by decide +kernel) (by decide +kernel), by decide +kernel, by decide +kernel⟩
set_option maxRecDepth 100000 in
theorem im_V_readTexts : Cond.instanceMethod (mi_V_readTexts).1 ∈ ra_WS := ra_in 503 (by decide +kernel) (by decide +kernel)
set_option maxRecDepth 100000 in
theorem se_V_readTexts : Cond.selects (mi_V_readTexts).1.cls (mi_V_readTexts).1 (mi_V_readTexts).1 ∈ ra_WS := ra_in 0 (by decide +kernel) (by decide +kernel)
def rm_V_append : Room := { frames := 10, cells := 0, slots := 0, locals := 383 }
abbrev mi_V_append : ra_MI := (⟨cn_V, "append", "(LRoofAcross$Text;I)I"⟩, prog_10_method_3_code, 3, (some .int), rm_V_append, 3)
set_option maxRecDepth 100000 in
theorem co_V_append {R : Room} (h1 : 10 + 1 ≤ R.frames) (h2 : 8 + (3 + 11) + 383 ≤ R.locals) : ra_CO R mi_V_append := ⟨rfl, rfl, h1, h2, ra_in 500 (by decide +kernel) (by decide +kernel), ra_in 63 (by decide +kernel) (by decide +kernel), by decide +kernel, by decide +kernel⟩
set_option maxRecDepth 100000 in
theorem im_V_append : Cond.instanceMethod (mi_V_append).1 ∈ ra_WS := ra_in 498 (by decide +kernel) (by decide +kernel)
set_option maxRecDepth 100000 in
theorem se_V_append : Cond.selects (mi_V_append).1.cls (mi_V_append).1 (mi_V_append).1 ∈ ra_WS := ra_in 499 (by decide +kernel) (by decide +kernel)
def rm_R_type : Room := { frames := 11, cells := 0, slots := 0, locals := 405 }
abbrev mi_R_type : ra_MI := (⟨cn_R, "type", "(II)I"⟩, prog_1_method_2_code, 3, (some .int), rm_R_type, 3)
set_option maxRecDepth 100000 in
theorem co_R_type {R : Room} (h1 : 11 + 1 ≤ R.frames) (h2 : 8 + (3 + 11) + 405 ≤ R.locals) : ra_CO R mi_R_type := ⟨rfl, rfl, h1, h2, ra_in 489 (by decide +kernel) (by decide +kernel), ra_in 62 (by decide +kernel) (by decide +kernel), by decide +kernel, by decide +kernel⟩
set_option maxRecDepth 100000 in
theorem im_R_type : Cond.instanceMethod (mi_R_type).1 ∈ ra_WS := ra_in 487 (by decide +kernel) (by decide +kernel)
set_option maxRecDepth 100000 in
theorem se_R_type : Cond.selects (mi_R_type).1.cls (mi_R_type).1 (mi_R_type).1 ∈ ra_WS := ra_in 488 (by decide +kernel) (by decide +kernel)
def rm_V_clear : Room := { frames := 10, cells := 0, slots := 0, locals := 383 }
abbrev mi_V_clear : ra_MI := (⟨cn_V, "clear", "(LRoofAcross$Text;)I"⟩, prog_10_method_4_code, 3, (some .int), rm_V_clear, 2)
set_option maxRecDepth 100000 in
theorem co_V_clear {R : Room} (h1 : 10 + 1 ≤ R.frames) (h2 : 8 + (3 + 11) + 383 ≤ R.locals) : ra_CO R mi_V_clear := ⟨rfl, rfl, h1, h2, ra_in 640 (by decide +kernel) (by decide +kernel), ra_in 63 (by decide +kernel) (by decide +kernel), by decide +kernel, by decide +kernel⟩
set_option maxRecDepth 100000 in
theorem im_V_clear : Cond.instanceMethod (mi_V_clear).1 ∈ ra_WS := ra_in 638 (by decide +kernel) (by decide +kernel)
set_option maxRecDepth 100000 in
theorem se_V_clear : Cond.selects (mi_V_clear).1.cls (mi_V_clear).1 (mi_V_clear).1 ∈ ra_WS := ra_in 639 (by decide +kernel) (by decide +kernel)
def rm_R_wipe : Room := { frames := 11, cells := 0, slots := 0, locals := 405 }
abbrev mi_R_wipe : ra_MI := (⟨cn_R, "wipe", "(I)I"⟩, prog_1_method_3_code, 2, (some .int), rm_R_wipe, 2)
set_option maxRecDepth 100000 in
theorem co_R_wipe {R : Room} (h1 : 11 + 1 ≤ R.frames) (h2 : 8 + (2 + 11) + 405 ≤ R.locals) : ra_CO R mi_R_wipe := ⟨rfl, rfl, h1, h2, ra_in 636 (by decide +kernel) (by decide +kernel), ra_in 62 (by decide +kernel) (by decide +kernel), by decide +kernel, by decide +kernel⟩
set_option maxRecDepth 100000 in
theorem im_R_wipe : Cond.instanceMethod (mi_R_wipe).1 ∈ ra_WS := ra_in 634 (by decide +kernel) (by decide +kernel)
set_option maxRecDepth 100000 in
theorem se_R_wipe : Cond.selects (mi_R_wipe).1.cls (mi_R_wipe).1 (mi_R_wipe).1 ∈ ra_WS := ra_in 635 (by decide +kernel) (by decide +kernel)
def rm_R_fault : Room := { frames := 2, cells := 0, slots := 0, locals := 86 }
abbrev mi_R_fault : ra_MI := (⟨cn_R, "fault", "(I)I"⟩, prog_1_method_4_code, 2, (some .int), rm_R_fault, 2)
set_option maxRecDepth 100000 in
theorem co_R_fault {R : Room} (h1 : 2 + 1 ≤ R.frames) (h2 : 8 + (2 + 11) + 86 ≤ R.locals) : ra_CO R mi_R_fault := ⟨rfl, rfl, h1, h2, ra_in 644 (by decide +kernel) (by decide +kernel), ra_in 62 (by decide +kernel) (by decide +kernel), by decide +kernel, by decide +kernel⟩
set_option maxRecDepth 100000 in
theorem im_R_fault : Cond.instanceMethod (mi_R_fault).1 ∈ ra_WS := ra_in 642 (by decide +kernel) (by decide +kernel)
set_option maxRecDepth 100000 in
theorem se_R_fault : Cond.selects (mi_R_fault).1.cls (mi_R_fault).1 (mi_R_fault).1 ∈ ra_WS := ra_in 643 (by decide +kernel) (by decide +kernel)
def rm_R_isNoHouse : Room := { frames := 2, cells := 0, slots := 0, locals := 86 }
abbrev mi_R_isNoHouse : ra_MI := (⟨cn_R, "isNoHouse", "(I)Z"⟩, prog_1_method_38_code, 2, (some .boolean), rm_R_isNoHouse, 2)
set_option maxRecDepth 100000 in
theorem co_R_isNoHouse {R : Room} (h1 : 2 + 1 ≤ R.frames) (h2 : 8 + (2 + 11) + 86 ≤ R.locals) : ra_CO R mi_R_isNoHouse := ⟨rfl, rfl, h1, h2, ra_in 652 (by decide +kernel) (by decide +kernel), ra_in 62 (by decide +kernel) (by decide +kernel), by decide +kernel, by decide +kernel⟩
set_option maxRecDepth 100000 in
theorem im_R_isNoHouse : Cond.instanceMethod (mi_R_isNoHouse).1 ∈ ra_WS := ra_in 651 (by decide +kernel) (by decide +kernel)
set_option maxRecDepth 100000 in
theorem se_R_isNoHouse : Cond.selects (mi_R_isNoHouse).1.cls (mi_R_isNoHouse).1 (mi_R_isNoHouse).1 ∈ ra_WS := ra_in 8 (by decide +kernel) (by decide +kernel)
def rm_R_house : Room := { frames := 3, cells := 0, slots := 0, locals := 107 }
abbrev mi_R_house : ra_MI := (⟨cn_R, "house", "(II)I"⟩, prog_1_method_5_code, 3, (some .int), rm_R_house, 3)
set_option maxRecDepth 100000 in
theorem co_R_house {R : Room} (h1 : 3 + 1 ≤ R.frames) (h2 : 8 + (3 + 11) + 107 ≤ R.locals) : ra_CO R mi_R_house := ⟨rfl, rfl, h1, h2, ra_in 648 (by decide +kernel) (by decide +kernel), ra_in 62 (by decide +kernel) (by decide +kernel), by decide +kernel, by decide +kernel⟩
set_option maxRecDepth 100000 in
theorem im_R_house : Cond.instanceMethod (mi_R_house).1 ∈ ra_WS := ra_in 646 (by decide +kernel) (by decide +kernel)
set_option maxRecDepth 100000 in
theorem se_R_house : Cond.selects (mi_R_house).1.cls (mi_R_house).1 (mi_R_house).1 ∈ ra_WS := ra_in 647 (by decide +kernel) (by decide +kernel)
def rm_Wt_take : Room := { frames := 2, cells := 0, slots := 0, locals := 86 }
abbrev mi_Wt_take : ra_MI := (⟨cn_Wt, "take", "(I)I"⟩, prog_11_method_2_code, 2, (some .int), rm_Wt_take, 2)
set_option maxRecDepth 100000 in
theorem co_Wt_take {R : Room} (h1 : 2 + 1 ≤ R.frames) (h2 : 8 + (2 + 11) + 86 ≤ R.locals) : ra_CO R mi_Wt_take := ⟨rfl, rfl, h1, h2, ra_in 660 (by decide +kernel) (by decide +kernel), ra_in 65 (by decide +kernel) (by decide +kernel), by decide +kernel, by decide +kernel⟩
set_option maxRecDepth 100000 in
theorem im_Wt_take : Cond.instanceMethod (mi_Wt_take).1 ∈ ra_WS := ra_in 658 (by decide +kernel) (by decide +kernel)
set_option maxRecDepth 100000 in
theorem se_Wt_take : Cond.selects (mi_Wt_take).1.cls (mi_Wt_take).1 (mi_Wt_take).1 ∈ ra_WS := ra_in 659 (by decide +kernel) (by decide +kernel)
def rm_R_rain : Room := { frames := 3, cells := 0, slots := 0, locals := 107 }
abbrev mi_R_rain : ra_MI := (⟨cn_R, "rain", "(I)I"⟩, prog_1_method_6_code, 2, (some .int), rm_R_rain, 2)
set_option maxRecDepth 100000 in
theorem co_R_rain {R : Room} (h1 : 3 + 1 ≤ R.frames) (h2 : 8 + (2 + 11) + 107 ≤ R.locals) : ra_CO R mi_R_rain := ⟨rfl, rfl, h1, h2, ra_in 656 (by decide +kernel) (by decide +kernel), ra_in 62 (by decide +kernel) (by decide +kernel), by decide +kernel, by decide +kernel⟩
set_option maxRecDepth 100000 in
theorem im_R_rain : Cond.instanceMethod (mi_R_rain).1 ∈ ra_WS := ra_in 654 (by decide +kernel) (by decide +kernel)
set_option maxRecDepth 100000 in
theorem se_R_rain : Cond.selects (mi_R_rain).1.cls (mi_R_rain).1 (mi_R_rain).1 ∈ ra_WS := ra_in 655 (by decide +kernel) (by decide +kernel)
def rm_R_isNoSheet : Room := { frames := 2, cells := 0, slots := 0, locals := 86 }
abbrev mi_R_isNoSheet : ra_MI := (⟨cn_R, "isNoSheet", "(I)Z"⟩, prog_1_method_40_code, 1, (some .boolean), rm_R_isNoSheet, 1)
set_option maxRecDepth 100000 in
theorem co_R_isNoSheet {R : Room} (h1 : 2 + 1 ≤ R.frames) (h2 : 8 + (1 + 11) + 86 ≤ R.locals) : ra_CO R mi_R_isNoSheet := ⟨rfl, rfl, h1, h2, ra_in 668 (by decide +kernel) (by decide +kernel), ra_in 62 (by decide +kernel) (by decide +kernel), by decide +kernel, by decide +kernel⟩
set_option maxRecDepth 100000 in
theorem st_R_isNoSheet : Cond.static (mi_R_isNoSheet).1 ∈ ra_WS := ra_in 667 (by decide +kernel) (by decide +kernel)
def rm_R_find : Room := { frames := 1, cells := 0, slots := 0, locals := 64 }
abbrev mi_R_find : ra_MI := (⟨cn_R, "find", "(I)I"⟩, prog_1_method_37_code, 2, (some .int), rm_R_find, 2)
set_option maxRecDepth 100000 in
theorem co_R_find {R : Room} (h1 : 1 + 1 ≤ R.frames) (h2 : 8 + (2 + 11) + 64 ≤ R.locals) : ra_CO R mi_R_find := ⟨rfl, rfl, h1, h2, ra_in 672 (by decide +kernel) (by decide +kernel), ra_in 62 (by decide +kernel) (by decide +kernel), by decide +kernel, by decide +kernel⟩
set_option maxRecDepth 100000 in
theorem im_R_find : Cond.instanceMethod (mi_R_find).1 ∈ ra_WS := ra_in 671 (by decide +kernel) (by decide +kernel)
set_option maxRecDepth 100000 in
theorem se_R_find : Cond.selects (mi_R_find).1.cls (mi_R_find).1 (mi_R_find).1 ∈ ra_WS := ra_in 9 (by decide +kernel) (by decide +kernel)
def rm_R_read : Room := { frames := 3, cells := 0, slots := 0, locals := 107 }
abbrev mi_R_read : ra_MI := (⟨cn_R, "read", "(I)I"⟩, prog_1_method_7_code, 4, (some .int), rm_R_read, 2)
set_option maxRecDepth 100000 in
theorem co_R_read {R : Room} (h1 : 3 + 1 ≤ R.frames) (h2 : 8 + (4 + 11) + 107 ≤ R.locals) : ra_CO R mi_R_read := ⟨rfl, rfl, h1, h2, ra_in 665 (by decide +kernel) (by decide +kernel), ra_in 62 (by decide +kernel) (by decide +kernel), by decide +kernel, by decide +kernel⟩
set_option maxRecDepth 100000 in
theorem im_R_read : Cond.instanceMethod (mi_R_read).1 ∈ ra_WS := ra_in 663 (by decide +kernel) (by decide +kernel)
set_option maxRecDepth 100000 in
theorem se_R_read : Cond.selects (mi_R_read).1.cls (mi_R_read).1 (mi_R_read).1 ∈ ra_WS := ra_in 664 (by decide +kernel) (by decide +kernel)
def rm_Wt_takeBack : Room := { frames := 1, cells := 0, slots := 0, locals := 64 }
abbrev mi_Wt_takeBack : ra_MI := (⟨cn_Wt, "takeBack", "()I"⟩, prog_11_method_3_code, 1, (some .int), rm_Wt_takeBack, 1)
set_option maxRecDepth 100000 in
theorem co_Wt_takeBack {R : Room} (h1 : 1 + 1 ≤ R.frames) (h2 : 8 + (1 + 11) + 64 ≤ R.locals) : ra_CO R mi_Wt_takeBack := ⟨rfl, rfl, h1, h2, ra_in 680 (by decide +kernel) (by decide +kernel), ra_in 65 (by decide +kernel) (by decide +kernel), by decide +kernel, by decide +kernel⟩
set_option maxRecDepth 100000 in
theorem im_Wt_takeBack : Cond.instanceMethod (mi_Wt_takeBack).1 ∈ ra_WS := ra_in 678 (by decide +kernel) (by decide +kernel)
set_option maxRecDepth 100000 in
theorem se_Wt_takeBack : Cond.selects (mi_Wt_takeBack).1.cls (mi_Wt_takeBack).1 (mi_Wt_takeBack).1 ∈ ra_WS := ra_in 679 (by decide +kernel) (by decide +kernel)
def rm_R_undo : Room := { frames := 2, cells := 0, slots := 0, locals := 84 }
abbrev mi_R_undo : ra_MI := (⟨cn_R, "undo", "()I"⟩, prog_1_method_8_code, 1, (some .int), rm_R_undo, 1)
set_option maxRecDepth 100000 in
theorem co_R_undo {R : Room} (h1 : 2 + 1 ≤ R.frames) (h2 : 8 + (1 + 11) + 84 ≤ R.locals) : ra_CO R mi_R_undo := ⟨rfl, rfl, h1, h2, ra_in 676 (by decide +kernel) (by decide +kernel), ra_in 62 (by decide +kernel) (by decide +kernel), by decide +kernel, by decide +kernel⟩
set_option maxRecDepth 100000 in
theorem im_R_undo : Cond.instanceMethod (mi_R_undo).1 ∈ ra_WS := ra_in 674 (by decide +kernel) (by decide +kernel)
set_option maxRecDepth 100000 in
theorem se_R_undo : Cond.selects (mi_R_undo).1.cls (mi_R_undo).1 (mi_R_undo).1 ∈ ra_WS := ra_in 675 (by decide +kernel) (by decide +kernel)
def rm_Wt_changePrice : Room := { frames := 1, cells := 0, slots := 0, locals := 64 }
abbrev mi_Wt_changePrice : ra_MI := (⟨cn_Wt, "changePrice", "(I)I"⟩, prog_11_method_4_code, 3, (some .int), rm_Wt_changePrice, 2)
set_option maxRecDepth 100000 in
theorem co_Wt_changePrice {R : Room} (h1 : 1 + 1 ≤ R.frames) (h2 : 8 + (3 + 11) + 64 ≤ R.locals) : ra_CO R mi_Wt_changePrice := ⟨rfl, rfl, h1, h2, ra_in 688 (by decide +kernel) (by decide +kernel), ra_in 65 (by decide +kernel) (by decide +kernel), by decide +kernel, by decide +kernel⟩
set_option maxRecDepth 100000 in
theorem im_Wt_changePrice : Cond.instanceMethod (mi_Wt_changePrice).1 ∈ ra_WS := ra_in 686 (by decide +kernel) (by decide +kernel)
set_option maxRecDepth 100000 in
theorem se_Wt_changePrice : Cond.selects (mi_Wt_changePrice).1.cls (mi_Wt_changePrice).1 (mi_Wt_changePrice).1 ∈ ra_WS := ra_in 687 (by decide +kernel) (by decide +kernel)
def rm_Wt_changeWear : Room := { frames := 1, cells := 0, slots := 0, locals := 64 }
abbrev mi_Wt_changeWear : ra_MI := (⟨cn_Wt, "changeWear", "(I)I"⟩, prog_11_method_5_code, 3, (some .int), rm_Wt_changeWear, 2)
set_option maxRecDepth 100000 in
theorem co_Wt_changeWear {R : Room} (h1 : 1 + 1 ≤ R.frames) (h2 : 8 + (3 + 11) + 64 ≤ R.locals) : ra_CO R mi_Wt_changeWear := ⟨rfl, rfl, h1, h2, ra_in 692 (by decide +kernel) (by decide +kernel), ra_in 65 (by decide +kernel) (by decide +kernel), by decide +kernel, by decide +kernel⟩
set_option maxRecDepth 100000 in
theorem im_Wt_changeWear : Cond.instanceMethod (mi_Wt_changeWear).1 ∈ ra_WS := ra_in 690 (by decide +kernel) (by decide +kernel)
set_option maxRecDepth 100000 in
theorem se_Wt_changeWear : Cond.selects (mi_Wt_changeWear).1.cls (mi_Wt_changeWear).1 (mi_Wt_changeWear).1 ∈ ra_WS := ra_in 691 (by decide +kernel) (by decide +kernel)
def rm_R_set : Room := { frames := 2, cells := 0, slots := 0, locals := 86 }
abbrev mi_R_set : ra_MI := (⟨cn_R, "set", "(II)I"⟩, prog_1_method_9_code, 3, (some .int), rm_R_set, 3)
set_option maxRecDepth 100000 in
theorem co_R_set {R : Room} (h1 : 2 + 1 ≤ R.frames) (h2 : 8 + (3 + 11) + 86 ≤ R.locals) : ra_CO R mi_R_set := ⟨rfl, rfl, h1, h2, ra_in 684 (by decide +kernel) (by decide +kernel), ra_in 62 (by decide +kernel) (by decide +kernel), by decide +kernel, by decide +kernel⟩
set_option maxRecDepth 100000 in
theorem im_R_set : Cond.instanceMethod (mi_R_set).1 ∈ ra_WS := ra_in 682 (by decide +kernel) (by decide +kernel)
set_option maxRecDepth 100000 in
theorem se_R_set : Cond.selects (mi_R_set).1.cls (mi_R_set).1 (mi_R_set).1 ∈ ra_WS := ra_in 683 (by decide +kernel) (by decide +kernel)
def rm_Co_choose : Room := { frames := 2, cells := 0, slots := 0, locals := 85 }
abbrev mi_Co_choose : ra_MI := (⟨cn_Co, "choose", "(I)V"⟩, prog_2_method_2_code, 3, none, rm_Co_choose, 2)
set_option maxRecDepth 100000 in
theorem co_Co_choose {R : Room} (h1 : 2 + 1 ≤ R.frames) (h2 : 8 + (3 + 11) + 85 ≤ R.locals) : ra_CO R mi_Co_choose := ⟨rfl, rfl, h1, h2, ra_in 712 (by decide +kernel) (by decide +kernel), ra_in 67 (by decide +kernel) (by decide +kernel), by decide +kernel, by decide +kernel⟩
set_option maxRecDepth 100000 in
theorem im_Co_choose : Cond.instanceMethod (mi_Co_choose).1 ∈ ra_WS := ra_in 710 (by decide +kernel) (by decide +kernel)
set_option maxRecDepth 100000 in
theorem se_Co_choose : Cond.selects (mi_Co_choose).1.cls (mi_Co_choose).1 (mi_Co_choose).1 ∈ ra_WS := ra_in 711 (by decide +kernel) (by decide +kernel)
def rm_Co_begin : Room := { frames := 1, cells := 0, slots := 0, locals := 64 }
abbrev mi_Co_begin : ra_MI := (⟨cn_Co, "begin", "()V"⟩, prog_2_method_3_code, 3, none, rm_Co_begin, 1)
set_option maxRecDepth 100000 in
theorem co_Co_begin {R : Room} (h1 : 1 + 1 ≤ R.frames) (h2 : 8 + (3 + 11) + 64 ≤ R.locals) : ra_CO R mi_Co_begin := ⟨rfl, rfl, h1, h2, ra_in 717 (by decide +kernel) (by decide +kernel), ra_in 67 (by decide +kernel) (by decide +kernel), by decide +kernel, by decide +kernel⟩
set_option maxRecDepth 100000 in
theorem im_Co_begin : Cond.instanceMethod (mi_Co_begin).1 ∈ ra_WS := ra_in 715 (by decide +kernel) (by decide +kernel)
set_option maxRecDepth 100000 in
theorem se_Co_begin : Cond.selects (mi_Co_begin).1.cls (mi_Co_begin).1 (mi_Co_begin).1 ∈ ra_WS := ra_in 716 (by decide +kernel) (by decide +kernel)
def rm_So_note : Room := { frames := 1, cells := 0, slots := 0, locals := 64 }
abbrev mi_So_note : ra_MI := (⟨cn_So, "note", "(I)V"⟩, prog_8_method_4_code, 4, none, rm_So_note, 2)
set_option maxRecDepth 100000 in
theorem co_So_note {R : Room} (h1 : 1 + 1 ≤ R.frames) (h2 : 8 + (4 + 11) + 64 ≤ R.locals) : ra_CO R mi_So_note := ⟨rfl, rfl, h1, h2, ra_in 721 (by decide +kernel) (by decide +kernel), ra_in 66 (by decide +kernel) (by decide +kernel), by decide +kernel, by decide +kernel⟩
set_option maxRecDepth 100000 in
theorem im_So_note : Cond.instanceMethod (mi_So_note).1 ∈ ra_WS := ra_in 720 (by decide +kernel) (by decide +kernel)
set_option maxRecDepth 100000 in
theorem se_So_note : Cond.selects (mi_So_note).1.cls (mi_So_note).1 (mi_So_note).1 ∈ ra_WS := ra_in 12 (by decide +kernel) (by decide +kernel)
def rm_Co_isLaidOn : Room := { frames := 1, cells := 0, slots := 0, locals := 64 }
abbrev mi_Co_isLaidOn : ra_MI := (⟨cn_Co, "isLaidOn", "(IZ)Z"⟩, prog_2_method_5_code, 4, (some .boolean), rm_Co_isLaidOn, 3)
set_option maxRecDepth 100000 in
theorem co_Co_isLaidOn {R : Room} (h1 : 1 + 1 ≤ R.frames) (h2 : 8 + (4 + 11) + 64 ≤ R.locals) : ra_CO R mi_Co_isLaidOn := ⟨rfl, rfl, h1, h2, ra_in 730 (by decide +kernel) (by decide +kernel), ra_in 67 (by decide +kernel) (by decide +kernel), by decide +kernel, by decide +kernel⟩
set_option maxRecDepth 100000 in
theorem im_Co_isLaidOn : Cond.instanceMethod (mi_Co_isLaidOn).1 ∈ ra_WS := ra_in 729 (by decide +kernel) (by decide +kernel)
set_option maxRecDepth 100000 in
theorem se_Co_isLaidOn : Cond.selects (mi_Co_isLaidOn).1.cls (mi_Co_isLaidOn).1 (mi_Co_isLaidOn).1 ∈ ra_WS := ra_in 13 (by decide +kernel) (by decide +kernel)
def rm_Co_settle : Room := { frames := 1, cells := 0, slots := 0, locals := 64 }
abbrev mi_Co_settle : ra_MI := (⟨cn_Co, "settle", "(IZ)V"⟩, prog_2_method_6_code, 3, none, rm_Co_settle, 3)
set_option maxRecDepth 100000 in
theorem co_Co_settle {R : Room} (h1 : 1 + 1 ≤ R.frames) (h2 : 8 + (3 + 11) + 64 ≤ R.locals) : ra_CO R mi_Co_settle := ⟨rfl, rfl, h1, h2, ra_in 734 (by decide +kernel) (by decide +kernel), ra_in 67 (by decide +kernel) (by decide +kernel), by decide +kernel, by decide +kernel⟩
set_option maxRecDepth 100000 in
theorem im_Co_settle : Cond.instanceMethod (mi_Co_settle).1 ∈ ra_WS := ra_in 733 (by decide +kernel) (by decide +kernel)
set_option maxRecDepth 100000 in
theorem se_Co_settle : Cond.selects (mi_Co_settle).1.cls (mi_Co_settle).1 (mi_Co_settle).1 ∈ ra_WS := ra_in 14 (by decide +kernel) (by decide +kernel)
def rm_Co_pass : Room := { frames := 2, cells := 0, slots := 0, locals := 87 }
abbrev mi_Co_pass : ra_MI := (⟨cn_Co, "pass", "(I)V"⟩, prog_2_method_4_code, 6, none, rm_Co_pass, 2)
set_option maxRecDepth 100000 in
theorem co_Co_pass {R : Room} (h1 : 2 + 1 ≤ R.frames) (h2 : 8 + (6 + 11) + 87 ≤ R.locals) : ra_CO R mi_Co_pass := ⟨rfl, rfl, h1, h2, ra_in 725 (by decide +kernel) (by decide +kernel), ra_in 67 (by decide +kernel) (by decide +kernel), by decide +kernel, by decide +kernel⟩
set_option maxRecDepth 100000 in
theorem im_Co_pass : Cond.instanceMethod (mi_Co_pass).1 ∈ ra_WS := ra_in 723 (by decide +kernel) (by decide +kernel)
set_option maxRecDepth 100000 in
theorem se_Co_pass : Cond.selects (mi_Co_pass).1.cls (mi_Co_pass).1 (mi_Co_pass).1 ∈ ra_WS := ra_in 724 (by decide +kernel) (by decide +kernel)
def rm_So_tell : Room := { frames := 3, cells := 0, slots := 0, locals := 112 }
abbrev mi_So_tell : ra_MI := (⟨cn_So, "tell", "()V"⟩, prog_8_method_3_code, 2, none, rm_So_tell, 1)
set_option maxRecDepth 100000 in
theorem co_So_tell {R : Room} (h1 : 3 + 1 ≤ R.frames) (h2 : 8 + (2 + 11) + 112 ≤ R.locals) : ra_CO R mi_So_tell := ⟨rfl, rfl, h1, h2, ra_in 708 (by decide +kernel) (by decide +kernel), ra_in 66 (by decide +kernel) (by decide +kernel), by decide +kernel, by decide +kernel⟩
set_option maxRecDepth 100000 in
theorem im_So_tell : Cond.instanceMethod (mi_So_tell).1 ∈ ra_WS := ra_in 707 (by decide +kernel) (by decide +kernel)
set_option maxRecDepth 100000 in
theorem se_So_tell : Cond.selects (mi_So_tell).1.cls (mi_So_tell).1 (mi_So_tell).1 ∈ ra_WS := ra_in 11 (by decide +kernel) (by decide +kernel)
def rm_So_rowOf : Room := { frames := 4, cells := 0, slots := 0, locals := 133 }
abbrev mi_So_rowOf : ra_MI := (⟨cn_So, "rowOf", "(I)[I"⟩, prog_8_method_2_code, 3, (some (.array .int)), rm_So_rowOf, 2)
set_option maxRecDepth 100000 in
theorem co_So_rowOf {R : Room} (h1 : 4 + 1 ≤ R.frames) (h2 : 8 + (3 + 11) + 133 ≤ R.locals) : ra_CO R mi_So_rowOf := ⟨rfl, rfl, h1, h2, ra_in 704 (by decide +kernel) (by decide +kernel), ra_in 66 (by decide +kernel) (by decide +kernel), by decide +kernel, by decide +kernel⟩
set_option maxRecDepth 100000 in
theorem im_So_rowOf : Cond.instanceMethod (mi_So_rowOf).1 ∈ ra_WS := ra_in 702 (by decide +kernel) (by decide +kernel)
set_option maxRecDepth 100000 in
theorem se_So_rowOf : Cond.selects (mi_So_rowOf).1.cls (mi_So_rowOf).1 (mi_So_rowOf).1 ∈ ra_WS := ra_in 703 (by decide +kernel) (by decide +kernel)
def rm_R_behind : Room := { frames := 5, cells := 0, slots := 0, locals := 155 }
abbrev mi_R_behind : ra_MI := (⟨cn_R, "behind", "(III)I"⟩, prog_1_method_36_code, 4, (some .int), rm_R_behind, 4)
set_option maxRecDepth 100000 in
theorem co_R_behind {R : Room} (h1 : 5 + 1 ≤ R.frames) (h2 : 8 + (4 + 11) + 155 ≤ R.locals) : ra_CO R mi_R_behind := ⟨rfl, rfl, h1, h2, ra_in 700 (by decide +kernel) (by decide +kernel), ra_in 62 (by decide +kernel) (by decide +kernel), by decide +kernel, by decide +kernel⟩
set_option maxRecDepth 100000 in
theorem im_R_behind : Cond.instanceMethod (mi_R_behind).1 ∈ ra_WS := ra_in 699 (by decide +kernel) (by decide +kernel)
set_option maxRecDepth 100000 in
theorem se_R_behind : Cond.selects (mi_R_behind).1.cls (mi_R_behind).1 (mi_R_behind).1 ∈ ra_WS := ra_in 10 (by decide +kernel) (by decide +kernel)
def rm_R_tiles : Room := { frames := 6, cells := 0, slots := 0, locals := 178 }
abbrev mi_R_tiles : ra_MI := (⟨cn_R, "tiles", "(II)I"⟩, prog_1_method_10_code, 3, (some .int), rm_R_tiles, 3)
set_option maxRecDepth 100000 in
theorem co_R_tiles {R : Room} (h1 : 6 + 1 ≤ R.frames) (h2 : 8 + (3 + 11) + 178 ≤ R.locals) : ra_CO R mi_R_tiles := ⟨rfl, rfl, h1, h2, ra_in 696 (by decide +kernel) (by decide +kernel), ra_in 62 (by decide +kernel) (by decide +kernel), by decide +kernel, by decide +kernel⟩
set_option maxRecDepth 100000 in
theorem im_R_tiles : Cond.instanceMethod (mi_R_tiles).1 ∈ ra_WS := ra_in 694 (by decide +kernel) (by decide +kernel)
set_option maxRecDepth 100000 in
theorem se_R_tiles : Cond.selects (mi_R_tiles).1.cls (mi_R_tiles).1 (mi_R_tiles).1 ∈ ra_WS := ra_in 695 (by decide +kernel) (by decide +kernel)
def rm_R_purse : Room := { frames := 6, cells := 0, slots := 0, locals := 178 }
abbrev mi_R_purse : ra_MI := (⟨cn_R, "purse", "(II)I"⟩, prog_1_method_11_code, 3, (some .int), rm_R_purse, 3)
set_option maxRecDepth 100000 in
theorem co_R_purse {R : Room} (h1 : 6 + 1 ≤ R.frames) (h2 : 8 + (3 + 11) + 178 ≤ R.locals) : ra_CO R mi_R_purse := ⟨rfl, rfl, h1, h2, ra_in 738 (by decide +kernel) (by decide +kernel), ra_in 62 (by decide +kernel) (by decide +kernel), by decide +kernel, by decide +kernel⟩
set_option maxRecDepth 100000 in
theorem im_R_purse : Cond.instanceMethod (mi_R_purse).1 ∈ ra_WS := ra_in 736 (by decide +kernel) (by decide +kernel)
set_option maxRecDepth 100000 in
theorem se_R_purse : Cond.selects (mi_R_purse).1.cls (mi_R_purse).1 (mi_R_purse).1 ∈ ra_WS := ra_in 737 (by decide +kernel) (by decide +kernel)
def rm_R_harm : Room := { frames := 6, cells := 0, slots := 0, locals := 178 }
abbrev mi_R_harm : ra_MI := (⟨cn_R, "harm", "(II)I"⟩, prog_1_method_12_code, 3, (some .int), rm_R_harm, 3)
set_option maxRecDepth 100000 in
theorem co_R_harm {R : Room} (h1 : 6 + 1 ≤ R.frames) (h2 : 8 + (3 + 11) + 178 ≤ R.locals) : ra_CO R mi_R_harm := ⟨rfl, rfl, h1, h2, ra_in 742 (by decide +kernel) (by decide +kernel), ra_in 62 (by decide +kernel) (by decide +kernel), by decide +kernel, by decide +kernel⟩
set_option maxRecDepth 100000 in
theorem im_R_harm : Cond.instanceMethod (mi_R_harm).1 ∈ ra_WS := ra_in 740 (by decide +kernel) (by decide +kernel)
set_option maxRecDepth 100000 in
theorem se_R_harm : Cond.selects (mi_R_harm).1.cls (mi_R_harm).1 (mi_R_harm).1 ∈ ra_WS := ra_in 741 (by decide +kernel) (by decide +kernel)
def rm_R_laid : Room := { frames := 6, cells := 0, slots := 0, locals := 178 }
abbrev mi_R_laid : ra_MI := (⟨cn_R, "laid", "(II)I"⟩, prog_1_method_13_code, 3, (some .int), rm_R_laid, 3)
set_option maxRecDepth 100000 in
theorem co_R_laid {R : Room} (h1 : 6 + 1 ≤ R.frames) (h2 : 8 + (3 + 11) + 178 ≤ R.locals) : ra_CO R mi_R_laid := ⟨rfl, rfl, h1, h2, ra_in 746 (by decide +kernel) (by decide +kernel), ra_in 62 (by decide +kernel) (by decide +kernel), by decide +kernel, by decide +kernel⟩
set_option maxRecDepth 100000 in
theorem im_R_laid : Cond.instanceMethod (mi_R_laid).1 ∈ ra_WS := ra_in 744 (by decide +kernel) (by decide +kernel)
set_option maxRecDepth 100000 in
theorem se_R_laid : Cond.selects (mi_R_laid).1.cls (mi_R_laid).1 (mi_R_laid).1 ∈ ra_WS := ra_in 745 (by decide +kernel) (by decide +kernel)
def rm_R_all : Room := { frames := 5, cells := 0, slots := 0, locals := 155 }
abbrev mi_R_all : ra_MI := (⟨cn_R, "all", "(II)I"⟩, prog_1_method_14_code, 5, (some .int), rm_R_all, 3)
set_option maxRecDepth 100000 in
theorem co_R_all {R : Room} (h1 : 5 + 1 ≤ R.frames) (h2 : 8 + (5 + 11) + 155 ≤ R.locals) : ra_CO R mi_R_all := ⟨rfl, rfl, h1, h2, ra_in 750 (by decide +kernel) (by decide +kernel), ra_in 62 (by decide +kernel) (by decide +kernel), by decide +kernel, by decide +kernel⟩
set_option maxRecDepth 100000 in
theorem im_R_all : Cond.instanceMethod (mi_R_all).1 ∈ ra_WS := ra_in 748 (by decide +kernel) (by decide +kernel)
set_option maxRecDepth 100000 in
theorem se_R_all : Cond.selects (mi_R_all).1.cls (mi_R_all).1 (mi_R_all).1 ∈ ra_WS := ra_in 749 (by decide +kernel) (by decide +kernel)
def rm_J_bitCount : Room := { frames := 1, cells := 0, slots := 0, locals := 64 }
abbrev mi_J_bitCount : ra_MI := (⟨cn_J, "bitCount", "(I)I"⟩, prog_15_method_49_code, 1, (some .int), rm_J_bitCount, 1)
set_option maxRecDepth 100000 in
theorem co_J_bitCount {R : Room} (h1 : 1 + 1 ≤ R.frames) (h2 : 8 + (1 + 11) + 64 ≤ R.locals) : ra_CO R mi_J_bitCount := ⟨rfl, rfl, h1, h2, ra_in 757 (by decide +kernel) (by decide +kernel), ra_in 80 (by decide +kernel) (by decide +kernel), by decide +kernel, by decide +kernel⟩
set_option maxRecDepth 100000 in
theorem st_J_bitCount : Cond.static (mi_J_bitCount).1 ∈ ra_WS := ra_in 756 (by decide +kernel) (by decide +kernel)
def rm_R_ring : Room := { frames := 3, cells := 0, slots := 0, locals := 107 }
abbrev mi_R_ring : ra_MI := (⟨cn_R, "ring", "(II)I"⟩, prog_1_method_15_code, 4, (some .int), rm_R_ring, 3)
set_option maxRecDepth 100000 in
theorem co_R_ring {R : Room} (h1 : 3 + 1 ≤ R.frames) (h2 : 8 + (4 + 11) + 107 ≤ R.locals) : ra_CO R mi_R_ring := ⟨rfl, rfl, h1, h2, ra_in 754 (by decide +kernel) (by decide +kernel), ra_in 62 (by decide +kernel) (by decide +kernel), by decide +kernel, by decide +kernel⟩
set_option maxRecDepth 100000 in
theorem im_R_ring : Cond.instanceMethod (mi_R_ring).1 ∈ ra_WS := ra_in 752 (by decide +kernel) (by decide +kernel)
set_option maxRecDepth 100000 in
theorem se_R_ring : Cond.selects (mi_R_ring).1.cls (mi_R_ring).1 (mi_R_ring).1 ∈ ra_WS := ra_in 753 (by decide +kernel) (by decide +kernel)
def rm_Mo_isTried : Room := { frames := 1, cells := 0, slots := 0, locals := 64 }
abbrev mi_Mo_isTried : ra_MI := (⟨cn_Mo, "isTried", "(II)Z"⟩, prog_6_method_2_code, 5, (some .boolean), rm_Mo_isTried, 3)
set_option maxRecDepth 100000 in
theorem co_Mo_isTried {R : Room} (h1 : 1 + 1 ≤ R.frames) (h2 : 8 + (5 + 11) + 64 ≤ R.locals) : ra_CO R mi_Mo_isTried := ⟨rfl, rfl, h1, h2, ra_in 768 (by decide +kernel) (by decide +kernel), ra_in 68 (by decide +kernel) (by decide +kernel), by decide +kernel, by decide +kernel⟩
set_option maxRecDepth 100000 in
theorem im_Mo_isTried : Cond.instanceMethod (mi_Mo_isTried).1 ∈ ra_WS := ra_in 766 (by decide +kernel) (by decide +kernel)
set_option maxRecDepth 100000 in
theorem se_Mo_isTried : Cond.selects (mi_Mo_isTried).1.cls (mi_Mo_isTried).1 (mi_Mo_isTried).1 ∈ ra_WS := ra_in 767 (by decide +kernel) (by decide +kernel)
def rm_Mo_passAmongGrudges : Room := { frames := 3, cells := 0, slots := 0, locals := 112 }
abbrev mi_Mo_passAmongGrudges : ra_MI := (⟨cn_Mo, "passAmongGrudges", "(III)V"⟩, prog_6_method_4_code, 7, none, rm_Mo_passAmongGrudges, 4)
set_option maxRecDepth 100000 in
theorem co_Mo_passAmongGrudges {R : Room} (h1 : 3 + 1 ≤ R.frames) (h2 : 8 + (7 + 11) + 112 ≤ R.locals) : ra_CO R mi_Mo_passAmongGrudges := ⟨rfl, rfl, h1, h2, ra_in 777 (by decide +kernel) (by decide +kernel), ra_in 68 (by decide +kernel) (by decide +kernel), by decide +kernel, by decide +kernel⟩
set_option maxRecDepth 100000 in
theorem im_Mo_passAmongGrudges : Cond.instanceMethod (mi_Mo_passAmongGrudges).1 ∈ ra_WS := ra_in 776 (by decide +kernel) (by decide +kernel)
set_option maxRecDepth 100000 in
theorem se_Mo_passAmongGrudges : Cond.selects (mi_Mo_passAmongGrudges).1.cls (mi_Mo_passAmongGrudges).1 (mi_Mo_passAmongGrudges).1 ∈ ra_WS := ra_in 15 (by decide +kernel) (by decide +kernel)
def rm_Mo_keepsDry : Room := { frames := 2, cells := 0, slots := 0, locals := 85 }
abbrev mi_Mo_keepsDry : ra_MI := (⟨cn_Mo, "keepsDry", "(I)Z"⟩, prog_6_method_5_code, 6, (some .boolean), rm_Mo_keepsDry, 2)
set_option maxRecDepth 100000 in
theorem co_Mo_keepsDry {R : Room} (h1 : 2 + 1 ≤ R.frames) (h2 : 8 + (6 + 11) + 85 ≤ R.locals) : ra_CO R mi_Mo_keepsDry := ⟨rfl, rfl, h1, h2, ra_in 783 (by decide +kernel) (by decide +kernel), ra_in 68 (by decide +kernel) (by decide +kernel), by decide +kernel, by decide +kernel⟩
set_option maxRecDepth 100000 in
theorem im_Mo_keepsDry : Cond.instanceMethod (mi_Mo_keepsDry).1 ∈ ra_WS := ra_in 782 (by decide +kernel) (by decide +kernel)
set_option maxRecDepth 100000 in
theorem se_Mo_keepsDry : Cond.selects (mi_Mo_keepsDry).1.cls (mi_Mo_keepsDry).1 (mi_Mo_keepsDry).1 ∈ ra_WS := ra_in 16 (by decide +kernel) (by decide +kernel)
def rm_Mo_tryAll : Room := { frames := 4, cells := 0, slots := 0, locals := 138 }
abbrev mi_Mo_tryAll : ra_MI := (⟨cn_Mo, "tryAll", "(II)V"⟩, prog_6_method_3_code, 8, none, rm_Mo_tryAll, 3)
set_option maxRecDepth 100000 in
theorem co_Mo_tryAll {R : Room} (h1 : 4 + 1 ≤ R.frames) (h2 : 8 + (8 + 11) + 138 ≤ R.locals) : ra_CO R mi_Mo_tryAll := ⟨rfl, rfl, h1, h2, ra_in 772 (by decide +kernel) (by decide +kernel), ra_in 68 (by decide +kernel) (by decide +kernel), by decide +kernel, by decide +kernel⟩
set_option maxRecDepth 100000 in
theorem im_Mo_tryAll : Cond.instanceMethod (mi_Mo_tryAll).1 ∈ ra_WS := ra_in 770 (by decide +kernel) (by decide +kernel)
set_option maxRecDepth 100000 in
theorem se_Mo_tryAll : Cond.selects (mi_Mo_tryAll).1.cls (mi_Mo_tryAll).1 (mi_Mo_tryAll).1 ∈ ra_WS := ra_in 771 (by decide +kernel) (by decide +kernel)
def rm_R_dry : Room := { frames := 5, cells := 0, slots := 0, locals := 165 }
abbrev mi_R_dry : ra_MI := (⟨cn_R, "dry", "(III)I"⟩, prog_1_method_16_code, 4, (some .int), rm_R_dry, 4)
set_option maxRecDepth 100000 in
theorem co_R_dry {R : Room} (h1 : 5 + 1 ≤ R.frames) (h2 : 8 + (4 + 11) + 165 ≤ R.locals) : ra_CO R mi_R_dry := ⟨rfl, rfl, h1, h2, ra_in 764 (by decide +kernel) (by decide +kernel), ra_in 62 (by decide +kernel) (by decide +kernel), by decide +kernel, by decide +kernel⟩
set_option maxRecDepth 100000 in
theorem im_R_dry : Cond.instanceMethod (mi_R_dry).1 ∈ ra_WS := ra_in 762 (by decide +kernel) (by decide +kernel)
set_option maxRecDepth 100000 in
theorem se_R_dry : Cond.selects (mi_R_dry).1.cls (mi_R_dry).1 (mi_R_dry).1 ∈ ra_WS := ra_in 763 (by decide +kernel) (by decide +kernel)
def rm_R_isNoNumber : Room := { frames := 2, cells := 0, slots := 0, locals := 86 }
abbrev mi_R_isNoNumber : ra_MI := (⟨cn_R, "isNoNumber", "(I)Z"⟩, prog_1_method_39_code, 1, (some .boolean), rm_R_isNoNumber, 1)
set_option maxRecDepth 100000 in
theorem co_R_isNoNumber {R : Room} (h1 : 2 + 1 ≤ R.frames) (h2 : 8 + (1 + 11) + 86 ≤ R.locals) : ra_CO R mi_R_isNoNumber := ⟨rfl, rfl, h1, h2, ra_in 791 (by decide +kernel) (by decide +kernel), ra_in 62 (by decide +kernel) (by decide +kernel), by decide +kernel, by decide +kernel⟩
set_option maxRecDepth 100000 in
theorem st_R_isNoNumber : Cond.static (mi_R_isNoNumber).1 ∈ ra_WS := ra_in 790 (by decide +kernel) (by decide +kernel)
def rm_Ex_change : Room := { frames := 1, cells := 0, slots := 0, locals := 64 }
abbrev mi_Ex_change : ra_MI := (⟨cn_Ex, "change", "(III)I"⟩, prog_3_method_2_code, 5, (some .int), rm_Ex_change, 4)
set_option maxRecDepth 100000 in
theorem co_Ex_change {R : Room} (h1 : 1 + 1 ≤ R.frames) (h2 : 8 + (5 + 11) + 64 ≤ R.locals) : ra_CO R mi_Ex_change := ⟨rfl, rfl, h1, h2, ra_in 795 (by decide +kernel) (by decide +kernel), ra_in 69 (by decide +kernel) (by decide +kernel), by decide +kernel, by decide +kernel⟩
set_option maxRecDepth 100000 in
theorem im_Ex_change : Cond.instanceMethod (mi_Ex_change).1 ∈ ra_WS := ra_in 793 (by decide +kernel) (by decide +kernel)
set_option maxRecDepth 100000 in
theorem se_Ex_change : Cond.selects (mi_Ex_change).1.cls (mi_Ex_change).1 (mi_Ex_change).1 ∈ ra_WS := ra_in 794 (by decide +kernel) (by decide +kernel)
def rm_R_wish : Room := { frames := 3, cells := 0, slots := 0, locals := 106 }
abbrev mi_R_wish : ra_MI := (⟨cn_R, "wish", "(III)I"⟩, prog_1_method_17_code, 4, (some .int), rm_R_wish, 4)
set_option maxRecDepth 100000 in
theorem co_R_wish {R : Room} (h1 : 3 + 1 ≤ R.frames) (h2 : 8 + (4 + 11) + 106 ≤ R.locals) : ra_CO R mi_R_wish := ⟨rfl, rfl, h1, h2, ra_in 788 (by decide +kernel) (by decide +kernel), ra_in 62 (by decide +kernel) (by decide +kernel), by decide +kernel, by decide +kernel⟩
set_option maxRecDepth 100000 in
theorem im_R_wish : Cond.instanceMethod (mi_R_wish).1 ∈ ra_WS := ra_in 786 (by decide +kernel) (by decide +kernel)
set_option maxRecDepth 100000 in
theorem se_R_wish : Cond.selects (mi_R_wish).1.cls (mi_R_wish).1 (mi_R_wish).1 ∈ ra_WS := ra_in 787 (by decide +kernel) (by decide +kernel)
def rm_Ex_wouldChange : Room := { frames := 1, cells := 0, slots := 0, locals := 64 }
abbrev mi_Ex_wouldChange : ra_MI := (⟨cn_Ex, "wouldChange", "(II[I)Z"⟩, prog_3_method_3_code, 4, (some .boolean), rm_Ex_wouldChange, 4)
set_option maxRecDepth 100000 in
theorem co_Ex_wouldChange {R : Room} (h1 : 1 + 1 ≤ R.frames) (h2 : 8 + (4 + 11) + 64 ≤ R.locals) : ra_CO R mi_Ex_wouldChange := ⟨rfl, rfl, h1, h2, ra_in 803 (by decide +kernel) (by decide +kernel), ra_in 69 (by decide +kernel) (by decide +kernel), by decide +kernel, by decide +kernel⟩
set_option maxRecDepth 100000 in
theorem im_Ex_wouldChange : Cond.instanceMethod (mi_Ex_wouldChange).1 ∈ ra_WS := ra_in 801 (by decide +kernel) (by decide +kernel)
set_option maxRecDepth 100000 in
theorem se_Ex_wouldChange : Cond.selects (mi_Ex_wouldChange).1.cls (mi_Ex_wouldChange).1 (mi_Ex_wouldChange).1 ∈ ra_WS := ra_in 802 (by decide +kernel) (by decide +kernel)
def rm_R_want : Room := { frames := 3, cells := 0, slots := 0, locals := 107 }
abbrev mi_R_want : ra_MI := (⟨cn_R, "want", "(II)I"⟩, prog_1_method_18_code, 3, (some .int), rm_R_want, 3)
set_option maxRecDepth 100000 in
theorem co_R_want {R : Room} (h1 : 3 + 1 ≤ R.frames) (h2 : 8 + (3 + 11) + 107 ≤ R.locals) : ra_CO R mi_R_want := ⟨rfl, rfl, h1, h2, ra_in 799 (by decide +kernel) (by decide +kernel), ra_in 62 (by decide +kernel) (by decide +kernel), by decide +kernel, by decide +kernel⟩
set_option maxRecDepth 100000 in
theorem im_R_want : Cond.instanceMethod (mi_R_want).1 ∈ ra_WS := ra_in 797 (by decide +kernel) (by decide +kernel)
set_option maxRecDepth 100000 in
theorem se_R_want : Cond.selects (mi_R_want).1.cls (mi_R_want).1 (mi_R_want).1 ∈ ra_WS := ra_in 798 (by decide +kernel) (by decide +kernel)
def rm_Ex_changeFirstPair : Room := { frames := 2, cells := 0, slots := 0, locals := 87 }
abbrev mi_Ex_changeFirstPair : ra_MI := (⟨cn_Ex, "changeFirstPair", "()Z"⟩, prog_3_method_5_code, 4, (some .boolean), rm_Ex_changeFirstPair, 1)
set_option maxRecDepth 100000 in
theorem co_Ex_changeFirstPair {R : Room} (h1 : 2 + 1 ≤ R.frames) (h2 : 8 + (4 + 11) + 87 ≤ R.locals) : ra_CO R mi_Ex_changeFirstPair := ⟨rfl, rfl, h1, h2, ra_in 818 (by decide +kernel) (by decide +kernel), ra_in 69 (by decide +kernel) (by decide +kernel), by decide +kernel, by decide +kernel⟩
set_option maxRecDepth 100000 in
theorem im_Ex_changeFirstPair : Cond.instanceMethod (mi_Ex_changeFirstPair).1 ∈ ra_WS := ra_in 817 (by decide +kernel) (by decide +kernel)
set_option maxRecDepth 100000 in
theorem se_Ex_changeFirstPair : Cond.selects (mi_Ex_changeFirstPair).1.cls (mi_Ex_changeFirstPair).1 (mi_Ex_changeFirstPair).1 ∈ ra_WS := ra_in 17 (by decide +kernel) (by decide +kernel)
def rm_Ex_bringMarketUp : Room := { frames := 3, cells := 0, slots := 0, locals := 110 }
abbrev mi_Ex_bringMarketUp : ra_MI := (⟨cn_Ex, "bringMarketUp", "()V"⟩, prog_3_method_4_code, 3, none, rm_Ex_bringMarketUp, 1)
set_option maxRecDepth 100000 in
theorem co_Ex_bringMarketUp {R : Room} (h1 : 3 + 1 ≤ R.frames) (h2 : 8 + (3 + 11) + 110 ≤ R.locals) : ra_CO R mi_Ex_bringMarketUp := ⟨rfl, rfl, h1, h2, ra_in 811 (by decide +kernel) (by decide +kernel), ra_in 69 (by decide +kernel) (by decide +kernel), by decide +kernel, by decide +kernel⟩
set_option maxRecDepth 100000 in
theorem im_Ex_bringMarketUp : Cond.instanceMethod (mi_Ex_bringMarketUp).1 ∈ ra_WS := ra_in 809 (by decide +kernel) (by decide +kernel)
set_option maxRecDepth 100000 in
theorem se_Ex_bringMarketUp : Cond.selects (mi_Ex_bringMarketUp).1.cls (mi_Ex_bringMarketUp).1 (mi_Ex_bringMarketUp).1 ∈ ra_WS := ra_in 810 (by decide +kernel) (by decide +kernel)
def rm_R_market : Room := { frames := 4, cells := 0, slots := 0, locals := 132 }
abbrev mi_R_market : ra_MI := (⟨cn_R, "market", "(I)I"⟩, prog_1_method_19_code, 2, (some .int), rm_R_market, 2)
set_option maxRecDepth 100000 in
theorem co_R_market {R : Room} (h1 : 4 + 1 ≤ R.frames) (h2 : 8 + (2 + 11) + 132 ≤ R.locals) : ra_CO R mi_R_market := ⟨rfl, rfl, h1, h2, ra_in 807 (by decide +kernel) (by decide +kernel), ra_in 62 (by decide +kernel) (by decide +kernel), by decide +kernel, by decide +kernel⟩
set_option maxRecDepth 100000 in
theorem im_R_market : Cond.instanceMethod (mi_R_market).1 ∈ ra_WS := ra_in 805 (by decide +kernel) (by decide +kernel)
set_option maxRecDepth 100000 in
theorem se_R_market : Cond.selects (mi_R_market).1.cls (mi_R_market).1 (mi_R_market).1 ∈ ra_WS := ra_in 806 (by decide +kernel) (by decide +kernel)
def rm_Ex_had : Room := { frames := 1, cells := 0, slots := 0, locals := 64 }
abbrev mi_Ex_had : ra_MI := (⟨cn_Ex, "had", "(III)I"⟩, prog_3_method_8_code, 4, (some .int), rm_Ex_had, 4)
set_option maxRecDepth 100000 in
theorem co_Ex_had {R : Room} (h1 : 1 + 1 ≤ R.frames) (h2 : 8 + (4 + 11) + 64 ≤ R.locals) : ra_CO R mi_Ex_had := ⟨rfl, rfl, h1, h2, ra_in 837 (by decide +kernel) (by decide +kernel), ra_in 69 (by decide +kernel) (by decide +kernel), by decide +kernel, by decide +kernel⟩
set_option maxRecDepth 100000 in
theorem im_Ex_had : Cond.instanceMethod (mi_Ex_had).1 ∈ ra_WS := ra_in 836 (by decide +kernel) (by decide +kernel)
set_option maxRecDepth 100000 in
theorem se_Ex_had : Cond.selects (mi_Ex_had).1.cls (mi_Ex_had).1 (mi_Ex_had).1 ∈ ra_WS := ra_in 19 (by decide +kernel) (by decide +kernel)
def rm_Ex_bestRoof : Room := { frames := 2, cells := 0, slots := 0, locals := 87 }
abbrev mi_Ex_bestRoof : ra_MI := (⟨cn_Ex, "bestRoof", "(II)I"⟩, prog_3_method_7_code, 6, (some .int), rm_Ex_bestRoof, 3)
set_option maxRecDepth 100000 in
theorem co_Ex_bestRoof {R : Room} (h1 : 2 + 1 ≤ R.frames) (h2 : 8 + (6 + 11) + 87 ≤ R.locals) : ra_CO R mi_Ex_bestRoof := ⟨rfl, rfl, h1, h2, ra_in 832 (by decide +kernel) (by decide +kernel), ra_in 69 (by decide +kernel) (by decide +kernel), by decide +kernel, by decide +kernel⟩
set_option maxRecDepth 100000 in
theorem im_Ex_bestRoof : Cond.instanceMethod (mi_Ex_bestRoof).1 ∈ ra_WS := ra_in 831 (by decide +kernel) (by decide +kernel)
set_option maxRecDepth 100000 in
theorem se_Ex_bestRoof : Cond.selects (mi_Ex_bestRoof).1.cls (mi_Ex_bestRoof).1 (mi_Ex_bestRoof).1 ∈ ra_WS := ra_in 18 (by decide +kernel) (by decide +kernel)
def rm_Ex_bringBestUp : Room := { frames := 3, cells := 0, slots := 0, locals := 112 }
abbrev mi_Ex_bringBestUp : ra_MI := (⟨cn_Ex, "bringBestUp", "()V"⟩, prog_3_method_6_code, 5, none, rm_Ex_bringBestUp, 1)
set_option maxRecDepth 100000 in
theorem co_Ex_bringBestUp {R : Room} (h1 : 3 + 1 ≤ R.frames) (h2 : 8 + (5 + 11) + 112 ≤ R.locals) : ra_CO R mi_Ex_bringBestUp := ⟨rfl, rfl, h1, h2, ra_in 827 (by decide +kernel) (by decide +kernel), ra_in 69 (by decide +kernel) (by decide +kernel), by decide +kernel, by decide +kernel⟩
set_option maxRecDepth 100000 in
theorem im_Ex_bringBestUp : Cond.instanceMethod (mi_Ex_bringBestUp).1 ∈ ra_WS := ra_in 825 (by decide +kernel) (by decide +kernel)
set_option maxRecDepth 100000 in
theorem se_Ex_bringBestUp : Cond.selects (mi_Ex_bringBestUp).1.cls (mi_Ex_bringBestUp).1 (mi_Ex_bringBestUp).1 ∈ ra_WS := ra_in 826 (by decide +kernel) (by decide +kernel)
def rm_R_best : Room := { frames := 4, cells := 0, slots := 0, locals := 136 }
abbrev mi_R_best : ra_MI := (⟨cn_R, "best", "(I)I"⟩, prog_1_method_20_code, 2, (some .int), rm_R_best, 2)
set_option maxRecDepth 100000 in
theorem co_R_best {R : Room} (h1 : 4 + 1 ≤ R.frames) (h2 : 8 + (2 + 11) + 136 ≤ R.locals) : ra_CO R mi_R_best := ⟨rfl, rfl, h1, h2, ra_in 823 (by decide +kernel) (by decide +kernel), ra_in 62 (by decide +kernel) (by decide +kernel), by decide +kernel, by decide +kernel⟩
set_option maxRecDepth 100000 in
theorem im_R_best : Cond.instanceMethod (mi_R_best).1 ∈ ra_WS := ra_in 821 (by decide +kernel) (by decide +kernel)
set_option maxRecDepth 100000 in
theorem se_R_best : Cond.selects (mi_R_best).1.cls (mi_R_best).1 (mi_R_best).1 ∈ ra_WS := ra_in 822 (by decide +kernel) (by decide +kernel)
def rm_Kn_learn : Room := { frames := 1, cells := 0, slots := 0, locals := 64 }
abbrev mi_Kn_learn : ra_MI := (⟨cn_Kn, "learn", "(III)I"⟩, prog_5_method_2_code, 4, (some .int), rm_Kn_learn, 4)
set_option maxRecDepth 100000 in
theorem co_Kn_learn {R : Room} (h1 : 1 + 1 ≤ R.frames) (h2 : 8 + (4 + 11) + 64 ≤ R.locals) : ra_CO R mi_Kn_learn := ⟨rfl, rfl, h1, h2, ra_in 845 (by decide +kernel) (by decide +kernel), ra_in 70 (by decide +kernel) (by decide +kernel), by decide +kernel, by decide +kernel⟩
set_option maxRecDepth 100000 in
theorem im_Kn_learn : Cond.instanceMethod (mi_Kn_learn).1 ∈ ra_WS := ra_in 843 (by decide +kernel) (by decide +kernel)
set_option maxRecDepth 100000 in
theorem se_Kn_learn : Cond.selects (mi_Kn_learn).1.cls (mi_Kn_learn).1 (mi_Kn_learn).1 ∈ ra_WS := ra_in 844 (by decide +kernel) (by decide +kernel)
def rm_R_fact : Room := { frames := 3, cells := 0, slots := 0, locals := 106 }
abbrev mi_R_fact : ra_MI := (⟨cn_R, "fact", "(III)I"⟩, prog_1_method_21_code, 4, (some .int), rm_R_fact, 4)
set_option maxRecDepth 100000 in
theorem co_R_fact {R : Room} (h1 : 3 + 1 ≤ R.frames) (h2 : 8 + (4 + 11) + 106 ≤ R.locals) : ra_CO R mi_R_fact := ⟨rfl, rfl, h1, h2, ra_in 841 (by decide +kernel) (by decide +kernel), ra_in 62 (by decide +kernel) (by decide +kernel), by decide +kernel, by decide +kernel⟩
set_option maxRecDepth 100000 in
theorem im_R_fact : Cond.instanceMethod (mi_R_fact).1 ∈ ra_WS := ra_in 839 (by decide +kernel) (by decide +kernel)
set_option maxRecDepth 100000 in
theorem se_R_fact : Cond.selects (mi_R_fact).1.cls (mi_R_fact).1 (mi_R_fact).1 ∈ ra_WS := ra_in 840 (by decide +kernel) (by decide +kernel)
def rm_Kn_clear : Room := { frames := 1, cells := 0, slots := 0, locals := 64 }
abbrev mi_Kn_clear : ra_MI := (⟨cn_Kn, "clear", "()I"⟩, prog_5_method_3_code, 2, (some .int), rm_Kn_clear, 1)
set_option maxRecDepth 100000 in
theorem co_Kn_clear {R : Room} (h1 : 1 + 1 ≤ R.frames) (h2 : 8 + (2 + 11) + 64 ≤ R.locals) : ra_CO R mi_Kn_clear := ⟨rfl, rfl, h1, h2, ra_in 853 (by decide +kernel) (by decide +kernel), ra_in 70 (by decide +kernel) (by decide +kernel), by decide +kernel, by decide +kernel⟩
set_option maxRecDepth 100000 in
theorem im_Kn_clear : Cond.instanceMethod (mi_Kn_clear).1 ∈ ra_WS := ra_in 851 (by decide +kernel) (by decide +kernel)
set_option maxRecDepth 100000 in
theorem se_Kn_clear : Cond.selects (mi_Kn_clear).1.cls (mi_Kn_clear).1 (mi_Kn_clear).1 ∈ ra_WS := ra_in 852 (by decide +kernel) (by decide +kernel)
def rm_R_forget : Room := { frames := 2, cells := 0, slots := 0, locals := 85 }
abbrev mi_R_forget : ra_MI := (⟨cn_R, "forget", "()I"⟩, prog_1_method_22_code, 1, (some .int), rm_R_forget, 1)
set_option maxRecDepth 100000 in
theorem co_R_forget {R : Room} (h1 : 2 + 1 ≤ R.frames) (h2 : 8 + (1 + 11) + 85 ≤ R.locals) : ra_CO R mi_R_forget := ⟨rfl, rfl, h1, h2, ra_in 849 (by decide +kernel) (by decide +kernel), ra_in 62 (by decide +kernel) (by decide +kernel), by decide +kernel, by decide +kernel⟩
set_option maxRecDepth 100000 in
theorem im_R_forget : Cond.instanceMethod (mi_R_forget).1 ∈ ra_WS := ra_in 847 (by decide +kernel) (by decide +kernel)
set_option maxRecDepth 100000 in
theorem se_R_forget : Cond.selects (mi_R_forget).1.cls (mi_R_forget).1 (mi_R_forget).1 ∈ ra_WS := ra_in 848 (by decide +kernel) (by decide +kernel)
def rm_Kn_readFacts : Room := { frames := 1, cells := 0, slots := 0, locals := 64 }
abbrev mi_Kn_readFacts : ra_MI := (⟨cn_Kn, "readFacts", "(I)Z"⟩, prog_5_method_5_code, 6, (some .boolean), rm_Kn_readFacts, 2)
set_option maxRecDepth 100000 in
theorem co_Kn_readFacts {R : Room} (h1 : 1 + 1 ≤ R.frames) (h2 : 8 + (6 + 11) + 64 ≤ R.locals) : ra_CO R mi_Kn_readFacts := ⟨rfl, rfl, h1, h2, ra_in 865 (by decide +kernel) (by decide +kernel), ra_in 70 (by decide +kernel) (by decide +kernel), by decide +kernel, by decide +kernel⟩
set_option maxRecDepth 100000 in
theorem im_Kn_readFacts : Cond.instanceMethod (mi_Kn_readFacts).1 ∈ ra_WS := ra_in 864 (by decide +kernel) (by decide +kernel)
set_option maxRecDepth 100000 in
theorem se_Kn_readFacts : Cond.selects (mi_Kn_readFacts).1.cls (mi_Kn_readFacts).1 (mi_Kn_readFacts).1 ∈ ra_WS := ra_in 20 (by decide +kernel) (by decide +kernel)
def rm_Kn_countBehind : Room := { frames := 2, cells := 0, slots := 0, locals := 85 }
abbrev mi_Kn_countBehind : ra_MI := (⟨cn_Kn, "countBehind", "(I)V"⟩, prog_5_method_6_code, 6, none, rm_Kn_countBehind, 2)
set_option maxRecDepth 100000 in
theorem co_Kn_countBehind {R : Room} (h1 : 2 + 1 ≤ R.frames) (h2 : 8 + (6 + 11) + 85 ≤ R.locals) : ra_CO R mi_Kn_countBehind := ⟨rfl, rfl, h1, h2, ra_in 869 (by decide +kernel) (by decide +kernel), ra_in 70 (by decide +kernel) (by decide +kernel), by decide +kernel, by decide +kernel⟩
set_option maxRecDepth 100000 in
theorem im_Kn_countBehind : Cond.instanceMethod (mi_Kn_countBehind).1 ∈ ra_WS := ra_in 868 (by decide +kernel) (by decide +kernel)
set_option maxRecDepth 100000 in
theorem se_Kn_countBehind : Cond.selects (mi_Kn_countBehind).1.cls (mi_Kn_countBehind).1 (mi_Kn_countBehind).1 ∈ ra_WS := ra_in 21 (by decide +kernel) (by decide +kernel)
def rm_Kn_countAhead : Room := { frames := 2, cells := 0, slots := 0, locals := 85 }
abbrev mi_Kn_countAhead : ra_MI := (⟨cn_Kn, "countAhead", "(I)V"⟩, prog_5_method_7_code, 7, none, rm_Kn_countAhead, 2)
set_option maxRecDepth 100000 in
theorem co_Kn_countAhead {R : Room} (h1 : 2 + 1 ≤ R.frames) (h2 : 8 + (7 + 11) + 85 ≤ R.locals) : ra_CO R mi_Kn_countAhead := ⟨rfl, rfl, h1, h2, ra_in 875 (by decide +kernel) (by decide +kernel), ra_in 70 (by decide +kernel) (by decide +kernel), by decide +kernel, by decide +kernel⟩
set_option maxRecDepth 100000 in
theorem im_Kn_countAhead : Cond.instanceMethod (mi_Kn_countAhead).1 ∈ ra_WS := ra_in 874 (by decide +kernel) (by decide +kernel)
set_option maxRecDepth 100000 in
theorem se_Kn_countAhead : Cond.selects (mi_Kn_countAhead).1.cls (mi_Kn_countAhead).1 (mi_Kn_countAhead).1 ∈ ra_WS := ra_in 22 (by decide +kernel) (by decide +kernel)
def rm_Kn_countEach : Room := { frames := 2, cells := 0, slots := 0, locals := 85 }
abbrev mi_Kn_countEach : ra_MI := (⟨cn_Kn, "countEach", "(I)V"⟩, prog_5_method_8_code, 6, none, rm_Kn_countEach, 2)
set_option maxRecDepth 100000 in
theorem co_Kn_countEach {R : Room} (h1 : 2 + 1 ≤ R.frames) (h2 : 8 + (6 + 11) + 85 ≤ R.locals) : ra_CO R mi_Kn_countEach := ⟨rfl, rfl, h1, h2, ra_in 879 (by decide +kernel) (by decide +kernel), ra_in 70 (by decide +kernel) (by decide +kernel), by decide +kernel, by decide +kernel⟩
set_option maxRecDepth 100000 in
theorem im_Kn_countEach : Cond.instanceMethod (mi_Kn_countEach).1 ∈ ra_WS := ra_in 878 (by decide +kernel) (by decide +kernel)
set_option maxRecDepth 100000 in
theorem se_Kn_countEach : Cond.selects (mi_Kn_countEach).1.cls (mi_Kn_countEach).1 (mi_Kn_countEach).1 ∈ ra_WS := ra_in 23 (by decide +kernel) (by decide +kernel)
def rm_Kn_bringUp : Room := { frames := 3, cells := 0, slots := 0, locals := 111 }
abbrev mi_Kn_bringUp : ra_MI := (⟨cn_Kn, "bringUp", "()V"⟩, prog_5_method_4_code, 4, none, rm_Kn_bringUp, 1)
set_option maxRecDepth 100000 in
theorem co_Kn_bringUp {R : Room} (h1 : 3 + 1 ≤ R.frames) (h2 : 8 + (4 + 11) + 111 ≤ R.locals) : ra_CO R mi_Kn_bringUp := ⟨rfl, rfl, h1, h2, ra_in 861 (by decide +kernel) (by decide +kernel), ra_in 70 (by decide +kernel) (by decide +kernel), by decide +kernel, by decide +kernel⟩
set_option maxRecDepth 100000 in
theorem im_Kn_bringUp : Cond.instanceMethod (mi_Kn_bringUp).1 ∈ ra_WS := ra_in 859 (by decide +kernel) (by decide +kernel)
set_option maxRecDepth 100000 in
theorem se_Kn_bringUp : Cond.selects (mi_Kn_bringUp).1.cls (mi_Kn_bringUp).1 (mi_Kn_bringUp).1 ∈ ra_WS := ra_in 860 (by decide +kernel) (by decide +kernel)
def rm_Kn_possibleRoofs : Room := { frames := 1, cells := 0, slots := 0, locals := 64 }
abbrev mi_Kn_possibleRoofs : ra_MI := (⟨cn_Kn, "possibleRoofs", "(I)I"⟩, prog_5_method_9_code, 4, (some .int), rm_Kn_possibleRoofs, 2)
set_option maxRecDepth 100000 in
theorem co_Kn_possibleRoofs {R : Room} (h1 : 1 + 1 ≤ R.frames) (h2 : 8 + (4 + 11) + 64 ≤ R.locals) : ra_CO R mi_Kn_possibleRoofs := ⟨rfl, rfl, h1, h2, ra_in 883 (by decide +kernel) (by decide +kernel), ra_in 70 (by decide +kernel) (by decide +kernel), by decide +kernel, by decide +kernel⟩
set_option maxRecDepth 100000 in
theorem im_Kn_possibleRoofs : Cond.instanceMethod (mi_Kn_possibleRoofs).1 ∈ ra_WS := ra_in 881 (by decide +kernel) (by decide +kernel)
set_option maxRecDepth 100000 in
theorem se_Kn_possibleRoofs : Cond.selects (mi_Kn_possibleRoofs).1.cls (mi_Kn_possibleRoofs).1 (mi_Kn_possibleRoofs).1 ∈ ra_WS := ra_in 882 (by decide +kernel) (by decide +kernel)
def rm_R_could : Room := { frames := 4, cells := 0, slots := 0, locals := 134 }
abbrev mi_R_could : ra_MI := (⟨cn_R, "could", "(I)I"⟩, prog_1_method_23_code, 2, (some .int), rm_R_could, 2)
set_option maxRecDepth 100000 in
theorem co_R_could {R : Room} (h1 : 4 + 1 ≤ R.frames) (h2 : 8 + (2 + 11) + 134 ≤ R.locals) : ra_CO R mi_R_could := ⟨rfl, rfl, h1, h2, ra_in 857 (by decide +kernel) (by decide +kernel), ra_in 62 (by decide +kernel) (by decide +kernel), by decide +kernel, by decide +kernel⟩
set_option maxRecDepth 100000 in
theorem im_R_could : Cond.instanceMethod (mi_R_could).1 ∈ ra_WS := ra_in 855 (by decide +kernel) (by decide +kernel)
set_option maxRecDepth 100000 in
theorem se_R_could : Cond.selects (mi_R_could).1.cls (mi_R_could).1 (mi_R_could).1 ∈ ra_WS := ra_in 856 (by decide +kernel) (by decide +kernel)
def rm_Kn_worstLeft : Room := { frames := 1, cells := 0, slots := 0, locals := 64 }
abbrev mi_Kn_worstLeft : ra_MI := (⟨cn_Kn, "worstLeft", "(I)I"⟩, prog_5_method_11_code, 4, (some .int), rm_Kn_worstLeft, 2)
set_option maxRecDepth 100000 in
theorem co_Kn_worstLeft {R : Room} (h1 : 1 + 1 ≤ R.frames) (h2 : 8 + (4 + 11) + 64 ≤ R.locals) : ra_CO R mi_Kn_worstLeft := ⟨rfl, rfl, h1, h2, ra_in 895 (by decide +kernel) (by decide +kernel), ra_in 70 (by decide +kernel) (by decide +kernel), by decide +kernel, by decide +kernel⟩
set_option maxRecDepth 100000 in
theorem im_Kn_worstLeft : Cond.instanceMethod (mi_Kn_worstLeft).1 ∈ ra_WS := ra_in 893 (by decide +kernel) (by decide +kernel)
set_option maxRecDepth 100000 in
theorem se_Kn_worstLeft : Cond.selects (mi_Kn_worstLeft).1.cls (mi_Kn_worstLeft).1 (mi_Kn_worstLeft).1 ∈ ra_WS := ra_in 894 (by decide +kernel) (by decide +kernel)
def rm_Kn_whomToAsk : Room := { frames := 2, cells := 0, slots := 0, locals := 87 }
abbrev mi_Kn_whomToAsk : ra_MI := (⟨cn_Kn, "whomToAsk", "()I"⟩, prog_5_method_10_code, 3, (some .int), rm_Kn_whomToAsk, 1)
set_option maxRecDepth 100000 in
theorem co_Kn_whomToAsk {R : Room} (h1 : 2 + 1 ≤ R.frames) (h2 : 8 + (3 + 11) + 87 ≤ R.locals) : ra_CO R mi_Kn_whomToAsk := ⟨rfl, rfl, h1, h2, ra_in 891 (by decide +kernel) (by decide +kernel), ra_in 70 (by decide +kernel) (by decide +kernel), by decide +kernel, by decide +kernel⟩
set_option maxRecDepth 100000 in
theorem im_Kn_whomToAsk : Cond.instanceMethod (mi_Kn_whomToAsk).1 ∈ ra_WS := ra_in 889 (by decide +kernel) (by decide +kernel)
set_option maxRecDepth 100000 in
theorem se_Kn_whomToAsk : Cond.selects (mi_Kn_whomToAsk).1.cls (mi_Kn_whomToAsk).1 (mi_Kn_whomToAsk).1 ∈ ra_WS := ra_in 890 (by decide +kernel) (by decide +kernel)
def rm_R_ask : Room := { frames := 4, cells := 0, slots := 0, locals := 134 }
abbrev mi_R_ask : ra_MI := (⟨cn_R, "ask", "(I)I"⟩, prog_1_method_24_code, 3, (some .int), rm_R_ask, 2)
set_option maxRecDepth 100000 in
theorem co_R_ask {R : Room} (h1 : 4 + 1 ≤ R.frames) (h2 : 8 + (3 + 11) + 134 ≤ R.locals) : ra_CO R mi_R_ask := ⟨rfl, rfl, h1, h2, ra_in 887 (by decide +kernel) (by decide +kernel), ra_in 62 (by decide +kernel) (by decide +kernel), by decide +kernel, by decide +kernel⟩
set_option maxRecDepth 100000 in
theorem im_R_ask : Cond.instanceMethod (mi_R_ask).1 ∈ ra_WS := ra_in 885 (by decide +kernel) (by decide +kernel)
set_option maxRecDepth 100000 in
theorem se_R_ask : Cond.selects (mi_R_ask).1.cls (mi_R_ask).1 (mi_R_ask).1 ∈ ra_WS := ra_in 886 (by decide +kernel) (by decide +kernel)
def rm_He_rainsAbove : Room := { frames := 1, cells := 0, slots := 0, locals := 64 }
abbrev mi_He_rainsAbove : ra_MI := (⟨cn_He, "rainsAbove", "(I)I"⟩, prog_4_method_4_code, 4, (some .int), rm_He_rainsAbove, 2)
set_option maxRecDepth 100000 in
theorem co_He_rainsAbove {R : Room} (h1 : 1 + 1 ≤ R.frames) (h2 : 8 + (4 + 11) + 64 ≤ R.locals) : ra_CO R mi_He_rainsAbove := ⟨rfl, rfl, h1, h2, ra_in 914 (by decide +kernel) (by decide +kernel), ra_in 71 (by decide +kernel) (by decide +kernel), by decide +kernel, by decide +kernel⟩
set_option maxRecDepth 100000 in
theorem im_He_rainsAbove : Cond.instanceMethod (mi_He_rainsAbove).1 ∈ ra_WS := ra_in 913 (by decide +kernel) (by decide +kernel)
set_option maxRecDepth 100000 in
theorem se_He_rainsAbove : Cond.selects (mi_He_rainsAbove).1.cls (mi_He_rainsAbove).1 (mi_He_rainsAbove).1 ∈ ra_WS := ra_in 25 (by decide +kernel) (by decide +kernel)
def rm_He_neediest : Room := { frames := 2, cells := 0, slots := 0, locals := 87 }
abbrev mi_He_neediest : ra_MI := (⟨cn_He, "neediest", "()I"⟩, prog_4_method_3_code, 5, (some .int), rm_He_neediest, 1)
set_option maxRecDepth 100000 in
theorem co_He_neediest {R : Room} (h1 : 2 + 1 ≤ R.frames) (h2 : 8 + (5 + 11) + 87 ≤ R.locals) : ra_CO R mi_He_neediest := ⟨rfl, rfl, h1, h2, ra_in 910 (by decide +kernel) (by decide +kernel), ra_in 71 (by decide +kernel) (by decide +kernel), by decide +kernel, by decide +kernel⟩
set_option maxRecDepth 100000 in
theorem im_He_neediest : Cond.instanceMethod (mi_He_neediest).1 ∈ ra_WS := ra_in 909 (by decide +kernel) (by decide +kernel)
set_option maxRecDepth 100000 in
theorem se_He_neediest : Cond.selects (mi_He_neediest).1.cls (mi_He_neediest).1 (mi_He_neediest).1 ∈ ra_WS := ra_in 24 (by decide +kernel) (by decide +kernel)
def rm_He_lay : Room := { frames := 3, cells := 0, slots := 0, locals := 111 }
abbrev mi_He_lay : ra_MI := (⟨cn_He, "lay", "(I)V"⟩, prog_4_method_2_code, 4, none, rm_He_lay, 2)
set_option maxRecDepth 100000 in
theorem co_He_lay {R : Room} (h1 : 3 + 1 ≤ R.frames) (h2 : 8 + (4 + 11) + 111 ≤ R.locals) : ra_CO R mi_He_lay := ⟨rfl, rfl, h1, h2, ra_in 905 (by decide +kernel) (by decide +kernel), ra_in 71 (by decide +kernel) (by decide +kernel), by decide +kernel, by decide +kernel⟩
set_option maxRecDepth 100000 in
theorem im_He_lay : Cond.instanceMethod (mi_He_lay).1 ∈ ra_WS := ra_in 903 (by decide +kernel) (by decide +kernel)
set_option maxRecDepth 100000 in
theorem se_He_lay : Cond.selects (mi_He_lay).1.cls (mi_He_lay).1 (mi_He_lay).1 ∈ ra_WS := ra_in 904 (by decide +kernel) (by decide +kernel)
def rm_He_harmOfAll : Room := { frames := 1, cells := 0, slots := 0, locals := 64 }
abbrev mi_He_harmOfAll : ra_MI := (⟨cn_He, "harmOfAll", "()I"⟩, prog_4_method_5_code, 4, (some .int), rm_He_harmOfAll, 1)
set_option maxRecDepth 100000 in
theorem co_He_harmOfAll {R : Room} (h1 : 1 + 1 ≤ R.frames) (h2 : 8 + (4 + 11) + 64 ≤ R.locals) : ra_CO R mi_He_harmOfAll := ⟨rfl, rfl, h1, h2, ra_in 918 (by decide +kernel) (by decide +kernel), ra_in 71 (by decide +kernel) (by decide +kernel), by decide +kernel, by decide +kernel⟩
set_option maxRecDepth 100000 in
theorem im_He_harmOfAll : Cond.instanceMethod (mi_He_harmOfAll).1 ∈ ra_WS := ra_in 916 (by decide +kernel) (by decide +kernel)
set_option maxRecDepth 100000 in
theorem se_He_harmOfAll : Cond.selects (mi_He_harmOfAll).1.cls (mi_He_harmOfAll).1 (mi_He_harmOfAll).1 ∈ ra_WS := ra_in 917 (by decide +kernel) (by decide +kernel)
def rm_R_hands : Room := { frames := 4, cells := 0, slots := 0, locals := 134 }
abbrev mi_R_hands : ra_MI := (⟨cn_R, "hands", "(II)I"⟩, prog_1_method_25_code, 3, (some .int), rm_R_hands, 3)
set_option maxRecDepth 100000 in
theorem co_R_hands {R : Room} (h1 : 4 + 1 ≤ R.frames) (h2 : 8 + (3 + 11) + 134 ≤ R.locals) : ra_CO R mi_R_hands := ⟨rfl, rfl, h1, h2, ra_in 901 (by decide +kernel) (by decide +kernel), ra_in 62 (by decide +kernel) (by decide +kernel), by decide +kernel, by decide +kernel⟩
set_option maxRecDepth 100000 in
theorem im_R_hands : Cond.instanceMethod (mi_R_hands).1 ∈ ra_WS := ra_in 899 (by decide +kernel) (by decide +kernel)
set_option maxRecDepth 100000 in
theorem se_R_hands : Cond.selects (mi_R_hands).1.cls (mi_R_hands).1 (mi_R_hands).1 ∈ ra_WS := ra_in 900 (by decide +kernel) (by decide +kernel)
def rm_R_claim : Room := { frames := 3, cells := 0, slots := 0, locals := 106 }
abbrev mi_R_claim : ra_MI := (⟨cn_R, "claim", "(II)I"⟩, prog_1_method_26_code, 4, (some .int), rm_R_claim, 3)
set_option maxRecDepth 100000 in
theorem co_R_claim {R : Room} (h1 : 3 + 1 ≤ R.frames) (h2 : 8 + (4 + 11) + 106 ≤ R.locals) : ra_CO R mi_R_claim := ⟨rfl, rfl, h1, h2, ra_in 923 (by decide +kernel) (by decide +kernel), ra_in 62 (by decide +kernel) (by decide +kernel), by decide +kernel, by decide +kernel⟩
set_option maxRecDepth 100000 in
theorem im_R_claim : Cond.instanceMethod (mi_R_claim).1 ∈ ra_WS := ra_in 921 (by decide +kernel) (by decide +kernel)
set_option maxRecDepth 100000 in
theorem se_R_claim : Cond.selects (mi_R_claim).1.cls (mi_R_claim).1 (mi_R_claim).1 ∈ ra_WS := ra_in 922 (by decide +kernel) (by decide +kernel)
def rm_R_liars : Room := { frames := 6, cells := 0, slots := 0, locals := 178 }
abbrev mi_R_liars : ra_MI := (⟨cn_R, "liars", "()I"⟩, prog_1_method_27_code, 3, (some .int), rm_R_liars, 1)
set_option maxRecDepth 100000 in
theorem co_R_liars {R : Room} (h1 : 6 + 1 ≤ R.frames) (h2 : 8 + (3 + 11) + 178 ≤ R.locals) : ra_CO R mi_R_liars := ⟨rfl, rfl, h1, h2, ra_in 927 (by decide +kernel) (by decide +kernel), ra_in 62 (by decide +kernel) (by decide +kernel), by decide +kernel, by decide +kernel⟩
set_option maxRecDepth 100000 in
theorem im_R_liars : Cond.instanceMethod (mi_R_liars).1 ∈ ra_WS := ra_in 925 (by decide +kernel) (by decide +kernel)
set_option maxRecDepth 100000 in
theorem se_R_liars : Cond.selects (mi_R_liars).1.cls (mi_R_liars).1 (mi_R_liars).1 ∈ ra_WS := ra_in 926 (by decide +kernel) (by decide +kernel)
def rm_R_isNoForm : Room := { frames := 2, cells := 0, slots := 0, locals := 86 }
abbrev mi_R_isNoForm : ra_MI := (⟨cn_R, "isNoForm", "(I)Z"⟩, prog_1_method_41_code, 1, (some .boolean), rm_R_isNoForm, 1)
set_option maxRecDepth 100000 in
theorem co_R_isNoForm {R : Room} (h1 : 2 + 1 ≤ R.frames) (h2 : 8 + (1 + 11) + 86 ≤ R.locals) : ra_CO R mi_R_isNoForm := ⟨rfl, rfl, h1, h2, ra_in 934 (by decide +kernel) (by decide +kernel), ra_in 62 (by decide +kernel) (by decide +kernel), by decide +kernel, by decide +kernel⟩
set_option maxRecDepth 100000 in
theorem st_R_isNoForm : Cond.static (mi_R_isNoForm).1 ∈ ra_WS := ra_in 933 (by decide +kernel) (by decide +kernel)
def rm_Sh_makeNew : Room := { frames := 1, cells := 0, slots := 0, locals := 64 }
abbrev mi_Sh_makeNew : ra_MI := (⟨cn_Sh, "makeNew", "(II)V"⟩, prog_7_method_2_code, 4, none, rm_Sh_makeNew, 3)
set_option maxRecDepth 100000 in
theorem co_Sh_makeNew {R : Room} (h1 : 1 + 1 ≤ R.frames) (h2 : 8 + (4 + 11) + 64 ≤ R.locals) : ra_CO R mi_Sh_makeNew := ⟨rfl, rfl, h1, h2, ra_in 938 (by decide +kernel) (by decide +kernel), ra_in 72 (by decide +kernel) (by decide +kernel), by decide +kernel, by decide +kernel⟩
set_option maxRecDepth 100000 in
theorem im_Sh_makeNew : Cond.instanceMethod (mi_Sh_makeNew).1 ∈ ra_WS := ra_in 936 (by decide +kernel) (by decide +kernel)
set_option maxRecDepth 100000 in
theorem se_Sh_makeNew : Cond.selects (mi_Sh_makeNew).1.cls (mi_Sh_makeNew).1 (mi_Sh_makeNew).1 ∈ ra_WS := ra_in 937 (by decide +kernel) (by decide +kernel)
def rm_R_sheet : Room := { frames := 3, cells := 0, slots := 0, locals := 106 }
abbrev mi_R_sheet : ra_MI := (⟨cn_R, "sheet", "(III)I"⟩, prog_1_method_28_code, 4, (some .int), rm_R_sheet, 4)
set_option maxRecDepth 100000 in
theorem co_R_sheet {R : Room} (h1 : 3 + 1 ≤ R.frames) (h2 : 8 + (4 + 11) + 106 ≤ R.locals) : ra_CO R mi_R_sheet := ⟨rfl, rfl, h1, h2, ra_in 931 (by decide +kernel) (by decide +kernel), ra_in 62 (by decide +kernel) (by decide +kernel), by decide +kernel, by decide +kernel⟩
set_option maxRecDepth 100000 in
theorem im_R_sheet : Cond.instanceMethod (mi_R_sheet).1 ∈ ra_WS := ra_in 929 (by decide +kernel) (by decide +kernel)
set_option maxRecDepth 100000 in
theorem se_R_sheet : Cond.selects (mi_R_sheet).1.cls (mi_R_sheet).1 (mi_R_sheet).1 ∈ ra_WS := ra_in 930 (by decide +kernel) (by decide +kernel)
def rm_R_lose : Room := { frames := 3, cells := 0, slots := 0, locals := 106 }
abbrev mi_R_lose : ra_MI := (⟨cn_R, "lose", "(I)I"⟩, prog_1_method_29_code, 2, (some .int), rm_R_lose, 2)
set_option maxRecDepth 100000 in
theorem co_R_lose {R : Room} (h1 : 3 + 1 ≤ R.frames) (h2 : 8 + (2 + 11) + 106 ≤ R.locals) : ra_CO R mi_R_lose := ⟨rfl, rfl, h1, h2, ra_in 942 (by decide +kernel) (by decide +kernel), ra_in 62 (by decide +kernel) (by decide +kernel), by decide +kernel, by decide +kernel⟩
set_option maxRecDepth 100000 in
theorem im_R_lose : Cond.instanceMethod (mi_R_lose).1 ∈ ra_WS := ra_in 940 (by decide +kernel) (by decide +kernel)
set_option maxRecDepth 100000 in
theorem se_R_lose : Cond.selects (mi_R_lose).1.cls (mi_R_lose).1 (mi_R_lose).1 ∈ ra_WS := ra_in 941 (by decide +kernel) (by decide +kernel)
def rm_Sh_findingAt : Room := { frames := 2, cells := 0, slots := 0, locals := 86 }
abbrev mi_Sh_findingAt : ra_MI := (⟨cn_Sh, "findingAt", "(II)I"⟩, prog_7_method_3_code, 3, (some .int), rm_Sh_findingAt, 3)
set_option maxRecDepth 100000 in
theorem co_Sh_findingAt {R : Room} (h1 : 2 + 1 ≤ R.frames) (h2 : 8 + (3 + 11) + 86 ≤ R.locals) : ra_CO R mi_Sh_findingAt := ⟨rfl, rfl, h1, h2, ra_in 950 (by decide +kernel) (by decide +kernel), ra_in 72 (by decide +kernel) (by decide +kernel), by decide +kernel, by decide +kernel⟩
set_option maxRecDepth 100000 in
theorem im_Sh_findingAt : Cond.instanceMethod (mi_Sh_findingAt).1 ∈ ra_WS := ra_in 948 (by decide +kernel) (by decide +kernel)
set_option maxRecDepth 100000 in
theorem se_Sh_findingAt : Cond.selects (mi_Sh_findingAt).1.cls (mi_Sh_findingAt).1 (mi_Sh_findingAt).1 ∈ ra_WS := ra_in 949 (by decide +kernel) (by decide +kernel)
def rm_Sh_store : Room := { frames := 1, cells := 0, slots := 0, locals := 64 }
abbrev mi_Sh_store : ra_MI := (⟨cn_Sh, "store", "(II)V"⟩, prog_7_method_5_code, 3, none, rm_Sh_store, 3)
set_option maxRecDepth 100000 in
theorem co_Sh_store {R : Room} (h1 : 1 + 1 ≤ R.frames) (h2 : 8 + (3 + 11) + 64 ≤ R.locals) : ra_CO R mi_Sh_store := ⟨rfl, rfl, h1, h2, ra_in 955 (by decide +kernel) (by decide +kernel), ra_in 72 (by decide +kernel) (by decide +kernel), by decide +kernel, by decide +kernel⟩
set_option maxRecDepth 100000 in
theorem im_Sh_store : Cond.instanceMethod (mi_Sh_store).1 ∈ ra_WS := ra_in 953 (by decide +kernel) (by decide +kernel)
set_option maxRecDepth 100000 in
theorem se_Sh_store : Cond.selects (mi_Sh_store).1.cls (mi_Sh_store).1 (mi_Sh_store).1 ∈ ra_WS := ra_in 954 (by decide +kernel) (by decide +kernel)
def rm_R_put : Room := { frames := 3, cells := 0, slots := 0, locals := 108 }
abbrev mi_R_put : ra_MI := (⟨cn_R, "put", "(IIII)I"⟩, prog_1_method_30_code, 6, (some .int), rm_R_put, 5)
set_option maxRecDepth 100000 in
theorem co_R_put {R : Room} (h1 : 3 + 1 ≤ R.frames) (h2 : 8 + (6 + 11) + 108 ≤ R.locals) : ra_CO R mi_R_put := ⟨rfl, rfl, h1, h2, ra_in 946 (by decide +kernel) (by decide +kernel), ra_in 62 (by decide +kernel) (by decide +kernel), by decide +kernel, by decide +kernel⟩
set_option maxRecDepth 100000 in
theorem im_R_put : Cond.instanceMethod (mi_R_put).1 ∈ ra_WS := ra_in 944 (by decide +kernel) (by decide +kernel)
set_option maxRecDepth 100000 in
theorem se_R_put : Cond.selects (mi_R_put).1.cls (mi_R_put).1 (mi_R_put).1 ∈ ra_WS := ra_in 945 (by decide +kernel) (by decide +kernel)
def rm_R_get : Room := { frames := 3, cells := 0, slots := 0, locals := 108 }
abbrev mi_R_get : ra_MI := (⟨cn_R, "get", "(III)I"⟩, prog_1_method_31_code, 5, (some .int), rm_R_get, 4)
set_option maxRecDepth 100000 in
theorem co_R_get {R : Room} (h1 : 3 + 1 ≤ R.frames) (h2 : 8 + (5 + 11) + 108 ≤ R.locals) : ra_CO R mi_R_get := ⟨rfl, rfl, h1, h2, ra_in 959 (by decide +kernel) (by decide +kernel), ra_in 62 (by decide +kernel) (by decide +kernel), by decide +kernel, by decide +kernel⟩
set_option maxRecDepth 100000 in
theorem im_R_get : Cond.instanceMethod (mi_R_get).1 ∈ ra_WS := ra_in 957 (by decide +kernel) (by decide +kernel)
set_option maxRecDepth 100000 in
theorem se_R_get : Cond.selects (mi_R_get).1.cls (mi_R_get).1 (mi_R_get).1 ∈ ra_WS := ra_in 958 (by decide +kernel) (by decide +kernel)
def rm_Sh_lacks : Room := { frames := 1, cells := 0, slots := 0, locals := 64 }
abbrev mi_Sh_lacks : ra_MI := (⟨cn_Sh, "lacks", "(II)Z"⟩, prog_7_method_4_code, 3, (some .boolean), rm_Sh_lacks, 3)
set_option maxRecDepth 100000 in
theorem co_Sh_lacks {R : Room} (h1 : 1 + 1 ≤ R.frames) (h2 : 8 + (3 + 11) + 64 ≤ R.locals) : ra_CO R mi_Sh_lacks := ⟨rfl, rfl, h1, h2, ra_in 968 (by decide +kernel) (by decide +kernel), ra_in 72 (by decide +kernel) (by decide +kernel), by decide +kernel, by decide +kernel⟩
set_option maxRecDepth 100000 in
theorem im_Sh_lacks : Cond.instanceMethod (mi_Sh_lacks).1 ∈ ra_WS := ra_in 966 (by decide +kernel) (by decide +kernel)
set_option maxRecDepth 100000 in
theorem se_Sh_lacks : Cond.selects (mi_Sh_lacks).1.cls (mi_Sh_lacks).1 (mi_Sh_lacks).1 ∈ ra_WS := ra_in 967 (by decide +kernel) (by decide +kernel)
def rm_R_copy : Room := { frames := 3, cells := 0, slots := 0, locals := 106 }
abbrev mi_R_copy : ra_MI := (⟨cn_R, "copy", "(IIIII)I"⟩, prog_1_method_32_code, 8, (some .int), rm_R_copy, 6)
set_option maxRecDepth 100000 in
theorem co_R_copy {R : Room} (h1 : 3 + 1 ≤ R.frames) (h2 : 8 + (8 + 11) + 106 ≤ R.locals) : ra_CO R mi_R_copy := ⟨rfl, rfl, h1, h2, ra_in 964 (by decide +kernel) (by decide +kernel), ra_in 62 (by decide +kernel) (by decide +kernel), by decide +kernel, by decide +kernel⟩
set_option maxRecDepth 100000 in
theorem im_R_copy : Cond.instanceMethod (mi_R_copy).1 ∈ ra_WS := ra_in 962 (by decide +kernel) (by decide +kernel)
set_option maxRecDepth 100000 in
theorem se_R_copy : Cond.selects (mi_R_copy).1.cls (mi_R_copy).1 (mi_R_copy).1 ∈ ra_WS := ra_in 963 (by decide +kernel) (by decide +kernel)
def rm_R_write : Room := { frames := 6, cells := 0, slots := 0, locals := 178 }
abbrev mi_R_write : ra_MI := (⟨cn_R, "write", "(I)I"⟩, prog_1_method_33_code, 5, (some .int), rm_R_write, 2)
set_option maxRecDepth 100000 in
theorem co_R_write {R : Room} (h1 : 6 + 1 ≤ R.frames) (h2 : 8 + (5 + 11) + 178 ≤ R.locals) : ra_CO R mi_R_write := ⟨rfl, rfl, h1, h2, ra_in 973 (by decide +kernel) (by decide +kernel), ra_in 62 (by decide +kernel) (by decide +kernel), by decide +kernel, by decide +kernel⟩
set_option maxRecDepth 100000 in
theorem im_R_write : Cond.instanceMethod (mi_R_write).1 ∈ ra_WS := ra_in 971 (by decide +kernel) (by decide +kernel)
set_option maxRecDepth 100000 in
theorem se_R_write : Cond.selects (mi_R_write).1.cls (mi_R_write).1 (mi_R_write).1 ∈ ra_WS := ra_in 972 (by decide +kernel) (by decide +kernel)
def rm_V_countRings : Room := { frames := 1, cells := 0, slots := 0, locals := 64 }
abbrev mi_V_countRings : ra_MI := (⟨cn_V, "countRings", "()I"⟩, prog_10_method_5_code, 3, (some .int), rm_V_countRings, 1)
set_option maxRecDepth 100000 in
theorem co_V_countRings {R : Room} (h1 : 1 + 1 ≤ R.frames) (h2 : 8 + (3 + 11) + 64 ≤ R.locals) : ra_CO R mi_V_countRings := ⟨rfl, rfl, h1, h2, ra_in 982 (by decide +kernel) (by decide +kernel), ra_in 63 (by decide +kernel) (by decide +kernel), by decide +kernel, by decide +kernel⟩
set_option maxRecDepth 100000 in
theorem im_V_countRings : Cond.instanceMethod (mi_V_countRings).1 ∈ ra_WS := ra_in 980 (by decide +kernel) (by decide +kernel)
set_option maxRecDepth 100000 in
theorem se_V_countRings : Cond.selects (mi_V_countRings).1.cls (mi_V_countRings).1 (mi_V_countRings).1 ∈ ra_WS := ra_in 981 (by decide +kernel) (by decide +kernel)
def rm_R_count : Room := { frames := 2, cells := 0, slots := 0, locals := 86 }
abbrev mi_R_count : ra_MI := (⟨cn_R, "count", "(I)I"⟩, prog_1_method_34_code, 2, (some .int), rm_R_count, 2)
set_option maxRecDepth 100000 in
theorem co_R_count {R : Room} (h1 : 2 + 1 ≤ R.frames) (h2 : 8 + (2 + 11) + 86 ≤ R.locals) : ra_CO R mi_R_count := ⟨rfl, rfl, h1, h2, ra_in 978 (by decide +kernel) (by decide +kernel), ra_in 62 (by decide +kernel) (by decide +kernel), by decide +kernel, by decide +kernel⟩
set_option maxRecDepth 100000 in
theorem im_R_count : Cond.instanceMethod (mi_R_count).1 ∈ ra_WS := ra_in 976 (by decide +kernel) (by decide +kernel)
set_option maxRecDepth 100000 in
theorem se_R_count : Cond.selects (mi_R_count).1.cls (mi_R_count).1 (mi_R_count).1 ∈ ra_WS := ra_in 977 (by decide +kernel) (by decide +kernel)
def rm_R_digest : Room := { frames := 7, cells := 0, slots := 0, locals := 200 }
abbrev mi_R_digest : ra_MI := (⟨cn_R, "digest", "()J"⟩, prog_1_method_35_code, 5, (some .long), rm_R_digest, 1)
set_option maxRecDepth 100000 in
theorem co_R_digest {R : Room} (h1 : 7 + 1 ≤ R.frames) (h2 : 8 + (5 + 11) + 200 ≤ R.locals) : ra_CO R mi_R_digest := ⟨rfl, rfl, h1, h2, ra_in 986 (by decide +kernel) (by decide +kernel), ra_in 62 (by decide +kernel) (by decide +kernel), by decide +kernel, by decide +kernel⟩
set_option maxRecDepth 100000 in
theorem im_R_digest : Cond.instanceMethod (mi_R_digest).1 ∈ ra_WS := ra_in 984 (by decide +kernel) (by decide +kernel)
set_option maxRecDepth 100000 in
theorem se_R_digest : Cond.selects (mi_R_digest).1.cls (mi_R_digest).1 (mi_R_digest).1 ∈ ra_WS := ra_in 985 (by decide +kernel) (by decide +kernel)
def rm_N_in : Room := { frames := 1, cells := 0, slots := 0, locals := 64 }
abbrev mi_N_in : ra_MI := (⟨cn_N, "in", "(III)Z"⟩, prog_13_method_3_code, 3, (some .boolean), rm_N_in, 3)
set_option maxRecDepth 100000 in
theorem co_N_in {R : Room} (h1 : 1 + 1 ≤ R.frames) (h2 : 8 + (3 + 11) + 64 ≤ R.locals) : ra_CO R mi_N_in := ⟨rfl, rfl, h1, h2, ra_in 1117 (by decide +kernel) (by decide +kernel), ra_in 73 (by decide +kernel) (by decide +kernel), by decide +kernel, by decide +kernel⟩
set_option maxRecDepth 100000 in
theorem st_N_in : Cond.static (mi_N_in).1 ∈ ra_WS := ra_in 1116 (by decide +kernel) (by decide +kernel)
def rm_N_type : Room := { frames := 2, cells := 0, slots := 0, locals := 86 }
abbrev mi_N_type : ra_MI := (⟨cn_N, "type", "(II)I"⟩, prog_13_method_6_code, 3, (some .int), rm_N_type, 3)
set_option maxRecDepth 100000 in
theorem co_N_type {R : Room} (h1 : 2 + 1 ≤ R.frames) (h2 : 8 + (3 + 11) + 86 ≤ R.locals) : ra_CO R mi_N_type := ⟨rfl, rfl, h1, h2, ra_in 1114 (by decide +kernel) (by decide +kernel), ra_in 73 (by decide +kernel) (by decide +kernel), by decide +kernel, by decide +kernel⟩
set_option maxRecDepth 100000 in
theorem im_N_type : Cond.instanceMethod (mi_N_type).1 ∈ ra_WS := ra_in 1112 (by decide +kernel) (by decide +kernel)
set_option maxRecDepth 100000 in
theorem se_N_type : Cond.selects (mi_N_type).1.cls (mi_N_type).1 (mi_N_type).1 ∈ ra_WS := ra_in 1113 (by decide +kernel) (by decide +kernel)
def rm_N_wipe : Room := { frames := 2, cells := 0, slots := 0, locals := 86 }
abbrev mi_N_wipe : ra_MI := (⟨cn_N, "wipe", "(I)I"⟩, prog_13_method_7_code, 3, (some .int), rm_N_wipe, 2)
set_option maxRecDepth 100000 in
theorem co_N_wipe {R : Room} (h1 : 2 + 1 ≤ R.frames) (h2 : 8 + (3 + 11) + 86 ≤ R.locals) : ra_CO R mi_N_wipe := ⟨rfl, rfl, h1, h2, ra_in 1121 (by decide +kernel) (by decide +kernel), ra_in 73 (by decide +kernel) (by decide +kernel), by decide +kernel, by decide +kernel⟩
set_option maxRecDepth 100000 in
theorem im_N_wipe : Cond.instanceMethod (mi_N_wipe).1 ∈ ra_WS := ra_in 1119 (by decide +kernel) (by decide +kernel)
set_option maxRecDepth 100000 in
theorem se_N_wipe : Cond.selects (mi_N_wipe).1.cls (mi_N_wipe).1 (mi_N_wipe).1 ∈ ra_WS := ra_in 1120 (by decide +kernel) (by decide +kernel)
def rm_N_byteAt : Room := { frames := 1, cells := 0, slots := 0, locals := 64 }
abbrev mi_N_byteAt : ra_MI := (⟨cn_N, "byteAt", "(II)I"⟩, prog_13_method_8_code, 3, (some .int), rm_N_byteAt, 3)
set_option maxRecDepth 100000 in
theorem co_N_byteAt {R : Room} (h1 : 1 + 1 ≤ R.frames) (h2 : 8 + (3 + 11) + 64 ≤ R.locals) : ra_CO R mi_N_byteAt := ⟨rfl, rfl, h1, h2, ra_in 1141 (by decide +kernel) (by decide +kernel), ra_in 73 (by decide +kernel) (by decide +kernel), by decide +kernel, by decide +kernel⟩
set_option maxRecDepth 100000 in
theorem im_N_byteAt : Cond.instanceMethod (mi_N_byteAt).1 ∈ ra_WS := ra_in 1140 (by decide +kernel) (by decide +kernel)
set_option maxRecDepth 100000 in
theorem se_N_byteAt : Cond.selects (mi_N_byteAt).1.cls (mi_N_byteAt).1 (mi_N_byteAt).1 ∈ ra_WS := ra_in 29 (by decide +kernel) (by decide +kernel)
def rm_N_figureAt : Room := { frames := 2, cells := 0, slots := 0, locals := 86 }
abbrev mi_N_figureAt : ra_MI := (⟨cn_N, "figureAt", "(II)I"⟩, prog_13_method_9_code, 4, (some .int), rm_N_figureAt, 3)
set_option maxRecDepth 100000 in
theorem co_N_figureAt {R : Room} (h1 : 2 + 1 ≤ R.frames) (h2 : 8 + (4 + 11) + 86 ≤ R.locals) : ra_CO R mi_N_figureAt := ⟨rfl, rfl, h1, h2, ra_in 1137 (by decide +kernel) (by decide +kernel), ra_in 73 (by decide +kernel) (by decide +kernel), by decide +kernel, by decide +kernel⟩
set_option maxRecDepth 100000 in
theorem im_N_figureAt : Cond.instanceMethod (mi_N_figureAt).1 ∈ ra_WS := ra_in 1136 (by decide +kernel) (by decide +kernel)
set_option maxRecDepth 100000 in
theorem se_N_figureAt : Cond.selects (mi_N_figureAt).1.cls (mi_N_figureAt).1 (mi_N_figureAt).1 ∈ ra_WS := ra_in 28 (by decide +kernel) (by decide +kernel)
def rm_N_readsHouses : Room := { frames := 3, cells := 0, slots := 0, locals := 109 }
abbrev mi_N_readsHouses : ra_MI := (⟨cn_N, "readsHouses", "()I"⟩, prog_13_method_10_code, 4, (some .int), rm_N_readsHouses, 1)
set_option maxRecDepth 100000 in
theorem co_N_readsHouses {R : Room} (h1 : 3 + 1 ≤ R.frames) (h2 : 8 + (4 + 11) + 109 ≤ R.locals) : ra_CO R mi_N_readsHouses := ⟨rfl, rfl, h1, h2, ra_in 1133 (by decide +kernel) (by decide +kernel), ra_in 73 (by decide +kernel) (by decide +kernel), by decide +kernel, by decide +kernel⟩
set_option maxRecDepth 100000 in
theorem im_N_readsHouses : Cond.instanceMethod (mi_N_readsHouses).1 ∈ ra_WS := ra_in 1132 (by decide +kernel) (by decide +kernel)
set_option maxRecDepth 100000 in
theorem se_N_readsHouses : Cond.selects (mi_N_readsHouses).1.cls (mi_N_readsHouses).1 (mi_N_readsHouses).1 ∈ ra_WS := ra_in 27 (by decide +kernel) (by decide +kernel)
def rm_N_isIn : Room := { frames := 1, cells := 0, slots := 0, locals := 64 }
abbrev mi_N_isIn : ra_MI := (⟨cn_N, "isIn", "(II)Z"⟩, prog_13_method_4_code, 2, (some .boolean), rm_N_isIn, 2)
set_option maxRecDepth 100000 in
theorem co_N_isIn {R : Room} (h1 : 1 + 1 ≤ R.frames) (h2 : 8 + (2 + 11) + 64 ≤ R.locals) : ra_CO R mi_N_isIn := ⟨rfl, rfl, h1, h2, ra_in 1152 (by decide +kernel) (by decide +kernel), ra_in 73 (by decide +kernel) (by decide +kernel), by decide +kernel, by decide +kernel⟩
set_option maxRecDepth 100000 in
theorem st_N_isIn : Cond.static (mi_N_isIn).1 ∈ ra_WS := ra_in 1151 (by decide +kernel) (by decide +kernel)
def rm_N_readsLots : Room := { frames := 3, cells := 0, slots := 0, locals := 109 }
abbrev mi_N_readsLots : ra_MI := (⟨cn_N, "readsLots", "()I"⟩, prog_13_method_11_code, 4, (some .int), rm_N_readsLots, 1)
set_option maxRecDepth 100000 in
theorem co_N_readsLots {R : Room} (h1 : 3 + 1 ≤ R.frames) (h2 : 8 + (4 + 11) + 109 ≤ R.locals) : ra_CO R mi_N_readsLots := ⟨rfl, rfl, h1, h2, ra_in 1149 (by decide +kernel) (by decide +kernel), ra_in 73 (by decide +kernel) (by decide +kernel), by decide +kernel, by decide +kernel⟩
set_option maxRecDepth 100000 in
theorem im_N_readsLots : Cond.instanceMethod (mi_N_readsLots).1 ∈ ra_WS := ra_in 1148 (by decide +kernel) (by decide +kernel)
set_option maxRecDepth 100000 in
theorem se_N_readsLots : Cond.selects (mi_N_readsLots).1.cls (mi_N_readsLots).1 (mi_N_readsLots).1 ∈ ra_WS := ra_in 31 (by decide +kernel) (by decide +kernel)
def rm_N_lotsNow : Room := { frames := 4, cells := 0, slots := 0, locals := 132 }
abbrev mi_N_lotsNow : ra_MI := (⟨cn_N, "lotsNow", "()I"⟩, prog_13_method_12_code, 4, (some .int), rm_N_lotsNow, 1)
set_option maxRecDepth 100000 in
theorem co_N_lotsNow {R : Room} (h1 : 4 + 1 ≤ R.frames) (h2 : 8 + (4 + 11) + 132 ≤ R.locals) : ra_CO R mi_N_lotsNow := ⟨rfl, rfl, h1, h2, ra_in 1145 (by decide +kernel) (by decide +kernel), ra_in 73 (by decide +kernel) (by decide +kernel), by decide +kernel, by decide +kernel⟩
set_option maxRecDepth 100000 in
theorem im_N_lotsNow : Cond.instanceMethod (mi_N_lotsNow).1 ∈ ra_WS := ra_in 1144 (by decide +kernel) (by decide +kernel)
set_option maxRecDepth 100000 in
theorem se_N_lotsNow : Cond.selects (mi_N_lotsNow).1.cls (mi_N_lotsNow).1 (mi_N_lotsNow).1 ∈ ra_WS := ra_in 30 (by decide +kernel) (by decide +kernel)
def rm_N_faultOf : Room := { frames := 5, cells := 0, slots := 0, locals := 155 }
abbrev mi_N_faultOf : ra_MI := (⟨cn_N, "faultOf", "(I)I"⟩, prog_13_method_13_code, 2, (some .int), rm_N_faultOf, 2)
set_option maxRecDepth 100000 in
theorem co_N_faultOf {R : Room} (h1 : 5 + 1 ≤ R.frames) (h2 : 8 + (2 + 11) + 155 ≤ R.locals) : ra_CO R mi_N_faultOf := ⟨rfl, rfl, h1, h2, ra_in 1129 (by decide +kernel) (by decide +kernel), ra_in 73 (by decide +kernel) (by decide +kernel), by decide +kernel, by decide +kernel⟩
set_option maxRecDepth 100000 in
theorem im_N_faultOf : Cond.instanceMethod (mi_N_faultOf).1 ∈ ra_WS := ra_in 1128 (by decide +kernel) (by decide +kernel)
set_option maxRecDepth 100000 in
theorem se_N_faultOf : Cond.selects (mi_N_faultOf).1.cls (mi_N_faultOf).1 (mi_N_faultOf).1 ∈ ra_WS := ra_in 26 (by decide +kernel) (by decide +kernel)
def rm_N_fault : Room := { frames := 6, cells := 0, slots := 0, locals := 176 }
abbrev mi_N_fault : ra_MI := (⟨cn_N, "fault", "(I)I"⟩, prog_13_method_15_code, 2, (some .int), rm_N_fault, 2)
set_option maxRecDepth 100000 in
theorem co_N_fault {R : Room} (h1 : 6 + 1 ≤ R.frames) (h2 : 8 + (2 + 11) + 176 ≤ R.locals) : ra_CO R mi_N_fault := ⟨rfl, rfl, h1, h2, ra_in 1125 (by decide +kernel) (by decide +kernel), ra_in 73 (by decide +kernel) (by decide +kernel), by decide +kernel, by decide +kernel⟩
set_option maxRecDepth 100000 in
theorem im_N_fault : Cond.instanceMethod (mi_N_fault).1 ∈ ra_WS := ra_in 1123 (by decide +kernel) (by decide +kernel)
set_option maxRecDepth 100000 in
theorem se_N_fault : Cond.selects (mi_N_fault).1.cls (mi_N_fault).1 (mi_N_fault).1 ∈ ra_WS := ra_in 1124 (by decide +kernel) (by decide +kernel)
def rm_N_reads : Room := { frames := 5, cells := 0, slots := 0, locals := 155 }
abbrev mi_N_reads : ra_MI := (⟨cn_N, "reads", "()V"⟩, prog_13_method_14_code, 2, none, rm_N_reads, 1)
set_option maxRecDepth 100000 in
theorem co_N_reads {R : Room} (h1 : 5 + 1 ≤ R.frames) (h2 : 8 + (2 + 11) + 155 ≤ R.locals) : ra_CO R mi_N_reads := ⟨rfl, rfl, h1, h2, ra_in 1164 (by decide +kernel) (by decide +kernel), ra_in 73 (by decide +kernel) (by decide +kernel), by decide +kernel, by decide +kernel⟩
set_option maxRecDepth 100000 in
theorem im_N_reads : Cond.instanceMethod (mi_N_reads).1 ∈ ra_WS := ra_in 1163 (by decide +kernel) (by decide +kernel)
set_option maxRecDepth 100000 in
theorem se_N_reads : Cond.selects (mi_N_reads).1.cls (mi_N_reads).1 (mi_N_reads).1 ∈ ra_WS := ra_in 33 (by decide +kernel) (by decide +kernel)
def rm_N_isHouse : Room := { frames := 6, cells := 0, slots := 0, locals := 176 }
abbrev mi_N_isHouse : ra_MI := (⟨cn_N, "isHouse", "(I)Z"⟩, prog_13_method_16_code, 2, (some .boolean), rm_N_isHouse, 2)
set_option maxRecDepth 100000 in
theorem co_N_isHouse {R : Room} (h1 : 6 + 1 ≤ R.frames) (h2 : 8 + (2 + 11) + 176 ≤ R.locals) : ra_CO R mi_N_isHouse := ⟨rfl, rfl, h1, h2, ra_in 1160 (by decide +kernel) (by decide +kernel), ra_in 73 (by decide +kernel) (by decide +kernel), by decide +kernel, by decide +kernel⟩
set_option maxRecDepth 100000 in
theorem im_N_isHouse : Cond.instanceMethod (mi_N_isHouse).1 ∈ ra_WS := ra_in 1159 (by decide +kernel) (by decide +kernel)
set_option maxRecDepth 100000 in
theorem se_N_isHouse : Cond.selects (mi_N_isHouse).1.cls (mi_N_isHouse).1 (mi_N_isHouse).1 ∈ ra_WS := ra_in 32 (by decide +kernel) (by decide +kernel)
def rm_N_ownerOf : Room := { frames := 1, cells := 0, slots := 0, locals := 64 }
abbrev mi_N_ownerOf : ra_MI := (⟨cn_N, "ownerOf", "(I)I"⟩, prog_13_method_18_code, 3, (some .int), rm_N_ownerOf, 2)
set_option maxRecDepth 100000 in
theorem co_N_ownerOf {R : Room} (h1 : 1 + 1 ≤ R.frames) (h2 : 8 + (3 + 11) + 64 ≤ R.locals) : ra_CO R mi_N_ownerOf := ⟨rfl, rfl, h1, h2, ra_in 1172 (by decide +kernel) (by decide +kernel), ra_in 73 (by decide +kernel) (by decide +kernel), by decide +kernel, by decide +kernel⟩
set_option maxRecDepth 100000 in
theorem im_N_ownerOf : Cond.instanceMethod (mi_N_ownerOf).1 ∈ ra_WS := ra_in 1171 (by decide +kernel) (by decide +kernel)
set_option maxRecDepth 100000 in
theorem se_N_ownerOf : Cond.selects (mi_N_ownerOf).1.cls (mi_N_ownerOf).1 (mi_N_ownerOf).1 ∈ ra_WS := ra_in 35 (by decide +kernel) (by decide +kernel)
def rm_N_houseOf : Room := { frames := 2, cells := 0, slots := 0, locals := 86 }
abbrev mi_N_houseOf : ra_MI := (⟨cn_N, "houseOf", "(II)I"⟩, prog_13_method_19_code, 3, (some .int), rm_N_houseOf, 3)
set_option maxRecDepth 100000 in
theorem co_N_houseOf {R : Room} (h1 : 2 + 1 ≤ R.frames) (h2 : 8 + (3 + 11) + 86 ≤ R.locals) : ra_CO R mi_N_houseOf := ⟨rfl, rfl, h1, h2, ra_in 1168 (by decide +kernel) (by decide +kernel), ra_in 73 (by decide +kernel) (by decide +kernel), by decide +kernel, by decide +kernel⟩
set_option maxRecDepth 100000 in
theorem im_N_houseOf : Cond.instanceMethod (mi_N_houseOf).1 ∈ ra_WS := ra_in 1167 (by decide +kernel) (by decide +kernel)
set_option maxRecDepth 100000 in
theorem se_N_houseOf : Cond.selects (mi_N_houseOf).1.cls (mi_N_houseOf).1 (mi_N_houseOf).1 ∈ ra_WS := ra_in 34 (by decide +kernel) (by decide +kernel)
def rm_N_house : Room := { frames := 7, cells := 0, slots := 0, locals := 197 }
abbrev mi_N_house : ra_MI := (⟨cn_N, "house", "(II)I"⟩, prog_13_method_20_code, 3, (some .int), rm_N_house, 3)
set_option maxRecDepth 100000 in
theorem co_N_house {R : Room} (h1 : 7 + 1 ≤ R.frames) (h2 : 8 + (3 + 11) + 197 ≤ R.locals) : ra_CO R mi_N_house := ⟨rfl, rfl, h1, h2, ra_in 1156 (by decide +kernel) (by decide +kernel), ra_in 73 (by decide +kernel) (by decide +kernel), by decide +kernel, by decide +kernel⟩
set_option maxRecDepth 100000 in
theorem im_N_house : Cond.instanceMethod (mi_N_house).1 ∈ ra_WS := ra_in 1154 (by decide +kernel) (by decide +kernel)
set_option maxRecDepth 100000 in
theorem se_N_house : Cond.selects (mi_N_house).1.cls (mi_N_house).1 (mi_N_house).1 ∈ ra_WS := ra_in 1155 (by decide +kernel) (by decide +kernel)
def rm_N_rainMore : Room := { frames := 2, cells := 0, slots := 0, locals := 86 }
abbrev mi_N_rainMore : ra_MI := (⟨cn_N, "rainMore", "(I)I"⟩, prog_13_method_21_code, 2, (some .int), rm_N_rainMore, 2)
set_option maxRecDepth 100000 in
theorem co_N_rainMore {R : Room} (h1 : 2 + 1 ≤ R.frames) (h2 : 8 + (2 + 11) + 86 ≤ R.locals) : ra_CO R mi_N_rainMore := ⟨rfl, rfl, h1, h2, ra_in 1180 (by decide +kernel) (by decide +kernel), ra_in 73 (by decide +kernel) (by decide +kernel), by decide +kernel, by decide +kernel⟩
set_option maxRecDepth 100000 in
theorem im_N_rainMore : Cond.instanceMethod (mi_N_rainMore).1 ∈ ra_WS := ra_in 1179 (by decide +kernel) (by decide +kernel)
set_option maxRecDepth 100000 in
theorem se_N_rainMore : Cond.selects (mi_N_rainMore).1.cls (mi_N_rainMore).1 (mi_N_rainMore).1 ∈ ra_WS := ra_in 36 (by decide +kernel) (by decide +kernel)
def rm_N_rain : Room := { frames := 3, cells := 0, slots := 0, locals := 107 }
abbrev mi_N_rain : ra_MI := (⟨cn_N, "rain", "(I)I"⟩, prog_13_method_22_code, 2, (some .int), rm_N_rain, 2)
set_option maxRecDepth 100000 in
theorem co_N_rain {R : Room} (h1 : 3 + 1 ≤ R.frames) (h2 : 8 + (2 + 11) + 107 ≤ R.locals) : ra_CO R mi_N_rain := ⟨rfl, rfl, h1, h2, ra_in 1176 (by decide +kernel) (by decide +kernel), ra_in 73 (by decide +kernel) (by decide +kernel), by decide +kernel, by decide +kernel⟩
set_option maxRecDepth 100000 in
theorem im_N_rain : Cond.instanceMethod (mi_N_rain).1 ∈ ra_WS := ra_in 1174 (by decide +kernel) (by decide +kernel)
set_option maxRecDepth 100000 in
theorem se_N_rain : Cond.selects (mi_N_rain).1.cls (mi_N_rain).1 (mi_N_rain).1 ∈ ra_WS := ra_in 1175 (by decide +kernel) (by decide +kernel)
def rm_N_isSheet : Room := { frames := 2, cells := 0, slots := 0, locals := 86 }
abbrev mi_N_isSheet : ra_MI := (⟨cn_N, "isSheet", "(I)Z"⟩, prog_13_method_65_code, 1, (some .boolean), rm_N_isSheet, 1)
set_option maxRecDepth 100000 in
theorem co_N_isSheet {R : Room} (h1 : 2 + 1 ≤ R.frames) (h2 : 8 + (1 + 11) + 86 ≤ R.locals) : ra_CO R mi_N_isSheet := ⟨rfl, rfl, h1, h2, ra_in 1187 (by decide +kernel) (by decide +kernel), ra_in 73 (by decide +kernel) (by decide +kernel), by decide +kernel, by decide +kernel⟩
set_option maxRecDepth 100000 in
theorem st_N_isSheet : Cond.static (mi_N_isSheet).1 ∈ ra_WS := ra_in 1186 (by decide +kernel) (by decide +kernel)
def rm_N_meets : Room := { frames := 1, cells := 0, slots := 0, locals := 64 }
abbrev mi_N_meets : ra_MI := (⟨cn_N, "meets", "(I)I"⟩, prog_13_method_64_code, 2, (some .int), rm_N_meets, 2)
set_option maxRecDepth 100000 in
theorem co_N_meets {R : Room} (h1 : 1 + 1 ≤ R.frames) (h2 : 8 + (2 + 11) + 64 ≤ R.locals) : ra_CO R mi_N_meets := ⟨rfl, rfl, h1, h2, ra_in 1191 (by decide +kernel) (by decide +kernel), ra_in 73 (by decide +kernel) (by decide +kernel), by decide +kernel, by decide +kernel⟩
set_option maxRecDepth 100000 in
theorem im_N_meets : Cond.instanceMethod (mi_N_meets).1 ∈ ra_WS := ra_in 1190 (by decide +kernel) (by decide +kernel)
set_option maxRecDepth 100000 in
theorem se_N_meets : Cond.selects (mi_N_meets).1.cls (mi_N_meets).1 (mi_N_meets).1 ∈ ra_WS := ra_in 37 (by decide +kernel) (by decide +kernel)
def rm_N_read : Room := { frames := 3, cells := 0, slots := 0, locals := 107 }
abbrev mi_N_read : ra_MI := (⟨cn_N, "read", "(I)I"⟩, prog_13_method_23_code, 3, (some .int), rm_N_read, 2)
set_option maxRecDepth 100000 in
theorem co_N_read {R : Room} (h1 : 3 + 1 ≤ R.frames) (h2 : 8 + (3 + 11) + 107 ≤ R.locals) : ra_CO R mi_N_read := ⟨rfl, rfl, h1, h2, ra_in 1184 (by decide +kernel) (by decide +kernel), ra_in 73 (by decide +kernel) (by decide +kernel), by decide +kernel, by decide +kernel⟩
set_option maxRecDepth 100000 in
theorem im_N_read : Cond.instanceMethod (mi_N_read).1 ∈ ra_WS := ra_in 1182 (by decide +kernel) (by decide +kernel)
set_option maxRecDepth 100000 in
theorem se_N_read : Cond.selects (mi_N_read).1.cls (mi_N_read).1 (mi_N_read).1 ∈ ra_WS := ra_in 1183 (by decide +kernel) (by decide +kernel)
def rm_N_undo : Room := { frames := 1, cells := 0, slots := 0, locals := 64 }
abbrev mi_N_undo : ra_MI := (⟨cn_N, "undo", "()I"⟩, prog_13_method_24_code, 1, (some .int), rm_N_undo, 1)
set_option maxRecDepth 100000 in
theorem co_N_undo {R : Room} (h1 : 1 + 1 ≤ R.frames) (h2 : 8 + (1 + 11) + 64 ≤ R.locals) : ra_CO R mi_N_undo := ⟨rfl, rfl, h1, h2, ra_in 1195 (by decide +kernel) (by decide +kernel), ra_in 73 (by decide +kernel) (by decide +kernel), by decide +kernel, by decide +kernel⟩
set_option maxRecDepth 100000 in
theorem im_N_undo : Cond.instanceMethod (mi_N_undo).1 ∈ ra_WS := ra_in 1193 (by decide +kernel) (by decide +kernel)
set_option maxRecDepth 100000 in
theorem se_N_undo : Cond.selects (mi_N_undo).1.cls (mi_N_undo).1 (mi_N_undo).1 ∈ ra_WS := ra_in 1194 (by decide +kernel) (by decide +kernel)
def rm_N_set : Room := { frames := 2, cells := 0, slots := 0, locals := 86 }
abbrev mi_N_set : ra_MI := (⟨cn_N, "set", "(II)I"⟩, prog_13_method_25_code, 4, (some .int), rm_N_set, 3)
set_option maxRecDepth 100000 in
theorem co_N_set {R : Room} (h1 : 2 + 1 ≤ R.frames) (h2 : 8 + (4 + 11) + 86 ≤ R.locals) : ra_CO R mi_N_set := ⟨rfl, rfl, h1, h2, ra_in 1199 (by decide +kernel) (by decide +kernel), ra_in 73 (by decide +kernel) (by decide +kernel), by decide +kernel, by decide +kernel⟩
set_option maxRecDepth 100000 in
theorem im_N_set : Cond.instanceMethod (mi_N_set).1 ∈ ra_WS := ra_in 1197 (by decide +kernel) (by decide +kernel)
set_option maxRecDepth 100000 in
theorem se_N_set : Cond.selects (mi_N_set).1.cls (mi_N_set).1 (mi_N_set).1 ∈ ra_WS := ra_in 1198 (by decide +kernel) (by decide +kernel)
def rm_N_isAt : Room := { frames := 7, cells := 0, slots := 0, locals := 197 }
abbrev mi_N_isAt : ra_MI := (⟨cn_N, "isAt", "(II)Z"⟩, prog_13_method_30_code, 3, (some .boolean), rm_N_isAt, 3)
set_option maxRecDepth 100000 in
theorem co_N_isAt {R : Room} (h1 : 7 + 1 ≤ R.frames) (h2 : 8 + (3 + 11) + 197 ≤ R.locals) : ra_CO R mi_N_isAt := ⟨rfl, rfl, h1, h2, ra_in 1207 (by decide +kernel) (by decide +kernel), ra_in 73 (by decide +kernel) (by decide +kernel), by decide +kernel, by decide +kernel⟩
set_option maxRecDepth 100000 in
theorem im_N_isAt : Cond.instanceMethod (mi_N_isAt).1 ∈ ra_WS := ra_in 1206 (by decide +kernel) (by decide +kernel)
set_option maxRecDepth 100000 in
theorem se_N_isAt : Cond.selects (mi_N_isAt).1.cls (mi_N_isAt).1 (mi_N_isAt).1 ∈ ra_WS := ra_in 38 (by decide +kernel) (by decide +kernel)
def rm_N_doesLay : Room := { frames := 1, cells := 0, slots := 0, locals := 64 }
abbrev mi_N_doesLay : ra_MI := (⟨cn_N, "doesLay", "(II)Z"⟩, prog_13_method_26_code, 3, (some .boolean), rm_N_doesLay, 3)
set_option maxRecDepth 100000 in
theorem co_N_doesLay {R : Room} (h1 : 1 + 1 ≤ R.frames) (h2 : 8 + (3 + 11) + 64 ≤ R.locals) : ra_CO R mi_N_doesLay := ⟨rfl, rfl, h1, h2, ra_in 1223 (by decide +kernel) (by decide +kernel), ra_in 73 (by decide +kernel) (by decide +kernel), by decide +kernel, by decide +kernel⟩
set_option maxRecDepth 100000 in
theorem im_N_doesLay : Cond.instanceMethod (mi_N_doesLay).1 ∈ ra_WS := ra_in 1222 (by decide +kernel) (by decide +kernel)
set_option maxRecDepth 100000 in
theorem se_N_doesLay : Cond.selects (mi_N_doesLay).1.cls (mi_N_doesLay).1 (mi_N_doesLay).1 ∈ ra_WS := ra_in 42 (by decide +kernel) (by decide +kernel)
def rm_N_runs : Room := { frames := 2, cells := 0, slots := 0, locals := 86 }
abbrev mi_N_runs : ra_MI := (⟨cn_N, "runs", "(I)V"⟩, prog_13_method_27_code, 6, none, rm_N_runs, 2)
set_option maxRecDepth 100000 in
theorem co_N_runs {R : Room} (h1 : 2 + 1 ≤ R.frames) (h2 : 8 + (6 + 11) + 86 ≤ R.locals) : ra_CO R mi_N_runs := ⟨rfl, rfl, h1, h2, ra_in 1219 (by decide +kernel) (by decide +kernel), ra_in 73 (by decide +kernel) (by decide +kernel), by decide +kernel, by decide +kernel⟩
set_option maxRecDepth 100000 in
theorem im_N_runs : Cond.instanceMethod (mi_N_runs).1 ∈ ra_WS := ra_in 1218 (by decide +kernel) (by decide +kernel)
set_option maxRecDepth 100000 in
theorem se_N_runs : Cond.selects (mi_N_runs).1.cls (mi_N_runs).1 (mi_N_runs).1 ∈ ra_WS := ra_in 41 (by decide +kernel) (by decide +kernel)
def rm_N_lays : Room := { frames := 6, cells := 0, slots := 0, locals := 176 }
abbrev mi_N_lays : ra_MI := (⟨cn_N, "lays", "(I)V"⟩, prog_13_method_28_code, 3, none, rm_N_lays, 2)
set_option maxRecDepth 100000 in
theorem co_N_lays {R : Room} (h1 : 6 + 1 ≤ R.frames) (h2 : 8 + (3 + 11) + 176 ≤ R.locals) : ra_CO R mi_N_lays := ⟨rfl, rfl, h1, h2, ra_in 1215 (by decide +kernel) (by decide +kernel), ra_in 73 (by decide +kernel) (by decide +kernel), by decide +kernel, by decide +kernel⟩
set_option maxRecDepth 100000 in
theorem im_N_lays : Cond.instanceMethod (mi_N_lays).1 ∈ ra_WS := ra_in 1214 (by decide +kernel) (by decide +kernel)
set_option maxRecDepth 100000 in
theorem se_N_lays : Cond.selects (mi_N_lays).1.cls (mi_N_lays).1 (mi_N_lays).1 ∈ ra_WS := ra_in 40 (by decide +kernel) (by decide +kernel)
def rm_N_behind : Room := { frames := 7, cells := 0, slots := 0, locals := 198 }
abbrev mi_N_behind : ra_MI := (⟨cn_N, "behind", "(III)I"⟩, prog_13_method_29_code, 4, (some .int), rm_N_behind, 4)
set_option maxRecDepth 100000 in
theorem co_N_behind {R : Room} (h1 : 7 + 1 ≤ R.frames) (h2 : 8 + (4 + 11) + 198 ≤ R.locals) : ra_CO R mi_N_behind := ⟨rfl, rfl, h1, h2, ra_in 1211 (by decide +kernel) (by decide +kernel), ra_in 73 (by decide +kernel) (by decide +kernel), by decide +kernel, by decide +kernel⟩
set_option maxRecDepth 100000 in
theorem im_N_behind : Cond.instanceMethod (mi_N_behind).1 ∈ ra_WS := ra_in 1210 (by decide +kernel) (by decide +kernel)
set_option maxRecDepth 100000 in
theorem se_N_behind : Cond.selects (mi_N_behind).1.cls (mi_N_behind).1 (mi_N_behind).1 ∈ ra_WS := ra_in 39 (by decide +kernel) (by decide +kernel)
def rm_N_tiles : Room := { frames := 8, cells := 0, slots := 0, locals := 221 }
abbrev mi_N_tiles : ra_MI := (⟨cn_N, "tiles", "(II)I"⟩, prog_13_method_31_code, 3, (some .int), rm_N_tiles, 3)
set_option maxRecDepth 100000 in
theorem co_N_tiles {R : Room} (h1 : 8 + 1 ≤ R.frames) (h2 : 8 + (3 + 11) + 221 ≤ R.locals) : ra_CO R mi_N_tiles := ⟨rfl, rfl, h1, h2, ra_in 1203 (by decide +kernel) (by decide +kernel), ra_in 73 (by decide +kernel) (by decide +kernel), by decide +kernel, by decide +kernel⟩
set_option maxRecDepth 100000 in
theorem im_N_tiles : Cond.instanceMethod (mi_N_tiles).1 ∈ ra_WS := ra_in 1201 (by decide +kernel) (by decide +kernel)
set_option maxRecDepth 100000 in
theorem se_N_tiles : Cond.selects (mi_N_tiles).1.cls (mi_N_tiles).1 (mi_N_tiles).1 ∈ ra_WS := ra_in 1202 (by decide +kernel) (by decide +kernel)
def rm_N_purse : Room := { frames := 8, cells := 0, slots := 0, locals := 221 }
abbrev mi_N_purse : ra_MI := (⟨cn_N, "purse", "(II)I"⟩, prog_13_method_32_code, 3, (some .int), rm_N_purse, 3)
set_option maxRecDepth 100000 in
theorem co_N_purse {R : Room} (h1 : 8 + 1 ≤ R.frames) (h2 : 8 + (3 + 11) + 221 ≤ R.locals) : ra_CO R mi_N_purse := ⟨rfl, rfl, h1, h2, ra_in 1227 (by decide +kernel) (by decide +kernel), ra_in 73 (by decide +kernel) (by decide +kernel), by decide +kernel, by decide +kernel⟩
set_option maxRecDepth 100000 in
theorem im_N_purse : Cond.instanceMethod (mi_N_purse).1 ∈ ra_WS := ra_in 1225 (by decide +kernel) (by decide +kernel)
set_option maxRecDepth 100000 in
theorem se_N_purse : Cond.selects (mi_N_purse).1.cls (mi_N_purse).1 (mi_N_purse).1 ∈ ra_WS := ra_in 1226 (by decide +kernel) (by decide +kernel)
def rm_N_harm : Room := { frames := 8, cells := 0, slots := 0, locals := 221 }
abbrev mi_N_harm : ra_MI := (⟨cn_N, "harm", "(II)I"⟩, prog_13_method_33_code, 3, (some .int), rm_N_harm, 3)
set_option maxRecDepth 100000 in
theorem co_N_harm {R : Room} (h1 : 8 + 1 ≤ R.frames) (h2 : 8 + (3 + 11) + 221 ≤ R.locals) : ra_CO R mi_N_harm := ⟨rfl, rfl, h1, h2, ra_in 1231 (by decide +kernel) (by decide +kernel), ra_in 73 (by decide +kernel) (by decide +kernel), by decide +kernel, by decide +kernel⟩
set_option maxRecDepth 100000 in
theorem im_N_harm : Cond.instanceMethod (mi_N_harm).1 ∈ ra_WS := ra_in 1229 (by decide +kernel) (by decide +kernel)
set_option maxRecDepth 100000 in
theorem se_N_harm : Cond.selects (mi_N_harm).1.cls (mi_N_harm).1 (mi_N_harm).1 ∈ ra_WS := ra_in 1230 (by decide +kernel) (by decide +kernel)
def rm_N_laid : Room := { frames := 8, cells := 0, slots := 0, locals := 221 }
abbrev mi_N_laid : ra_MI := (⟨cn_N, "laid", "(II)I"⟩, prog_13_method_34_code, 3, (some .int), rm_N_laid, 3)
set_option maxRecDepth 100000 in
theorem co_N_laid {R : Room} (h1 : 8 + 1 ≤ R.frames) (h2 : 8 + (3 + 11) + 221 ≤ R.locals) : ra_CO R mi_N_laid := ⟨rfl, rfl, h1, h2, ra_in 1235 (by decide +kernel) (by decide +kernel), ra_in 73 (by decide +kernel) (by decide +kernel), by decide +kernel, by decide +kernel⟩
set_option maxRecDepth 100000 in
theorem im_N_laid : Cond.instanceMethod (mi_N_laid).1 ∈ ra_WS := ra_in 1233 (by decide +kernel) (by decide +kernel)
set_option maxRecDepth 100000 in
theorem se_N_laid : Cond.selects (mi_N_laid).1.cls (mi_N_laid).1 (mi_N_laid).1 ∈ ra_WS := ra_in 1234 (by decide +kernel) (by decide +kernel)
def rm_N_allOf : Room := { frames := 8, cells := 0, slots := 0, locals := 221 }
abbrev mi_N_allOf : ra_MI := (⟨cn_N, "allOf", "(II)I"⟩, prog_13_method_35_code, 5, (some .int), rm_N_allOf, 3)
set_option maxRecDepth 100000 in
theorem co_N_allOf {R : Room} (h1 : 8 + 1 ≤ R.frames) (h2 : 8 + (5 + 11) + 221 ≤ R.locals) : ra_CO R mi_N_allOf := ⟨rfl, rfl, h1, h2, ra_in 1243 (by decide +kernel) (by decide +kernel), ra_in 73 (by decide +kernel) (by decide +kernel), by decide +kernel, by decide +kernel⟩
set_option maxRecDepth 100000 in
theorem im_N_allOf : Cond.instanceMethod (mi_N_allOf).1 ∈ ra_WS := ra_in 1242 (by decide +kernel) (by decide +kernel)
set_option maxRecDepth 100000 in
theorem se_N_allOf : Cond.selects (mi_N_allOf).1.cls (mi_N_allOf).1 (mi_N_allOf).1 ∈ ra_WS := ra_in 43 (by decide +kernel) (by decide +kernel)
def rm_N_all : Room := { frames := 9, cells := 0, slots := 0, locals := 245 }
abbrev mi_N_all : ra_MI := (⟨cn_N, "all", "(II)I"⟩, prog_13_method_36_code, 3, (some .int), rm_N_all, 3)
set_option maxRecDepth 100000 in
theorem co_N_all {R : Room} (h1 : 9 + 1 ≤ R.frames) (h2 : 8 + (3 + 11) + 245 ≤ R.locals) : ra_CO R mi_N_all := ⟨rfl, rfl, h1, h2, ra_in 1239 (by decide +kernel) (by decide +kernel), ra_in 73 (by decide +kernel) (by decide +kernel), by decide +kernel, by decide +kernel⟩
set_option maxRecDepth 100000 in
theorem im_N_all : Cond.instanceMethod (mi_N_all).1 ∈ ra_WS := ra_in 1237 (by decide +kernel) (by decide +kernel)
set_option maxRecDepth 100000 in
theorem se_N_all : Cond.selects (mi_N_all).1.cls (mi_N_all).1 (mi_N_all).1 ∈ ra_WS := ra_in 1238 (by decide +kernel) (by decide +kernel)
def rm_N_ringOf : Room := { frames := 2, cells := 0, slots := 0, locals := 85 }
abbrev mi_N_ringOf : ra_MI := (⟨cn_N, "ringOf", "(I)I"⟩, prog_13_method_37_code, 4, (some .int), rm_N_ringOf, 2)
set_option maxRecDepth 100000 in
theorem co_N_ringOf {R : Room} (h1 : 2 + 1 ≤ R.frames) (h2 : 8 + (4 + 11) + 85 ≤ R.locals) : ra_CO R mi_N_ringOf := ⟨rfl, rfl, h1, h2, ra_in 1251 (by decide +kernel) (by decide +kernel), ra_in 73 (by decide +kernel) (by decide +kernel), by decide +kernel, by decide +kernel⟩
set_option maxRecDepth 100000 in
theorem im_N_ringOf : Cond.instanceMethod (mi_N_ringOf).1 ∈ ra_WS := ra_in 1250 (by decide +kernel) (by decide +kernel)
set_option maxRecDepth 100000 in
theorem se_N_ringOf : Cond.selects (mi_N_ringOf).1.cls (mi_N_ringOf).1 (mi_N_ringOf).1 ∈ ra_WS := ra_in 44 (by decide +kernel) (by decide +kernel)
def rm_N_ones : Room := { frames := 1, cells := 0, slots := 0, locals := 64 }
abbrev mi_N_ones : ra_MI := (⟨cn_N, "ones", "(I)I"⟩, prog_13_method_5_code, 3, (some .int), rm_N_ones, 1)
set_option maxRecDepth 100000 in
theorem co_N_ones {R : Room} (h1 : 1 + 1 ≤ R.frames) (h2 : 8 + (3 + 11) + 64 ≤ R.locals) : ra_CO R mi_N_ones := ⟨rfl, rfl, h1, h2, ra_in 1254 (by decide +kernel) (by decide +kernel), ra_in 73 (by decide +kernel) (by decide +kernel), by decide +kernel, by decide +kernel⟩
set_option maxRecDepth 100000 in
theorem st_N_ones : Cond.static (mi_N_ones).1 ∈ ra_WS := ra_in 1253 (by decide +kernel) (by decide +kernel)
def rm_N_ring : Room := { frames := 7, cells := 0, slots := 0, locals := 197 }
abbrev mi_N_ring : ra_MI := (⟨cn_N, "ring", "(II)I"⟩, prog_13_method_38_code, 3, (some .int), rm_N_ring, 3)
set_option maxRecDepth 100000 in
theorem co_N_ring {R : Room} (h1 : 7 + 1 ≤ R.frames) (h2 : 8 + (3 + 11) + 197 ≤ R.locals) : ra_CO R mi_N_ring := ⟨rfl, rfl, h1, h2, ra_in 1247 (by decide +kernel) (by decide +kernel), ra_in 73 (by decide +kernel) (by decide +kernel), by decide +kernel, by decide +kernel⟩
set_option maxRecDepth 100000 in
theorem im_N_ring : Cond.instanceMethod (mi_N_ring).1 ∈ ra_WS := ra_in 1245 (by decide +kernel) (by decide +kernel)
set_option maxRecDepth 100000 in
theorem se_N_ring : Cond.selects (mi_N_ring).1.cls (mi_N_ring).1 (mi_N_ring).1 ∈ ra_WS := ra_in 1246 (by decide +kernel) (by decide +kernel)
def rm_N_dryOf : Room := { frames := 6, cells := 0, slots := 0, locals := 176 }
abbrev mi_N_dryOf : ra_MI := (⟨cn_N, "dryOf", "(III)I"⟩, prog_13_method_39_code, 11, (some .int), rm_N_dryOf, 4)
set_option maxRecDepth 100000 in
theorem co_N_dryOf {R : Room} (h1 : 6 + 1 ≤ R.frames) (h2 : 8 + (11 + 11) + 176 ≤ R.locals) : ra_CO R mi_N_dryOf := ⟨rfl, rfl, h1, h2, ra_in 1262 (by decide +kernel) (by decide +kernel), ra_in 73 (by decide +kernel) (by decide +kernel), by decide +kernel, by decide +kernel⟩
set_option maxRecDepth 100000 in
theorem im_N_dryOf : Cond.instanceMethod (mi_N_dryOf).1 ∈ ra_WS := ra_in 1261 (by decide +kernel) (by decide +kernel)
set_option maxRecDepth 100000 in
theorem se_N_dryOf : Cond.selects (mi_N_dryOf).1.cls (mi_N_dryOf).1 (mi_N_dryOf).1 ∈ ra_WS := ra_in 45 (by decide +kernel) (by decide +kernel)
def rm_N_dry : Room := { frames := 7, cells := 0, slots := 0, locals := 206 }
abbrev mi_N_dry : ra_MI := (⟨cn_N, "dry", "(III)I"⟩, prog_13_method_40_code, 4, (some .int), rm_N_dry, 4)
set_option maxRecDepth 100000 in
theorem co_N_dry {R : Room} (h1 : 7 + 1 ≤ R.frames) (h2 : 8 + (4 + 11) + 206 ≤ R.locals) : ra_CO R mi_N_dry := ⟨rfl, rfl, h1, h2, ra_in 1258 (by decide +kernel) (by decide +kernel), ra_in 73 (by decide +kernel) (by decide +kernel), by decide +kernel, by decide +kernel⟩
set_option maxRecDepth 100000 in
theorem im_N_dry : Cond.instanceMethod (mi_N_dry).1 ∈ ra_WS := ra_in 1256 (by decide +kernel) (by decide +kernel)
set_option maxRecDepth 100000 in
theorem se_N_dry : Cond.selects (mi_N_dry).1.cls (mi_N_dry).1 (mi_N_dry).1 ∈ ra_WS := ra_in 1257 (by decide +kernel) (by decide +kernel)
def rm_N_isEight : Room := { frames := 2, cells := 0, slots := 0, locals := 86 }
abbrev mi_N_isEight : ra_MI := (⟨cn_N, "isEight", "(I)Z"⟩, prog_13_method_17_code, 1, (some .boolean), rm_N_isEight, 1)
set_option maxRecDepth 100000 in
theorem co_N_isEight {R : Room} (h1 : 2 + 1 ≤ R.frames) (h2 : 8 + (1 + 11) + 86 ≤ R.locals) : ra_CO R mi_N_isEight := ⟨rfl, rfl, h1, h2, ra_in 1269 (by decide +kernel) (by decide +kernel), ra_in 73 (by decide +kernel) (by decide +kernel), by decide +kernel, by decide +kernel⟩
set_option maxRecDepth 100000 in
theorem st_N_isEight : Cond.static (mi_N_isEight).1 ∈ ra_WS := ra_in 1268 (by decide +kernel) (by decide +kernel)
def rm_N_wish : Room := { frames := 3, cells := 0, slots := 0, locals := 106 }
abbrev mi_N_wish : ra_MI := (⟨cn_N, "wish", "(III)I"⟩, prog_13_method_41_code, 5, (some .int), rm_N_wish, 4)
set_option maxRecDepth 100000 in
theorem co_N_wish {R : Room} (h1 : 3 + 1 ≤ R.frames) (h2 : 8 + (5 + 11) + 106 ≤ R.locals) : ra_CO R mi_N_wish := ⟨rfl, rfl, h1, h2, ra_in 1266 (by decide +kernel) (by decide +kernel), ra_in 73 (by decide +kernel) (by decide +kernel), by decide +kernel, by decide +kernel⟩
set_option maxRecDepth 100000 in
theorem im_N_wish : Cond.instanceMethod (mi_N_wish).1 ∈ ra_WS := ra_in 1264 (by decide +kernel) (by decide +kernel)
set_option maxRecDepth 100000 in
theorem se_N_wish : Cond.selects (mi_N_wish).1.cls (mi_N_wish).1 (mi_N_wish).1 ∈ ra_WS := ra_in 1265 (by decide +kernel) (by decide +kernel)
def rm_N_hasAsTold : Room := { frames := 6, cells := 0, slots := 0, locals := 176 }
abbrev mi_N_hasAsTold : ra_MI := (⟨cn_N, "hasAsTold", "()V"⟩, prog_13_method_43_code, 2, none, rm_N_hasAsTold, 1)
set_option maxRecDepth 100000 in
theorem co_N_hasAsTold {R : Room} (h1 : 6 + 1 ≤ R.frames) (h2 : 8 + (2 + 11) + 176 ≤ R.locals) : ra_CO R mi_N_hasAsTold := ⟨rfl, rfl, h1, h2, ra_in 1277 (by decide +kernel) (by decide +kernel), ra_in 73 (by decide +kernel) (by decide +kernel), by decide +kernel, by decide +kernel⟩
set_option maxRecDepth 100000 in
theorem im_N_hasAsTold : Cond.instanceMethod (mi_N_hasAsTold).1 ∈ ra_WS := ra_in 1276 (by decide +kernel) (by decide +kernel)
set_option maxRecDepth 100000 in
theorem se_N_hasAsTold : Cond.selects (mi_N_hasAsTold).1.cls (mi_N_hasAsTold).1 (mi_N_hasAsTold).1 ∈ ra_WS := ra_in 46 (by decide +kernel) (by decide +kernel)
def rm_N_doWant : Room := { frames := 1, cells := 0, slots := 0, locals := 64 }
abbrev mi_N_doWant : ra_MI := (⟨cn_N, "doWant", "(II)Z"⟩, prog_13_method_42_code, 3, (some .boolean), rm_N_doWant, 3)
set_option maxRecDepth 100000 in
theorem co_N_doWant {R : Room} (h1 : 1 + 1 ≤ R.frames) (h2 : 8 + (3 + 11) + 64 ≤ R.locals) : ra_CO R mi_N_doWant := ⟨rfl, rfl, h1, h2, ra_in 1281 (by decide +kernel) (by decide +kernel), ra_in 73 (by decide +kernel) (by decide +kernel), by decide +kernel, by decide +kernel⟩
set_option maxRecDepth 100000 in
theorem im_N_doWant : Cond.instanceMethod (mi_N_doWant).1 ∈ ra_WS := ra_in 1280 (by decide +kernel) (by decide +kernel)
set_option maxRecDepth 100000 in
theorem se_N_doWant : Cond.selects (mi_N_doWant).1.cls (mi_N_doWant).1 (mi_N_doWant).1 ∈ ra_WS := ra_in 47 (by decide +kernel) (by decide +kernel)
def rm_N_want : Room := { frames := 7, cells := 0, slots := 0, locals := 197 }
abbrev mi_N_want : ra_MI := (⟨cn_N, "want", "(II)I"⟩, prog_13_method_44_code, 3, (some .int), rm_N_want, 3)
set_option maxRecDepth 100000 in
theorem co_N_want {R : Room} (h1 : 7 + 1 ≤ R.frames) (h2 : 8 + (3 + 11) + 197 ≤ R.locals) : ra_CO R mi_N_want := ⟨rfl, rfl, h1, h2, ra_in 1273 (by decide +kernel) (by decide +kernel), ra_in 73 (by decide +kernel) (by decide +kernel), by decide +kernel, by decide +kernel⟩
set_option maxRecDepth 100000 in
theorem im_N_want : Cond.instanceMethod (mi_N_want).1 ∈ ra_WS := ra_in 1271 (by decide +kernel) (by decide +kernel)
set_option maxRecDepth 100000 in
theorem se_N_want : Cond.selects (mi_N_want).1.cls (mi_N_want).1 (mi_N_want).1 ∈ ra_WS := ra_in 1272 (by decide +kernel) (by decide +kernel)
def rm_N_marketOf : Room := { frames := 7, cells := 0, slots := 0, locals := 197 }
abbrev mi_N_marketOf : ra_MI := (⟨cn_N, "marketOf", "(I)I"⟩, prog_13_method_45_code, 7, (some .int), rm_N_marketOf, 2)
set_option maxRecDepth 100000 in
theorem co_N_marketOf {R : Room} (h1 : 7 + 1 ≤ R.frames) (h2 : 8 + (7 + 11) + 197 ≤ R.locals) : ra_CO R mi_N_marketOf := ⟨rfl, rfl, h1, h2, ra_in 1289 (by decide +kernel) (by decide +kernel), ra_in 73 (by decide +kernel) (by decide +kernel), by decide +kernel, by decide +kernel⟩
set_option maxRecDepth 100000 in
theorem im_N_marketOf : Cond.instanceMethod (mi_N_marketOf).1 ∈ ra_WS := ra_in 1288 (by decide +kernel) (by decide +kernel)
set_option maxRecDepth 100000 in
theorem se_N_marketOf : Cond.selects (mi_N_marketOf).1.cls (mi_N_marketOf).1 (mi_N_marketOf).1 ∈ ra_WS := ra_in 48 (by decide +kernel) (by decide +kernel)
def rm_N_market : Room := { frames := 8, cells := 0, slots := 0, locals := 223 }
abbrev mi_N_market : ra_MI := (⟨cn_N, "market", "(I)I"⟩, prog_13_method_46_code, 2, (some .int), rm_N_market, 2)
set_option maxRecDepth 100000 in
theorem co_N_market {R : Room} (h1 : 8 + 1 ≤ R.frames) (h2 : 8 + (2 + 11) + 223 ≤ R.locals) : ra_CO R mi_N_market := ⟨rfl, rfl, h1, h2, ra_in 1285 (by decide +kernel) (by decide +kernel), ra_in 73 (by decide +kernel) (by decide +kernel), by decide +kernel, by decide +kernel⟩
set_option maxRecDepth 100000 in
theorem im_N_market : Cond.instanceMethod (mi_N_market).1 ∈ ra_WS := ra_in 1283 (by decide +kernel) (by decide +kernel)
set_option maxRecDepth 100000 in
theorem se_N_market : Cond.selects (mi_N_market).1.cls (mi_N_market).1 (mi_N_market).1 ∈ ra_WS := ra_in 1284 (by decide +kernel) (by decide +kernel)
def rm_N_bestOf : Room := { frames := 6, cells := 0, slots := 0, locals := 176 }
abbrev mi_N_bestOf : ra_MI := (⟨cn_N, "bestOf", "(I)I"⟩, prog_13_method_47_code, 7, (some .int), rm_N_bestOf, 2)
set_option maxRecDepth 100000 in
theorem co_N_bestOf {R : Room} (h1 : 6 + 1 ≤ R.frames) (h2 : 8 + (7 + 11) + 176 ≤ R.locals) : ra_CO R mi_N_bestOf := ⟨rfl, rfl, h1, h2, ra_in 1297 (by decide +kernel) (by decide +kernel), ra_in 73 (by decide +kernel) (by decide +kernel), by decide +kernel, by decide +kernel⟩
set_option maxRecDepth 100000 in
theorem im_N_bestOf : Cond.instanceMethod (mi_N_bestOf).1 ∈ ra_WS := ra_in 1296 (by decide +kernel) (by decide +kernel)
set_option maxRecDepth 100000 in
theorem se_N_bestOf : Cond.selects (mi_N_bestOf).1.cls (mi_N_bestOf).1 (mi_N_bestOf).1 ∈ ra_WS := ra_in 49 (by decide +kernel) (by decide +kernel)
def rm_N_best : Room := { frames := 7, cells := 0, slots := 0, locals := 202 }
abbrev mi_N_best : ra_MI := (⟨cn_N, "best", "(I)I"⟩, prog_13_method_48_code, 2, (some .int), rm_N_best, 2)
set_option maxRecDepth 100000 in
theorem co_N_best {R : Room} (h1 : 7 + 1 ≤ R.frames) (h2 : 8 + (2 + 11) + 202 ≤ R.locals) : ra_CO R mi_N_best := ⟨rfl, rfl, h1, h2, ra_in 1293 (by decide +kernel) (by decide +kernel), ra_in 73 (by decide +kernel) (by decide +kernel), by decide +kernel, by decide +kernel⟩
set_option maxRecDepth 100000 in
theorem im_N_best : Cond.instanceMethod (mi_N_best).1 ∈ ra_WS := ra_in 1291 (by decide +kernel) (by decide +kernel)
set_option maxRecDepth 100000 in
theorem se_N_best : Cond.selects (mi_N_best).1.cls (mi_N_best).1 (mi_N_best).1 ∈ ra_WS := ra_in 1292 (by decide +kernel) (by decide +kernel)
def rm_N_fact : Room := { frames := 3, cells := 0, slots := 0, locals := 106 }
abbrev mi_N_fact : ra_MI := (⟨cn_N, "fact", "(III)I"⟩, prog_13_method_49_code, 4, (some .int), rm_N_fact, 4)
set_option maxRecDepth 100000 in
theorem co_N_fact {R : Room} (h1 : 3 + 1 ≤ R.frames) (h2 : 8 + (4 + 11) + 106 ≤ R.locals) : ra_CO R mi_N_fact := ⟨rfl, rfl, h1, h2, ra_in 1301 (by decide +kernel) (by decide +kernel), ra_in 73 (by decide +kernel) (by decide +kernel), by decide +kernel, by decide +kernel⟩
set_option maxRecDepth 100000 in
theorem im_N_fact : Cond.instanceMethod (mi_N_fact).1 ∈ ra_WS := ra_in 1299 (by decide +kernel) (by decide +kernel)
set_option maxRecDepth 100000 in
theorem se_N_fact : Cond.selects (mi_N_fact).1.cls (mi_N_fact).1 (mi_N_fact).1 ∈ ra_WS := ra_in 1300 (by decide +kernel) (by decide +kernel)
def rm_N_forget : Room := { frames := 1, cells := 0, slots := 0, locals := 64 }
abbrev mi_N_forget : ra_MI := (⟨cn_N, "forget", "()I"⟩, prog_13_method_50_code, 2, (some .int), rm_N_forget, 1)
set_option maxRecDepth 100000 in
theorem co_N_forget {R : Room} (h1 : 1 + 1 ≤ R.frames) (h2 : 8 + (2 + 11) + 64 ≤ R.locals) : ra_CO R mi_N_forget := ⟨rfl, rfl, h1, h2, ra_in 1305 (by decide +kernel) (by decide +kernel), ra_in 73 (by decide +kernel) (by decide +kernel), by decide +kernel, by decide +kernel⟩
set_option maxRecDepth 100000 in
theorem im_N_forget : Cond.instanceMethod (mi_N_forget).1 ∈ ra_WS := ra_in 1303 (by decide +kernel) (by decide +kernel)
set_option maxRecDepth 100000 in
theorem se_N_forget : Cond.selects (mi_N_forget).1.cls (mi_N_forget).1 (mi_N_forget).1 ∈ ra_WS := ra_in 1304 (by decide +kernel) (by decide +kernel)
def rm_N_laysMay : Room := { frames := 6, cells := 0, slots := 0, locals := 176 }
abbrev mi_N_laysMay : ra_MI := (⟨cn_N, "laysMay", "()V"⟩, prog_13_method_51_code, 5, none, rm_N_laysMay, 1)
set_option maxRecDepth 100000 in
theorem co_N_laysMay {R : Room} (h1 : 6 + 1 ≤ R.frames) (h2 : 8 + (5 + 11) + 176 ≤ R.locals) : ra_CO R mi_N_laysMay := ⟨rfl, rfl, h1, h2, ra_in 1321 (by decide +kernel) (by decide +kernel), ra_in 73 (by decide +kernel) (by decide +kernel), by decide +kernel, by decide +kernel⟩
set_option maxRecDepth 100000 in
theorem im_N_laysMay : Cond.instanceMethod (mi_N_laysMay).1 ∈ ra_WS := ra_in 1320 (by decide +kernel) (by decide +kernel)
set_option maxRecDepth 100000 in
theorem se_N_laysMay : Cond.selects (mi_N_laysMay).1.cls (mi_N_laysMay).1 (mi_N_laysMay).1 ∈ ra_WS := ra_in 52 (by decide +kernel) (by decide +kernel)
def rm_N_waysBy : Room := { frames := 2, cells := 0, slots := 0, locals := 86 }
abbrev mi_N_waysBy : ra_MI := (⟨cn_N, "waysBy", "(II)I"⟩, prog_13_method_52_code, 8, (some .int), rm_N_waysBy, 3)
set_option maxRecDepth 100000 in
theorem co_N_waysBy {R : Room} (h1 : 2 + 1 ≤ R.frames) (h2 : 8 + (8 + 11) + 86 ≤ R.locals) : ra_CO R mi_N_waysBy := ⟨rfl, rfl, h1, h2, ra_in 1325 (by decide +kernel) (by decide +kernel), ra_in 73 (by decide +kernel) (by decide +kernel), by decide +kernel, by decide +kernel⟩
set_option maxRecDepth 100000 in
theorem im_N_waysBy : Cond.instanceMethod (mi_N_waysBy).1 ∈ ra_WS := ra_in 1324 (by decide +kernel) (by decide +kernel)
set_option maxRecDepth 100000 in
theorem se_N_waysBy : Cond.selects (mi_N_waysBy).1.cls (mi_N_waysBy).1 (mi_N_waysBy).1 ∈ ra_WS := ra_in 53 (by decide +kernel) (by decide +kernel)
def rm_N_waysNow : Room := { frames := 7, cells := 0, slots := 0, locals := 200 }
abbrev mi_N_waysNow : ra_MI := (⟨cn_N, "waysNow", "()I"⟩, prog_13_method_53_code, 3, (some .int), rm_N_waysNow, 1)
set_option maxRecDepth 100000 in
theorem co_N_waysNow {R : Room} (h1 : 7 + 1 ≤ R.frames) (h2 : 8 + (3 + 11) + 200 ≤ R.locals) : ra_CO R mi_N_waysNow := ⟨rfl, rfl, h1, h2, ra_in 1317 (by decide +kernel) (by decide +kernel), ra_in 73 (by decide +kernel) (by decide +kernel), by decide +kernel, by decide +kernel⟩
set_option maxRecDepth 100000 in
theorem im_N_waysNow : Cond.instanceMethod (mi_N_waysNow).1 ∈ ra_WS := ra_in 1316 (by decide +kernel) (by decide +kernel)
set_option maxRecDepth 100000 in
theorem se_N_waysNow : Cond.selects (mi_N_waysNow).1.cls (mi_N_waysNow).1 (mi_N_waysNow).1 ∈ ra_WS := ra_in 51 (by decide +kernel) (by decide +kernel)
def rm_N_couldOf : Room := { frames := 8, cells := 0, slots := 0, locals := 222 }
abbrev mi_N_couldOf : ra_MI := (⟨cn_N, "couldOf", "(I)I"⟩, prog_13_method_54_code, 5, (some .int), rm_N_couldOf, 2)
set_option maxRecDepth 100000 in
theorem co_N_couldOf {R : Room} (h1 : 8 + 1 ≤ R.frames) (h2 : 8 + (5 + 11) + 222 ≤ R.locals) : ra_CO R mi_N_couldOf := ⟨rfl, rfl, h1, h2, ra_in 1313 (by decide +kernel) (by decide +kernel), ra_in 73 (by decide +kernel) (by decide +kernel), by decide +kernel, by decide +kernel⟩
set_option maxRecDepth 100000 in
theorem im_N_couldOf : Cond.instanceMethod (mi_N_couldOf).1 ∈ ra_WS := ra_in 1312 (by decide +kernel) (by decide +kernel)
set_option maxRecDepth 100000 in
theorem se_N_couldOf : Cond.selects (mi_N_couldOf).1.cls (mi_N_couldOf).1 (mi_N_couldOf).1 ∈ ra_WS := ra_in 50 (by decide +kernel) (by decide +kernel)
def rm_N_could : Room := { frames := 9, cells := 0, slots := 0, locals := 246 }
abbrev mi_N_could : ra_MI := (⟨cn_N, "could", "(I)I"⟩, prog_13_method_55_code, 2, (some .int), rm_N_could, 2)
set_option maxRecDepth 100000 in
theorem co_N_could {R : Room} (h1 : 9 + 1 ≤ R.frames) (h2 : 8 + (2 + 11) + 246 ≤ R.locals) : ra_CO R mi_N_could := ⟨rfl, rfl, h1, h2, ra_in 1309 (by decide +kernel) (by decide +kernel), ra_in 73 (by decide +kernel) (by decide +kernel), by decide +kernel, by decide +kernel⟩
set_option maxRecDepth 100000 in
theorem im_N_could : Cond.instanceMethod (mi_N_could).1 ∈ ra_WS := ra_in 1307 (by decide +kernel) (by decide +kernel)
set_option maxRecDepth 100000 in
theorem se_N_could : Cond.selects (mi_N_could).1.cls (mi_N_could).1 (mi_N_could).1 ∈ ra_WS := ra_in 1308 (by decide +kernel) (by decide +kernel)
def rm_N_askOf : Room := { frames := 8, cells := 0, slots := 0, locals := 222 }
abbrev mi_N_askOf : ra_MI := (⟨cn_N, "askOf", "(I)I"⟩, prog_13_method_56_code, 8, (some .int), rm_N_askOf, 2)
set_option maxRecDepth 100000 in
theorem co_N_askOf {R : Room} (h1 : 8 + 1 ≤ R.frames) (h2 : 8 + (8 + 11) + 222 ≤ R.locals) : ra_CO R mi_N_askOf := ⟨rfl, rfl, h1, h2, ra_in 1333 (by decide +kernel) (by decide +kernel), ra_in 73 (by decide +kernel) (by decide +kernel), by decide +kernel, by decide +kernel⟩
set_option maxRecDepth 100000 in
theorem im_N_askOf : Cond.instanceMethod (mi_N_askOf).1 ∈ ra_WS := ra_in 1332 (by decide +kernel) (by decide +kernel)
set_option maxRecDepth 100000 in
theorem se_N_askOf : Cond.selects (mi_N_askOf).1.cls (mi_N_askOf).1 (mi_N_askOf).1 ∈ ra_WS := ra_in 54 (by decide +kernel) (by decide +kernel)
def rm_N_ask : Room := { frames := 9, cells := 0, slots := 0, locals := 249 }
abbrev mi_N_ask : ra_MI := (⟨cn_N, "ask", "(I)I"⟩, prog_13_method_57_code, 2, (some .int), rm_N_ask, 2)
set_option maxRecDepth 100000 in
theorem co_N_ask {R : Room} (h1 : 9 + 1 ≤ R.frames) (h2 : 8 + (2 + 11) + 249 ≤ R.locals) : ra_CO R mi_N_ask := ⟨rfl, rfl, h1, h2, ra_in 1329 (by decide +kernel) (by decide +kernel), ra_in 73 (by decide +kernel) (by decide +kernel), by decide +kernel, by decide +kernel⟩
set_option maxRecDepth 100000 in
theorem im_N_ask : Cond.instanceMethod (mi_N_ask).1 ∈ ra_WS := ra_in 1327 (by decide +kernel) (by decide +kernel)
set_option maxRecDepth 100000 in
theorem se_N_ask : Cond.selects (mi_N_ask).1.cls (mi_N_ask).1 (mi_N_ask).1 ∈ ra_WS := ra_in 1328 (by decide +kernel) (by decide +kernel)
def rm_N_stronger : Room := { frames := 1, cells := 0, slots := 0, locals := 64 }
abbrev mi_N_stronger : ra_MI := (⟨cn_N, "stronger", "(I)I"⟩, prog_13_method_58_code, 4, (some .int), rm_N_stronger, 2)
set_option maxRecDepth 100000 in
theorem co_N_stronger {R : Room} (h1 : 1 + 1 ≤ R.frames) (h2 : 8 + (4 + 11) + 64 ≤ R.locals) : ra_CO R mi_N_stronger := ⟨rfl, rfl, h1, h2, ra_in 1345 (by decide +kernel) (by decide +kernel), ra_in 73 (by decide +kernel) (by decide +kernel), by decide +kernel, by decide +kernel⟩
set_option maxRecDepth 100000 in
theorem im_N_stronger : Cond.instanceMethod (mi_N_stronger).1 ∈ ra_WS := ra_in 1344 (by decide +kernel) (by decide +kernel)
set_option maxRecDepth 100000 in
theorem se_N_stronger : Cond.selects (mi_N_stronger).1.cls (mi_N_stronger).1 (mi_N_stronger).1 ∈ ra_WS := ra_in 56 (by decide +kernel) (by decide +kernel)
def rm_N_handsOf : Room := { frames := 6, cells := 0, slots := 0, locals := 176 }
abbrev mi_N_handsOf : ra_MI := (⟨cn_N, "handsOf", "(II)I"⟩, prog_13_method_59_code, 8, (some .int), rm_N_handsOf, 3)
set_option maxRecDepth 100000 in
theorem co_N_handsOf {R : Room} (h1 : 6 + 1 ≤ R.frames) (h2 : 8 + (8 + 11) + 176 ≤ R.locals) : ra_CO R mi_N_handsOf := ⟨rfl, rfl, h1, h2, ra_in 1341 (by decide +kernel) (by decide +kernel), ra_in 73 (by decide +kernel) (by decide +kernel), by decide +kernel, by decide +kernel⟩
set_option maxRecDepth 100000 in
theorem im_N_handsOf : Cond.instanceMethod (mi_N_handsOf).1 ∈ ra_WS := ra_in 1340 (by decide +kernel) (by decide +kernel)
set_option maxRecDepth 100000 in
theorem se_N_handsOf : Cond.selects (mi_N_handsOf).1.cls (mi_N_handsOf).1 (mi_N_handsOf).1 ∈ ra_WS := ra_in 55 (by decide +kernel) (by decide +kernel)
def rm_N_hands : Room := { frames := 7, cells := 0, slots := 0, locals := 203 }
abbrev mi_N_hands : ra_MI := (⟨cn_N, "hands", "(II)I"⟩, prog_13_method_60_code, 3, (some .int), rm_N_hands, 3)
set_option maxRecDepth 100000 in
theorem co_N_hands {R : Room} (h1 : 7 + 1 ≤ R.frames) (h2 : 8 + (3 + 11) + 203 ≤ R.locals) : ra_CO R mi_N_hands := ⟨rfl, rfl, h1, h2, ra_in 1337 (by decide +kernel) (by decide +kernel), ra_in 73 (by decide +kernel) (by decide +kernel), by decide +kernel, by decide +kernel⟩
set_option maxRecDepth 100000 in
theorem im_N_hands : Cond.instanceMethod (mi_N_hands).1 ∈ ra_WS := ra_in 1335 (by decide +kernel) (by decide +kernel)
set_option maxRecDepth 100000 in
theorem se_N_hands : Cond.selects (mi_N_hands).1.cls (mi_N_hands).1 (mi_N_hands).1 ∈ ra_WS := ra_in 1336 (by decide +kernel) (by decide +kernel)
def rm_N_claim : Room := { frames := 3, cells := 0, slots := 0, locals := 106 }
abbrev mi_N_claim : ra_MI := (⟨cn_N, "claim", "(II)I"⟩, prog_13_method_61_code, 4, (some .int), rm_N_claim, 3)
set_option maxRecDepth 100000 in
theorem co_N_claim {R : Room} (h1 : 3 + 1 ≤ R.frames) (h2 : 8 + (4 + 11) + 106 ≤ R.locals) : ra_CO R mi_N_claim := ⟨rfl, rfl, h1, h2, ra_in 1349 (by decide +kernel) (by decide +kernel), ra_in 73 (by decide +kernel) (by decide +kernel), by decide +kernel, by decide +kernel⟩
set_option maxRecDepth 100000 in
theorem im_N_claim : Cond.instanceMethod (mi_N_claim).1 ∈ ra_WS := ra_in 1347 (by decide +kernel) (by decide +kernel)
set_option maxRecDepth 100000 in
theorem se_N_claim : Cond.selects (mi_N_claim).1.cls (mi_N_claim).1 (mi_N_claim).1 ∈ ra_WS := ra_in 1348 (by decide +kernel) (by decide +kernel)
def rm_N_liarsNow : Room := { frames := 7, cells := 0, slots := 0, locals := 198 }
abbrev mi_N_liarsNow : ra_MI := (⟨cn_N, "liarsNow", "()I"⟩, prog_13_method_62_code, 3, (some .int), rm_N_liarsNow, 1)
set_option maxRecDepth 100000 in
theorem co_N_liarsNow {R : Room} (h1 : 7 + 1 ≤ R.frames) (h2 : 8 + (3 + 11) + 198 ≤ R.locals) : ra_CO R mi_N_liarsNow := ⟨rfl, rfl, h1, h2, ra_in 1357 (by decide +kernel) (by decide +kernel), ra_in 73 (by decide +kernel) (by decide +kernel), by decide +kernel, by decide +kernel⟩
set_option maxRecDepth 100000 in
theorem im_N_liarsNow : Cond.instanceMethod (mi_N_liarsNow).1 ∈ ra_WS := ra_in 1356 (by decide +kernel) (by decide +kernel)
set_option maxRecDepth 100000 in
theorem se_N_liarsNow : Cond.selects (mi_N_liarsNow).1.cls (mi_N_liarsNow).1 (mi_N_liarsNow).1 ∈ ra_WS := ra_in 57 (by decide +kernel) (by decide +kernel)
def rm_N_liars : Room := { frames := 8, cells := 0, slots := 0, locals := 220 }
abbrev mi_N_liars : ra_MI := (⟨cn_N, "liars", "()I"⟩, prog_13_method_63_code, 1, (some .int), rm_N_liars, 1)
set_option maxRecDepth 100000 in
theorem co_N_liars {R : Room} (h1 : 8 + 1 ≤ R.frames) (h2 : 8 + (1 + 11) + 220 ≤ R.locals) : ra_CO R mi_N_liars := ⟨rfl, rfl, h1, h2, ra_in 1353 (by decide +kernel) (by decide +kernel), ra_in 73 (by decide +kernel) (by decide +kernel), by decide +kernel, by decide +kernel⟩
set_option maxRecDepth 100000 in
theorem im_N_liars : Cond.instanceMethod (mi_N_liars).1 ∈ ra_WS := ra_in 1351 (by decide +kernel) (by decide +kernel)
set_option maxRecDepth 100000 in
theorem se_N_liars : Cond.selects (mi_N_liars).1.cls (mi_N_liars).1 (mi_N_liars).1 ∈ ra_WS := ra_in 1352 (by decide +kernel) (by decide +kernel)
def rm_N_sheet : Room := { frames := 3, cells := 0, slots := 0, locals := 106 }
abbrev mi_N_sheet : ra_MI := (⟨cn_N, "sheet", "(III)I"⟩, prog_13_method_66_code, 5, (some .int), rm_N_sheet, 4)
set_option maxRecDepth 100000 in
theorem co_N_sheet {R : Room} (h1 : 3 + 1 ≤ R.frames) (h2 : 8 + (5 + 11) + 106 ≤ R.locals) : ra_CO R mi_N_sheet := ⟨rfl, rfl, h1, h2, ra_in 1361 (by decide +kernel) (by decide +kernel), ra_in 73 (by decide +kernel) (by decide +kernel), by decide +kernel, by decide +kernel⟩
set_option maxRecDepth 100000 in
theorem im_N_sheet : Cond.instanceMethod (mi_N_sheet).1 ∈ ra_WS := ra_in 1359 (by decide +kernel) (by decide +kernel)
set_option maxRecDepth 100000 in
theorem se_N_sheet : Cond.selects (mi_N_sheet).1.cls (mi_N_sheet).1 (mi_N_sheet).1 ∈ ra_WS := ra_in 1360 (by decide +kernel) (by decide +kernel)
def rm_N_lose : Room := { frames := 3, cells := 0, slots := 0, locals := 106 }
abbrev mi_N_lose : ra_MI := (⟨cn_N, "lose", "(I)I"⟩, prog_13_method_67_code, 2, (some .int), rm_N_lose, 2)
set_option maxRecDepth 100000 in
theorem co_N_lose {R : Room} (h1 : 3 + 1 ≤ R.frames) (h2 : 8 + (2 + 11) + 106 ≤ R.locals) : ra_CO R mi_N_lose := ⟨rfl, rfl, h1, h2, ra_in 1365 (by decide +kernel) (by decide +kernel), ra_in 73 (by decide +kernel) (by decide +kernel), by decide +kernel, by decide +kernel⟩
set_option maxRecDepth 100000 in
theorem im_N_lose : Cond.instanceMethod (mi_N_lose).1 ∈ ra_WS := ra_in 1363 (by decide +kernel) (by decide +kernel)
set_option maxRecDepth 100000 in
theorem se_N_lose : Cond.selects (mi_N_lose).1.cls (mi_N_lose).1 (mi_N_lose).1 ∈ ra_WS := ra_in 1364 (by decide +kernel) (by decide +kernel)
def rm_N_lacks : Room := { frames := 2, cells := 0, slots := 0, locals := 86 }
abbrev mi_N_lacks : ra_MI := (⟨cn_N, "lacks", "(III)I"⟩, prog_13_method_68_code, 4, (some .int), rm_N_lacks, 4)
set_option maxRecDepth 100000 in
theorem co_N_lacks {R : Room} (h1 : 2 + 1 ≤ R.frames) (h2 : 8 + (4 + 11) + 86 ≤ R.locals) : ra_CO R mi_N_lacks := ⟨rfl, rfl, h1, h2, ra_in 1373 (by decide +kernel) (by decide +kernel), ra_in 73 (by decide +kernel) (by decide +kernel), by decide +kernel, by decide +kernel⟩
set_option maxRecDepth 100000 in
theorem im_N_lacks : Cond.instanceMethod (mi_N_lacks).1 ∈ ra_WS := ra_in 1372 (by decide +kernel) (by decide +kernel)
set_option maxRecDepth 100000 in
theorem se_N_lacks : Cond.selects (mi_N_lacks).1.cls (mi_N_lacks).1 (mi_N_lacks).1 ∈ ra_WS := ra_in 58 (by decide +kernel) (by decide +kernel)
def rm_N_keep : Room := { frames := 1, cells := 0, slots := 0, locals := 64 }
abbrev mi_N_keep : ra_MI := (⟨cn_N, "keep", "(III)V"⟩, prog_13_method_69_code, 4, none, rm_N_keep, 4)
set_option maxRecDepth 100000 in
theorem co_N_keep {R : Room} (h1 : 1 + 1 ≤ R.frames) (h2 : 8 + (4 + 11) + 64 ≤ R.locals) : ra_CO R mi_N_keep := ⟨rfl, rfl, h1, h2, ra_in 1377 (by decide +kernel) (by decide +kernel), ra_in 73 (by decide +kernel) (by decide +kernel), by decide +kernel, by decide +kernel⟩
set_option maxRecDepth 100000 in
theorem im_N_keep : Cond.instanceMethod (mi_N_keep).1 ∈ ra_WS := ra_in 1376 (by decide +kernel) (by decide +kernel)
set_option maxRecDepth 100000 in
theorem se_N_keep : Cond.selects (mi_N_keep).1.cls (mi_N_keep).1 (mi_N_keep).1 ∈ ra_WS := ra_in 59 (by decide +kernel) (by decide +kernel)
def rm_N_put : Room := { frames := 3, cells := 0, slots := 0, locals := 109 }
abbrev mi_N_put : ra_MI := (⟨cn_N, "put", "(IIII)I"⟩, prog_13_method_70_code, 6, (some .int), rm_N_put, 5)
set_option maxRecDepth 100000 in
theorem co_N_put {R : Room} (h1 : 3 + 1 ≤ R.frames) (h2 : 8 + (6 + 11) + 109 ≤ R.locals) : ra_CO R mi_N_put := ⟨rfl, rfl, h1, h2, ra_in 1369 (by decide +kernel) (by decide +kernel), ra_in 73 (by decide +kernel) (by decide +kernel), by decide +kernel, by decide +kernel⟩
set_option maxRecDepth 100000 in
theorem im_N_put : Cond.instanceMethod (mi_N_put).1 ∈ ra_WS := ra_in 1367 (by decide +kernel) (by decide +kernel)
set_option maxRecDepth 100000 in
theorem se_N_put : Cond.selects (mi_N_put).1.cls (mi_N_put).1 (mi_N_put).1 ∈ ra_WS := ra_in 1368 (by decide +kernel) (by decide +kernel)
def rm_N_get : Room := { frames := 3, cells := 0, slots := 0, locals := 109 }
abbrev mi_N_get : ra_MI := (⟨cn_N, "get", "(III)I"⟩, prog_13_method_71_code, 5, (some .int), rm_N_get, 4)
set_option maxRecDepth 100000 in
theorem co_N_get {R : Room} (h1 : 3 + 1 ≤ R.frames) (h2 : 8 + (5 + 11) + 109 ≤ R.locals) : ra_CO R mi_N_get := ⟨rfl, rfl, h1, h2, ra_in 1381 (by decide +kernel) (by decide +kernel), ra_in 73 (by decide +kernel) (by decide +kernel), by decide +kernel, by decide +kernel⟩
set_option maxRecDepth 100000 in
theorem im_N_get : Cond.instanceMethod (mi_N_get).1 ∈ ra_WS := ra_in 1379 (by decide +kernel) (by decide +kernel)
set_option maxRecDepth 100000 in
theorem se_N_get : Cond.selects (mi_N_get).1.cls (mi_N_get).1 (mi_N_get).1 ∈ ra_WS := ra_in 1380 (by decide +kernel) (by decide +kernel)
def rm_N_copy : Room := { frames := 3, cells := 0, slots := 0, locals := 106 }
abbrev mi_N_copy : ra_MI := (⟨cn_N, "copy", "(IIIII)I"⟩, prog_13_method_72_code, 7, (some .int), rm_N_copy, 6)
set_option maxRecDepth 100000 in
theorem co_N_copy {R : Room} (h1 : 3 + 1 ≤ R.frames) (h2 : 8 + (7 + 11) + 106 ≤ R.locals) : ra_CO R mi_N_copy := ⟨rfl, rfl, h1, h2, ra_in 1386 (by decide +kernel) (by decide +kernel), ra_in 73 (by decide +kernel) (by decide +kernel), by decide +kernel, by decide +kernel⟩
set_option maxRecDepth 100000 in
theorem im_N_copy : Cond.instanceMethod (mi_N_copy).1 ∈ ra_WS := ra_in 1384 (by decide +kernel) (by decide +kernel)
set_option maxRecDepth 100000 in
theorem se_N_copy : Cond.selects (mi_N_copy).1.cls (mi_N_copy).1 (mi_N_copy).1 ∈ ra_WS := ra_in 1385 (by decide +kernel) (by decide +kernel)
def rm_N_write : Room := { frames := 7, cells := 0, slots := 0, locals := 198 }
abbrev mi_N_write : ra_MI := (⟨cn_N, "write", "(I)I"⟩, prog_13_method_73_code, 3, (some .int), rm_N_write, 2)
set_option maxRecDepth 100000 in
theorem co_N_write {R : Room} (h1 : 7 + 1 ≤ R.frames) (h2 : 8 + (3 + 11) + 198 ≤ R.locals) : ra_CO R mi_N_write := ⟨rfl, rfl, h1, h2, ra_in 1390 (by decide +kernel) (by decide +kernel), ra_in 73 (by decide +kernel) (by decide +kernel), by decide +kernel, by decide +kernel⟩
set_option maxRecDepth 100000 in
theorem im_N_write : Cond.instanceMethod (mi_N_write).1 ∈ ra_WS := ra_in 1388 (by decide +kernel) (by decide +kernel)
set_option maxRecDepth 100000 in
theorem se_N_write : Cond.selects (mi_N_write).1.cls (mi_N_write).1 (mi_N_write).1 ∈ ra_WS := ra_in 1389 (by decide +kernel) (by decide +kernel)
def rm_N_sumOf : Room := { frames := 6, cells := 0, slots := 0, locals := 176 }
abbrev mi_N_sumOf : ra_MI := (⟨cn_N, "sumOf", "(I)I"⟩, prog_13_method_74_code, 5, (some .int), rm_N_sumOf, 2)
set_option maxRecDepth 100000 in
theorem co_N_sumOf {R : Room} (h1 : 6 + 1 ≤ R.frames) (h2 : 8 + (5 + 11) + 176 ≤ R.locals) : ra_CO R mi_N_sumOf := ⟨rfl, rfl, h1, h2, ra_in 1398 (by decide +kernel) (by decide +kernel), ra_in 73 (by decide +kernel) (by decide +kernel), by decide +kernel, by decide +kernel⟩
set_option maxRecDepth 100000 in
theorem im_N_sumOf : Cond.instanceMethod (mi_N_sumOf).1 ∈ ra_WS := ra_in 1397 (by decide +kernel) (by decide +kernel)
set_option maxRecDepth 100000 in
theorem se_N_sumOf : Cond.selects (mi_N_sumOf).1.cls (mi_N_sumOf).1 (mi_N_sumOf).1 ∈ ra_WS := ra_in 60 (by decide +kernel) (by decide +kernel)
def rm_N_count : Room := { frames := 7, cells := 0, slots := 0, locals := 200 }
abbrev mi_N_count : ra_MI := (⟨cn_N, "count", "(I)I"⟩, prog_13_method_75_code, 2, (some .int), rm_N_count, 2)
set_option maxRecDepth 100000 in
theorem co_N_count {R : Room} (h1 : 7 + 1 ≤ R.frames) (h2 : 8 + (2 + 11) + 200 ≤ R.locals) : ra_CO R mi_N_count := ⟨rfl, rfl, h1, h2, ra_in 1394 (by decide +kernel) (by decide +kernel), ra_in 73 (by decide +kernel) (by decide +kernel), by decide +kernel, by decide +kernel⟩
set_option maxRecDepth 100000 in
theorem im_N_count : Cond.instanceMethod (mi_N_count).1 ∈ ra_WS := ra_in 1392 (by decide +kernel) (by decide +kernel)
set_option maxRecDepth 100000 in
theorem se_N_count : Cond.selects (mi_N_count).1.cls (mi_N_count).1 (mi_N_count).1 ∈ ra_WS := ra_in 1393 (by decide +kernel) (by decide +kernel)
def rm_N_digest : Room := { frames := 9, cells := 0, slots := 0, locals := 249 }
abbrev mi_N_digest : ra_MI := (⟨cn_N, "digest", "()J"⟩, prog_13_method_76_code, 5, (some .long), rm_N_digest, 1)
set_option maxRecDepth 100000 in
theorem co_N_digest {R : Room} (h1 : 9 + 1 ≤ R.frames) (h2 : 8 + (5 + 11) + 249 ≤ R.locals) : ra_CO R mi_N_digest := ⟨rfl, rfl, h1, h2, ra_in 1402 (by decide +kernel) (by decide +kernel), ra_in 73 (by decide +kernel) (by decide +kernel), by decide +kernel, by decide +kernel⟩
set_option maxRecDepth 100000 in
theorem im_N_digest : Cond.instanceMethod (mi_N_digest).1 ∈ ra_WS := ra_in 1400 (by decide +kernel) (by decide +kernel)
set_option maxRecDepth 100000 in
theorem se_N_digest : Cond.selects (mi_N_digest).1.cls (mi_N_digest).1 (mi_N_digest).1 ∈ ra_WS := ra_in 1401 (by decide +kernel) (by decide +kernel)
theorem cg_R : ra_CF 0 10 cn_R cf_R ct_R := ⟨rfl, ci_R, cp_R, ca_R, rfl, by decide⟩
theorem cg_V : ra_CF 1 12 cn_V cf_V ct_V := ⟨rfl, ci_V, cp_V, ca_V, rfl, by decide⟩
theorem cg_T : ra_CF 2 3 cn_T cf_T ct_T := ⟨rfl, ci_T, cp_T, ca_T, rfl, by decide⟩
theorem cg_Wt : ra_CF 3 5 cn_Wt cf_Wt ct_Wt := ⟨rfl, ci_Wt, cp_Wt, ca_Wt, rfl, by decide⟩
theorem cg_Co : ra_CF 4 11 cn_Co cf_Co ct_Co := ⟨rfl, ci_Co, cp_Co, ca_Co, rfl, by decide⟩
theorem cg_So : ra_CF 5 5 cn_So cf_So ct_So := ⟨rfl, ci_So, cp_So, ca_So, rfl, by decide⟩
theorem cg_Mo : ra_CF 6 8 cn_Mo cf_Mo ct_Mo := ⟨rfl, ci_Mo, cp_Mo, ca_Mo, rfl, by decide⟩
theorem cg_Ex : ra_CF 7 11 cn_Ex cf_Ex ct_Ex := ⟨rfl, ci_Ex, cp_Ex, ca_Ex, rfl, by decide⟩
theorem cg_Kn : ra_CF 8 12 cn_Kn cf_Kn ct_Kn := ⟨rfl, ci_Kn, cp_Kn, ca_Kn, rfl, by decide⟩
theorem cg_He : ra_CF 9 3 cn_He cf_He ct_He := ⟨rfl, ci_He, cp_He, ca_He, rfl, by decide⟩
theorem cg_Sh : ra_CF 10 4 cn_Sh cf_Sh ct_Sh := ⟨rfl, ci_Sh, cp_Sh, ca_Sh, rfl, by decide⟩
theorem cg_N : ra_CF 11 34 cn_N cf_N ct_N := ⟨rfl, ci_N, cp_N, ca_N, rfl, by decide⟩
set_option maxRecDepth 100000 in
theorem fl_R_12 : Cond.fieldLink cn_R 12 (cf_R 0).1 (cf_R 0).2.1 (cf_R 0).2.2.1 ∈ ra_WS := ra_in 455 (by decide +kernel) (by decide +kernel)
set_option maxRecDepth 100000 in
theorem fl_R_19 : Cond.fieldLink cn_R 19 (cf_R 1).1 (cf_R 1).2.1 (cf_R 1).2.2.1 ∈ ra_WS := ra_in 456 (by decide +kernel) (by decide +kernel)
set_option maxRecDepth 100000 in
theorem fl_R_28 : Cond.fieldLink cn_R 28 (cf_R 2).1 (cf_R 2).2.1 (cf_R 2).2.2.1 ∈ ra_WS := ra_in 457 (by decide +kernel) (by decide +kernel)
set_option maxRecDepth 100000 in
theorem fl_R_35 : Cond.fieldLink cn_R 35 (cf_R 3).1 (cf_R 3).2.1 (cf_R 3).2.2.1 ∈ ra_WS := ra_in 458 (by decide +kernel) (by decide +kernel)
set_option maxRecDepth 100000 in
theorem fl_R_44 : Cond.fieldLink cn_R 44 (cf_R 4).1 (cf_R 4).2.1 (cf_R 4).2.2.1 ∈ ra_WS := ra_in 459 (by decide +kernel) (by decide +kernel)
set_option maxRecDepth 100000 in
theorem fl_R_51 : Cond.fieldLink cn_R 51 (cf_R 5).1 (cf_R 5).2.1 (cf_R 5).2.2.1 ∈ ra_WS := ra_in 460 (by decide +kernel) (by decide +kernel)
set_option maxRecDepth 100000 in
theorem fl_R_58 : Cond.fieldLink cn_R 58 (cf_R 6).1 (cf_R 6).2.1 (cf_R 6).2.2.1 ∈ ra_WS := ra_in 461 (by decide +kernel) (by decide +kernel)
set_option maxRecDepth 100000 in
theorem fl_R_62 : Cond.fieldLink cn_R 62 (cf_R 7).1 (cf_R 7).2.1 (cf_R 7).2.2.1 ∈ ra_WS := ra_in 462 (by decide +kernel) (by decide +kernel)
set_option maxRecDepth 100000 in
theorem fl_R_68 : Cond.fieldLink cn_R 68 (cf_R 8).1 (cf_R 8).2.1 (cf_R 8).2.2.1 ∈ ra_WS := ra_in 463 (by decide +kernel) (by decide +kernel)
set_option maxRecDepth 100000 in
theorem fl_R_89 : Cond.fieldLink cn_R 89 (cf_V 9).1 (cf_V 9).2.1 (cf_V 9).2.2.1 ∈ ra_WS := ra_in 147 (by decide +kernel) (by decide +kernel)
set_option maxRecDepth 100000 in
theorem fl_R_93 : Cond.fieldLink cn_R 93 (cf_V 10).1 (cf_V 10).2.1 (cf_V 10).2.2.1 ∈ ra_WS := ra_in 149 (by decide +kernel) (by decide +kernel)
set_option maxRecDepth 100000 in
theorem fl_R_100 : Cond.fieldLink cn_R 100 (cf_V 2).1 (cf_V 2).2.1 (cf_V 2).2.2.1 ∈ ra_WS := ra_in 123 (by decide +kernel) (by decide +kernel)
set_option maxRecDepth 100000 in
theorem fl_R_103 : Cond.fieldLink cn_R 103 (cf_V 3).1 (cf_V 3).2.1 (cf_V 3).2.2.1 ∈ ra_WS := ra_in 126 (by decide +kernel) (by decide +kernel)
set_option maxRecDepth 100000 in
theorem fl_R_106 : Cond.fieldLink cn_R 106 (cf_V 4).1 (cf_V 4).2.1 (cf_V 4).2.2.1 ∈ ra_WS := ra_in 129 (by decide +kernel) (by decide +kernel)
set_option maxRecDepth 100000 in
theorem fl_R_109 : Cond.fieldLink cn_R 109 (cf_V 5).1 (cf_V 5).2.1 (cf_V 5).2.2.1 ∈ ra_WS := ra_in 132 (by decide +kernel) (by decide +kernel)
set_option maxRecDepth 100000 in
theorem fl_R_112 : Cond.fieldLink cn_R 112 (cf_V 6).1 (cf_V 6).2.1 (cf_V 6).2.2.1 ∈ ra_WS := ra_in 136 (by decide +kernel) (by decide +kernel)
set_option maxRecDepth 100000 in
theorem fl_R_122 : Cond.fieldLink cn_R 122 (cf_Sh 1).1 (cf_Sh 1).2.1 (cf_Sh 1).2.2.1 ∈ ra_WS := ra_in 441 (by decide +kernel) (by decide +kernel)
set_option maxRecDepth 100000 in
theorem fl_R_129 : Cond.fieldLink cn_R 129 (cf_Sh 3).1 (cf_Sh 3).2.1 (cf_Sh 3).2.2.1 ∈ ra_WS := ra_in 445 (by decide +kernel) (by decide +kernel)
set_option maxRecDepth 100000 in
theorem fl_R_132 : Cond.fieldLink cn_R 132 (cf_Sh 0).1 (cf_Sh 0).2.1 (cf_Sh 0).2.2.1 ∈ ra_WS := ra_in 439 (by decide +kernel) (by decide +kernel)
set_option maxRecDepth 100000 in
theorem fl_R_149 : Cond.fieldLink cn_R 149 (cf_Wt 1).1 (cf_Wt 1).2.1 (cf_Wt 1).2.2.1 ∈ ra_WS := ra_in 194 (by decide +kernel) (by decide +kernel)
set_option maxRecDepth 100000 in
theorem fl_R_152 : Cond.fieldLink cn_R 152 (cf_V 8).1 (cf_V 8).2.1 (cf_V 8).2.2.1 ∈ ra_WS := ra_in 145 (by decide +kernel) (by decide +kernel)
set_option maxRecDepth 100000 in
theorem fl_R_157 : Cond.fieldLink cn_R 157 (cf_V 7).1 (cf_V 7).2.1 (cf_V 7).2.2.1 ∈ ra_WS := ra_in 138 (by decide +kernel) (by decide +kernel)
set_option maxRecDepth 100000 in
theorem fl_R_173 : Cond.fieldLink cn_R 173 (cf_Mo 4).1 (cf_Mo 4).2.1 (cf_Mo 4).2.2.1 ∈ ra_WS := ra_in 300 (by decide +kernel) (by decide +kernel)
set_option maxRecDepth 100000 in
theorem fl_R_176 : Cond.fieldLink cn_R 176 (cf_Mo 5).1 (cf_Mo 5).2.1 (cf_Mo 5).2.2.1 ∈ ra_WS := ra_in 302 (by decide +kernel) (by decide +kernel)
set_option maxRecDepth 100000 in
theorem fl_R_192 : Cond.fieldLink cn_R 192 (cf_Ex 5).1 (cf_Ex 5).2.1 (cf_Ex 5).2.2.1 ∈ ra_WS := ra_in 337 (by decide +kernel) (by decide +kernel)
set_option maxRecDepth 100000 in
theorem fl_R_195 : Cond.fieldLink cn_R 195 (cf_Ex 6).1 (cf_Ex 6).2.1 (cf_Ex 6).2.2.1 ∈ ra_WS := ra_in 339 (by decide +kernel) (by decide +kernel)
set_option maxRecDepth 100000 in
theorem fl_R_198 : Cond.fieldLink cn_R 198 (cf_Ex 2).1 (cf_Ex 2).2.1 (cf_Ex 2).2.2.1 ∈ ra_WS := ra_in 332 (by decide +kernel) (by decide +kernel)
set_option maxRecDepth 100000 in
theorem fl_R_204 : Cond.fieldLink cn_R 204 (cf_Ex 7).1 (cf_Ex 7).2.1 (cf_Ex 7).2.2.1 ∈ ra_WS := ra_in 341 (by decide +kernel) (by decide +kernel)
set_option maxRecDepth 100000 in
theorem fl_R_207 : Cond.fieldLink cn_R 207 (cf_Ex 3).1 (cf_Ex 3).2.1 (cf_Ex 3).2.2.1 ∈ ra_WS := ra_in 334 (by decide +kernel) (by decide +kernel)
set_option maxRecDepth 100000 in
theorem fl_R_218 : Cond.fieldLink cn_R 218 (cf_Kn 9).1 (cf_Kn 9).2.1 (cf_Kn 9).2.2.1 ∈ ra_WS := ra_in 386 (by decide +kernel) (by decide +kernel)
set_option maxRecDepth 100000 in
theorem fl_R_237 : Cond.fieldLink cn_R 237 (cf_He 2).1 (cf_He 2).2.1 (cf_He 2).2.2.1 ∈ ra_WS := ra_in 423 (by decide +kernel) (by decide +kernel)
set_option maxRecDepth 100000 in
theorem fl_R_252 : Cond.fieldLink cn_R 252 (cf_R 9).1 (cf_R 9).2.1 (cf_R 9).2.2.1 ∈ ra_WS := ra_in 464 (by decide +kernel) (by decide +kernel)
set_option maxRecDepth 100000 in
theorem fl_R_255 : Cond.fieldLink cn_R 255 (cf_Sh 2).1 (cf_Sh 2).2.1 (cf_Sh 2).2.2.1 ∈ ra_WS := ra_in 443 (by decide +kernel) (by decide +kernel)
set_option maxRecDepth 100000 in
theorem fl_R_272 : Cond.fieldLink cn_R 272 (cf_V 0).1 (cf_V 0).2.1 (cf_V 0).2.2.1 ∈ ra_WS := ra_in 117 (by decide +kernel) (by decide +kernel)
set_option maxRecDepth 100000 in
theorem fl_R_276 : Cond.fieldLink cn_R 276 (cf_T 2).1 (cf_T 2).2.1 (cf_T 2).2.2.1 ∈ ra_WS := ra_in 107 (by decide +kernel) (by decide +kernel)
set_option maxRecDepth 100000 in
theorem fl_R_279 : Cond.fieldLink cn_R 279 (cf_V 1).1 (cf_V 1).2.1 (cf_V 1).2.2.1 ∈ ra_WS := ra_in 119 (by decide +kernel) (by decide +kernel)
set_option maxRecDepth 100000 in
theorem fl_R_285 : Cond.fieldLink cn_R 285 (cf_Kn 8).1 (cf_Kn 8).2.1 (cf_Kn 8).2.2.1 ∈ ra_WS := ra_in 384 (by decide +kernel) (by decide +kernel)
set_option maxRecDepth 100000 in
theorem fl_R_286 : Cond.fieldLink cn_R 286 (cf_Wt 2).1 (cf_Wt 2).2.1 (cf_Wt 2).2.2.1 ∈ ra_WS := ra_in 197 (by decide +kernel) (by decide +kernel)
set_option maxRecDepth 100000 in
theorem fl_R_289 : Cond.fieldLink cn_R 289 (cf_Wt 3).1 (cf_Wt 3).2.1 (cf_Wt 3).2.2.1 ∈ ra_WS := ra_in 200 (by decide +kernel) (by decide +kernel)
set_option maxRecDepth 100000 in
theorem fl_Co_9 : Cond.fieldLink cn_Co 9 (cf_Co 2).1 (cf_Co 2).2.1 (cf_Co 2).2.2.1 ∈ ra_WS := ra_in 231 (by decide +kernel) (by decide +kernel)
set_option maxRecDepth 100000 in
theorem fl_Co_15 : Cond.fieldLink cn_Co 15 (cf_Co 3).1 (cf_Co 3).2.1 (cf_Co 3).2.2.1 ∈ ra_WS := ra_in 233 (by decide +kernel) (by decide +kernel)
set_option maxRecDepth 100000 in
theorem fl_Co_18 : Cond.fieldLink cn_Co 18 (cf_Co 4).1 (cf_Co 4).2.1 (cf_Co 4).2.2.1 ∈ ra_WS := ra_in 235 (by decide +kernel) (by decide +kernel)
set_option maxRecDepth 100000 in
theorem fl_Co_21 : Cond.fieldLink cn_Co 21 (cf_Co 5).1 (cf_Co 5).2.1 (cf_Co 5).2.2.1 ∈ ra_WS := ra_in 237 (by decide +kernel) (by decide +kernel)
set_option maxRecDepth 100000 in
theorem fl_Co_24 : Cond.fieldLink cn_Co 24 (cf_Co 6).1 (cf_Co 6).2.1 (cf_Co 6).2.2.1 ∈ ra_WS := ra_in 239 (by decide +kernel) (by decide +kernel)
set_option maxRecDepth 100000 in
theorem fl_Co_27 : Cond.fieldLink cn_Co 27 (cf_Co 7).1 (cf_Co 7).2.1 (cf_Co 7).2.2.1 ∈ ra_WS := ra_in 242 (by decide +kernel) (by decide +kernel)
set_option maxRecDepth 100000 in
theorem fl_Co_30 : Cond.fieldLink cn_Co 30 (cf_Co 8).1 (cf_Co 8).2.1 (cf_Co 8).2.2.1 ∈ ra_WS := ra_in 244 (by decide +kernel) (by decide +kernel)
set_option maxRecDepth 100000 in
theorem fl_Co_33 : Cond.fieldLink cn_Co 33 (cf_Co 0).1 (cf_Co 0).2.1 (cf_Co 0).2.2.1 ∈ ra_WS := ra_in 229 (by decide +kernel) (by decide +kernel)
set_option maxRecDepth 100000 in
theorem fl_Co_37 : Cond.fieldLink cn_Co 37 (cf_Co 1).1 (cf_Co 1).2.1 (cf_Co 1).2.2.1 ∈ ra_WS := ra_in 230 (by decide +kernel) (by decide +kernel)
set_option maxRecDepth 100000 in
theorem fl_Co_41 : Cond.fieldLink cn_Co 41 (cf_Co 9).1 (cf_Co 9).2.1 (cf_Co 9).2.2.1 ∈ ra_WS := ra_in 245 (by decide +kernel) (by decide +kernel)
set_option maxRecDepth 100000 in
theorem fl_Co_45 : Cond.fieldLink cn_Co 45 (cf_V 8).1 (cf_V 8).2.1 (cf_V 8).2.2.1 ∈ ra_WS := ra_in 139 (by decide +kernel) (by decide +kernel)
set_option maxRecDepth 100000 in
theorem fl_Co_54 : Cond.fieldLink cn_Co 54 (cf_V 4).1 (cf_V 4).2.1 (cf_V 4).2.2.1 ∈ ra_WS := ra_in 128 (by decide +kernel) (by decide +kernel)
set_option maxRecDepth 100000 in
theorem fl_Co_55 : Cond.fieldLink cn_Co 55 (cf_Co 10).1 (cf_Co 10).2.1 (cf_Co 10).2.2.1 ∈ ra_WS := ra_in 247 (by decide +kernel) (by decide +kernel)
set_option maxRecDepth 100000 in
theorem fl_Co_58 : Cond.fieldLink cn_Co 58 (cf_V 2).1 (cf_V 2).2.1 (cf_V 2).2.2.1 ∈ ra_WS := ra_in 122 (by decide +kernel) (by decide +kernel)
set_option maxRecDepth 100000 in
theorem fl_Co_59 : Cond.fieldLink cn_Co 59 (cf_V 3).1 (cf_V 3).2.1 (cf_V 3).2.2.1 ∈ ra_WS := ra_in 125 (by decide +kernel) (by decide +kernel)
set_option maxRecDepth 100000 in
theorem fl_Co_66 : Cond.fieldLink cn_Co 66 (cf_V 6).1 (cf_V 6).2.1 (cf_V 6).2.2.1 ∈ ra_WS := ra_in 134 (by decide +kernel) (by decide +kernel)
set_option maxRecDepth 100000 in
theorem fl_Co_77 : Cond.fieldLink cn_Co 77 (cf_Wt 2).1 (cf_Wt 2).2.1 (cf_Wt 2).2.2.1 ∈ ra_WS := ra_in 196 (by decide +kernel) (by decide +kernel)
set_option maxRecDepth 100000 in
theorem fl_Co_82 : Cond.fieldLink cn_Co 82 (cf_Wt 3).1 (cf_Wt 3).2.1 (cf_Wt 3).2.2.1 ∈ ra_WS := ra_in 199 (by decide +kernel) (by decide +kernel)
set_option maxRecDepth 100000 in
theorem fl_Ex_11 : Cond.fieldLink cn_Ex 11 (cf_Ex 1).1 (cf_Ex 1).2.1 (cf_Ex 1).2.2.1 ∈ ra_WS := ra_in 330 (by decide +kernel) (by decide +kernel)
set_option maxRecDepth 100000 in
theorem fl_Ex_16 : Cond.fieldLink cn_Ex 16 (cf_Ex 2).1 (cf_Ex 2).2.1 (cf_Ex 2).2.2.1 ∈ ra_WS := ra_in 331 (by decide +kernel) (by decide +kernel)
set_option maxRecDepth 100000 in
theorem fl_Ex_20 : Cond.fieldLink cn_Ex 20 (cf_Ex 3).1 (cf_Ex 3).2.1 (cf_Ex 3).2.2.1 ∈ ra_WS := ra_in 333 (by decide +kernel) (by decide +kernel)
set_option maxRecDepth 100000 in
theorem fl_Ex_23 : Cond.fieldLink cn_Ex 23 (cf_Ex 4).1 (cf_Ex 4).2.1 (cf_Ex 4).2.2.1 ∈ ra_WS := ra_in 335 (by decide +kernel) (by decide +kernel)
set_option maxRecDepth 100000 in
theorem fl_Ex_26 : Cond.fieldLink cn_Ex 26 (cf_Ex 9).1 (cf_Ex 9).2.1 (cf_Ex 9).2.2.1 ∈ ra_WS := ra_in 343 (by decide +kernel) (by decide +kernel)
set_option maxRecDepth 100000 in
theorem fl_Ex_30 : Cond.fieldLink cn_Ex 30 (cf_Ex 10).1 (cf_Ex 10).2.1 (cf_Ex 10).2.2.1 ∈ ra_WS := ra_in 344 (by decide +kernel) (by decide +kernel)
set_option maxRecDepth 100000 in
theorem fl_Ex_33 : Cond.fieldLink cn_Ex 33 (cf_Ex 0).1 (cf_Ex 0).2.1 (cf_Ex 0).2.2.1 ∈ ra_WS := ra_in 329 (by decide +kernel) (by decide +kernel)
set_option maxRecDepth 100000 in
theorem fl_Ex_37 : Cond.fieldLink cn_Ex 37 (cf_Ex 8).1 (cf_Ex 8).2.1 (cf_Ex 8).2.2.1 ∈ ra_WS := ra_in 342 (by decide +kernel) (by decide +kernel)
set_option maxRecDepth 100000 in
theorem fl_Ex_40 : Cond.fieldLink cn_Ex 40 (cf_V 11).1 (cf_V 11).2.1 (cf_V 11).2.2.1 ∈ ra_WS := ra_in 152 (by decide +kernel) (by decide +kernel)
set_option maxRecDepth 100000 in
theorem fl_Ex_43 : Cond.fieldLink cn_Ex 43 (cf_V 5).1 (cf_V 5).2.1 (cf_V 5).2.2.1 ∈ ra_WS := ra_in 131 (by decide +kernel) (by decide +kernel)
set_option maxRecDepth 100000 in
theorem fl_Ex_46 : Cond.fieldLink cn_Ex 46 (cf_V 8).1 (cf_V 8).2.1 (cf_V 8).2.2.1 ∈ ra_WS := ra_in 143 (by decide +kernel) (by decide +kernel)
set_option maxRecDepth 100000 in
theorem fl_Ex_55 : Cond.fieldLink cn_Ex 55 (cf_Ex 5).1 (cf_Ex 5).2.1 (cf_Ex 5).2.2.1 ∈ ra_WS := ra_in 336 (by decide +kernel) (by decide +kernel)
set_option maxRecDepth 100000 in
theorem fl_Ex_62 : Cond.fieldLink cn_Ex 62 (cf_Ex 6).1 (cf_Ex 6).2.1 (cf_Ex 6).2.2.1 ∈ ra_WS := ra_in 338 (by decide +kernel) (by decide +kernel)
set_option maxRecDepth 100000 in
theorem fl_Ex_83 : Cond.fieldLink cn_Ex 83 (cf_Ex 7).1 (cf_Ex 7).2.1 (cf_Ex 7).2.2.1 ∈ ra_WS := ra_in 340 (by decide +kernel) (by decide +kernel)
set_option maxRecDepth 100000 in
theorem fl_He_9 : Cond.fieldLink cn_He 9 (cf_He 2).1 (cf_He 2).2.1 (cf_He 2).2.2.1 ∈ ra_WS := ra_in 422 (by decide +kernel) (by decide +kernel)
set_option maxRecDepth 100000 in
theorem fl_He_15 : Cond.fieldLink cn_He 15 (cf_He 0).1 (cf_He 0).2.1 (cf_He 0).2.2.1 ∈ ra_WS := ra_in 420 (by decide +kernel) (by decide +kernel)
set_option maxRecDepth 100000 in
theorem fl_He_19 : Cond.fieldLink cn_He 19 (cf_He 1).1 (cf_He 1).2.1 (cf_He 1).2.2.1 ∈ ra_WS := ra_in 421 (by decide +kernel) (by decide +kernel)
set_option maxRecDepth 100000 in
theorem fl_He_23 : Cond.fieldLink cn_He 23 (cf_V 2).1 (cf_V 2).2.1 (cf_V 2).2.2.1 ∈ ra_WS := ra_in 121 (by decide +kernel) (by decide +kernel)
set_option maxRecDepth 100000 in
theorem fl_He_26 : Cond.fieldLink cn_He 26 (cf_V 8).1 (cf_V 8).2.1 (cf_V 8).2.2.1 ∈ ra_WS := ra_in 140 (by decide +kernel) (by decide +kernel)
set_option maxRecDepth 100000 in
theorem fl_He_44 : Cond.fieldLink cn_He 44 (cf_Wt 1).1 (cf_Wt 1).2.1 (cf_Wt 1).2.2.1 ∈ ra_WS := ra_in 192 (by decide +kernel) (by decide +kernel)
set_option maxRecDepth 100000 in
theorem fl_He_47 : Cond.fieldLink cn_He 47 (cf_Wt 0).1 (cf_Wt 0).2.1 (cf_Wt 0).2.2.1 ∈ ra_WS := ra_in 188 (by decide +kernel) (by decide +kernel)
set_option maxRecDepth 100000 in
theorem fl_Kn_9 : Cond.fieldLink cn_Kn 9 (cf_Kn 1).1 (cf_Kn 1).2.1 (cf_Kn 1).2.2.1 ∈ ra_WS := ra_in 376 (by decide +kernel) (by decide +kernel)
set_option maxRecDepth 100000 in
theorem fl_Kn_15 : Cond.fieldLink cn_Kn 15 (cf_Kn 2).1 (cf_Kn 2).2.1 (cf_Kn 2).2.2.1 ∈ ra_WS := ra_in 377 (by decide +kernel) (by decide +kernel)
set_option maxRecDepth 100000 in
theorem fl_Kn_18 : Cond.fieldLink cn_Kn 18 (cf_Kn 3).1 (cf_Kn 3).2.1 (cf_Kn 3).2.2.1 ∈ ra_WS := ra_in 378 (by decide +kernel) (by decide +kernel)
set_option maxRecDepth 100000 in
theorem fl_Kn_21 : Cond.fieldLink cn_Kn 21 (cf_Kn 4).1 (cf_Kn 4).2.1 (cf_Kn 4).2.2.1 ∈ ra_WS := ra_in 379 (by decide +kernel) (by decide +kernel)
set_option maxRecDepth 100000 in
theorem fl_Kn_24 : Cond.fieldLink cn_Kn 24 (cf_Kn 5).1 (cf_Kn 5).2.1 (cf_Kn 5).2.2.1 ∈ ra_WS := ra_in 380 (by decide +kernel) (by decide +kernel)
set_option maxRecDepth 100000 in
theorem fl_Kn_27 : Cond.fieldLink cn_Kn 27 (cf_Kn 6).1 (cf_Kn 6).2.1 (cf_Kn 6).2.2.1 ∈ ra_WS := ra_in 381 (by decide +kernel) (by decide +kernel)
set_option maxRecDepth 100000 in
theorem fl_Kn_32 : Cond.fieldLink cn_Kn 32 (cf_Kn 7).1 (cf_Kn 7).2.1 (cf_Kn 7).2.2.1 ∈ ra_WS := ra_in 382 (by decide +kernel) (by decide +kernel)
set_option maxRecDepth 100000 in
theorem fl_Kn_35 : Cond.fieldLink cn_Kn 35 (cf_Kn 11).1 (cf_Kn 11).2.1 (cf_Kn 11).2.2.1 ∈ ra_WS := ra_in 388 (by decide +kernel) (by decide +kernel)
set_option maxRecDepth 100000 in
theorem fl_Kn_39 : Cond.fieldLink cn_Kn 39 (cf_Kn 0).1 (cf_Kn 0).2.1 (cf_Kn 0).2.2.1 ∈ ra_WS := ra_in 375 (by decide +kernel) (by decide +kernel)
set_option maxRecDepth 100000 in
theorem fl_Kn_43 : Cond.fieldLink cn_Kn 43 (cf_Kn 8).1 (cf_Kn 8).2.1 (cf_Kn 8).2.2.1 ∈ ra_WS := ra_in 383 (by decide +kernel) (by decide +kernel)
set_option maxRecDepth 100000 in
theorem fl_Kn_46 : Cond.fieldLink cn_Kn 46 (cf_Kn 10).1 (cf_Kn 10).2.1 (cf_Kn 10).2.2.1 ∈ ra_WS := ra_in 387 (by decide +kernel) (by decide +kernel)
set_option maxRecDepth 100000 in
theorem fl_Kn_49 : Cond.fieldLink cn_Kn 49 (cf_V 11).1 (cf_V 11).2.1 (cf_V 11).2.2.1 ∈ ra_WS := ra_in 153 (by decide +kernel) (by decide +kernel)
set_option maxRecDepth 100000 in
theorem fl_Kn_52 : Cond.fieldLink cn_Kn 52 (cf_V 8).1 (cf_V 8).2.1 (cf_V 8).2.2.1 ∈ ra_WS := ra_in 142 (by decide +kernel) (by decide +kernel)
set_option maxRecDepth 100000 in
theorem fl_Kn_67 : Cond.fieldLink cn_Kn 67 (cf_Kn 9).1 (cf_Kn 9).2.1 (cf_Kn 9).2.2.1 ∈ ra_WS := ra_in 385 (by decide +kernel) (by decide +kernel)
set_option maxRecDepth 100000 in
theorem fl_Mo_9 : Cond.fieldLink cn_Mo 9 (cf_Mo 3).1 (cf_Mo 3).2.1 (cf_Mo 3).2.2.1 ∈ ra_WS := ra_in 298 (by decide +kernel) (by decide +kernel)
set_option maxRecDepth 100000 in
theorem fl_Mo_15 : Cond.fieldLink cn_Mo 15 (cf_Mo 4).1 (cf_Mo 4).2.1 (cf_Mo 4).2.2.1 ∈ ra_WS := ra_in 299 (by decide +kernel) (by decide +kernel)
set_option maxRecDepth 100000 in
theorem fl_Mo_18 : Cond.fieldLink cn_Mo 18 (cf_Mo 5).1 (cf_Mo 5).2.1 (cf_Mo 5).2.2.1 ∈ ra_WS := ra_in 301 (by decide +kernel) (by decide +kernel)
set_option maxRecDepth 100000 in
theorem fl_Mo_21 : Cond.fieldLink cn_Mo 21 (cf_Mo 6).1 (cf_Mo 6).2.1 (cf_Mo 6).2.2.1 ∈ ra_WS := ra_in 303 (by decide +kernel) (by decide +kernel)
set_option maxRecDepth 100000 in
theorem fl_Mo_24 : Cond.fieldLink cn_Mo 24 (cf_Mo 7).1 (cf_Mo 7).2.1 (cf_Mo 7).2.2.1 ∈ ra_WS := ra_in 304 (by decide +kernel) (by decide +kernel)
set_option maxRecDepth 100000 in
theorem fl_Mo_28 : Cond.fieldLink cn_Mo 28 (cf_Mo 0).1 (cf_Mo 0).2.1 (cf_Mo 0).2.2.1 ∈ ra_WS := ra_in 295 (by decide +kernel) (by decide +kernel)
set_option maxRecDepth 100000 in
theorem fl_Mo_32 : Cond.fieldLink cn_Mo 32 (cf_Mo 1).1 (cf_Mo 1).2.1 (cf_Mo 1).2.2.1 ∈ ra_WS := ra_in 296 (by decide +kernel) (by decide +kernel)
set_option maxRecDepth 100000 in
theorem fl_Mo_41 : Cond.fieldLink cn_Mo 41 (cf_Mo 2).1 (cf_Mo 2).2.1 (cf_Mo 2).2.2.1 ∈ ra_WS := ra_in 297 (by decide +kernel) (by decide +kernel)
set_option maxRecDepth 100000 in
theorem fl_Mo_45 : Cond.fieldLink cn_Mo 45 (cf_V 11).1 (cf_V 11).2.1 (cf_V 11).2.2.1 ∈ ra_WS := ra_in 151 (by decide +kernel) (by decide +kernel)
set_option maxRecDepth 100000 in
theorem fl_Mo_50 : Cond.fieldLink cn_Mo 50 (cf_Wt 4).1 (cf_Wt 4).2.1 (cf_Wt 4).2.2.1 ∈ ra_WS := ra_in 202 (by decide +kernel) (by decide +kernel)
set_option maxRecDepth 100000 in
theorem fl_Mo_57 : Cond.fieldLink cn_Mo 57 (cf_Co 9).1 (cf_Co 9).2.1 (cf_Co 9).2.2.1 ∈ ra_WS := ra_in 246 (by decide +kernel) (by decide +kernel)
set_option maxRecDepth 100000 in
theorem fl_Mo_60 : Cond.fieldLink cn_Mo 60 (cf_Co 2).1 (cf_Co 2).2.1 (cf_Co 2).2.2.1 ∈ ra_WS := ra_in 232 (by decide +kernel) (by decide +kernel)
set_option maxRecDepth 100000 in
theorem fl_Mo_71 : Cond.fieldLink cn_Mo 71 (cf_Co 3).1 (cf_Co 3).2.1 (cf_Co 3).2.2.1 ∈ ra_WS := ra_in 234 (by decide +kernel) (by decide +kernel)
set_option maxRecDepth 100000 in
theorem fl_Mo_77 : Cond.fieldLink cn_Mo 77 (cf_Wt 1).1 (cf_Wt 1).2.1 (cf_Wt 1).2.2.1 ∈ ra_WS := ra_in 193 (by decide +kernel) (by decide +kernel)
set_option maxRecDepth 100000 in
theorem fl_Mo_80 : Cond.fieldLink cn_Mo 80 (cf_Wt 0).1 (cf_Wt 0).2.1 (cf_Wt 0).2.2.1 ∈ ra_WS := ra_in 189 (by decide +kernel) (by decide +kernel)
set_option maxRecDepth 100000 in
theorem fl_Mo_86 : Cond.fieldLink cn_Mo 86 (cf_Co 6).1 (cf_Co 6).2.1 (cf_Co 6).2.2.1 ∈ ra_WS := ra_in 241 (by decide +kernel) (by decide +kernel)
set_option maxRecDepth 100000 in
theorem fl_Mo_89 : Cond.fieldLink cn_Mo 89 (cf_V 6).1 (cf_V 6).2.1 (cf_V 6).2.2.1 ∈ ra_WS := ra_in 135 (by decide +kernel) (by decide +kernel)
set_option maxRecDepth 100000 in
theorem fl_Sh_9 : Cond.fieldLink cn_Sh 9 (cf_Sh 0).1 (cf_Sh 0).2.1 (cf_Sh 0).2.2.1 ∈ ra_WS := ra_in 438 (by decide +kernel) (by decide +kernel)
set_option maxRecDepth 100000 in
theorem fl_Sh_15 : Cond.fieldLink cn_Sh 15 (cf_Sh 1).1 (cf_Sh 1).2.1 (cf_Sh 1).2.2.1 ∈ ra_WS := ra_in 440 (by decide +kernel) (by decide +kernel)
set_option maxRecDepth 100000 in
theorem fl_Sh_19 : Cond.fieldLink cn_Sh 19 (cf_Sh 2).1 (cf_Sh 2).2.1 (cf_Sh 2).2.2.1 ∈ ra_WS := ra_in 442 (by decide +kernel) (by decide +kernel)
set_option maxRecDepth 100000 in
theorem fl_Sh_23 : Cond.fieldLink cn_Sh 23 (cf_Sh 3).1 (cf_Sh 3).2.1 (cf_Sh 3).2.2.1 ∈ ra_WS := ra_in 444 (by decide +kernel) (by decide +kernel)
set_option maxRecDepth 100000 in
theorem fl_So_11 : Cond.fieldLink cn_So 11 (cf_So 3).1 (cf_So 3).2.1 (cf_So 3).2.2.1 ∈ ra_WS := ra_in 274 (by decide +kernel) (by decide +kernel)
set_option maxRecDepth 100000 in
theorem fl_So_16 : Cond.fieldLink cn_So 16 (cf_So 4).1 (cf_So 4).2.1 (cf_So 4).2.2.1 ∈ ra_WS := ra_in 275 (by decide +kernel) (by decide +kernel)
set_option maxRecDepth 100000 in
theorem fl_So_20 : Cond.fieldLink cn_So 20 (cf_So 0).1 (cf_So 0).2.1 (cf_So 0).2.2.1 ∈ ra_WS := ra_in 271 (by decide +kernel) (by decide +kernel)
set_option maxRecDepth 100000 in
theorem fl_So_24 : Cond.fieldLink cn_So 24 (cf_So 1).1 (cf_So 1).2.1 (cf_So 1).2.2.1 ∈ ra_WS := ra_in 272 (by decide +kernel) (by decide +kernel)
set_option maxRecDepth 100000 in
theorem fl_So_33 : Cond.fieldLink cn_So 33 (cf_So 2).1 (cf_So 2).2.1 (cf_So 2).2.2.1 ∈ ra_WS := ra_in 273 (by decide +kernel) (by decide +kernel)
set_option maxRecDepth 100000 in
theorem fl_So_37 : Cond.fieldLink cn_So 37 (cf_V 11).1 (cf_V 11).2.1 (cf_V 11).2.2.1 ∈ ra_WS := ra_in 150 (by decide +kernel) (by decide +kernel)
set_option maxRecDepth 100000 in
theorem fl_So_42 : Cond.fieldLink cn_So 42 (cf_Wt 4).1 (cf_Wt 4).2.1 (cf_Wt 4).2.2.1 ∈ ra_WS := ra_in 201 (by decide +kernel) (by decide +kernel)
set_option maxRecDepth 100000 in
theorem fl_So_58 : Cond.fieldLink cn_So 58 (cf_Wt 1).1 (cf_Wt 1).2.1 (cf_Wt 1).2.2.1 ∈ ra_WS := ra_in 191 (by decide +kernel) (by decide +kernel)
set_option maxRecDepth 100000 in
theorem fl_So_61 : Cond.fieldLink cn_So 61 (cf_Wt 0).1 (cf_Wt 0).2.1 (cf_Wt 0).2.2.1 ∈ ra_WS := ra_in 187 (by decide +kernel) (by decide +kernel)
set_option maxRecDepth 100000 in
theorem fl_So_68 : Cond.fieldLink cn_So 68 (cf_V 8).1 (cf_V 8).2.1 (cf_V 8).2.2.1 ∈ ra_WS := ra_in 141 (by decide +kernel) (by decide +kernel)
set_option maxRecDepth 100000 in
theorem fl_So_69 : Cond.fieldLink cn_So 69 (cf_Co 4).1 (cf_Co 4).2.1 (cf_Co 4).2.2.1 ∈ ra_WS := ra_in 236 (by decide +kernel) (by decide +kernel)
set_option maxRecDepth 100000 in
theorem fl_So_72 : Cond.fieldLink cn_So 72 (cf_Co 5).1 (cf_Co 5).2.1 (cf_Co 5).2.2.1 ∈ ra_WS := ra_in 238 (by decide +kernel) (by decide +kernel)
set_option maxRecDepth 100000 in
theorem fl_So_75 : Cond.fieldLink cn_So 75 (cf_Co 6).1 (cf_Co 6).2.1 (cf_Co 6).2.2.1 ∈ ra_WS := ra_in 240 (by decide +kernel) (by decide +kernel)
set_option maxRecDepth 100000 in
theorem fl_So_78 : Cond.fieldLink cn_So 78 (cf_Co 7).1 (cf_Co 7).2.1 (cf_Co 7).2.2.1 ∈ ra_WS := ra_in 243 (by decide +kernel) (by decide +kernel)
set_option maxRecDepth 100000 in
theorem fl_T_9 : Cond.fieldLink cn_T 9 (cf_T 0).1 (cf_T 0).2.1 (cf_T 0).2.2.1 ∈ ra_WS := ra_in 102 (by decide +kernel) (by decide +kernel)
set_option maxRecDepth 100000 in
theorem fl_V_14 : Cond.fieldLink cn_V 14 (cf_V 0).1 (cf_V 0).2.1 (cf_V 0).2.2.1 ∈ ra_WS := ra_in 116 (by decide +kernel) (by decide +kernel)
set_option maxRecDepth 100000 in
theorem fl_V_20 : Cond.fieldLink cn_V 20 (cf_V 1).1 (cf_V 1).2.1 (cf_V 1).2.2.1 ∈ ra_WS := ra_in 118 (by decide +kernel) (by decide +kernel)
set_option maxRecDepth 100000 in
theorem fl_V_23 : Cond.fieldLink cn_V 23 (cf_V 2).1 (cf_V 2).2.1 (cf_V 2).2.2.1 ∈ ra_WS := ra_in 120 (by decide +kernel) (by decide +kernel)
set_option maxRecDepth 100000 in
theorem fl_V_27 : Cond.fieldLink cn_V 27 (cf_V 3).1 (cf_V 3).2.1 (cf_V 3).2.2.1 ∈ ra_WS := ra_in 124 (by decide +kernel) (by decide +kernel)
set_option maxRecDepth 100000 in
theorem fl_V_30 : Cond.fieldLink cn_V 30 (cf_V 4).1 (cf_V 4).2.1 (cf_V 4).2.2.1 ∈ ra_WS := ra_in 127 (by decide +kernel) (by decide +kernel)
set_option maxRecDepth 100000 in
theorem fl_V_33 : Cond.fieldLink cn_V 33 (cf_V 5).1 (cf_V 5).2.1 (cf_V 5).2.2.1 ∈ ra_WS := ra_in 130 (by decide +kernel) (by decide +kernel)
set_option maxRecDepth 100000 in
theorem fl_V_36 : Cond.fieldLink cn_V 36 (cf_V 6).1 (cf_V 6).2.1 (cf_V 6).2.2.1 ∈ ra_WS := ra_in 133 (by decide +kernel) (by decide +kernel)
set_option maxRecDepth 100000 in
theorem fl_V_39 : Cond.fieldLink cn_V 39 (cf_V 7).1 (cf_V 7).2.1 (cf_V 7).2.2.1 ∈ ra_WS := ra_in 137 (by decide +kernel) (by decide +kernel)
set_option maxRecDepth 100000 in
theorem fl_V_42 : Cond.fieldLink cn_V 42 (cf_V 9).1 (cf_V 9).2.1 (cf_V 9).2.2.1 ∈ ra_WS := ra_in 146 (by decide +kernel) (by decide +kernel)
set_option maxRecDepth 100000 in
theorem fl_V_46 : Cond.fieldLink cn_V 46 (cf_V 10).1 (cf_V 10).2.1 (cf_V 10).2.2.1 ∈ ra_WS := ra_in 148 (by decide +kernel) (by decide +kernel)
set_option maxRecDepth 100000 in
theorem fl_V_49 : Cond.fieldLink cn_V 49 (cf_T 2).1 (cf_T 2).2.1 (cf_T 2).2.2.1 ∈ ra_WS := ra_in 106 (by decide +kernel) (by decide +kernel)
set_option maxRecDepth 100000 in
theorem fl_V_52 : Cond.fieldLink cn_V 52 (cf_T 1).1 (cf_T 1).2.1 (cf_T 1).2.2.1 ∈ ra_WS := ra_in 105 (by decide +kernel) (by decide +kernel)
set_option maxRecDepth 100000 in
theorem fl_V_55 : Cond.fieldLink cn_V 55 (cf_T 0).1 (cf_T 0).2.1 (cf_T 0).2.2.1 ∈ ra_WS := ra_in 103 (by decide +kernel) (by decide +kernel)
set_option maxRecDepth 100000 in
theorem fl_V_61 : Cond.fieldLink cn_V 61 (cf_V 8).1 (cf_V 8).2.1 (cf_V 8).2.2.1 ∈ ra_WS := ra_in 144 (by decide +kernel) (by decide +kernel)
set_option maxRecDepth 100000 in
theorem fl_V_64 : Cond.fieldLink cn_V 64 (cf_V 11).1 (cf_V 11).2.1 (cf_V 11).2.2.1 ∈ ra_WS := ra_in 154 (by decide +kernel) (by decide +kernel)
set_option maxRecDepth 100000 in
theorem fl_Wt_9 : Cond.fieldLink cn_Wt 9 (cf_Wt 0).1 (cf_Wt 0).2.1 (cf_Wt 0).2.2.1 ∈ ra_WS := ra_in 186 (by decide +kernel) (by decide +kernel)
set_option maxRecDepth 100000 in
theorem fl_Wt_15 : Cond.fieldLink cn_Wt 15 (cf_Wt 2).1 (cf_Wt 2).2.1 (cf_Wt 2).2.2.1 ∈ ra_WS := ra_in 195 (by decide +kernel) (by decide +kernel)
set_option maxRecDepth 100000 in
theorem fl_Wt_23 : Cond.fieldLink cn_Wt 23 (cf_Wt 1).1 (cf_Wt 1).2.1 (cf_Wt 1).2.2.1 ∈ ra_WS := ra_in 190 (by decide +kernel) (by decide +kernel)
set_option maxRecDepth 100000 in
theorem fl_Wt_26 : Cond.fieldLink cn_Wt 26 (cf_Wt 4).1 (cf_Wt 4).2.1 (cf_Wt 4).2.2.1 ∈ ra_WS := ra_in 203 (by decide +kernel) (by decide +kernel)
set_option maxRecDepth 100000 in
theorem fl_Wt_29 : Cond.fieldLink cn_Wt 29 (cf_Wt 3).1 (cf_Wt 3).2.1 (cf_Wt 3).2.2.1 ∈ ra_WS := ra_in 198 (by decide +kernel) (by decide +kernel)
set_option maxRecDepth 100000 in
theorem fl_N_7 : Cond.fieldLink cn_N 7 (cf_N 0).1 (cf_N 0).2.1 (cf_N 0).2.2.1 ∈ ra_WS := ra_in 1007 (by decide +kernel) (by decide +kernel)
set_option maxRecDepth 100000 in
theorem fl_N_13 : Cond.fieldLink cn_N 13 (cf_N 1).1 (cf_N 1).2.1 (cf_N 1).2.2.1 ∈ ra_WS := ra_in 1008 (by decide +kernel) (by decide +kernel)
set_option maxRecDepth 100000 in
theorem fl_N_16 : Cond.fieldLink cn_N 16 (cf_N 3).1 (cf_N 3).2.1 (cf_N 3).2.2.1 ∈ ra_WS := ra_in 1010 (by decide +kernel) (by decide +kernel)
set_option maxRecDepth 100000 in
theorem fl_N_19 : Cond.fieldLink cn_N 19 (cf_N 4).1 (cf_N 4).2.1 (cf_N 4).2.2.1 ∈ ra_WS := ra_in 1011 (by decide +kernel) (by decide +kernel)
set_option maxRecDepth 100000 in
theorem fl_N_22 : Cond.fieldLink cn_N 22 (cf_N 5).1 (cf_N 5).2.1 (cf_N 5).2.2.1 ∈ ra_WS := ra_in 1012 (by decide +kernel) (by decide +kernel)
set_option maxRecDepth 100000 in
theorem fl_N_25 : Cond.fieldLink cn_N 25 (cf_N 6).1 (cf_N 6).2.1 (cf_N 6).2.2.1 ∈ ra_WS := ra_in 1013 (by decide +kernel) (by decide +kernel)
set_option maxRecDepth 100000 in
theorem fl_N_28 : Cond.fieldLink cn_N 28 (cf_N 8).1 (cf_N 8).2.1 (cf_N 8).2.2.1 ∈ ra_WS := ra_in 1015 (by decide +kernel) (by decide +kernel)
set_option maxRecDepth 100000 in
theorem fl_N_31 : Cond.fieldLink cn_N 31 (cf_N 9).1 (cf_N 9).2.1 (cf_N 9).2.2.1 ∈ ra_WS := ra_in 1016 (by decide +kernel) (by decide +kernel)
set_option maxRecDepth 100000 in
theorem fl_N_34 : Cond.fieldLink cn_N 34 (cf_N 10).1 (cf_N 10).2.1 (cf_N 10).2.2.1 ∈ ra_WS := ra_in 1017 (by decide +kernel) (by decide +kernel)
set_option maxRecDepth 100000 in
theorem fl_N_37 : Cond.fieldLink cn_N 37 (cf_N 11).1 (cf_N 11).2.1 (cf_N 11).2.2.1 ∈ ra_WS := ra_in 1018 (by decide +kernel) (by decide +kernel)
set_option maxRecDepth 100000 in
theorem fl_N_40 : Cond.fieldLink cn_N 40 (cf_N 12).1 (cf_N 12).2.1 (cf_N 12).2.2.1 ∈ ra_WS := ra_in 1019 (by decide +kernel) (by decide +kernel)
set_option maxRecDepth 100000 in
theorem fl_N_43 : Cond.fieldLink cn_N 43 (cf_N 13).1 (cf_N 13).2.1 (cf_N 13).2.2.1 ∈ ra_WS := ra_in 1020 (by decide +kernel) (by decide +kernel)
set_option maxRecDepth 100000 in
theorem fl_N_46 : Cond.fieldLink cn_N 46 (cf_N 14).1 (cf_N 14).2.1 (cf_N 14).2.2.1 ∈ ra_WS := ra_in 1021 (by decide +kernel) (by decide +kernel)
set_option maxRecDepth 100000 in
theorem fl_N_49 : Cond.fieldLink cn_N 49 (cf_N 15).1 (cf_N 15).2.1 (cf_N 15).2.2.1 ∈ ra_WS := ra_in 1022 (by decide +kernel) (by decide +kernel)
set_option maxRecDepth 100000 in
theorem fl_N_52 : Cond.fieldLink cn_N 52 (cf_N 16).1 (cf_N 16).2.1 (cf_N 16).2.2.1 ∈ ra_WS := ra_in 1023 (by decide +kernel) (by decide +kernel)
set_option maxRecDepth 100000 in
theorem fl_N_55 : Cond.fieldLink cn_N 55 (cf_N 17).1 (cf_N 17).2.1 (cf_N 17).2.2.1 ∈ ra_WS := ra_in 1024 (by decide +kernel) (by decide +kernel)
set_option maxRecDepth 100000 in
theorem fl_N_58 : Cond.fieldLink cn_N 58 (cf_N 18).1 (cf_N 18).2.1 (cf_N 18).2.2.1 ∈ ra_WS := ra_in 1025 (by decide +kernel) (by decide +kernel)
set_option maxRecDepth 100000 in
theorem fl_N_61 : Cond.fieldLink cn_N 61 (cf_N 19).1 (cf_N 19).2.1 (cf_N 19).2.2.1 ∈ ra_WS := ra_in 1026 (by decide +kernel) (by decide +kernel)
set_option maxRecDepth 100000 in
theorem fl_N_64 : Cond.fieldLink cn_N 64 (cf_N 20).1 (cf_N 20).2.1 (cf_N 20).2.2.1 ∈ ra_WS := ra_in 1027 (by decide +kernel) (by decide +kernel)
set_option maxRecDepth 100000 in
theorem fl_N_67 : Cond.fieldLink cn_N 67 (cf_N 21).1 (cf_N 21).2.1 (cf_N 21).2.2.1 ∈ ra_WS := ra_in 1028 (by decide +kernel) (by decide +kernel)
set_option maxRecDepth 100000 in
theorem fl_N_70 : Cond.fieldLink cn_N 70 (cf_N 23).1 (cf_N 23).2.1 (cf_N 23).2.2.1 ∈ ra_WS := ra_in 1030 (by decide +kernel) (by decide +kernel)
set_option maxRecDepth 100000 in
theorem fl_N_73 : Cond.fieldLink cn_N 73 (cf_N 24).1 (cf_N 24).2.1 (cf_N 24).2.2.1 ∈ ra_WS := ra_in 1031 (by decide +kernel) (by decide +kernel)
set_option maxRecDepth 100000 in
theorem fl_N_76 : Cond.fieldLink cn_N 76 (cf_N 25).1 (cf_N 25).2.1 (cf_N 25).2.2.1 ∈ ra_WS := ra_in 1032 (by decide +kernel) (by decide +kernel)
set_option maxRecDepth 100000 in
theorem fl_N_79 : Cond.fieldLink cn_N 79 (cf_N 26).1 (cf_N 26).2.1 (cf_N 26).2.2.1 ∈ ra_WS := ra_in 1033 (by decide +kernel) (by decide +kernel)
set_option maxRecDepth 100000 in
theorem fl_N_82 : Cond.fieldLink cn_N 82 (cf_N 27).1 (cf_N 27).2.1 (cf_N 27).2.2.1 ∈ ra_WS := ra_in 1034 (by decide +kernel) (by decide +kernel)
set_option maxRecDepth 100000 in
theorem fl_N_85 : Cond.fieldLink cn_N 85 (cf_N 28).1 (cf_N 28).2.1 (cf_N 28).2.2.1 ∈ ra_WS := ra_in 1035 (by decide +kernel) (by decide +kernel)
set_option maxRecDepth 100000 in
theorem fl_N_89 : Cond.fieldLink cn_N 89 (cf_N 29).1 (cf_N 29).2.1 (cf_N 29).2.2.1 ∈ ra_WS := ra_in 1036 (by decide +kernel) (by decide +kernel)
set_option maxRecDepth 100000 in
theorem fl_N_92 : Cond.fieldLink cn_N 92 (cf_N 30).1 (cf_N 30).2.1 (cf_N 30).2.2.1 ∈ ra_WS := ra_in 1037 (by decide +kernel) (by decide +kernel)
set_option maxRecDepth 100000 in
theorem fl_N_95 : Cond.fieldLink cn_N 95 (cf_N 31).1 (cf_N 31).2.1 (cf_N 31).2.2.1 ∈ ra_WS := ra_in 1038 (by decide +kernel) (by decide +kernel)
set_option maxRecDepth 100000 in
theorem fl_N_98 : Cond.fieldLink cn_N 98 (cf_N 32).1 (cf_N 32).2.1 (cf_N 32).2.2.1 ∈ ra_WS := ra_in 1039 (by decide +kernel) (by decide +kernel)
set_option maxRecDepth 100000 in
theorem fl_N_109 : Cond.fieldLink cn_N 109 (cf_N 2).1 (cf_N 2).2.1 (cf_N 2).2.2.1 ∈ ra_WS := ra_in 1009 (by decide +kernel) (by decide +kernel)
set_option maxRecDepth 100000 in
theorem fl_N_147 : Cond.fieldLink cn_N 147 (cf_N 7).1 (cf_N 7).2.1 (cf_N 7).2.2.1 ∈ ra_WS := ra_in 1014 (by decide +kernel) (by decide +kernel)
set_option maxRecDepth 100000 in
theorem fl_N_203 : Cond.fieldLink cn_N 203 (cf_N 22).1 (cf_N 22).2.1 (cf_N 22).2.2.1 ∈ ra_WS := ra_in 1029 (by decide +kernel) (by decide +kernel)
set_option maxRecDepth 100000 in
theorem fl_N_230 : Cond.fieldLink cn_N 230 (cf_N 33).1 (cf_N 33).2.1 (cf_N 33).2.2.1 ∈ ra_WS := ra_in 1040 (by decide +kernel) (by decide +kernel)
set_option maxRecDepth 100000 in
theorem ml_R_73 : Cond.methodLink cn_R 73 (mi_R_isOutside).1 ∈ ra_WS := ra_in 490 (by decide +kernel) (by decide +kernel)
set_option maxRecDepth 100000 in
theorem ml_R_77 : Cond.methodLink cn_R 77 (mi_V_textOf).1 ∈ ra_WS := ra_in 493 (by decide +kernel) (by decide +kernel)
set_option maxRecDepth 100000 in
theorem ml_R_81 : Cond.methodLink cn_R 81 (mi_V_append).1 ∈ ra_WS := ra_in 497 (by decide +kernel) (by decide +kernel)
set_option maxRecDepth 100000 in
theorem ml_R_85 : Cond.methodLink cn_R 85 (mi_V_clear).1 ∈ ra_WS := ra_in 637 (by decide +kernel) (by decide +kernel)
set_option maxRecDepth 100000 in
theorem ml_R_96 : Cond.methodLink cn_R 96 (mi_R_isNoHouse).1 ∈ ra_WS := ra_in 649 (by decide +kernel) (by decide +kernel)
set_option maxRecDepth 100000 in
theorem ml_R_115 : Cond.methodLink cn_R 115 (mi_Wt_take).1 ∈ ra_WS := ra_in 657 (by decide +kernel) (by decide +kernel)
set_option maxRecDepth 100000 in
theorem ml_R_119 : Cond.methodLink cn_R 119 (mi_R_isNoSheet).1 ∈ ra_WS := ra_in 666 (by decide +kernel) (by decide +kernel)
set_option maxRecDepth 100000 in
theorem ml_R_126 : Cond.methodLink cn_R 126 (mi_R_find).1 ∈ ra_WS := ra_in 669 (by decide +kernel) (by decide +kernel)
set_option maxRecDepth 100000 in
theorem ml_R_135 : Cond.methodLink cn_R 135 (mi_Wt_takeBack).1 ∈ ra_WS := ra_in 677 (by decide +kernel) (by decide +kernel)
set_option maxRecDepth 100000 in
theorem ml_R_139 : Cond.methodLink cn_R 139 (mi_Wt_changePrice).1 ∈ ra_WS := ra_in 685 (by decide +kernel) (by decide +kernel)
set_option maxRecDepth 100000 in
theorem ml_R_142 : Cond.methodLink cn_R 142 (mi_Wt_changeWear).1 ∈ ra_WS := ra_in 689 (by decide +kernel) (by decide +kernel)
set_option maxRecDepth 100000 in
theorem ml_R_145 : Cond.methodLink cn_R 145 (mi_R_behind).1 ∈ ra_WS := ra_in 697 (by decide +kernel) (by decide +kernel)
set_option maxRecDepth 100000 in
theorem ml_R_153 : Cond.methodLink cn_R 153 (mi_So_rowOf).1 ∈ ra_WS := ra_in 701 (by decide +kernel) (by decide +kernel)
set_option maxRecDepth 100000 in
theorem ml_R_160 : Cond.methodLink cn_R 160 (mi_J_bitCount).1 ∈ ra_WS := ra_in 755 (by decide +kernel) (by decide +kernel)
set_option maxRecDepth 100000 in
theorem ml_R_165 : Cond.methodLink cn_R 165 (mi_Mo_isTried).1 ∈ ra_WS := ra_in 765 (by decide +kernel) (by decide +kernel)
set_option maxRecDepth 100000 in
theorem ml_R_169 : Cond.methodLink cn_R 169 (mi_Mo_tryAll).1 ∈ ra_WS := ra_in 769 (by decide +kernel) (by decide +kernel)
set_option maxRecDepth 100000 in
theorem ml_R_179 : Cond.methodLink cn_R 179 (mi_R_isNoNumber).1 ∈ ra_WS := ra_in 789 (by decide +kernel) (by decide +kernel)
set_option maxRecDepth 100000 in
theorem ml_R_182 : Cond.methodLink cn_R 182 (mi_Ex_change).1 ∈ ra_WS := ra_in 792 (by decide +kernel) (by decide +kernel)
set_option maxRecDepth 100000 in
theorem ml_R_185 : Cond.methodLink cn_R 185 (mi_Ex_wouldChange).1 ∈ ra_WS := ra_in 800 (by decide +kernel) (by decide +kernel)
set_option maxRecDepth 100000 in
theorem ml_R_189 : Cond.methodLink cn_R 189 (mi_Ex_bringMarketUp).1 ∈ ra_WS := ra_in 808 (by decide +kernel) (by decide +kernel)
set_option maxRecDepth 100000 in
theorem ml_R_201 : Cond.methodLink cn_R 201 (mi_Ex_bringBestUp).1 ∈ ra_WS := ra_in 824 (by decide +kernel) (by decide +kernel)
set_option maxRecDepth 100000 in
theorem ml_R_210 : Cond.methodLink cn_R 210 (mi_Kn_learn).1 ∈ ra_WS := ra_in 842 (by decide +kernel) (by decide +kernel)
set_option maxRecDepth 100000 in
theorem ml_R_213 : Cond.methodLink cn_R 213 (mi_Kn_clear).1 ∈ ra_WS := ra_in 850 (by decide +kernel) (by decide +kernel)
set_option maxRecDepth 100000 in
theorem ml_R_215 : Cond.methodLink cn_R 215 (mi_Kn_bringUp).1 ∈ ra_WS := ra_in 858 (by decide +kernel) (by decide +kernel)
set_option maxRecDepth 100000 in
theorem ml_R_221 : Cond.methodLink cn_R 221 (mi_Kn_possibleRoofs).1 ∈ ra_WS := ra_in 880 (by decide +kernel) (by decide +kernel)
set_option maxRecDepth 100000 in
theorem ml_R_224 : Cond.methodLink cn_R 224 (mi_Kn_whomToAsk).1 ∈ ra_WS := ra_in 888 (by decide +kernel) (by decide +kernel)
set_option maxRecDepth 100000 in
theorem ml_R_227 : Cond.methodLink cn_R 227 (mi_Kn_worstLeft).1 ∈ ra_WS := ra_in 897 (by decide +kernel) (by decide +kernel)
set_option maxRecDepth 100000 in
theorem ml_R_230 : Cond.methodLink cn_R 230 (mi_He_lay).1 ∈ ra_WS := ra_in 902 (by decide +kernel) (by decide +kernel)
set_option maxRecDepth 100000 in
theorem ml_R_234 : Cond.methodLink cn_R 234 (mi_He_harmOfAll).1 ∈ ra_WS := ra_in 915 (by decide +kernel) (by decide +kernel)
set_option maxRecDepth 100000 in
theorem ml_R_238 : Cond.methodLink cn_R 238 (mi_R_isNoForm).1 ∈ ra_WS := ra_in 932 (by decide +kernel) (by decide +kernel)
set_option maxRecDepth 100000 in
theorem ml_R_241 : Cond.methodLink cn_R 241 (mi_Sh_makeNew).1 ∈ ra_WS := ra_in 935 (by decide +kernel) (by decide +kernel)
set_option maxRecDepth 100000 in
theorem ml_R_244 : Cond.methodLink cn_R 244 (mi_Sh_findingAt).1 ∈ ra_WS := ra_in 947 (by decide +kernel) (by decide +kernel)
set_option maxRecDepth 100000 in
theorem ml_R_248 : Cond.methodLink cn_R 248 (mi_Sh_store).1 ∈ ra_WS := ra_in 952 (by decide +kernel) (by decide +kernel)
set_option maxRecDepth 100000 in
theorem ml_R_258 : Cond.methodLink cn_R 258 (mi_Sh_lacks).1 ∈ ra_WS := ra_in 965 (by decide +kernel) (by decide +kernel)
set_option maxRecDepth 100000 in
theorem ml_R_261 : Cond.methodLink cn_R 261 arraycopyName ∈ ra_WS := ra_in 969 (by decide +kernel) (by decide +kernel)
set_option maxRecDepth 100000 in
theorem ml_R_267 : Cond.methodLink cn_R 267 Lib.Math.min.name ∈ ra_WS := ra_in 974 (by decide +kernel) (by decide +kernel)
set_option maxRecDepth 100000 in
theorem ml_R_282 : Cond.methodLink cn_R 282 (mi_V_countRings).1 ∈ ra_WS := ra_in 979 (by decide +kernel) (by decide +kernel)
set_option maxRecDepth 100000 in
theorem ml_R_296 : Cond.methodLink cn_R 296 (mi_R_count).1 ∈ ra_WS := ra_in 989 (by decide +kernel) (by decide +kernel)
set_option maxRecDepth 100000 in
theorem ml_R_298 : Cond.methodLink cn_R 298 (mi_R_fault).1 ∈ ra_WS := ra_in 990 (by decide +kernel) (by decide +kernel)
set_option maxRecDepth 100000 in
theorem ml_R_301 : Cond.methodLink cn_R 301 (mi_R_house).1 ∈ ra_WS := ra_in 991 (by decide +kernel) (by decide +kernel)
set_option maxRecDepth 100000 in
theorem ml_R_304 : Cond.methodLink cn_R 304 (mi_R_ring).1 ∈ ra_WS := ra_in 992 (by decide +kernel) (by decide +kernel)
set_option maxRecDepth 100000 in
theorem ml_R_306 : Cond.methodLink cn_R 306 (mi_R_dry).1 ∈ ra_WS := ra_in 993 (by decide +kernel) (by decide +kernel)
set_option maxRecDepth 100000 in
theorem ml_R_309 : Cond.methodLink cn_R 309 (mi_R_market).1 ∈ ra_WS := ra_in 994 (by decide +kernel) (by decide +kernel)
set_option maxRecDepth 100000 in
theorem ml_R_312 : Cond.methodLink cn_R 312 (mi_R_best).1 ∈ ra_WS := ra_in 995 (by decide +kernel) (by decide +kernel)
set_option maxRecDepth 100000 in
theorem ml_R_315 : Cond.methodLink cn_R 315 (mi_R_could).1 ∈ ra_WS := ra_in 996 (by decide +kernel) (by decide +kernel)
set_option maxRecDepth 100000 in
theorem ml_R_318 : Cond.methodLink cn_R 318 (mi_R_hands).1 ∈ ra_WS := ra_in 997 (by decide +kernel) (by decide +kernel)
set_option maxRecDepth 100000 in
theorem ml_R_321 : Cond.methodLink cn_R 321 (mi_R_all).1 ∈ ra_WS := ra_in 998 (by decide +kernel) (by decide +kernel)
set_option maxRecDepth 100000 in
theorem ml_R_324 : Cond.methodLink cn_R 324 (mi_R_ask).1 ∈ ra_WS := ra_in 999 (by decide +kernel) (by decide +kernel)
set_option maxRecDepth 100000 in
theorem ml_R_327 : Cond.methodLink cn_R 327 (mi_R_liars).1 ∈ ra_WS := ra_in 1000 (by decide +kernel) (by decide +kernel)
set_option maxRecDepth 100000 in
theorem ml_Co_60 : Cond.methodLink cn_Co 60 Lib.Math.max.name ∈ ra_WS := ra_in 726 (by decide +kernel) (by decide +kernel)
set_option maxRecDepth 100000 in
theorem ml_Co_69 : Cond.methodLink cn_Co 69 (mi_Co_isLaidOn).1 ∈ ra_WS := ra_in 727 (by decide +kernel) (by decide +kernel)
set_option maxRecDepth 100000 in
theorem ml_Co_73 : Cond.methodLink cn_Co 73 (mi_Co_settle).1 ∈ ra_WS := ra_in 731 (by decide +kernel) (by decide +kernel)
set_option maxRecDepth 100000 in
theorem ml_Ex_49 : Cond.methodLink cn_Ex 49 arraycopyName ∈ ra_WS := ra_in 812 (by decide +kernel) (by decide +kernel)
set_option maxRecDepth 100000 in
theorem ml_Ex_58 : Cond.methodLink cn_Ex 58 (mi_Ex_changeFirstPair).1 ∈ ra_WS := ra_in 815 (by decide +kernel) (by decide +kernel)
set_option maxRecDepth 100000 in
theorem ml_Ex_65 : Cond.methodLink cn_Ex 65 (mi_Ex_wouldChange).1 ∈ ra_WS := ra_in 819 (by decide +kernel) (by decide +kernel)
set_option maxRecDepth 100000 in
theorem ml_Ex_69 : Cond.methodLink cn_Ex 69 (mi_J_bitCount).1 ∈ ra_WS := ra_in 828 (by decide +kernel) (by decide +kernel)
set_option maxRecDepth 100000 in
theorem ml_Ex_75 : Cond.methodLink cn_Ex 75 (mi_Ex_bestRoof).1 ∈ ra_WS := ra_in 829 (by decide +kernel) (by decide +kernel)
set_option maxRecDepth 100000 in
theorem ml_Ex_79 : Cond.methodLink cn_Ex 79 (mi_Ex_had).1 ∈ ra_WS := ra_in 834 (by decide +kernel) (by decide +kernel)
set_option maxRecDepth 100000 in
theorem ml_He_30 : Cond.methodLink cn_He 30 arraycopyName ∈ ra_WS := ra_in 906 (by decide +kernel) (by decide +kernel)
set_option maxRecDepth 100000 in
theorem ml_He_36 : Cond.methodLink cn_He 36 (mi_He_neediest).1 ∈ ra_WS := ra_in 907 (by decide +kernel) (by decide +kernel)
set_option maxRecDepth 100000 in
theorem ml_He_40 : Cond.methodLink cn_He 40 (mi_He_rainsAbove).1 ∈ ra_WS := ra_in 911 (by decide +kernel) (by decide +kernel)
set_option maxRecDepth 100000 in
theorem ml_He_50 : Cond.methodLink cn_He 50 Lib.Math.max.name ∈ ra_WS := ra_in 919 (by decide +kernel) (by decide +kernel)
set_option maxRecDepth 100000 in
theorem ml_Kn_53 : Cond.methodLink cn_Kn 53 (mi_Kn_readFacts).1 ∈ ra_WS := ra_in 862 (by decide +kernel) (by decide +kernel)
set_option maxRecDepth 100000 in
theorem ml_Kn_57 : Cond.methodLink cn_Kn 57 (mi_Kn_countBehind).1 ∈ ra_WS := ra_in 866 (by decide +kernel) (by decide +kernel)
set_option maxRecDepth 100000 in
theorem ml_Kn_61 : Cond.methodLink cn_Kn 61 (mi_Kn_countAhead).1 ∈ ra_WS := ra_in 872 (by decide +kernel) (by decide +kernel)
set_option maxRecDepth 100000 in
theorem ml_Kn_64 : Cond.methodLink cn_Kn 64 (mi_Kn_countEach).1 ∈ ra_WS := ra_in 876 (by decide +kernel) (by decide +kernel)
set_option maxRecDepth 100000 in
theorem ml_Kn_70 : Cond.methodLink cn_Kn 70 (mi_J_bitCount).1 ∈ ra_WS := ra_in 870 (by decide +kernel) (by decide +kernel)
set_option maxRecDepth 100000 in
theorem ml_Kn_80 : Cond.methodLink cn_Kn 80 (mi_Kn_worstLeft).1 ∈ ra_WS := ra_in 892 (by decide +kernel) (by decide +kernel)
set_option maxRecDepth 100000 in
theorem ml_Kn_83 : Cond.methodLink cn_Kn 83 Lib.Math.max.name ∈ ra_WS := ra_in 896 (by decide +kernel) (by decide +kernel)
set_option maxRecDepth 100000 in
theorem ml_Mo_53 : Cond.methodLink cn_Mo 53 (mi_Co_choose).1 ∈ ra_WS := ra_in 773 (by decide +kernel) (by decide +kernel)
set_option maxRecDepth 100000 in
theorem ml_Mo_63 : Cond.methodLink cn_Mo 63 (mi_Mo_passAmongGrudges).1 ∈ ra_WS := ra_in 774 (by decide +kernel) (by decide +kernel)
set_option maxRecDepth 100000 in
theorem ml_Mo_67 : Cond.methodLink cn_Mo 67 (mi_Mo_keepsDry).1 ∈ ra_WS := ra_in 780 (by decide +kernel) (by decide +kernel)
set_option maxRecDepth 100000 in
theorem ml_Mo_74 : Cond.methodLink cn_Mo 74 (mi_Co_begin).1 ∈ ra_WS := ra_in 778 (by decide +kernel) (by decide +kernel)
set_option maxRecDepth 100000 in
theorem ml_Mo_83 : Cond.methodLink cn_Mo 83 (mi_Co_pass).1 ∈ ra_WS := ra_in 779 (by decide +kernel) (by decide +kernel)
set_option maxRecDepth 100000 in
theorem ml_So_45 : Cond.methodLink cn_So 45 (mi_So_tell).1 ∈ ra_WS := ra_in 705 (by decide +kernel) (by decide +kernel)
set_option maxRecDepth 100000 in
theorem ml_So_48 : Cond.methodLink cn_So 48 (mi_Co_choose).1 ∈ ra_WS := ra_in 709 (by decide +kernel) (by decide +kernel)
set_option maxRecDepth 100000 in
theorem ml_So_52 : Cond.methodLink cn_So 52 (mi_Co_begin).1 ∈ ra_WS := ra_in 714 (by decide +kernel) (by decide +kernel)
set_option maxRecDepth 100000 in
theorem ml_So_55 : Cond.methodLink cn_So 55 (mi_So_note).1 ∈ ra_WS := ra_in 718 (by decide +kernel) (by decide +kernel)
set_option maxRecDepth 100000 in
theorem ml_So_65 : Cond.methodLink cn_So 65 (mi_Co_pass).1 ∈ ra_WS := ra_in 722 (by decide +kernel) (by decide +kernel)
set_option maxRecDepth 100000 in
theorem ml_V_58 : Cond.methodLink cn_V 58 (mi_V_readTexts).1 ∈ ra_WS := ra_in 501 (by decide +kernel) (by decide +kernel)
set_option maxRecDepth 100000 in
theorem ml_V_67 : Cond.methodLink cn_V 67 (mi_V_findHousesFault).1 ∈ ra_WS := ra_in 505 (by decide +kernel) (by decide +kernel)
set_option maxRecDepth 100000 in
theorem ml_V_71 : Cond.methodLink cn_V 71 (mi_V_readHouses).1 ∈ ra_WS := ra_in 608 (by decide +kernel) (by decide +kernel)
set_option maxRecDepth 100000 in
theorem ml_V_74 : Cond.methodLink cn_V 74 (mi_V_findLotsFault).1 ∈ ra_WS := ra_in 616 (by decide +kernel) (by decide +kernel)
set_option maxRecDepth 100000 in
theorem ml_V_77 : Cond.methodLink cn_V 77 (mi_V_readLots).1 ∈ ra_WS := ra_in 624 (by decide +kernel) (by decide +kernel)
set_option maxRecDepth 100000 in
theorem ml_V_80 : Cond.methodLink cn_V 80 (mi_V_readRings).1 ∈ ra_WS := ra_in 628 (by decide +kernel) (by decide +kernel)
set_option maxRecDepth 100000 in
theorem ml_V_83 : Cond.methodLink cn_V 83 (mi_V_fitsInHouse).1 ∈ ra_WS := ra_in 509 (by decide +kernel) (by decide +kernel)
set_option maxRecDepth 100000 in
theorem ml_V_87 : Cond.methodLink cn_V 87 (mi_V_temperAt).1 ∈ ra_WS := ra_in 513 (by decide +kernel) (by decide +kernel)
set_option maxRecDepth 100000 in
theorem ml_V_91 : Cond.methodLink cn_V 91 (mi_T_isFigureAt).1 ∈ ra_WS := ra_in 604 (by decide +kernel) (by decide +kernel)
set_option maxRecDepth 100000 in
theorem ml_V_101 : Cond.methodLink cn_V 101 (mi_T_figureAt).1 ∈ ra_WS := ra_in 612 (by decide +kernel) (by decide +kernel)
set_option maxRecDepth 100000 in
theorem ml_N_101 : Cond.methodLink cn_N 101 (mi_N_in).1 ∈ ra_WS := ra_in 1115 (by decide +kernel) (by decide +kernel)
set_option maxRecDepth 100000 in
theorem ml_N_105 : Cond.methodLink cn_N 105 (mi_N_byteAt).1 ∈ ra_WS := ra_in 1138 (by decide +kernel) (by decide +kernel)
set_option maxRecDepth 100000 in
theorem ml_N_113 : Cond.methodLink cn_N 113 (mi_N_figureAt).1 ∈ ra_WS := ra_in 1134 (by decide +kernel) (by decide +kernel)
set_option maxRecDepth 100000 in
theorem ml_N_116 : Cond.methodLink cn_N 116 (mi_N_isIn).1 ∈ ra_WS := ra_in 1150 (by decide +kernel) (by decide +kernel)
set_option maxRecDepth 100000 in
theorem ml_N_120 : Cond.methodLink cn_N 120 (mi_N_readsHouses).1 ∈ ra_WS := ra_in 1130 (by decide +kernel) (by decide +kernel)
set_option maxRecDepth 100000 in
theorem ml_N_124 : Cond.methodLink cn_N 124 (mi_N_readsLots).1 ∈ ra_WS := ra_in 1146 (by decide +kernel) (by decide +kernel)
set_option maxRecDepth 100000 in
theorem ml_N_127 : Cond.methodLink cn_N 127 (mi_N_lotsNow).1 ∈ ra_WS := ra_in 1142 (by decide +kernel) (by decide +kernel)
set_option maxRecDepth 100000 in
theorem ml_N_130 : Cond.methodLink cn_N 130 (mi_N_faultOf).1 ∈ ra_WS := ra_in 1126 (by decide +kernel) (by decide +kernel)
set_option maxRecDepth 100000 in
theorem ml_N_134 : Cond.methodLink cn_N 134 (mi_N_reads).1 ∈ ra_WS := ra_in 1161 (by decide +kernel) (by decide +kernel)
set_option maxRecDepth 100000 in
theorem ml_N_137 : Cond.methodLink cn_N 137 (mi_N_ownerOf).1 ∈ ra_WS := ra_in 1169 (by decide +kernel) (by decide +kernel)
set_option maxRecDepth 100000 in
theorem ml_N_140 : Cond.methodLink cn_N 140 (mi_N_isHouse).1 ∈ ra_WS := ra_in 1157 (by decide +kernel) (by decide +kernel)
set_option maxRecDepth 100000 in
theorem ml_N_144 : Cond.methodLink cn_N 144 (mi_N_houseOf).1 ∈ ra_WS := ra_in 1165 (by decide +kernel) (by decide +kernel)
set_option maxRecDepth 100000 in
theorem ml_N_150 : Cond.methodLink cn_N 150 (mi_N_rainMore).1 ∈ ra_WS := ra_in 1177 (by decide +kernel) (by decide +kernel)
set_option maxRecDepth 100000 in
theorem ml_N_153 : Cond.methodLink cn_N 153 (mi_N_isSheet).1 ∈ ra_WS := ra_in 1185 (by decide +kernel) (by decide +kernel)
set_option maxRecDepth 100000 in
theorem ml_N_156 : Cond.methodLink cn_N 156 (mi_N_meets).1 ∈ ra_WS := ra_in 1188 (by decide +kernel) (by decide +kernel)
set_option maxRecDepth 100000 in
theorem ml_N_159 : Cond.methodLink cn_N 159 (mi_N_doesLay).1 ∈ ra_WS := ra_in 1220 (by decide +kernel) (by decide +kernel)
set_option maxRecDepth 100000 in
theorem ml_N_162 : Cond.methodLink cn_N 162 (mi_N_runs).1 ∈ ra_WS := ra_in 1216 (by decide +kernel) (by decide +kernel)
set_option maxRecDepth 100000 in
theorem ml_N_166 : Cond.methodLink cn_N 166 (mi_N_lays).1 ∈ ra_WS := ra_in 1212 (by decide +kernel) (by decide +kernel)
set_option maxRecDepth 100000 in
theorem ml_N_169 : Cond.methodLink cn_N 169 (mi_N_isAt).1 ∈ ra_WS := ra_in 1204 (by decide +kernel) (by decide +kernel)
set_option maxRecDepth 100000 in
theorem ml_N_172 : Cond.methodLink cn_N 172 (mi_N_behind).1 ∈ ra_WS := ra_in 1208 (by decide +kernel) (by decide +kernel)
set_option maxRecDepth 100000 in
theorem ml_N_176 : Cond.methodLink cn_N 176 (mi_N_allOf).1 ∈ ra_WS := ra_in 1240 (by decide +kernel) (by decide +kernel)
set_option maxRecDepth 100000 in
theorem ml_N_179 : Cond.methodLink cn_N 179 (mi_N_ringOf).1 ∈ ra_WS := ra_in 1248 (by decide +kernel) (by decide +kernel)
set_option maxRecDepth 100000 in
theorem ml_N_182 : Cond.methodLink cn_N 182 (mi_N_ones).1 ∈ ra_WS := ra_in 1252 (by decide +kernel) (by decide +kernel)
set_option maxRecDepth 100000 in
theorem ml_N_185 : Cond.methodLink cn_N 185 (mi_N_dryOf).1 ∈ ra_WS := ra_in 1259 (by decide +kernel) (by decide +kernel)
set_option maxRecDepth 100000 in
theorem ml_N_188 : Cond.methodLink cn_N 188 (mi_N_isEight).1 ∈ ra_WS := ra_in 1267 (by decide +kernel) (by decide +kernel)
set_option maxRecDepth 100000 in
theorem ml_N_191 : Cond.methodLink cn_N 191 (mi_N_hasAsTold).1 ∈ ra_WS := ra_in 1274 (by decide +kernel) (by decide +kernel)
set_option maxRecDepth 100000 in
theorem ml_N_194 : Cond.methodLink cn_N 194 (mi_N_doWant).1 ∈ ra_WS := ra_in 1278 (by decide +kernel) (by decide +kernel)
set_option maxRecDepth 100000 in
theorem ml_N_197 : Cond.methodLink cn_N 197 (mi_N_marketOf).1 ∈ ra_WS := ra_in 1286 (by decide +kernel) (by decide +kernel)
set_option maxRecDepth 100000 in
theorem ml_N_200 : Cond.methodLink cn_N 200 (mi_N_bestOf).1 ∈ ra_WS := ra_in 1294 (by decide +kernel) (by decide +kernel)
set_option maxRecDepth 100000 in
theorem ml_N_206 : Cond.methodLink cn_N 206 (mi_N_laysMay).1 ∈ ra_WS := ra_in 1318 (by decide +kernel) (by decide +kernel)
set_option maxRecDepth 100000 in
theorem ml_N_209 : Cond.methodLink cn_N 209 (mi_N_waysBy).1 ∈ ra_WS := ra_in 1322 (by decide +kernel) (by decide +kernel)
set_option maxRecDepth 100000 in
theorem ml_N_212 : Cond.methodLink cn_N 212 (mi_N_waysNow).1 ∈ ra_WS := ra_in 1314 (by decide +kernel) (by decide +kernel)
set_option maxRecDepth 100000 in
theorem ml_N_215 : Cond.methodLink cn_N 215 (mi_N_couldOf).1 ∈ ra_WS := ra_in 1310 (by decide +kernel) (by decide +kernel)
set_option maxRecDepth 100000 in
theorem ml_N_218 : Cond.methodLink cn_N 218 (mi_N_askOf).1 ∈ ra_WS := ra_in 1330 (by decide +kernel) (by decide +kernel)
set_option maxRecDepth 100000 in
theorem ml_N_221 : Cond.methodLink cn_N 221 (mi_N_stronger).1 ∈ ra_WS := ra_in 1342 (by decide +kernel) (by decide +kernel)
set_option maxRecDepth 100000 in
theorem ml_N_224 : Cond.methodLink cn_N 224 (mi_N_handsOf).1 ∈ ra_WS := ra_in 1338 (by decide +kernel) (by decide +kernel)
set_option maxRecDepth 100000 in
theorem ml_N_227 : Cond.methodLink cn_N 227 (mi_N_liarsNow).1 ∈ ra_WS := ra_in 1354 (by decide +kernel) (by decide +kernel)
set_option maxRecDepth 100000 in
theorem ml_N_233 : Cond.methodLink cn_N 233 (mi_N_lacks).1 ∈ ra_WS := ra_in 1370 (by decide +kernel) (by decide +kernel)
set_option maxRecDepth 100000 in
theorem ml_N_236 : Cond.methodLink cn_N 236 (mi_N_keep).1 ∈ ra_WS := ra_in 1374 (by decide +kernel) (by decide +kernel)
set_option maxRecDepth 100000 in
theorem ml_N_241 : Cond.methodLink cn_N 241 (mi_N_sumOf).1 ∈ ra_WS := ra_in 1395 (by decide +kernel) (by decide +kernel)
set_option maxRecDepth 100000 in
theorem ml_N_248 : Cond.methodLink cn_N 248 (mi_N_count).1 ∈ ra_WS := ra_in 1405 (by decide +kernel) (by decide +kernel)
set_option maxRecDepth 100000 in
theorem kc_R_251 : Jvm.Cond.constant cn_R 251 (-2147483648) ∈ ra_WS := ra_in 960 (by decide +kernel) (by decide +kernel)
set_option maxRecDepth 100000 in
theorem kc_R_292 : Jvm.Cond.constantLong cn_R 292 17 ∈ ra_WS := ra_in 987 (by decide +kernel) (by decide +kernel)
set_option maxRecDepth 100000 in
theorem kc_R_294 : Jvm.Cond.constantLong cn_R 294 31 ∈ ra_WS := ra_in 988 (by decide +kernel) (by decide +kernel)
set_option maxRecDepth 100000 in
theorem kc_N_240 : Jvm.Cond.constant cn_N 240 (-2147483648) ∈ ra_WS := ra_in 1382 (by decide +kernel) (by decide +kernel)
set_option maxRecDepth 100000 in
theorem kc_N_244 : Jvm.Cond.constantLong cn_N 244 17 ∈ ra_WS := ra_in 1403 (by decide +kernel) (by decide +kernel)
set_option maxRecDepth 100000 in
theorem kc_N_246 : Jvm.Cond.constantLong cn_N 246 31 ∈ ra_WS := ra_in 1404 (by decide +kernel) (by decide +kernel)
set_option maxRecDepth 100000 in
theorem kc_J_265 : Jvm.Cond.constant cn_J 265 1431655765 ∈ ra_WS := ra_in 758 (by decide +kernel) (by decide +kernel)
set_option maxRecDepth 100000 in
theorem kc_J_266 : Jvm.Cond.constant cn_J 266 858993459 ∈ ra_WS := ra_in 759 (by decide +kernel) (by decide +kernel)
set_option maxRecDepth 100000 in
theorem kc_J_267 : Jvm.Cond.constant cn_J 267 252645135 ∈ ra_WS := ra_in 760 (by decide +kernel) (by decide +kernel)
set_option maxRecDepth 100000 in
theorem jw_max1 : Cond.static Lib.Math.max.name ∈ ra_WS := ra_in 547 (by decide +kernel) (by decide +kernel)
set_option maxRecDepth 100000 in
theorem jw_max3 : Cond.code Lib.Math.max.name Lib.Math.max.code 2 (some .int) ∈ ra_WS := ra_in 548 (by decide +kernel) (by decide +kernel)
set_option maxRecDepth 100000 in
theorem jw_min1 : Cond.static Lib.Math.min.name ∈ ra_WS := ra_in 550 (by decide +kernel) (by decide +kernel)
set_option maxRecDepth 100000 in
theorem jw_min3 : Cond.code Lib.Math.min.name Lib.Math.min.code 2 (some .int) ∈ ra_WS := ra_in 551 (by decide +kernel) (by decide +kernel)
set_option maxRecDepth 100000 in
theorem jw_math : Cond.initialized "java/lang/Math" ∈ ra_WS := ra_in 76 (by decide +kernel) (by decide +kernel)
set_option maxRecDepth 100000 in
theorem jw_cpy1 : Cond.native arraycopyName ∈ ra_WS := ra_in 814 (by decide +kernel) (by decide +kernel)
set_option maxRecDepth 100000 in
theorem jw_cpy2 : Cond.static arraycopyName ∈ ra_WS := ra_in 813 (by decide +kernel) (by decide +kernel)
set_option maxRecDepth 100000 in
theorem jw_sys : Cond.initialized "java/lang/System" ∈ ra_WS := ra_in 81 (by decide +kernel) (by decide +kernel)
