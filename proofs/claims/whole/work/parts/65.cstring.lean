/-! the text of temper letters, and where a letter stands in it -/
def cn_JS : String := "java/lang/String"
def cn_JL : String := "java/lang/StringLatin1"
def rm_Jix1 : Room := { frames := 4, cells := 0, slots := 0, locals := 134 }
abbrev mi_Jix1 : ra_MI := (⟨cn_JS, "indexOf", "(I)I"⟩, prog_17_method_79_code, 2, (some .int), rm_Jix1, 2)
set_option maxRecDepth 100000 in
theorem co_Jix1 {R : Room} (h1 : 4 + 1 ≤ R.frames) (h2 : 8 + (2 + 11) + 134 ≤ R.locals) : ra_CO R mi_Jix1 := ⟨rfl, rfl, h1, h2, ra_in 521 (by decide +kernel) (by decide +kernel), ra_in 74 (by decide +kernel) (by decide +kernel), by decide +kernel, by decide +kernel⟩
set_option maxRecDepth 100000 in
theorem im_Jix1 : Cond.instanceMethod (mi_Jix1).1 ∈ ra_WS := ra_in 519 (by decide +kernel) (by decide +kernel)
set_option maxRecDepth 100000 in
theorem se_Jix1 : Cond.selects (mi_Jix1).1.cls (mi_Jix1).1 (mi_Jix1).1 ∈ ra_WS := ra_in 520 (by decide +kernel) (by decide +kernel)
theorem d_Jix1_0 : decode prog_17_method_79_code 0 = .ok (.aload_n 0, 1) := by decide +kernel
theorem d_Jix1_1 : decode prog_17_method_79_code 1 = .ok (.iload_n 1, 1) := by decide +kernel
theorem d_Jix1_2 : decode prog_17_method_79_code 2 = .ok (.iconst 0, 1) := by decide +kernel
theorem d_Jix1_3 : decode prog_17_method_79_code 3 = .ok (.invokevirtual 633, 3) := by decide +kernel
theorem d_Jix1_6 : decode prog_17_method_79_code 6 = .ok (.ireturn, 1) := by decide +kernel
def rm_Jix2 : Room := { frames := 3, cells := 0, slots := 0, locals := 112 }
abbrev mi_Jix2 : ra_MI := (⟨cn_JS, "indexOf", "(II)I"⟩, prog_17_method_80_code, 3, (some .int), rm_Jix2, 3)
set_option maxRecDepth 100000 in
theorem co_Jix2 {R : Room} (h1 : 3 + 1 ≤ R.frames) (h2 : 8 + (3 + 11) + 112 ≤ R.locals) : ra_CO R mi_Jix2 := ⟨rfl, rfl, h1, h2, ra_in 525 (by decide +kernel) (by decide +kernel), ra_in 74 (by decide +kernel) (by decide +kernel), by decide +kernel, by decide +kernel⟩
set_option maxRecDepth 100000 in
theorem im_Jix2 : Cond.instanceMethod (mi_Jix2).1 ∈ ra_WS := ra_in 523 (by decide +kernel) (by decide +kernel)
set_option maxRecDepth 100000 in
theorem se_Jix2 : Cond.selects (mi_Jix2).1.cls (mi_Jix2).1 (mi_Jix2).1 ∈ ra_WS := ra_in 524 (by decide +kernel) (by decide +kernel)
theorem d_Jix2_0 : decode prog_17_method_80_code 0 = .ok (.aload_n 0, 1) := by decide +kernel
theorem d_Jix2_1 : decode prog_17_method_80_code 1 = .ok (.invokevirtual 492, 3) := by decide +kernel
theorem d_Jix2_4 : decode prog_17_method_80_code 4 = .ok (.ifCond .eq 19, 3) := by decide +kernel
theorem d_Jix2_7 : decode prog_17_method_80_code 7 = .ok (.aload_n 0, 1) := by decide +kernel
theorem d_Jix2_8 : decode prog_17_method_80_code 8 = .ok (.getfield 9, 3) := by decide +kernel
theorem d_Jix2_11 : decode prog_17_method_80_code 11 = .ok (.iload_n 1, 1) := by decide +kernel
theorem d_Jix2_12 : decode prog_17_method_80_code 12 = .ok (.iload_n 2, 1) := by decide +kernel
theorem d_Jix2_13 : decode prog_17_method_80_code 13 = .ok (.aload_n 0, 1) := by decide +kernel
theorem d_Jix2_14 : decode prog_17_method_80_code 14 = .ok (.invokevirtual 505, 3) := by decide +kernel
theorem d_Jix2_17 : decode prog_17_method_80_code 17 = .ok (.invokestatic 637, 3) := by decide +kernel
theorem d_Jix2_20 : decode prog_17_method_80_code 20 = .ok (.goto 16, 3) := by decide +kernel
theorem d_Jix2_23 : decode prog_17_method_80_code 23 = .ok (.aload_n 0, 1) := by decide +kernel
theorem d_Jix2_24 : decode prog_17_method_80_code 24 = .ok (.getfield 9, 3) := by decide +kernel
theorem d_Jix2_27 : decode prog_17_method_80_code 27 = .ok (.iload_n 1, 1) := by decide +kernel
theorem d_Jix2_28 : decode prog_17_method_80_code 28 = .ok (.iload_n 2, 1) := by decide +kernel
theorem d_Jix2_29 : decode prog_17_method_80_code 29 = .ok (.aload_n 0, 1) := by decide +kernel
theorem d_Jix2_30 : decode prog_17_method_80_code 30 = .ok (.invokevirtual 505, 3) := by decide +kernel
theorem d_Jix2_33 : decode prog_17_method_80_code 33 = .ok (.invokestatic 640, 3) := by decide +kernel
theorem d_Jix2_36 : decode prog_17_method_80_code 36 = .ok (.ireturn, 1) := by decide +kernel
def rm_Jlat : Room := { frames := 1, cells := 0, slots := 0, locals := 64 }
abbrev mi_Jlat : ra_MI := (⟨cn_JS, "isLatin1", "()Z"⟩, prog_17_method_154_code, 1, (some .boolean), rm_Jlat, 1)
set_option maxRecDepth 100000 in
theorem co_Jlat {R : Room} (h1 : 1 + 1 ≤ R.frames) (h2 : 8 + (1 + 11) + 64 ≤ R.locals) : ra_CO R mi_Jlat := ⟨rfl, rfl, h1, h2, ra_in 529 (by decide +kernel) (by decide +kernel), ra_in 74 (by decide +kernel) (by decide +kernel), by decide +kernel, by decide +kernel⟩
set_option maxRecDepth 100000 in
theorem im_Jlat : Cond.instanceMethod (mi_Jlat).1 ∈ ra_WS := ra_in 527 (by decide +kernel) (by decide +kernel)
set_option maxRecDepth 100000 in
theorem se_Jlat : Cond.selects (mi_Jlat).1.cls (mi_Jlat).1 (mi_Jlat).1 ∈ ra_WS := ra_in 528 (by decide +kernel) (by decide +kernel)
theorem d_Jlat_0 : decode prog_17_method_154_code 0 = .ok (.getstatic 38, 3) := by decide +kernel
theorem d_Jlat_3 : decode prog_17_method_154_code 3 = .ok (.ifCond .eq 14, 3) := by decide +kernel
theorem d_Jlat_6 : decode prog_17_method_154_code 6 = .ok (.aload_n 0, 1) := by decide +kernel
theorem d_Jlat_7 : decode prog_17_method_154_code 7 = .ok (.getfield 15, 3) := by decide +kernel
theorem d_Jlat_10 : decode prog_17_method_154_code 10 = .ok (.ifCond .ne 7, 3) := by decide +kernel
theorem d_Jlat_13 : decode prog_17_method_154_code 13 = .ok (.iconst 1, 1) := by decide +kernel
theorem d_Jlat_14 : decode prog_17_method_154_code 14 = .ok (.goto 4, 3) := by decide +kernel
theorem d_Jlat_17 : decode prog_17_method_154_code 17 = .ok (.iconst 0, 1) := by decide +kernel
theorem d_Jlat_18 : decode prog_17_method_154_code 18 = .ok (.ireturn, 1) := by decide +kernel
def rm_Jlen : Room := { frames := 2, cells := 0, slots := 0, locals := 84 }
abbrev mi_Jlen : ra_MI := (⟨cn_JS, "length", "()I"⟩, prog_17_method_54_code, 1, (some .int), rm_Jlen, 1)
set_option maxRecDepth 100000 in
theorem co_Jlen {R : Room} (h1 : 2 + 1 ≤ R.frames) (h2 : 8 + (1 + 11) + 84 ≤ R.locals) : ra_CO R mi_Jlen := ⟨rfl, rfl, h1, h2, ra_in 535 (by decide +kernel) (by decide +kernel), ra_in 74 (by decide +kernel) (by decide +kernel), by decide +kernel, by decide +kernel⟩
set_option maxRecDepth 100000 in
theorem im_Jlen : Cond.instanceMethod (mi_Jlen).1 ∈ ra_WS := ra_in 533 (by decide +kernel) (by decide +kernel)
set_option maxRecDepth 100000 in
theorem se_Jlen : Cond.selects (mi_Jlen).1.cls (mi_Jlen).1 (mi_Jlen).1 ∈ ra_WS := ra_in 534 (by decide +kernel) (by decide +kernel)
theorem d_Jlen_0 : decode prog_17_method_54_code 0 = .ok (.aload_n 0, 1) := by decide +kernel
theorem d_Jlen_1 : decode prog_17_method_54_code 1 = .ok (.getfield 9, 3) := by decide +kernel
theorem d_Jlen_4 : decode prog_17_method_54_code 4 = .ok (.arraylength, 1) := by decide +kernel
theorem d_Jlen_5 : decode prog_17_method_54_code 5 = .ok (.aload_n 0, 1) := by decide +kernel
theorem d_Jlen_6 : decode prog_17_method_54_code 6 = .ok (.invokevirtual 335, 3) := by decide +kernel
theorem d_Jlen_9 : decode prog_17_method_54_code 9 = .ok (.ishr, 1) := by decide +kernel
theorem d_Jlen_10 : decode prog_17_method_54_code 10 = .ok (.ireturn, 1) := by decide +kernel
def rm_Jcod : Room := { frames := 1, cells := 0, slots := 0, locals := 64 }
abbrev mi_Jcod : ra_MI := (⟨cn_JS, "coder", "()B"⟩, prog_17_method_152_code, 1, (some .byte), rm_Jcod, 1)
set_option maxRecDepth 100000 in
theorem co_Jcod {R : Room} (h1 : 1 + 1 ≤ R.frames) (h2 : 8 + (1 + 11) + 64 ≤ R.locals) : ra_CO R mi_Jcod := ⟨rfl, rfl, h1, h2, ra_in 539 (by decide +kernel) (by decide +kernel), ra_in 74 (by decide +kernel) (by decide +kernel), by decide +kernel, by decide +kernel⟩
set_option maxRecDepth 100000 in
theorem im_Jcod : Cond.instanceMethod (mi_Jcod).1 ∈ ra_WS := ra_in 537 (by decide +kernel) (by decide +kernel)
set_option maxRecDepth 100000 in
theorem se_Jcod : Cond.selects (mi_Jcod).1.cls (mi_Jcod).1 (mi_Jcod).1 ∈ ra_WS := ra_in 538 (by decide +kernel) (by decide +kernel)
theorem d_Jcod_0 : decode prog_17_method_152_code 0 = .ok (.getstatic 38, 3) := by decide +kernel
theorem d_Jcod_3 : decode prog_17_method_152_code 3 = .ok (.ifCond .eq 10, 3) := by decide +kernel
theorem d_Jcod_6 : decode prog_17_method_152_code 6 = .ok (.aload_n 0, 1) := by decide +kernel
theorem d_Jcod_7 : decode prog_17_method_152_code 7 = .ok (.getfield 15, 3) := by decide +kernel
theorem d_Jcod_10 : decode prog_17_method_152_code 10 = .ok (.goto 4, 3) := by decide +kernel
theorem d_Jcod_13 : decode prog_17_method_152_code 13 = .ok (.iconst 1, 1) := by decide +kernel
theorem d_Jcod_14 : decode prog_17_method_152_code 14 = .ok (.ireturn, 1) := by decide +kernel
def rm_Jlix : Room := { frames := 2, cells := 0, slots := 0, locals := 89 }
abbrev mi_Jlix : ra_MI := (⟨cn_JL, "indexOf", "([BIII)I"⟩, prog_18_method_22_code, 4, (some .int), rm_Jlix, 4)
set_option maxRecDepth 100000 in
theorem co_Jlix {R : Room} (h1 : 2 + 1 ≤ R.frames) (h2 : 8 + (4 + 11) + 89 ≤ R.locals) : ra_CO R mi_Jlix := ⟨rfl, rfl, h1, h2, ra_in 542 (by decide +kernel) (by decide +kernel), ra_in 75 (by decide +kernel) (by decide +kernel), by decide +kernel, by decide +kernel⟩
set_option maxRecDepth 100000 in
theorem st_Jlix : Cond.static (mi_Jlix).1 ∈ ra_WS := ra_in 541 (by decide +kernel) (by decide +kernel)
theorem d_Jlix_0 : decode prog_18_method_22_code 0 = .ok (.iload_n 1, 1) := by decide +kernel
theorem d_Jlix_1 : decode prog_18_method_22_code 1 = .ok (.invokestatic 88, 3) := by decide +kernel
theorem d_Jlix_4 : decode prog_18_method_22_code 4 = .ok (.ifCond .ne 5, 3) := by decide +kernel
theorem d_Jlix_7 : decode prog_18_method_22_code 7 = .ok (.iconst (-1), 1) := by decide +kernel
theorem d_Jlix_8 : decode prog_18_method_22_code 8 = .ok (.ireturn, 1) := by decide +kernel
theorem d_Jlix_9 : decode prog_18_method_22_code 9 = .ok (.iload_n 2, 1) := by decide +kernel
theorem d_Jlix_10 : decode prog_18_method_22_code 10 = .ok (.iconst 0, 1) := by decide +kernel
theorem d_Jlix_11 : decode prog_18_method_22_code 11 = .ok (.invokestatic 92, 3) := by decide +kernel
theorem d_Jlix_14 : decode prog_18_method_22_code 14 = .ok (.istore_n 2, 1) := by decide +kernel
theorem d_Jlix_15 : decode prog_18_method_22_code 15 = .ok (.iload_n 3, 1) := by decide +kernel
theorem d_Jlix_16 : decode prog_18_method_22_code 16 = .ok (.aload_n 0, 1) := by decide +kernel
theorem d_Jlix_17 : decode prog_18_method_22_code 17 = .ok (.arraylength, 1) := by decide +kernel
theorem d_Jlix_18 : decode prog_18_method_22_code 18 = .ok (.invokestatic 38, 3) := by decide +kernel
theorem d_Jlix_21 : decode prog_18_method_22_code 21 = .ok (.istore_n 3, 1) := by decide +kernel
theorem d_Jlix_22 : decode prog_18_method_22_code 22 = .ok (.iload_n 2, 1) := by decide +kernel
theorem d_Jlix_23 : decode prog_18_method_22_code 23 = .ok (.iload_n 3, 1) := by decide +kernel
theorem d_Jlix_24 : decode prog_18_method_22_code 24 = .ok (.if_icmp .lt 5, 3) := by decide +kernel
theorem d_Jlix_27 : decode prog_18_method_22_code 27 = .ok (.iconst (-1), 1) := by decide +kernel
theorem d_Jlix_28 : decode prog_18_method_22_code 28 = .ok (.ireturn, 1) := by decide +kernel
theorem d_Jlix_29 : decode prog_18_method_22_code 29 = .ok (.aload_n 0, 1) := by decide +kernel
theorem d_Jlix_30 : decode prog_18_method_22_code 30 = .ok (.iload_n 1, 1) := by decide +kernel
theorem d_Jlix_31 : decode prog_18_method_22_code 31 = .ok (.iload_n 2, 1) := by decide +kernel
theorem d_Jlix_32 : decode prog_18_method_22_code 32 = .ok (.iload_n 3, 1) := by decide +kernel
theorem d_Jlix_33 : decode prog_18_method_22_code 33 = .ok (.invokestatic 95, 3) := by decide +kernel
theorem d_Jlix_36 : decode prog_18_method_22_code 36 = .ok (.ireturn, 1) := by decide +kernel
def rm_Jcan : Room := { frames := 1, cells := 0, slots := 0, locals := 64 }
abbrev mi_Jcan : ra_MI := (⟨cn_JL, "canEncode", "(I)Z"⟩, prog_18_method_4_code, 1, (some .boolean), rm_Jcan, 1)
set_option maxRecDepth 100000 in
theorem co_Jcan {R : Room} (h1 : 1 + 1 ≤ R.frames) (h2 : 8 + (1 + 11) + 64 ≤ R.locals) : ra_CO R mi_Jcan := ⟨rfl, rfl, h1, h2, ra_in 545 (by decide +kernel) (by decide +kernel), ra_in 75 (by decide +kernel) (by decide +kernel), by decide +kernel, by decide +kernel⟩
set_option maxRecDepth 100000 in
theorem st_Jcan : Cond.static (mi_Jcan).1 ∈ ra_WS := ra_in 544 (by decide +kernel) (by decide +kernel)
theorem d_Jcan_0 : decode prog_18_method_4_code 0 = .ok (.iload_n 0, 1) := by decide +kernel
theorem d_Jcan_1 : decode prog_18_method_4_code 1 = .ok (.ifCond .lt 14, 3) := by decide +kernel
theorem d_Jcan_4 : decode prog_18_method_4_code 4 = .ok (.iload_n 0, 1) := by decide +kernel
theorem d_Jcan_5 : decode prog_18_method_4_code 5 = .ok (.sipush 255, 3) := by decide +kernel
theorem d_Jcan_8 : decode prog_18_method_4_code 8 = .ok (.if_icmp .gt 7, 3) := by decide +kernel
theorem d_Jcan_11 : decode prog_18_method_4_code 11 = .ok (.iconst 1, 1) := by decide +kernel
theorem d_Jcan_12 : decode prog_18_method_4_code 12 = .ok (.goto 4, 3) := by decide +kernel
theorem d_Jcan_15 : decode prog_18_method_4_code 15 = .ok (.iconst 0, 1) := by decide +kernel
theorem d_Jcan_16 : decode prog_18_method_4_code 16 = .ok (.ireturn, 1) := by decide +kernel
def rm_Jixc : Room := { frames := 1, cells := 0, slots := 0, locals := 64 }
abbrev mi_Jixc : ra_MI := (⟨cn_JL, "indexOfChar", "([BIII)I"⟩, prog_18_method_23_code, 6, (some .int), rm_Jixc, 4)
set_option maxRecDepth 100000 in
theorem co_Jixc {R : Room} (h1 : 1 + 1 ≤ R.frames) (h2 : 8 + (6 + 11) + 64 ≤ R.locals) : ra_CO R mi_Jixc := ⟨rfl, rfl, h1, h2, ra_in 554 (by decide +kernel) (by decide +kernel), ra_in 75 (by decide +kernel) (by decide +kernel), by decide +kernel, by decide +kernel⟩
set_option maxRecDepth 100000 in
theorem st_Jixc : Cond.static (mi_Jixc).1 ∈ ra_WS := ra_in 553 (by decide +kernel) (by decide +kernel)
theorem d_Jixc_0 : decode prog_18_method_23_code 0 = .ok (.iload_n 1, 1) := by decide +kernel
theorem d_Jixc_1 : decode prog_18_method_23_code 1 = .ok (.i2b, 1) := by decide +kernel
theorem d_Jixc_2 : decode prog_18_method_23_code 2 = .ok (.istore 4, 2) := by decide +kernel
theorem d_Jixc_4 : decode prog_18_method_23_code 4 = .ok (.iload_n 2, 1) := by decide +kernel
theorem d_Jixc_5 : decode prog_18_method_23_code 5 = .ok (.istore 5, 2) := by decide +kernel
theorem d_Jixc_7 : decode prog_18_method_23_code 7 = .ok (.iload 5, 2) := by decide +kernel
theorem d_Jixc_9 : decode prog_18_method_23_code 9 = .ok (.iload_n 3, 1) := by decide +kernel
theorem d_Jixc_10 : decode prog_18_method_23_code 10 = .ok (.if_icmp .ge 21, 3) := by decide +kernel
theorem d_Jixc_13 : decode prog_18_method_23_code 13 = .ok (.aload_n 0, 1) := by decide +kernel
theorem d_Jixc_14 : decode prog_18_method_23_code 14 = .ok (.iload 5, 2) := by decide +kernel
theorem d_Jixc_16 : decode prog_18_method_23_code 16 = .ok (.baload, 1) := by decide +kernel
theorem d_Jixc_17 : decode prog_18_method_23_code 17 = .ok (.iload 4, 2) := by decide +kernel
theorem d_Jixc_19 : decode prog_18_method_23_code 19 = .ok (.if_icmp .ne 6, 3) := by decide +kernel
theorem d_Jixc_22 : decode prog_18_method_23_code 22 = .ok (.iload 5, 2) := by decide +kernel
theorem d_Jixc_24 : decode prog_18_method_23_code 24 = .ok (.ireturn, 1) := by decide +kernel
theorem d_Jixc_25 : decode prog_18_method_23_code 25 = .ok (.iinc 5 1, 3) := by decide +kernel
theorem d_Jixc_28 : decode prog_18_method_23_code 28 = .ok (.goto (-21), 3) := by decide +kernel
theorem d_Jixc_31 : decode prog_18_method_23_code 31 = .ok (.iconst (-1), 1) := by decide +kernel
theorem d_Jixc_32 : decode prog_18_method_23_code 32 = .ok (.ireturn, 1) := by decide +kernel
theorem d_Jt_0 : decode prog_10_method_9_code 0 = .ok (.ldc 94, 2) := by decide +kernel
theorem d_Jt_2 : decode prog_10_method_9_code 2 = .ok (.aload_n 0, 1) := by decide +kernel
theorem d_Jt_3 : decode prog_10_method_9_code 3 = .ok (.getfield 14, 3) := by decide +kernel
theorem d_Jt_6 : decode prog_10_method_9_code 6 = .ok (.getfield 55, 3) := by decide +kernel
theorem d_Jt_9 : decode prog_10_method_9_code 9 = .ok (.iload_n 1, 1) := by decide +kernel
theorem d_Jt_10 : decode prog_10_method_9_code 10 = .ok (.iaload, 1) := by decide +kernel
theorem d_Jt_11 : decode prog_10_method_9_code 11 = .ok (.i2c, 1) := by decide +kernel
theorem d_Jt_12 : decode prog_10_method_9_code 12 = .ok (.invokevirtual 96, 3) := by decide +kernel
theorem d_Jt_15 : decode prog_10_method_9_code 15 = .ok (.ireturn, 1) := by decide +kernel
set_option maxRecDepth 100000 in
theorem ml_Jt : Cond.methodLink cn_V 96 (mi_Jix1).1 ∈ ra_WS := ra_in 518 (by decide +kernel) (by decide +kernel)
set_option maxRecDepth 100000 in
theorem ml_J1 : Cond.methodLink cn_JS 633 (mi_Jix2).1 ∈ ra_WS := ra_in 522 (by decide +kernel) (by decide +kernel)
set_option maxRecDepth 100000 in
theorem ml_J2l : Cond.methodLink cn_JS 492 (mi_Jlat).1 ∈ ra_WS := ra_in 526 (by decide +kernel) (by decide +kernel)
set_option maxRecDepth 100000 in
theorem ml_J2n : Cond.methodLink cn_JS 505 (mi_Jlen).1 ∈ ra_WS := ra_in 532 (by decide +kernel) (by decide +kernel)
set_option maxRecDepth 100000 in
theorem ml_Jn : Cond.methodLink cn_JS 335 (mi_Jcod).1 ∈ ra_WS := ra_in 536 (by decide +kernel) (by decide +kernel)
set_option maxRecDepth 100000 in
theorem ml_J2x : Cond.methodLink cn_JS 637 (mi_Jlix).1 ∈ ra_WS := ra_in 540 (by decide +kernel) (by decide +kernel)
set_option maxRecDepth 100000 in
theorem ml_Jc : Cond.methodLink cn_JL 88 (mi_Jcan).1 ∈ ra_WS := ra_in 543 (by decide +kernel) (by decide +kernel)
set_option maxRecDepth 100000 in
theorem ml_Jx : Cond.methodLink cn_JL 95 (mi_Jixc).1 ∈ ra_WS := ra_in 552 (by decide +kernel) (by decide +kernel)
set_option maxRecDepth 100000 in
theorem ml_Jmax : Cond.methodLink cn_JL 92 Lib.Math.max.name ∈ ra_WS := ra_in 546 (by decide +kernel) (by decide +kernel)
set_option maxRecDepth 100000 in
theorem ml_Jmin : Cond.methodLink cn_JL 38 Lib.Math.min.name ∈ ra_WS := ra_in 549 (by decide +kernel) (by decide +kernel)
set_option maxRecDepth 100000 in
theorem fl_Jz : Cond.fieldLink cn_JS 38 cn_JS "COMPACT_STRINGS" "Z" ∈ ra_WS := ra_in 530 (by decide +kernel) (by decide +kernel)
set_option maxRecDepth 100000 in
theorem fl_Jc : Cond.fieldLink cn_JS 15 cn_JS "coder" "B" ∈ ra_WS := ra_in 1406 (by decide +kernel) (by decide +kernel)
set_option maxRecDepth 100000 in
theorem fl_Jv : Cond.fieldLink cn_JS 9 cn_JS "value" "[B" ∈ ra_WS := ra_in 1407 (by decide +kernel) (by decide +kernel)
/-- a contract over the whole world that writes nothing and answers an int -/
def rw_M (l : Launch) (X : ra_X) (y : ra_MI) (As : List Value) (σ : ra_St) (v : Int32) : Prop := Met l y.1 (.code y.1 y.2.1 y.2.2.1 y.2.2.2.1 :: ra_WS) y.2.2.2.2.1 (va_Pc As (ra_Wo X σ)) (ra_Qc X (fun r σ' => r = some (.int v) ∧ σ' = σ)) 0 0 (ra_A X)
theorem rw_blind {X : ra_X} {σ : ra_St} {As : List Value} : FrameBlind (va_Pc As (ra_Wo X σ)) := by
  intro a U g mk h
  obtain ⟨h1, h2, h3, h4, h5⟩ := h
  exact ⟨h1, h2, va_K.moved (u := U) (U := U.calling g mk a) (Vm.Alike.refl U.vm) h3, h4, ra_Ex.same (s := U) (U := U.calling g mk a) h5 rfl⟩
theorem rw_enter {l : Launch} {X : ra_X} {y : ra_MI} {As : List Value} {σ : ra_St} {v : Int32} (own : String) (hown : y.1.cls = own) (hpl : plainName y.1.cls = true) (hR : 1 ≤ y.2.2.2.2.1.frames ∧ 64 ≤ y.2.2.2.2.1.locals) (hn : (lg_sl As).length ≤ y.2.2.1)
    (hb : ∀ (p : Program) (e : Env) (s : State) (m : MethodId) (below : List Frame) (meth : Method) (c : Code) (ls : Array Slot), ra_Fx X p y.2.2.2.2.1 s m As.toArray c y.2.1 y.2.2.1 own → meth.sig.returnType = y.2.2.2.1 → meth.locks = false → va_P X.2.1 ra_cl (ra_wl X σ) s.heap → lv_has ls y.2.2.1 (lv_args 0 As) → W p l e y.2.2.2.2.1 s m As.toArray below meth c s.heap [] 0 0 (MQ below (ra_Qc X (fun r σ' => r = some (.int v) ∧ σ' = σ)) As.toArray s 0 0 (ra_A X)) (F0 m 0 ls [])) : rw_M l X y As σ v := by
  refine Met.ofW (cc := y.2.1) (maxL := y.2.2.1) (ret := y.2.2.2.1) hpl rfl ?_
  intro p e s m args below meth c s₁ B hml hv2
  obtain ⟨rfl, hP, hK, hinj, hEx⟩ := hv2
  have hts := atoms_spec (ws := .code y.1 y.2.1 y.2.2.1 y.2.2.2.1 :: ra_WS) B.pre
  have F : ra_Fx X p y.2.2.2.2.1 s m As.toArray c y.2.1 y.2.2.1 own := ⟨B.exec, B.bytes, hml, by rw [← hown]; exact findClass_of_methodNamed B.named, fun w hw => hts w (List.mem_cons_of_mem _ hw), hK, hinj, hEx, hR⟩
  have hl := lv_entry As (n := y.2.2.1) hn
  rw [lg_entry_eq]
  exact hb p e s m below meth c _ F B.returns B.notSynchronized hP hl
section RWC
variable {X : ra_X} {p : Program} {l : Launch} {e : Env} {R : Room} {s : State} {m : MethodId} {args : Array Value} {below : List Frame} {meth : Method} {c : Code} {nL : Nat} {Q : State → Prop} {cc : ByteArray} {own : String} {pc : Nat} {H : Heap} {locs : List Loc} {ls : Array Slot} {σ : ra_St} {cells slots : Nat}
/-- behind a call, whatever lies below on the stack -/
theorem rw_ran {st0 rest : List Value} {a : Array Value} {Z : ra_R} (hr : va_Run p l e R s m args below meth c H locs cells slots 0 0 (F0 m pc ls st0) rest (ra_Qc X Z a) (ra_A X)) (hS : va_S (ra_A X) s.heap H locs)
    (k : ∀ (r : Option Value) (σ' : ra_St) (H1 : Heap) (locs1 : List Loc), Z r σ' → va_P X.2.1 ra_cl (ra_wl X σ') H1 → va_S (ra_A X) s.heap H1 locs1 → W p l e R s m args below meth c H1 locs1 cells slots Q (F0 m (pc + 3) ls ((r.map (ra_tv X)).toList ++ rest))) : W p l e R s m args below meth c H locs cells slots Q (F0 m pc ls st0) := by
  intro T hT Y
  obtain ⟨v, st₀, t, T', L', h0, Y', hL, e1, e2, ⟨⟨r, σ', hv, hz, hp⟩, hsz, hk⟩, st⟩ := hr T hT Y
  cases hv
  rw [h0] at hsz hk
  have hS1 : va_S (ra_A X) s.heap T'.heap (locs ++ L') := ⟨Nat.le_trans hS.1 (by rw [e1]; exact hsz), fun q h1 h2 => by rw [e1, hk q (Nat.lt_of_lt_of_le h1 hS.1) h2]; exact hS.2.1 q h1 h2, fun q hq => by
    rcases List.mem_append.mp hq with z | z
    · exact hS.2.2 q z
    · exact hL q z⟩
  obtain ⟨t2, a1, b1⟩ := k r σ' T'.heap (locs ++ L') hz (by rw [e1]; exact hp) hS1 T' rfl Y'
  exact ⟨t2, st t2 a1, b1⟩
theorem rw_callV (F : ra_Fx X p R s m args c cc nL own) {y : ra_MI} {b : Nat} {As rest st0 : List Value} {v : Int32} {i : Nat} {lv : List (Nat × Value)} (hM : rw_M l X y (.ref b :: As) σ v) (G : ra_CO R y) (hn : (parseMethodDescriptor y.1.desc).map (fun d => d.parameters.length) = some As.length) (hw : Cond.methodLink own i y.1 ∈ ra_WS) (hw2 : Cond.instanceMethod y.1 ∈ ra_WS) (hw3 : Cond.selects y.1.cls y.1 y.1 ∈ ra_WS) (hd : decode cc pc = .ok (.invokevirtual i, 3))
    (hP : va_P X.2.1 ra_cl (ra_wl X σ) H) (hS : va_S (ra_A X) s.heap H locs) (hl : lv_has ls nL lv) (hrc : ∃ cell : Cell, H[b]? = some cell ∧ cell.vm.isStatics = false ∧ s.vm.findClass y.1.cls = some cell.cls) (hst : st0 = As.reverse ++ .ref b :: rest) (hroom : (rest.map fun v => v.category).sum ≤ 8)
    (k : ∀ (H1 : Heap) (locs1 : List Loc), va_P X.2.1 ra_cl (ra_wl X σ) H1 → va_S (ra_A X) s.heap H1 locs1 → W p l e R s m args below meth c H1 locs1 0 0 Q (F0 m (pc + 3) ls (.int v :: rest))) : W p l e R s m args below meth c H locs 0 0 Q (F0 m pc ls st0) := by
  subst hst
  obtain ⟨g1, g2, g3, g4, g5, g6, g7, g8⟩ := G
  have cb : CallB R s args own i y.1 y.2.1 y.2.2.1 y.2.2.2.1 (.code y.1 y.2.1 y.2.2.1 y.2.2.2.1 :: ra_WS) y.2.2.2.2.1 0 0 As.length := callB_of As.length F.2.2.2.2.1 (ra_goodAll g5) rfl g1 g2 (F.2.2.2.2.1 _ g6) (F.2.2.2.2.1 _ hw) ⟨g7, g8, hn⟩ ⟨g3, g4⟩
  have hr := va_runV (p := p) (e := e) (below := below) (meth := meth) (H := H) (locs := locs) (cells := 0) (slots := 0) (C := y.1.cls) (b := b) (g := F0 m pc ls (As.reverse ++ .ref b :: rest)) (As := As) (rest := rest) (cc := cc) (nL := nL) (Ts := ra_WS) ⟨F.1, F.2.1, F.2.2.1, F.2.2.2.1, F.2.2.2.2.1⟩ hM ⟨cb, F.2.2.2.2.1 _ hw2, F.2.2.2.2.1 _ hw3⟩ ⟨rw_blind, hrc, fun U hU hW => ⟨rfl, ra_Wo_at F hP hS U hU hW⟩⟩ rfl rfl hl.1 rfl (lv_room hroom) hd ⟨Nat.zero_le _, Nat.zero_le _⟩
  refine rw_ran hr hS (fun r σ' H1 locs1 hz hP1 hS1 => ?_)
  obtain ⟨rfl, rfl⟩ := hz
  exact k H1 locs1 hP1 hS1
theorem rw_callS (F : ra_Fx X p R s m args c cc nL own) {y : ra_MI} {As rest st0 : List Value} {v : Int32} {i : Nat} {lv : List (Nat × Value)} (hM : rw_M l X y As σ v) (G : ra_CO R y) (hn : (parseMethodDescriptor y.1.desc).map (fun d => d.parameters.length) = some As.length) (hw : Cond.methodLink own i y.1 ∈ ra_WS) (hw2 : Cond.static y.1 ∈ ra_WS) (hd : decode cc pc = .ok (.invokestatic i, 3))
    (hP : va_P X.2.1 ra_cl (ra_wl X σ) H) (hS : va_S (ra_A X) s.heap H locs) (hl : lv_has ls nL lv) (hst : st0 = As.reverse ++ rest) (hroom : (rest.map fun v => v.category).sum ≤ 8)
    (k : ∀ (H1 : Heap) (locs1 : List Loc), va_P X.2.1 ra_cl (ra_wl X σ) H1 → va_S (ra_A X) s.heap H1 locs1 → W p l e R s m args below meth c H1 locs1 0 0 Q (F0 m (pc + 3) ls (.int v :: rest))) : W p l e R s m args below meth c H locs 0 0 Q (F0 m pc ls st0) := by
  subst hst
  obtain ⟨g1, g2, g3, g4, g5, g6, g7, g8⟩ := G
  have cb : CallB R s args own i y.1 y.2.1 y.2.2.1 y.2.2.2.1 (.code y.1 y.2.1 y.2.2.1 y.2.2.2.1 :: ra_WS) y.2.2.2.2.1 0 0 As.length := callB_of As.length F.2.2.2.2.1 (ra_goodAll g5) rfl g1 g2 (F.2.2.2.2.1 _ g6) (F.2.2.2.2.1 _ hw) ⟨g7, g8, hn⟩ ⟨g3, g4⟩
  have hr := va_runS (p := p) (e := e) (below := below) (meth := meth) (H := H) (locs := locs) (cells := 0) (slots := 0) (g := F0 m pc ls (As.reverse ++ rest)) (As := As) (rest := rest) (cc := cc) (nL := nL) (Ts := ra_WS) ⟨F.1, F.2.1, F.2.2.1, F.2.2.2.1, F.2.2.2.2.1⟩ hM ⟨cb, F.2.2.2.2.1 _ hw2⟩ ⟨rw_blind, fun U hU hW => ⟨rfl, ra_Wo_at F hP hS U hU hW⟩⟩ rfl rfl hl.1 rfl (lv_room hroom) hd ⟨Nat.zero_le _, Nat.zero_le _⟩
  refine rw_ran hr hS (fun r σ' H1 locs1 hz hP1 hS1 => ?_)
  obtain ⟨rfl, rfl⟩ := hz
  exact k H1 locs1 hP1 hS1
/-- the text at a place of the machine -/
theorem rw_txt (F : ra_Fx X p R s m args c cc nL own) : va_O cn_JS X.2.2.2.1 (ra_A X) s s.heap ∧ va_OF cn_JS "coder" "B" (.int 0) X.2.2.2.1 (ra_A X) s s.heap ∧ va_OF cn_JS "value" "[B" (.ref X.2.2.2.2) X.2.2.2.1 (ra_A X) s s.heap ∧ va_T .byte X.2.2.2.2 4 (fun j => .int (([107, 103, 102, 108] : List Int32).getD j 0)) (ra_A X) s s.heap ∧ va_Z cn_JS "COMPACT_STRINGS" "Z" (.int 1) (ra_A X) s s.heap :=
  have h := F.2.2.2.2.2.2.2.1
  have h1 := h.2.2.1.1 0 (by decide)
  ⟨h1.1, h1.2.1, h1.2.2.1, h1.2.2.2, h.2.2.2⟩
theorem rw_rc (F : ra_Fx X p R s m args c cc nL own) (hS : va_S (ra_A X) s.heap H locs) : ∃ cell : Cell, H[X.2.2.2.1]? = some cell ∧ cell.vm.isStatics = false ∧ s.vm.findClass cn_JS = some cell.cls := by
  obtain ⟨cell, h1, h2, h3, -⟩ := (rw_txt F).1.kept hS.2.1
  exact ⟨cell, h1, h2, h3⟩
end RWC
section RWJ
variable {l : Launch} {X : ra_X} {σ : ra_St}
theorem k_Jcod : rw_M l X mi_Jcod [.ref X.2.2.2.1] σ 0 := by
  refine rw_enter cn_JS rfl (by decide +kernel) ⟨by decide, by decide⟩ (Nat.le_of_ble_eq_true rfl) ?_
  intro p e s m below meth c ls F hr hlk hP hl
  obtain ⟨-, hco, -, -, hZ⟩ := rw_txt F
  have hS : va_S (ra_A X) s.heap s.heap [] := va_S.rf
  have hl : lv_has ls 1 [(0, .ref X.2.2.2.1)] := hl
  refine va_gets (ref := cn_JS) F.1 F.2.1 hZ hS F.2.2.2.1 (F.2.2.2.2.1 _ fl_Jz) (fun x h => h) d_Jcod_0 ?_
  refine lv_if_eq (tgt := 13) F.1 F.2.1 d_Jcod_3 (by decide) (fun h => absurd h (by decide)) (fun _ => ?_)
  refine lv_aload_n F.1 F.2.1 d_Jcod_6 rfl (lv_at hl 0 rfl) ?_
  refine vk_getf (ref := cn_JS) F.1 F.2.1 hco hS F.2.2.2.1 (F.2.2.2.2.1 _ fl_Jc) (fun x h => h) d_Jcod_7 ?_
  refine lv_goto (tgt := 14) F.1 F.2.1 d_Jcod_10 (by decide) ?_
  exact W.zret F.1 F.2.1 hr rfl (fun t ht _ => ra_end (v := some (.int 0)) (Z := fun r σ' => r = some (.int 0) ∧ σ' = σ) ⟨rfl, rfl⟩ hP hS t ht) hS.2.2 d_Jcod_14 hlk
theorem k_Jlat : rw_M l X mi_Jlat [.ref X.2.2.2.1] σ 1 := by
  refine rw_enter cn_JS rfl (by decide +kernel) ⟨by decide, by decide⟩ (Nat.le_of_ble_eq_true rfl) ?_
  intro p e s m below meth c ls F hr hlk hP hl
  obtain ⟨-, hco, -, -, hZ⟩ := rw_txt F
  have hS : va_S (ra_A X) s.heap s.heap [] := va_S.rf
  have hl : lv_has ls 1 [(0, .ref X.2.2.2.1)] := hl
  refine va_gets (ref := cn_JS) F.1 F.2.1 hZ hS F.2.2.2.1 (F.2.2.2.2.1 _ fl_Jz) (fun x h => h) d_Jlat_0 ?_
  refine lv_if_eq (tgt := 17) F.1 F.2.1 d_Jlat_3 (by decide) (fun h => absurd h (by decide)) (fun _ => ?_)
  refine lv_aload_n F.1 F.2.1 d_Jlat_6 rfl (lv_at hl 0 rfl) ?_
  refine vk_getf (ref := cn_JS) F.1 F.2.1 hco hS F.2.2.2.1 (F.2.2.2.2.1 _ fl_Jc) (fun x h => h) d_Jlat_7 ?_
  refine lv_if_ne (tgt := 17) F.1 F.2.1 d_Jlat_10 (by decide) (fun h => absurd rfl h) (fun _ => ?_)
  refine lv_iconst (v := 1) F.1 F.2.1 d_Jlat_13 (by decide) ?_
  refine lv_goto (tgt := 18) F.1 F.2.1 d_Jlat_14 (by decide) ?_
  exact W.zret F.1 F.2.1 hr rfl (fun t ht _ => ra_end (v := some (.int 1)) (Z := fun r σ' => r = some (.int 1) ∧ σ' = σ) ⟨rfl, rfl⟩ hP hS t ht) hS.2.2 d_Jlat_18 hlk
theorem k_Jlen : rw_M l X mi_Jlen [.ref X.2.2.2.1] σ 4 := by
  refine rw_enter cn_JS rfl (by decide +kernel) ⟨by decide, by decide⟩ (Nat.le_of_ble_eq_true rfl) ?_
  intro p e s m below meth c ls F hr hlk hP hl
  obtain ⟨-, -, hva, hby, -⟩ := rw_txt F
  have hS : va_S (ra_A X) s.heap s.heap [] := va_S.rf
  have hl : lv_has ls 1 [(0, .ref X.2.2.2.1)] := hl
  refine lv_aload_n F.1 F.2.1 d_Jlen_0 rfl (lv_at hl 0 rfl) ?_
  refine vk_getf (ref := cn_JS) F.1 F.2.1 hva hS F.2.2.2.1 (F.2.2.2.2.1 _ fl_Jv) (fun x h => h) d_Jlen_1 ?_
  refine va_tlen (v := 4) F.1 F.2.1 hby hS rfl d_Jlen_4 ?_
  refine lv_aload_n F.1 F.2.1 d_Jlen_5 rfl (lv_at hl 0 rfl) ?_
  refine rw_callV (As := []) (rest := [.int 4]) F k_Jcod (co_Jcod (by decide) (by decide)) (by show _ = some 0; decide +kernel) ml_Jn im_Jcod se_Jcod d_Jlen_6 hP hS hl (rw_rc F hS) rfl (Nat.le_of_ble_eq_true rfl) (fun H1 locs1 hP hS => ?_)
  refine lv_ishr F.1 F.2.1 d_Jlen_9 ?_
  rw [show (4 : Int32) >>> ((0 : Int32) &&& 31) = 4 by decide]
  exact W.iret F.1 F.2.1 hr (fun t ht _ => ra_end (v := some (.int 4)) (Z := fun r σ' => r = some (.int 4) ∧ σ' = σ) ⟨rfl, rfl⟩ hP hS t ht) hS.2.2 d_Jlen_10 hlk
theorem k_Jcan {n : Nat} (hn : n < 256) : rw_M l X mi_Jcan [.int (nI n)] σ 1 := by
  refine rw_enter cn_JL rfl (by decide +kernel) ⟨by decide, by decide⟩ (Nat.le_of_ble_eq_true rfl) ?_
  intro p e s m below meth c ls F hr hlk hP hl
  have hS : va_S (ra_A X) s.heap s.heap [] := va_S.rf
  have hl : lv_has ls 1 [(0, .int (nI n))] := hl
  refine lv_iload_n F.1 F.2.1 d_Jcan_0 rfl (lv_at hl 0 rfl) ?_
  refine lv_if_lt (tgt := 15) F.1 F.2.1 d_Jcan_1 (by decide) (fun h => absurd h (nI_pos (by omega))) (fun _ => ?_)
  refine lv_iload_n F.1 F.2.1 d_Jcan_4 rfl (lv_at hl 0 rfl) ?_
  refine lv_sipush (v := 255) F.1 F.2.1 d_Jcan_5 (by decide) ?_
  refine lv_icmp_gt (tgt := 15) F.1 F.2.1 d_Jcan_8 (by decide) (fun h => absurd h (by rw [n_255, n_lt (by omega) (by omega)]; omega)) (fun _ => ?_)
  refine lv_iconst (v := 1) F.1 F.2.1 d_Jcan_11 (by decide) ?_
  refine lv_goto (tgt := 16) F.1 F.2.1 d_Jcan_12 (by decide) ?_
  exact W.zret F.1 F.2.1 hr rfl (fun t ht _ => ra_end (v := some (.int 1)) (Z := fun r σ' => r = some (.int 1) ∧ σ' = σ) ⟨rfl, rfl⟩ hP hS t ht) hS.2.2 d_Jcan_16 hlk
def sx (b : Int32) : Nat → Int32
  | 0 => -1
  | r + 1 => if ([107, 103, 102, 108] : List Int32).getD (3 - r) 0 = b then nI (3 - r) else sx b r
theorem sx_ok : ∀ n, n < 256 → sx (nI n).toInt8.toInt32 4 = if ab_temp n < 4 then nI (ab_temp n) else -1 := by decide +kernel
theorem k_Jixc {n : Nat} {v : Int32} (hv : sx (nI n).toInt8.toInt32 4 = v) : rw_M l X mi_Jixc [.ref X.2.2.2.2, .int (nI n), .int 0, .int 4] σ v := by
  refine rw_enter cn_JL rfl (by decide +kernel) ⟨by decide, by decide⟩ (Nat.le_of_ble_eq_true rfl) ?_
  intro p e s m below meth c ls F hr hlk hP hl
  obtain ⟨-, -, -, hby, -⟩ := rw_txt F
  have hS : va_S (ra_A X) s.heap s.heap [] := va_S.rf
  have hl : lv_has ls 6 [(0, .ref X.2.2.2.2), (1, .int (nI n)), (2, .int 0), (3, .int 4)] := hl
  generalize hB : (nI n).toInt8.toInt32 = B at hv
  have loop : ∀ (r : Nat) (ls : Array Slot), r ≤ 4 → sx B r = v → lv_has ls 6 [(5, .int (nI (4 - r))), (4, .int B), (0, .ref X.2.2.2.2), (1, .int (nI n)), (2, .int 0), (3, .int 4)] → W p l e rm_Jixc s m [.ref X.2.2.2.2, .int (nI n), .int 0, .int 4].toArray below meth c s.heap [] 0 0 (MQ below (ra_Qc X (fun r σ' => r = some (.int v) ∧ σ' = σ)) [.ref X.2.2.2.2, .int (nI n), .int 0, .int 4].toArray s 0 0 (ra_A X)) (F0 m 7 ls []) := by
    intro r
    induction r with
    | zero =>
      intro ls _ hv hl
      refine lv_iload F.1 F.2.1 d_Jixc_7 (lv_at hl 0 rfl) ?_
      refine lv_iload_n F.1 F.2.1 d_Jixc_9 rfl (lv_at hl 5 rfl) ?_
      refine lv_icmp_ge (tgt := 31) F.1 F.2.1 d_Jixc_10 (by decide) (fun _ => ?_) (fun h => absurd (by decide) h)
      refine lv_iconst (v := -1) F.1 F.2.1 d_Jixc_31 (by decide) ?_
      exact W.iret F.1 F.2.1 hr (fun t ht _ => ra_end (v := some (.int (-1))) (Z := fun r σ' => r = some (.int v) ∧ σ' = σ) ⟨by rw [← hv]; rfl, rfl⟩ hP hS t ht) hS.2.2 d_Jixc_32 hlk
    | succ r ih =>
      intro ls hr4 hv hl
      rw [show 4 - (r + 1) = 3 - r by omega] at hl
      rw [sx] at hv
      refine lv_iload F.1 F.2.1 d_Jixc_7 (lv_at hl 0 rfl) ?_
      refine lv_iload_n F.1 F.2.1 d_Jixc_9 rfl (lv_at hl 5 rfl) ?_
      refine lv_icmp_ge (tgt := 31) F.1 F.2.1 d_Jixc_10 (by decide) (fun h => absurd h (by rw [n_4, n_le (by omega) (by omega)]; omega)) (fun _ => ?_)
      refine lv_aload_n F.1 F.2.1 d_Jixc_13 rfl (lv_at hl 2 rfl) ?_
      refine lv_iload F.1 F.2.1 d_Jixc_14 (lv_at hl 0 rfl) ?_
      refine va_tb (v := .int (([107, 103, 102, 108] : List Int32).getD (3 - r) 0)) F.1 F.2.1 hby hS (vi (by omega) (by decide)) (by rw [n_cl (by omega)]) d_Jixc_16 ?_
      refine lv_iload F.1 F.2.1 d_Jixc_17 (lv_at hl 1 rfl) ?_
      refine lv_icmp_ne (tgt := 25) F.1 F.2.1 d_Jixc_19 (by decide) (fun q => ?_) (fun q => ?_)
      · rw [if_neg q] at hv
        refine lv_iinc (v := nI (3 - r + 1)) (lv' := [(5, .int (nI (3 - r + 1))), (4, .int B), (0, .ref X.2.2.2.2), (1, .int (nI n)), (2, .int 0), (3, .int 4)]) F.1 F.2.1 d_Jixc_25 hl (k := 0) rfl (by rw [nI_succ]; rfl) (by decide) rfl (fun ls hl => ?_)
        refine lv_goto (tgt := 7) F.1 F.2.1 d_Jixc_28 (by decide) ?_
        refine ih ls (by omega) hv ?_
        rw [show 4 - r = 3 - r + 1 by omega]
        exact hl
      · rw [if_pos q] at hv
        refine lv_iload F.1 F.2.1 d_Jixc_22 (lv_at hl 0 rfl) ?_
        exact W.iret F.1 F.2.1 hr (fun t ht _ => ra_end (v := some (.int (nI (3 - r)))) (Z := fun r σ' => r = some (.int v) ∧ σ' = σ) ⟨by rw [← hv], rfl⟩ hP hS t ht) hS.2.2 d_Jixc_24 hlk
  refine lv_iload_n F.1 F.2.1 d_Jixc_0 rfl (lv_at hl 1 rfl) ?_
  refine lv_i2b (v := B) F.1 F.2.1 d_Jixc_1 hB ?_
  refine lv_istore (lv' := [(4, .int B), (0, .ref X.2.2.2.2), (1, .int (nI n)), (2, .int 0), (3, .int 4)]) F.1 F.2.1 d_Jixc_2 hl (by decide) rfl (fun ls hl => ?_)
  refine lv_iload_n F.1 F.2.1 d_Jixc_4 rfl (lv_at hl 3 rfl) ?_
  refine lv_istore (lv' := [(5, .int 0), (4, .int B), (0, .ref X.2.2.2.2), (1, .int (nI n)), (2, .int 0), (3, .int 4)]) F.1 F.2.1 d_Jixc_5 hl (by decide) rfl (fun ls hl => ?_)
  exact loop 4 ls (by decide) hv hl
theorem k_Jlix {n : Nat} (hn : n < 256) {v : Int32} (hv : sx (nI n).toInt8.toInt32 4 = v) : rw_M l X mi_Jlix [.ref X.2.2.2.2, .int (nI n), .int 0, .int 4] σ v := by
  refine rw_enter cn_JL rfl (by decide +kernel) ⟨by decide, by decide⟩ (Nat.le_of_ble_eq_true rfl) ?_
  intro p e s m below meth c ls F hr hlk hP hl
  obtain ⟨-, -, -, hby, -⟩ := rw_txt F
  have hS : va_S (ra_A X) s.heap s.heap [] := va_S.rf
  have hl : lv_has ls 4 [(0, .ref X.2.2.2.2), (1, .int (nI n)), (2, .int 0), (3, .int 4)] := hl
  refine lv_iload_n F.1 F.2.1 d_Jlix_0 rfl (lv_at hl 1 rfl) ?_
  refine rw_callS (As := [.int (nI n)]) (rest := []) F (k_Jcan hn) (co_Jcan (by decide) (by decide)) (by show _ = some 1; decide +kernel) ml_Jc st_Jcan d_Jlix_1 hP hS hl rfl (Nat.le_of_ble_eq_true rfl) (fun H1 locs1 hP hS => ?_)
  refine lv_if_ne (tgt := 9) F.1 F.2.1 d_Jlix_4 (by decide) (fun _ => ?_) (fun h => absurd h (by decide))
  refine lv_iload_n F.1 F.2.1 d_Jlix_9 rfl (lv_at hl 2 rfl) ?_
  refine lv_iconst (v := 0) F.1 F.2.1 d_Jlix_10 (by decide) ?_
  refine va_mmax F.1 F.2.1 (by rw [F.2.2.1, hl.1]) F.2.2.2.1 (F.2.2.2.2.1 _ ml_Jmax) (F.2.2.2.2.1 _ jw_max1) (F.2.2.2.2.1 _ jw_math) (F.2.2.2.2.1 _ jw_max3) (by decide) (by decide) (by decide) (by decide) d_Jlix_11 ?_
  rw [show (if (0 : Int32) < 0 then (0 : Int32) else 0) = 0 by decide]
  refine lv_istore_n (lv' := [(2, .int 0), (0, .ref X.2.2.2.2), (1, .int (nI n)), (3, .int 4)]) F.1 F.2.1 d_Jlix_14 rfl hl (by decide) rfl (fun ls hl => ?_)
  refine lv_iload_n F.1 F.2.1 d_Jlix_15 rfl (lv_at hl 3 rfl) ?_
  refine lv_aload_n F.1 F.2.1 d_Jlix_16 rfl (lv_at hl 1 rfl) ?_
  refine va_tlen (v := 4) F.1 F.2.1 hby hS rfl d_Jlix_17 ?_
  refine va_mmin F.1 F.2.1 (by rw [F.2.2.1, hl.1]) F.2.2.2.1 (F.2.2.2.2.1 _ ml_Jmin) (F.2.2.2.2.1 _ jw_min1) (F.2.2.2.2.1 _ jw_math) (F.2.2.2.2.1 _ jw_min3) (by decide) (by decide) (by decide) (by decide) d_Jlix_18 ?_
  rw [show (if (4 : Int32) < 4 then (4 : Int32) else 4) = 4 by decide]
  refine lv_istore_n (lv' := [(3, .int 4), (2, .int 0), (0, .ref X.2.2.2.2), (1, .int (nI n))]) F.1 F.2.1 d_Jlix_21 rfl hl (by decide) rfl (fun ls hl => ?_)
  refine lv_iload_n F.1 F.2.1 d_Jlix_22 rfl (lv_at hl 1 rfl) ?_
  refine lv_iload_n F.1 F.2.1 d_Jlix_23 rfl (lv_at hl 0 rfl) ?_
  refine lv_icmp_lt (tgt := 29) F.1 F.2.1 d_Jlix_24 (by decide) (fun _ => ?_) (fun h => absurd (by decide) h)
  refine lv_aload_n F.1 F.2.1 d_Jlix_29 rfl (lv_at hl 2 rfl) ?_
  refine lv_iload_n F.1 F.2.1 d_Jlix_30 rfl (lv_at hl 3 rfl) ?_
  refine lv_iload_n F.1 F.2.1 d_Jlix_31 rfl (lv_at hl 1 rfl) ?_
  refine lv_iload_n F.1 F.2.1 d_Jlix_32 rfl (lv_at hl 0 rfl) ?_
  refine rw_callS (As := [.ref X.2.2.2.2, .int (nI n), .int 0, .int 4]) (rest := []) F (k_Jixc hv) (co_Jixc (by decide) (by decide)) (by show _ = some 4; decide +kernel) ml_Jx st_Jixc d_Jlix_33 hP hS hl rfl (Nat.le_of_ble_eq_true rfl) (fun H1 locs1 hP hS => ?_)
  exact W.iret F.1 F.2.1 hr (fun t ht _ => ra_end (v := some (.int v)) (Z := fun r σ' => r = some (.int v) ∧ σ' = σ) ⟨rfl, rfl⟩ hP hS t ht) hS.2.2 d_Jlix_36 hlk
theorem k_Jix2 {n : Nat} (hn : n < 256) {v : Int32} (hv : sx (nI n).toInt8.toInt32 4 = v) : rw_M l X mi_Jix2 [.ref X.2.2.2.1, .int (nI n), .int 0] σ v := by
  refine rw_enter cn_JS rfl (by decide +kernel) ⟨by decide, by decide⟩ (Nat.le_of_ble_eq_true rfl) ?_
  intro p e s m below meth c ls F hr hlk hP hl
  obtain ⟨-, -, hva, -, -⟩ := rw_txt F
  have hS : va_S (ra_A X) s.heap s.heap [] := va_S.rf
  have hl : lv_has ls 3 [(0, .ref X.2.2.2.1), (1, .int (nI n)), (2, .int 0)] := hl
  refine lv_aload_n F.1 F.2.1 d_Jix2_0 rfl (lv_at hl 0 rfl) ?_
  refine rw_callV (As := []) (rest := []) F k_Jlat (co_Jlat (by decide) (by decide)) (by show _ = some 0; decide +kernel) ml_J2l im_Jlat se_Jlat d_Jix2_1 hP hS hl (rw_rc F hS) rfl (Nat.le_of_ble_eq_true rfl) (fun H1 locs1 hP hS => ?_)
  refine lv_if_eq (tgt := 23) F.1 F.2.1 d_Jix2_4 (by decide) (fun h => absurd h (by decide)) (fun _ => ?_)
  refine lv_aload_n F.1 F.2.1 d_Jix2_7 rfl (lv_at hl 0 rfl) ?_
  refine vk_getf (ref := cn_JS) F.1 F.2.1 hva hS F.2.2.2.1 (F.2.2.2.2.1 _ fl_Jv) (fun x h => h) d_Jix2_8 ?_
  refine lv_iload_n F.1 F.2.1 d_Jix2_11 rfl (lv_at hl 1 rfl) ?_
  refine lv_iload_n F.1 F.2.1 d_Jix2_12 rfl (lv_at hl 2 rfl) ?_
  refine lv_aload_n F.1 F.2.1 d_Jix2_13 rfl (lv_at hl 0 rfl) ?_
  refine rw_callV (As := []) (rest := [.int 0, .int (nI n), .ref X.2.2.2.2]) F k_Jlen (co_Jlen (by decide) (by decide)) (by show _ = some 0; decide +kernel) ml_J2n im_Jlen se_Jlen d_Jix2_14 hP hS hl (rw_rc F hS) rfl (Nat.le_of_ble_eq_true rfl) (fun H1 locs1 hP hS => ?_)
  refine rw_callS (As := [.ref X.2.2.2.2, .int (nI n), .int 0, .int 4]) (rest := []) F (k_Jlix hn hv) (co_Jlix (by decide) (by decide)) (by show _ = some 4; decide +kernel) ml_J2x st_Jlix d_Jix2_17 hP hS hl rfl (Nat.le_of_ble_eq_true rfl) (fun H1 locs1 hP hS => ?_)
  refine lv_goto (tgt := 36) F.1 F.2.1 d_Jix2_20 (by decide) ?_
  exact W.iret F.1 F.2.1 hr (fun t ht _ => ra_end (v := some (.int v)) (Z := fun r σ' => r = some (.int v) ∧ σ' = σ) ⟨rfl, rfl⟩ hP hS t ht) hS.2.2 d_Jix2_36 hlk
theorem k_Jix1 {n : Nat} (hn : n < 256) {v : Int32} (hv : sx (nI n).toInt8.toInt32 4 = v) : rw_M l X mi_Jix1 [.ref X.2.2.2.1, .int (nI n)] σ v := by
  refine rw_enter cn_JS rfl (by decide +kernel) ⟨by decide, by decide⟩ (Nat.le_of_ble_eq_true rfl) ?_
  intro p e s m below meth c ls F hr hlk hP hl
  have hS : va_S (ra_A X) s.heap s.heap [] := va_S.rf
  have hl : lv_has ls 2 [(0, .ref X.2.2.2.1), (1, .int (nI n))] := hl
  refine lv_aload_n F.1 F.2.1 d_Jix1_0 rfl (lv_at hl 0 rfl) ?_
  refine lv_iload_n F.1 F.2.1 d_Jix1_1 rfl (lv_at hl 1 rfl) ?_
  refine lv_iconst (v := 0) F.1 F.2.1 d_Jix1_2 (by decide) ?_
  refine rw_callV (As := [.int (nI n), .int 0]) (rest := []) F (k_Jix2 hn hv) (co_Jix2 (by decide) (by decide)) (by show _ = some 2; decide +kernel) ml_J1 im_Jix2 se_Jix2 d_Jix1_3 hP hS hl (rw_rc F hS) rfl (Nat.le_of_ble_eq_true rfl) (fun H1 locs1 hP hS => ?_)
  exact W.iret F.1 F.2.1 hr (fun t ht _ => ra_end (v := some (.int v)) (Z := fun r σ' => r = some (.int v) ∧ σ' = σ) ⟨rfl, rfl⟩ hP hS t ht) hS.2.2 d_Jix1_6 hlk
theorem n_ch {n : Nat} (h : n < 256) : ((nI n).toUInt32 % 65536).toInt32 = nI n := by
  have : ∀ n, n < 256 → ((nI n).toUInt32 % 65536).toInt32 = nI n := by decide +kernel
  exact this n h
theorem k_V_temperAt {a : Ab} (hW : ab_W a) : ra_MOK l X mi_V_temperAt (sp_V_temperAt a) := by
  intro as σ Z h1 h2 h3
  obtain ⟨_, rfl, hT, hx, z1, z2⟩ := x_f1 h3
  have W1 := hW.1
  obtain ⟨x, hx2, rfl⟩ := vp_in_of hx (by omega)
  rw [n_cl (by omega)] at z1 z2
  have hb := hW.2.2.1 x
  have hv := sx_ok (a 1 x) hb
  have hz : Z (some (.int (sx (nI (a 1 x)).toInt8.toInt32 4))) σ := by
    rw [hv]
    by_cases q : ab_temp (a 1 x) < 4
    · rw [if_pos q]; exact z1 q
    · rw [if_neg q]; exact z2 q
  refine Met.ofW (cc := prog_10_method_9_code) (maxL := 2) (ret := some .int) (by decide +kernel) rfl ?_
  intro p e s m args below meth c s₁ B hml hv2
  obtain ⟨rfl, hP, hK, hinj, hEx⟩ := hv2
  have hts := atoms_spec (ws := .code (mi_V_temperAt).1 (mi_V_temperAt).2.1 (mi_V_temperAt).2.2.1 (mi_V_temperAt).2.2.2.1 :: ra_WS) B.pre
  have F : ra_Fx X p rm_V_temperAt s m [Value.ref (X.1 1), .int (nI x)].toArray c prog_10_method_9_code 2 cn_V := ⟨B.exec, B.bytes, hml, findClass_of_methodNamed B.named, fun w hw => hts w (List.mem_cons_of_mem _ hw), hK, hinj, hEx, by decide, by decide⟩
  have hl := lv_entry [Value.ref (X.1 1), .int (nI x)] (n := 2) (Nat.le_of_ble_eq_true rfl)
  have hr := B.returns
  have hlk := B.notSynchronized
  show W p l e rm_V_temperAt s m [Value.ref (X.1 1), .int (nI x)].toArray below meth c s.heap [] 0 0 (MQ below (ra_Qc X Z) [Value.ref (X.1 1), .int (nI x)].toArray s 0 0 (ra_A X)) (entryFrame m [Value.ref (X.1 1), .int (nI x)].toArray 2)
  rw [lg_entry_eq]
  generalize (lg_sl [Value.ref (X.1 1), .int (nI x)] ++ List.replicate (2 - (lg_sl [Value.ref (X.1 1), .int (nI x)]).length) Slot.unset).toArray = ls at hl ⊢
  have hl : lv_has ls 2 [(0, .ref (X.1 1)), (1, .int (nI x))] := hl
  have hS : va_S (ra_A X) s.heap s.heap [] := va_S.rf
  refine va_ldcS F.1 F.2.1 F.2.2.2.1 F.2.2.2.2.2.2.2.1.2.1 d_Jt_0 ?_
  refine lv_aload_n F.1 F.2.1 d_Jt_2 rfl (lv_at hl 0 rfl) ?_
  have hg1 := ra_wl_get X σ (show 1 < ra_NC by decide)
  have c1 : ra_cls 1 = 1 + 4 := by decide +kernel
  rw [ra_el_obj _ c1] at hg1
  refine va_get (ref := (cf_V 0).1) F.1 F.2.1 F.2.2.2.2.1 cg_V.2.1 F.2.2.2.1 F.2.2.2.2.2.1 hP 1 hg1 cg_V.1 0 (by decide) (F.2.2.2.2.1 _ fl_V_14) (fun x h => h) (v := .ref (X.1 2)) (by rfl) d_Jt_3 ?_
  have hg2 := ra_wl_get X σ (show 2 < ra_NC by decide)
  have c2 : ra_cls 2 = 2 + 4 := by decide +kernel
  rw [ra_el_obj _ c2] at hg2
  refine va_get (ref := (cf_T 0).1) F.1 F.2.1 F.2.2.2.2.1 cg_T.2.1 F.2.2.2.1 F.2.2.2.2.2.1 hP 2 hg2 cg_T.1 0 (by decide) (F.2.2.2.2.1 _ fl_V_55) (fun x h => h) (v := .ref (X.1 3)) (by rfl) d_Jt_6 ?_
  refine lv_iload_n F.1 F.2.1 d_Jt_9 rfl (lv_at hl 1 rfl) ?_
  have hg3 := ra_wl_get X σ (show 3 < ra_NC by decide)
  have c3 : ra_cls 3 = 0 := by decide +kernel
  rw [ra_el_0 _ c3] at hg3
  have l3 : ra_len 3 = 40 := by decide +kernel
  refine va_iald F.1 F.2.1 F.2.2.2.2.2.1 hP 3 0 hg3 rfl (by rw [l3]; exact vi (by omega) (by decide)) d_Jt_10 ?_
  rw [n_cl (by omega), hT.2.2.2.2.1 x hx2]
  refine lv_i2c (v := nI (a 1 x)) F.1 F.2.1 d_Jt_11 (n_ch hb) ?_
  refine rw_callV (As := [.int (nI (a 1 x))]) (rest := []) F (k_Jix1 hb rfl) (co_Jix1 (by decide) (by decide)) (by show _ = some 1; decide +kernel) ml_Jt im_Jix1 se_Jix1 d_Jt_12 hP hS hl (rw_rc F hS) rfl (Nat.le_of_ble_eq_true rfl) (fun H1 locs1 hP hS => ?_)
  exact W.iret F.1 F.2.1 hr (fun t ht _ => ra_end (v := some (.int (sx (nI (a 1 x)).toInt8.toInt32 4))) (Z := Z) hz hP hS t ht) hS.2.2 d_Jt_15 hlk
end RWJ
