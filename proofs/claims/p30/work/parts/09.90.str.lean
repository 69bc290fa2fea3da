set_option maxRecDepth 1000000 in
theorem bw09_90_str_0_e : pickC [152, 7, 0, 0, 476, 0, 25, 0, 0, 0, 0, 0, 0, 0, 2, 0, 0, 0, 0, 0, 0, 0, 0, 0, 0, 0, 0, 0, 1, 0, 0, 1339, 0] lw_tbl = [Cond.initialized RX4, Cond.initialized RJ0, Cond.initialized RJ1, Cond.initialized RJ3, Cond.static yX4_spelling, Cond.code yX4_spelling cX4_spelling 1 (some (.object "java/lang/String")), Cond.instanceMethod yJ0_length_8abf5, Cond.selects RJ0 yJ0_length_8abf5 yJ0_length_8abf5, Cond.code yJ0_length_8abf5 cJ0_length_8abf5 1 (some .int), Cond.methodLink RJ0 335 yJ0_coder_7d493, Cond.instanceMethod yJ0_coder_7d493, Cond.selects RJ0 yJ0_coder_7d493 yJ0_coder_7d493, Cond.code yJ0_coder_7d493 cJ0_coder_7d493 1 (some .byte), Cond.fieldLink RJ0 38 "java/lang/String" "COMPACT_STRINGS" "Z", Cond.instanceMethod yJ0_charAt_5068e, Cond.selects RJ0 yJ0_charAt_5068e yJ0_charAt_5068e, Cond.code yJ0_charAt_5068e cJ0_charAt_5068e 2 (some .char), Cond.methodLink RJ0 492 yJ0_isLatin1_aae02, Cond.instanceMethod yJ0_isLatin1_aae02, Cond.selects RJ0 yJ0_isLatin1_aae02 yJ0_isLatin1_aae02, Cond.code yJ0_isLatin1_aae02 cJ0_isLatin1_aae02 1 (some .boolean), Cond.methodLink RJ0 495 yJ1_charAt_3b067, Cond.static yJ1_charAt_3b067, Cond.code yJ1_charAt_3b067 cJ1_charAt_3b067 2 (some .char), Cond.methodLink RJ1 9 yJ0_checkIndex_df160, Cond.static yJ0_checkIndex_df160, Cond.code yJ0_checkIndex_df160 cJ0_checkIndex_df160 2 none, Cond.fieldLink RJ0 1053 "jdk/internal/util/Preconditions" "SIOOBE_FORMATTER" "Ljava/util/function/BiFunction;", Cond.methodLink RJ0 1059 yJ3_checkIndex_8e157, Cond.static yJ3_checkIndex_8e157, Cond.code yJ3_checkIndex_8e157 cJ3_checkIndex_8e157 3 (some .int), Cond.fieldLink RJ0 9 "java/lang/String" "value" "[B", Cond.fieldLink RJ0 15 "java/lang/String" "coder" "B"] := rfl
theorem bw09_90_str_0 : ∀ (i : Nat) (w : Cond), ([Cond.initialized RX4, Cond.initialized RJ0, Cond.initialized RJ1, Cond.initialized RJ3, Cond.static yX4_spelling, Cond.code yX4_spelling cX4_spelling 1 (some (.object "java/lang/String")), Cond.instanceMethod yJ0_length_8abf5, Cond.selects RJ0 yJ0_length_8abf5 yJ0_length_8abf5, Cond.code yJ0_length_8abf5 cJ0_length_8abf5 1 (some .int), Cond.methodLink RJ0 335 yJ0_coder_7d493, Cond.instanceMethod yJ0_coder_7d493, Cond.selects RJ0 yJ0_coder_7d493 yJ0_coder_7d493, Cond.code yJ0_coder_7d493 cJ0_coder_7d493 1 (some .byte), Cond.fieldLink RJ0 38 "java/lang/String" "COMPACT_STRINGS" "Z", Cond.instanceMethod yJ0_charAt_5068e, Cond.selects RJ0 yJ0_charAt_5068e yJ0_charAt_5068e, Cond.code yJ0_charAt_5068e cJ0_charAt_5068e 2 (some .char), Cond.methodLink RJ0 492 yJ0_isLatin1_aae02, Cond.instanceMethod yJ0_isLatin1_aae02, Cond.selects RJ0 yJ0_isLatin1_aae02 yJ0_isLatin1_aae02, Cond.code yJ0_isLatin1_aae02 cJ0_isLatin1_aae02 1 (some .boolean), Cond.methodLink RJ0 495 yJ1_charAt_3b067, Cond.static yJ1_charAt_3b067, Cond.code yJ1_charAt_3b067 cJ1_charAt_3b067 2 (some .char), Cond.methodLink RJ1 9 yJ0_checkIndex_df160, Cond.static yJ0_checkIndex_df160, Cond.code yJ0_checkIndex_df160 cJ0_checkIndex_df160 2 none, Cond.fieldLink RJ0 1053 "jdk/internal/util/Preconditions" "SIOOBE_FORMATTER" "Ljava/util/function/BiFunction;", Cond.methodLink RJ0 1059 yJ3_checkIndex_8e157, Cond.static yJ3_checkIndex_8e157, Cond.code yJ3_checkIndex_8e157 cJ3_checkIndex_8e157 3 (some .int), Cond.fieldLink RJ0 9 "java/lang/String" "value" "[B", Cond.fieldLink RJ0 15 "java/lang/String" "coder" "B"] : List Cond)[i]? = some w → w ∈ zb := fun i w e => pick_zb bw09_90_str_0_e (by decide +kernel) w (List.mem_of_getElem? e)
theorem kinit_4 : Cond.initialized RX4 ∈ zb := bw09_90_str_0 0 _ rfl
theorem kinit_J0 : Cond.initialized RJ0 ∈ zb := bw09_90_str_0 1 _ rfl
theorem kinit_J1 : Cond.initialized RJ1 ∈ zb := bw09_90_str_0 2 _ rfl
theorem kinit_J3 : Cond.initialized RJ3 ∈ zb := bw09_90_str_0 3 _ rfl
theorem kst_X4_spelling : Cond.static yX4_spelling ∈ zb := bw09_90_str_0 4 _ rfl
theorem kcode_X4_spelling : Cond.code yX4_spelling cX4_spelling 1 (some (.object "java/lang/String")) ∈ zb := bw09_90_str_0 5 _ rfl
theorem kin_J0_length_8abf5 : Cond.instanceMethod yJ0_length_8abf5 ∈ zb := bw09_90_str_0 6 _ rfl
theorem kse_J0_length_8abf5 : Cond.selects RJ0 yJ0_length_8abf5 yJ0_length_8abf5 ∈ zb := bw09_90_str_0 7 _ rfl
theorem kcode_J0_length_8abf5 : Cond.code yJ0_length_8abf5 cJ0_length_8abf5 1 (some .int) ∈ zb := bw09_90_str_0 8 _ rfl
theorem km_J0_335 : Cond.methodLink RJ0 335 yJ0_coder_7d493 ∈ zb := bw09_90_str_0 9 _ rfl
theorem kin_J0_coder_7d493 : Cond.instanceMethod yJ0_coder_7d493 ∈ zb := bw09_90_str_0 10 _ rfl
theorem kse_J0_coder_7d493 : Cond.selects RJ0 yJ0_coder_7d493 yJ0_coder_7d493 ∈ zb := bw09_90_str_0 11 _ rfl
theorem kcode_J0_coder_7d493 : Cond.code yJ0_coder_7d493 cJ0_coder_7d493 1 (some .byte) ∈ zb := bw09_90_str_0 12 _ rfl
theorem kf_J0_38 : Cond.fieldLink RJ0 38 "java/lang/String" "COMPACT_STRINGS" "Z" ∈ zb := bw09_90_str_0 13 _ rfl
theorem kin_J0_charAt_5068e : Cond.instanceMethod yJ0_charAt_5068e ∈ zb := bw09_90_str_0 14 _ rfl
theorem kse_J0_charAt_5068e : Cond.selects RJ0 yJ0_charAt_5068e yJ0_charAt_5068e ∈ zb := bw09_90_str_0 15 _ rfl
theorem kcode_J0_charAt_5068e : Cond.code yJ0_charAt_5068e cJ0_charAt_5068e 2 (some .char) ∈ zb := bw09_90_str_0 16 _ rfl
theorem km_J0_492 : Cond.methodLink RJ0 492 yJ0_isLatin1_aae02 ∈ zb := bw09_90_str_0 17 _ rfl
theorem kin_J0_isLatin1_aae02 : Cond.instanceMethod yJ0_isLatin1_aae02 ∈ zb := bw09_90_str_0 18 _ rfl
theorem kse_J0_isLatin1_aae02 : Cond.selects RJ0 yJ0_isLatin1_aae02 yJ0_isLatin1_aae02 ∈ zb := bw09_90_str_0 19 _ rfl
theorem kcode_J0_isLatin1_aae02 : Cond.code yJ0_isLatin1_aae02 cJ0_isLatin1_aae02 1 (some .boolean) ∈ zb := bw09_90_str_0 20 _ rfl
theorem km_J0_495 : Cond.methodLink RJ0 495 yJ1_charAt_3b067 ∈ zb := bw09_90_str_0 21 _ rfl
theorem kst_J1_charAt_3b067 : Cond.static yJ1_charAt_3b067 ∈ zb := bw09_90_str_0 22 _ rfl
theorem kcode_J1_charAt_3b067 : Cond.code yJ1_charAt_3b067 cJ1_charAt_3b067 2 (some .char) ∈ zb := bw09_90_str_0 23 _ rfl
theorem km_J1_9 : Cond.methodLink RJ1 9 yJ0_checkIndex_df160 ∈ zb := bw09_90_str_0 24 _ rfl
theorem kst_J0_checkIndex_df160 : Cond.static yJ0_checkIndex_df160 ∈ zb := bw09_90_str_0 25 _ rfl
theorem kcode_J0_checkIndex_df160 : Cond.code yJ0_checkIndex_df160 cJ0_checkIndex_df160 2 none ∈ zb := bw09_90_str_0 26 _ rfl
theorem kf_J0_1053 : Cond.fieldLink RJ0 1053 "jdk/internal/util/Preconditions" "SIOOBE_FORMATTER" "Ljava/util/function/BiFunction;" ∈ zb := bw09_90_str_0 27 _ rfl
theorem km_J0_1059 : Cond.methodLink RJ0 1059 yJ3_checkIndex_8e157 ∈ zb := bw09_90_str_0 28 _ rfl
theorem kst_J3_checkIndex_8e157 : Cond.static yJ3_checkIndex_8e157 ∈ zb := bw09_90_str_0 29 _ rfl
theorem kcode_J3_checkIndex_8e157 : Cond.code yJ3_checkIndex_8e157 cJ3_checkIndex_8e157 3 (some .int) ∈ zb := bw09_90_str_0 30 _ rfl
theorem kf_J0_9 : Cond.fieldLink RJ0 9 "java/lang/String" "value" "[B" ∈ zb := bw09_90_str_0 31 _ rfl
theorem kf_J0_15 : Cond.fieldLink RJ0 15 "java/lang/String" "coder" "B" ∈ zb := bw09_90_str_0 32 _ rfl
theorem ky_J0_coder_7d493 : zY RJ0 yJ0_coder_7d493 (Cond.code yJ0_coder_7d493 cJ0_coder_7d493 1 (some .byte)) 0 := ⟨rfl, kinit_J0, kcode_J0_coder_7d493, kyn_RJ0.1, kyn_RJ0.2, kyd_33⟩
theorem kz_J0_coder_7d493 : Cond.instanceMethod yJ0_coder_7d493 ∈ zb ∧ Cond.selects RJ0 yJ0_coder_7d493 yJ0_coder_7d493 ∈ zb := ⟨kin_J0_coder_7d493, kse_J0_coder_7d493⟩
theorem ky_J0_length_8abf5 : zY RJ0 yJ0_length_8abf5 (Cond.code yJ0_length_8abf5 cJ0_length_8abf5 1 (some .int)) 0 := ⟨rfl, kinit_J0, kcode_J0_length_8abf5, kyn_RJ0.1, kyn_RJ0.2, kyd_4⟩
theorem kz_J0_length_8abf5 : Cond.instanceMethod yJ0_length_8abf5 ∈ zb ∧ Cond.selects RJ0 yJ0_length_8abf5 yJ0_length_8abf5 ∈ zb := ⟨kin_J0_length_8abf5, kse_J0_length_8abf5⟩
theorem ky_J0_isLatin1_aae02 : zY RJ0 yJ0_isLatin1_aae02 (Cond.code yJ0_isLatin1_aae02 cJ0_isLatin1_aae02 1 (some .boolean)) 0 := ⟨rfl, kinit_J0, kcode_J0_isLatin1_aae02, kyn_RJ0.1, kyn_RJ0.2, kyd_5⟩
theorem kz_J0_isLatin1_aae02 : Cond.instanceMethod yJ0_isLatin1_aae02 ∈ zb ∧ Cond.selects RJ0 yJ0_isLatin1_aae02 yJ0_isLatin1_aae02 ∈ zb := ⟨kin_J0_isLatin1_aae02, kse_J0_isLatin1_aae02⟩
theorem ky_J0_checkIndex_df160 : zY RJ0 yJ0_checkIndex_df160 (Cond.code yJ0_checkIndex_df160 cJ0_checkIndex_df160 2 none) 2 := ⟨rfl, kinit_J0, kcode_J0_checkIndex_df160, kyn_RJ0.1, kyn_RJ0.2, kyd_6⟩
theorem kz_J0_checkIndex_df160 : Cond.static yJ0_checkIndex_df160 ∈ zb := kst_J0_checkIndex_df160
theorem ky_J0_charAt_5068e : zY RJ0 yJ0_charAt_5068e (Cond.code yJ0_charAt_5068e cJ0_charAt_5068e 2 (some .char)) 1 := ⟨rfl, kinit_J0, kcode_J0_charAt_5068e, kyn_RJ0.1, kyn_RJ0.2, kyd_34⟩
theorem kz_J0_charAt_5068e : Cond.instanceMethod yJ0_charAt_5068e ∈ zb ∧ Cond.selects RJ0 yJ0_charAt_5068e yJ0_charAt_5068e ∈ zb := ⟨kin_J0_charAt_5068e, kse_J0_charAt_5068e⟩
theorem ky_J1_charAt_3b067 : zY RJ1 yJ1_charAt_3b067 (Cond.code yJ1_charAt_3b067 cJ1_charAt_3b067 2 (some .char)) 2 := ⟨rfl, kinit_J1, kcode_J1_charAt_3b067, kyn_RJ1.1, kyn_RJ1.2, kyd_35⟩
theorem kz_J1_charAt_3b067 : Cond.static yJ1_charAt_3b067 ∈ zb := kst_J1_charAt_3b067
theorem ky_J3_checkIndex_8e157 : zY RJ3 yJ3_checkIndex_8e157 (Cond.code yJ3_checkIndex_8e157 cJ3_checkIndex_8e157 3 (some .int)) 3 := ⟨rfl, kinit_J3, kcode_J3_checkIndex_8e157, kyn_RJ3.1, kyn_RJ3.2, kyd_36⟩
theorem kz_J3_checkIndex_8e157 : Cond.static yJ3_checkIndex_8e157 ∈ zb := kst_J3_checkIndex_8e157
theorem ky_X4_spelling : zY RX4 yX4_spelling (Cond.code yX4_spelling cX4_spelling 1 (some (.object "java/lang/String"))) 1 := ⟨rfl, kinit_4, kcode_X4_spelling, kyn_RX4.1, kyn_RX4.2, kyd_37⟩
theorem kz_X4_spelling : Cond.static yX4_spelling ∈ zb := kst_X4_spelling
abbrev zG : Type := (Nat → Nat) × (Nat → Nat) × (Nat → Nat)
def sLen : List Nat := [3, 7, 3, 4, 5, 3, 4, 6, 6, 5, 5, 4, 7, 4, 5, 7, 5, 4, 5, 4]
def sByt : List (List Int32) := [[104, 117, 116], [118, 105, 108, 108, 97, 103, 101], [100, 97, 109], [100, 101, 101, 112], [115, 108, 105, 100, 101], [119, 97, 121], [101, 99, 104, 111], [108, 97, 100, 100, 101, 114], [115, 105, 110, 103, 101, 114], [107, 110, 111, 119, 115], [98, 101, 103, 105, 110], [115, 105, 110, 103], [119, 104, 105, 115, 116, 108, 101], [119, 97, 108, 107], [99, 108, 105, 109, 98], [100, 101, 115, 99, 101, 110, 100], [104, 101, 97, 114, 100], [109, 117, 116, 101], [118, 111, 105, 99, 101], [115, 116, 101, 112]]
def sEnt : List Nat := [226, 228, 230, 232, 233, 234, 236, 238, 240, 242, 244, 246, 248, 250, 252, 254, 256, 258, 260, 262]
def sTxt : List String := ["hut", "village", "dam", "deep", "slide", "way", "echo", "ladder", "singer", "knows", "begin", "sing", "whistle", "walk", "climb", "descend", "heard", "mute", "voice", "step"]
def tb_0 : List Int32 := [0, 10, 16, 18, 20]
abbrev tbf_0 : Nat → Int32 := fun j => tb_0.getD j 0
def tb_1 : List Int32 := [1, 1, 1, 1, 1, 3, 2, 2, 2, 2, 2, 2, 2, 2, 1, 1, 2, 2, 2, 1]
abbrev tbf_1 : Nat → Int32 := fun j => tb_1.getD j 0
def tb_2 : List Int32 := [0, 0, 0, 0, 0, 0, 0, 0, 0, 1, 0, 0, 0, 0, 0, 0, 0, 1, 0, 0, 0, 0, 0, 0, 0, 0, 0, 0, 0, 0, 0, 0, 0, 0, 0, 0, 0, 0, 0, 0, 0, 0, 0, 0, 0, 0, 0, 0, 0, 0, 0, 0, 0, 0, 0, 0, 0, 0, 0, 0]
abbrev tbf_2 : Nat → Int32 := fun j => tb_2.getD j 0
def tb_3 : List Int32 := [99, 0, 0, 8, 0, 0, 8, 0, 0, 9, 0, 0, 10, 0, 0, 8, 8, 9, 8, 8, 0, 8, 9, 0, 8, 9, 0, 5, 4, 0, 5, 4, 0, 5, 4, 0, 5, 4, 0, 5, 8, 0, 5, 0, 0, 5, 0, 0, 8, 60, 0, 8, 60, 0, 3, 9, 0, 9, 0, 0]
abbrev tbf_3 : Nat → Int32 := fun j => tb_3.getD j 0
def zZ (G : zG) (A : Nat → Prop) (U : State) (H : Heap) : Prop := (va_Z RX4 "FIRST_WORDS" "[I" (.ref (G.2.2 0)) A U H ∧ va_Z RX4 "NUMBERS" "[I" (.ref (G.2.2 1)) A U H ∧ va_Z RX4 "LEAST" "[I" (.ref (G.2.2 2)) A U H ∧ va_Z RX4 "MOST" "[I" (.ref (G.2.2 3)) A U H) ∧ (va_T .int (G.2.2 0) 5 (fun j => .int (tbf_0 j)) A U H ∧ va_T .int (G.2.2 1) 20 (fun j => .int (tbf_1 j)) A U H ∧ va_T .int (G.2.2 2) 60 (fun j => .int (tbf_2 j)) A U H ∧ va_T .int (G.2.2 3) 60 (fun j => .int (tbf_3 j)) A U H) ∧ (va_Z "java/lang/String" "COMPACT_STRINGS" "Z" (.int 1) A U H ∧ va_Zq "jdk/internal/util/Preconditions" "SIOOBE_FORMATTER" "Ljava/util/function/BiFunction;" A U H) ∧ vk_S 20 sLen sByt G.1 G.2.1 A U H ∧ ∀ i, i < 20 → vk_R RX4 (sEnt.getD i 0) (sTxt.getD i "") (G.1 i) U
theorem zZ_use {G : zG} {A A' : Nat → Prop} {s U : State} {H : Heap} {locs : List Loc} (h : zZ G A s s.heap) (hS : va_S A s.heap H locs) (hA : ∀ q, A' q → A q) (hU : U.heap = H) (hW : s.WarmedH U.vm) : zZ G A' U U.heap := by
  rw [hU]
  exact ⟨⟨(((h.1.1).kept hS.2.1).narrow hA).moved hW.alike, (((h.1.2.1).kept hS.2.1).narrow hA).moved hW.alike, (((h.1.2.2.1).kept hS.2.1).narrow hA).moved hW.alike, (((h.1.2.2.2).kept hS.2.1).narrow hA).moved hW.alike⟩, ⟨(((h.2.1.1).kept hS.2.1).narrow hA).moved hW.alike, (((h.2.1.2.1).kept hS.2.1).narrow hA).moved hW.alike, (((h.2.1.2.2.1).kept hS.2.1).narrow hA).moved hW.alike, (((h.2.1.2.2.2).kept hS.2.1).narrow hA).moved hW.alike⟩, ⟨(((h.2.2.1.1).kept hS.2.1).narrow hA).moved hW.alike, (((h.2.2.1.2).kept hS.2.1).narrow hA).moved hW.alike⟩, (((h.2.2.2.1).kept hS.2.1).narrow hA).moved hW.alike, fun i hi => (h.2.2.2.2 i hi).warm hW⟩
theorem zZ_calling {G : zG} {A : Nat → Prop} {U : State} {gg : JFrame} {mk : MethodId} {a : Array Value} (h : zZ G A U U.heap) : zZ G A (U.calling gg mk a) (U.calling gg mk a).heap := ⟨⟨(h.1.1).moved (u := U) (U := U.calling gg mk a) (Vm.Alike.refl U.vm), (h.1.2.1).moved (u := U) (U := U.calling gg mk a) (Vm.Alike.refl U.vm), (h.1.2.2.1).moved (u := U) (U := U.calling gg mk a) (Vm.Alike.refl U.vm), (h.1.2.2.2).moved (u := U) (U := U.calling gg mk a) (Vm.Alike.refl U.vm)⟩, ⟨(h.2.1.1).moved (u := U) (U := U.calling gg mk a) (Vm.Alike.refl U.vm), (h.2.1.2.1).moved (u := U) (U := U.calling gg mk a) (Vm.Alike.refl U.vm), (h.2.1.2.2.1).moved (u := U) (U := U.calling gg mk a) (Vm.Alike.refl U.vm), (h.2.1.2.2.2).moved (u := U) (U := U.calling gg mk a) (Vm.Alike.refl U.vm)⟩, ⟨(h.2.2.1.1).moved (u := U) (U := U.calling gg mk a) (Vm.Alike.refl U.vm), (h.2.2.1.2).moved (u := U) (U := U.calling gg mk a) (Vm.Alike.refl U.vm)⟩, (h.2.2.2.1).moved (u := U) (U := U.calling gg mk a) (Vm.Alike.refl U.vm), fun i hi => (h.2.2.2.2 i hi).same rfl⟩
section ZW
variable {p : Program} {l : Launch} {e : Env} {R : Room} {s : State} {m : MethodId} {args : Array Value} {below : List Frame} {meth : Method} {c : Code} {H : Heap} {locs : List Loc} {cells slots : Nat} {Q : State → Prop} {cc : ByteArray} {pc : Nat} {ls : Array Slot} {rest : List Value}
theorem va_ldcSw (hexec : p.tables.exec = Jvm.exec) (hb : c.code = cc) {own tx : String} {index q : Nat} (hown : s.vm.findClass own = some m.cls) (hZ : vk_R own index tx q s) (hdg : decode cc pc = .ok (.ldc_w index, 3))
    (k : W p l e R s m args below meth c H locs cells slots Q (F0 m (pc + 3) ls (.ref q :: rest))) : W p l e R s m args below meth c H locs cells slots Q (F0 m pc ls rest) := by
  intro T hT X
  obtain ⟨t, a1, b1⟩ := k T hT X
  refine ⟨t, ?_, b1⟩
  obtain ⟨kk, cf, i, q', e1, e2, e3, -, e4, e5⟩ := Cond.stringRef_spec (args := #[]) hown hZ.1
  cases hZ.2.symm.trans e5
  obtain ⟨kk', e6, e7⟩ := X.warmed.alike.2.2 _ _ e1
  have e8 : kk'.resolved[index]? = some (some (.string q)) := by
    rcases X.warmed.entry e1 e6 index with h | ⟨h, -⟩
    · rw [h]; exact e4
    · rw [e4] at h; cases h
  have hd2 : decode c.code (F0 m pc ls rest).pc = .ok (.ldc_w index, 3) := by rw [hb]; exact hdg
  jvm_step X.here [hexec, hd2, Jvm.Op.ldc_w.wp_string (e := e) (s := T) (f := F0 m pc ls rest) X.here.top e6 (by rw [e7]; exact e2) e3 e8]
  exact a1
end ZW
section ZR
variable {p : Program} {l : Launch} {e : Env} {R : Room} {s : State} {m : MethodId} {args : Array Value} {below : List Frame} {meth : Method} {c : Code} {H : Heap} {locs : List Loc} {cells slots : Nat} {Q : State → Prop} {cc : ByteArray} {pc nL : Nat} {ls : Array Slot} {own C : String} {ret : Option FieldType} {y : MethodName} {bytes : ByteArray} {maxL n idx : Nat} {retc : Option FieldType} {rm : Room} {Pc : Array Value → State → Prop} {b : Addr}
theorem zret_t {ty : FieldType} {post : Int32 → Prop} {v : Int32} (zc : zC p s m args meth c cc nL own (some ty)) (hn : narrow ty (.int v) = .int v) (hw : post v) (hdg : decode cc pc = .ok (.ireturn, 1)) : W p l e R s m args below meth c s.heap [] cells slots (MQ below (vp_Si post) args s cells slots (fun _ => False)) (F0 m pc ls [.int v]) := by
  obtain ⟨hx, hb, hml, hown, hz, hr, hlk⟩ := zc
  exact W.zret (v := v) hx hb hr hn (fun t ht hW => ⟨v, rfl, hw, ht⟩) (fun q hq => by cases hq) hdg
theorem zret_v0 {post : Unit → Prop} (zc : zC p s m args meth c cc nL own none) (hw : post ()) (hdg : decode cc pc = .ok (.return_, 1)) : W p l e R s m args below meth c s.heap [] cells slots (MQ below (va_Sv post) args s cells slots (fun _ => False)) (F0 m pc ls []) := by
  obtain ⟨hx, hb, hml, hown, hz, hr, hlk⟩ := zc
  exact W.vret hx hb hr (fun t ht hW => ⟨rfl, hw, ht⟩) (fun q hq => by cases hq) hdg
theorem zS_v {post : Unit → Prop} (As rest : List Value) {st : List Value} (zc : zC p s m args meth c cc nL own ret) (ky : zY C y (Cond.code y bytes maxL retc) n) (k2 : Cond.static y ∈ zb) (hl : Cond.methodLink own idx y ∈ zb) (hM : Met l y (Cond.code y bytes maxL retc :: zb) rm Pc (va_Sv post) 0 0 (fun _ => False)) (hp : PreS s H Pc As) (hst : st = As.reverse ++ rest) (hn : As.length = n) (hsz : ls.size = nL) (hW : (rest.map fun v => v.category).sum ≤ 8) (hrm : rm.cells = 0 ∧ rm.slots = 0) (hR : rm.frames + 1 ≤ R.frames ∧ 8 + (maxL + 11) + rm.locals ≤ R.locals) (hcs : cells ≤ R.cells ∧ slots ≤ R.slots) (hdg : decode cc pc = .ok (.invokestatic idx, 3))
    (kk : post () → W p l e R s m args below meth c H locs cells slots Q (F0 m (pc + 3) ls rest)) : W p l e R s m args below meth c H locs cells slots Q (F0 m pc ls st) := by
  obtain ⟨hx, hb, hml, hown, hz, hr, hlk⟩ := zc
  obtain ⟨y1, y2, y3, y4⟩ := ky
  subst hst
  have cw : CallB R s args own idx y bytes maxL retc (Cond.code y bytes maxL retc :: zb) rm 0 0 n := callB_of n hz (zb_self y3) rfl hrm.1 hrm.2 (by rw [y1]; exact hz _ y2) (hz _ hl) y4 hR
  exact va_csv (va_Run.run (va_runS (As := As) (rest := rest) ⟨hx, hb, hml, hown, hz⟩ hM ⟨cw, hz _ k2⟩ hp rfl hn hsz rfl (lv_room hW) hdg hcs)) kk
theorem zS_r {post : Nat → Prop} {ad : Nat → Value} (As rest : List Value) {st : List Value} (zc : zC p s m args meth c cc nL own ret) (ky : zY C y (Cond.code y bytes maxL retc) n) (k2 : Cond.static y ∈ zb) (hl : Cond.methodLink own idx y ∈ zb) (hM : Met l y (Cond.code y bytes maxL retc :: zb) rm Pc (va_Sr post ad) 0 0 (fun _ => False)) (hp : PreS s H Pc As) (hst : st = As.reverse ++ rest) (hn : As.length = n) (hsz : ls.size = nL) (hW : (rest.map fun v => v.category).sum ≤ 8) (hrm : rm.cells = 0 ∧ rm.slots = 0) (hR : rm.frames + 1 ≤ R.frames ∧ 8 + (maxL + 11) + rm.locals ≤ R.locals) (hcs : cells ≤ R.cells ∧ slots ≤ R.slots) (hdg : decode cc pc = .ok (.invokestatic idx, 3))
    (kk : ∀ r : Nat, post r → W p l e R s m args below meth c H locs cells slots Q (F0 m (pc + 3) ls (ad r :: rest))) : W p l e R s m args below meth c H locs cells slots Q (F0 m pc ls st) := by
  obtain ⟨hx, hb, hml, hown, hz, hr, hlk⟩ := zc
  obtain ⟨y1, y2, y3, y4⟩ := ky
  subst hst
  have cw : CallB R s args own idx y bytes maxL retc (Cond.code y bytes maxL retc :: zb) rm 0 0 n := callB_of n hz (zb_self y3) rfl hrm.1 hrm.2 (by rw [y1]; exact hz _ y2) (hz _ hl) y4 hR
  exact va_csr (va_Run.run (va_runS (As := As) (rest := rest) ⟨hx, hb, hml, hown, hz⟩ hM ⟨cw, hz _ k2⟩ hp rfl hn hsz rfl (lv_room hW) hdg hcs)) kk
theorem strPreV {G : zG} {A : Nat → Prop} {i : Nat} {As : List Value} (hZ : zZ G A s s.heap) (hS : va_S A s.heap H locs) (hi : i < 20) : PreV s H "java/lang/String" (G.1 i) (va_Pc (.ref (G.1 i) :: As) (fun U => zZ G A U U.heap)) As := ⟨fun _ _ _ _ h => ⟨h.1, zZ_calling h.2⟩, vk_recv hZ.2.2.2.1 hi hS, fun U hU hW => ⟨rfl, zZ_use hZ hS (fun _ h => h) hU hW⟩⟩
theorem strPreS {G : zG} {A : Nat → Prop} {As : List Value} (hZ : zZ G A s s.heap) (hS : va_S A s.heap H locs) : PreS s H (va_Pc As (fun U => zZ G A U U.heap)) As := ⟨fun _ _ _ _ h => ⟨h.1, zZ_calling h.2⟩, fun U hU hW => ⟨rfl, zZ_use hZ hS (fun _ h => h) hU hW⟩⟩
theorem preS0 {As : List Value} : PreS s H (va_Pc As (fun _ => True)) As := ⟨fun _ _ _ _ h => h, fun _ _ _ => ⟨rfl, trivial⟩⟩
end ZR
abbrev rm_str_coder : Room := { frames := 0, cells := 0, slots := 0, locals := 0 }
theorem c_str_coder (l : Launch) {G : zG} {A : Nat → Prop} {i : Nat} (hi : i < 20) : Met l yJ0_coder_7d493 (Cond.code yJ0_coder_7d493 cJ0_coder_7d493 1 (some .byte) :: zb) rm_str_coder (va_Pc [.ref (G.1 i)] (fun U => zZ G A U U.heap)) (vp_Si (fun r => r = 0)) 0 0 (fun _ => False) := by
  refine Met.ofW (cc := cJ0_coder_7d493) (maxL := 1) (ret := (some .byte)) (by decide) rfl ?_
  intro p e s m args below meth c s₁ B hml hv
  obtain ⟨rfl, hZ⟩ := hv
  have zc := zc_of B hml
  have hx := zc.1
  have hb := zc.2.1
  have hz := zc.2.2.2.2.1
  have hl := lv_entry ([.ref (G.1 i)]) (n := 1) (Nat.le_of_ble_eq_true rfl)
  rw [lg_entry_eq]
  generalize (lg_sl ([.ref (G.1 i)]) ++ List.replicate (1 - (lg_sl ([.ref (G.1 i)])).length) Slot.unset).toArray = ls at hl ⊢
  have hl : lv_has ls 1 [(0, .ref (G.1 i))] := hl
  refine va_gets hx hb hZ.2.2.1.1 va_S.rf zc.2.2.2.1 (hz _ kf_J0_38) (fun _ h => h) dJ0_coder_7d493_0 ?_
  refine lv_if_eq (tgt := 13) hx hb dJ0_coder_7d493_3 (by decide) (fun hc => absurd hc (by decide)) (fun hc => ?_)
  refine lv_aload_n hx hb dJ0_coder_7d493_6 rfl (lv_at hl 0 rfl) ?_
  refine vk_getf hx hb (hZ.2.2.2.1.1 i hi).2.1 va_S.rf zc.2.2.2.1 (hz _ kf_J0_15) (fun _ h => h) dJ0_coder_7d493_7 ?_
  refine lv_goto (tgt := 14) hx hb dJ0_coder_7d493_10 (by decide) ?_
  exact zret_t zc rfl rfl dJ0_coder_7d493_14
abbrev rm_str_latin : Room := { frames := 0, cells := 0, slots := 0, locals := 0 }
theorem c_str_latin (l : Launch) {G : zG} {A : Nat → Prop} {i : Nat} (hi : i < 20) : Met l yJ0_isLatin1_aae02 (Cond.code yJ0_isLatin1_aae02 cJ0_isLatin1_aae02 1 (some .boolean) :: zb) rm_str_latin (va_Pc [.ref (G.1 i)] (fun U => zZ G A U U.heap)) (vp_Si (fun r => r = 1)) 0 0 (fun _ => False) := by
  refine Met.ofW (cc := cJ0_isLatin1_aae02) (maxL := 1) (ret := (some .boolean)) (by decide) rfl ?_
  intro p e s m args below meth c s₁ B hml hv
  obtain ⟨rfl, hZ⟩ := hv
  have zc := zc_of B hml
  have hx := zc.1
  have hb := zc.2.1
  have hz := zc.2.2.2.2.1
  have hl := lv_entry ([.ref (G.1 i)]) (n := 1) (Nat.le_of_ble_eq_true rfl)
  rw [lg_entry_eq]
  generalize (lg_sl ([.ref (G.1 i)]) ++ List.replicate (1 - (lg_sl ([.ref (G.1 i)])).length) Slot.unset).toArray = ls at hl ⊢
  have hl : lv_has ls 1 [(0, .ref (G.1 i))] := hl
  refine va_gets hx hb hZ.2.2.1.1 va_S.rf zc.2.2.2.1 (hz _ kf_J0_38) (fun _ h => h) dJ0_isLatin1_aae02_0 ?_
  refine lv_if_eq (tgt := 17) hx hb dJ0_isLatin1_aae02_3 (by decide) (fun hc => absurd hc (by decide)) (fun hc => ?_)
  refine lv_aload_n hx hb dJ0_isLatin1_aae02_6 rfl (lv_at hl 0 rfl) ?_
  refine vk_getf hx hb (hZ.2.2.2.1.1 i hi).2.1 va_S.rf zc.2.2.2.1 (hz _ kf_J0_15) (fun _ h => h) dJ0_isLatin1_aae02_7 ?_
  refine lv_if_ne (tgt := 17) hx hb dJ0_isLatin1_aae02_10 (by decide) (fun hc => absurd rfl hc) (fun hc => ?_)
  refine lv_iconst (v := (1 : Int32)) hx hb dJ0_isLatin1_aae02_13 (by decide) ?_
  refine lv_goto (tgt := 18) hx hb dJ0_isLatin1_aae02_14 (by decide) ?_
  exact zret_t zc rfl rfl dJ0_isLatin1_aae02_18
theorem sLen_lt : ∀ i, i < 20 → sLen.getD i 0 < 2 ^ 31 := by decide +kernel
abbrev rm_str_length : Room := { frames := 1, cells := 0, slots := 0, locals := 20 }
theorem c_str_length (l : Launch) {G : zG} {A : Nat → Prop} {i : Nat} (hi : i < 20) : Met l yJ0_length_8abf5 (Cond.code yJ0_length_8abf5 cJ0_length_8abf5 1 (some .int) :: zb) rm_str_length (va_Pc [.ref (G.1 i)] (fun U => zZ G A U U.heap)) (vp_Si (fun r => r = nI (sLen.getD i 0))) 0 0 (fun _ => False) := by
  refine Met.ofW (cc := cJ0_length_8abf5) (maxL := 1) (ret := (some .int)) (by decide) rfl ?_
  intro p e s m args below meth c s₁ B hml hv
  obtain ⟨rfl, hZ⟩ := hv
  have zc := zc_of B hml
  have hx := zc.1
  have hb := zc.2.1
  have hz := zc.2.2.2.2.1
  have hl := lv_entry ([.ref (G.1 i)]) (n := 1) (Nat.le_of_ble_eq_true rfl)
  rw [lg_entry_eq]
  generalize (lg_sl ([.ref (G.1 i)]) ++ List.replicate (1 - (lg_sl ([.ref (G.1 i)])).length) Slot.unset).toArray = ls at hl ⊢
  have hl : lv_has ls 1 [(0, .ref (G.1 i))] := hl
  refine lv_aload_n hx hb dJ0_length_8abf5_0 rfl (lv_at hl 0 rfl) ?_
  refine vk_getf hx hb (hZ.2.2.2.1.1 i hi).2.2.1 va_S.rf zc.2.2.2.1 (hz _ kf_J0_9) (fun _ h => h) dJ0_length_8abf5_1 ?_
  refine va_tlen hx hb (hZ.2.2.2.1.1 i hi).2.2.2 va_S.rf (v := nI (sLen.getD i 0)) rfl dJ0_length_8abf5_4 ?_
  refine lv_aload_n hx hb dJ0_length_8abf5_5 rfl (lv_at hl 0 rfl) ?_
  refine zV_i [] [.int (nI (sLen.getD i 0))] zc ky_J0_coder_7d493 kz_J0_coder_7d493 km_J0_335 (c_str_coder l hi) (strPreV hZ va_S.rf hi) rfl rfl hl.1 (Nat.le_of_ble_eq_true rfl) ⟨rfl, rfl⟩ ⟨Nat.le_of_ble_eq_true rfl, Nat.le_of_ble_eq_true rfl⟩ ⟨Nat.zero_le _, Nat.zero_le _⟩ dJ0_length_8abf5_6 (fun r hr => ?_)
  subst hr
  refine lv_ishr hx hb dJ0_length_8abf5_9 ?_
  rw [sc_shr0 (sLen_lt i hi)]
  exact zret_t zc rfl rfl dJ0_length_8abf5_10
abbrev rm_str_pren : Room := { frames := 0, cells := 0, slots := 0, locals := 0 }
theorem c_str_pren (l : Launch) {x y : Int32} (h0 : ¬ x < 0) (h1 : x < y) : Met l yJ3_checkIndex_8e157 (Cond.code yJ3_checkIndex_8e157 cJ3_checkIndex_8e157 3 (some .int) :: zb) rm_str_pren (va_Pc [.int x, .int y, .null] (fun _ => True)) (vp_Si (fun r => True)) 0 0 (fun _ => False) := by
  refine Met.ofW (cc := cJ3_checkIndex_8e157) (maxL := 3) (ret := (some .int)) (by decide) rfl ?_
  intro p e s m args below meth c s₁ B hml hv
  obtain ⟨rfl, hZ⟩ := hv
  have zc := zc_of B hml
  have hx := zc.1
  have hb := zc.2.1
  have hz := zc.2.2.2.2.1
  have hl := lv_entry ([.int x, .int y, .null]) (n := 3) (Nat.le_of_ble_eq_true rfl)
  rw [lg_entry_eq]
  generalize (lg_sl ([.int x, .int y, .null]) ++ List.replicate (3 - (lg_sl ([.int x, .int y, .null])).length) Slot.unset).toArray = ls at hl ⊢
  have hl : lv_has ls 3 [(0, .int x), (1, .int y), (2, .null)] := hl
  refine lv_iload_n hx hb dJ3_checkIndex_8e157_0 rfl (lv_at hl 0 rfl) ?_
  refine lv_if_lt (tgt := 9) hx hb dJ3_checkIndex_8e157_1 (by decide) (fun hc => absurd hc h0) (fun hc => ?_)
  refine lv_iload_n hx hb dJ3_checkIndex_8e157_4 rfl (lv_at hl 0 rfl) ?_
  refine lv_iload_n hx hb dJ3_checkIndex_8e157_5 rfl (lv_at hl 1 rfl) ?_
  refine lv_icmp_lt (tgt := 16) hx hb dJ3_checkIndex_8e157_6 (by decide) (fun hc => ?_) (fun hc => absurd h1 hc)
  refine lv_iload_n hx hb dJ3_checkIndex_8e157_16 rfl (lv_at hl 0 rfl) ?_
  exact zret_t zc rfl trivial dJ3_checkIndex_8e157_17
abbrev rm_str_prer : Room := { frames := 0, cells := 0, slots := 0, locals := 0 }
theorem c_str_prer (l : Launch) {x y : Int32} {t : Nat} (h0 : ¬ x < 0) (h1 : x < y) : Met l yJ3_checkIndex_8e157 (Cond.code yJ3_checkIndex_8e157 cJ3_checkIndex_8e157 3 (some .int) :: zb) rm_str_prer (va_Pc [.int x, .int y, .ref t] (fun _ => True)) (vp_Si (fun r => True)) 0 0 (fun _ => False) := by
  refine Met.ofW (cc := cJ3_checkIndex_8e157) (maxL := 3) (ret := (some .int)) (by decide) rfl ?_
  intro p e s m args below meth c s₁ B hml hv
  obtain ⟨rfl, hZ⟩ := hv
  have zc := zc_of B hml
  have hx := zc.1
  have hb := zc.2.1
  have hz := zc.2.2.2.2.1
  have hl := lv_entry ([.int x, .int y, .ref t]) (n := 3) (Nat.le_of_ble_eq_true rfl)
  rw [lg_entry_eq]
  generalize (lg_sl ([.int x, .int y, .ref t]) ++ List.replicate (3 - (lg_sl ([.int x, .int y, .ref t])).length) Slot.unset).toArray = ls at hl ⊢
  have hl : lv_has ls 3 [(0, .int x), (1, .int y), (2, .ref t)] := hl
  refine lv_iload_n hx hb dJ3_checkIndex_8e157_0 rfl (lv_at hl 0 rfl) ?_
  refine lv_if_lt (tgt := 9) hx hb dJ3_checkIndex_8e157_1 (by decide) (fun hc => absurd hc h0) (fun hc => ?_)
  refine lv_iload_n hx hb dJ3_checkIndex_8e157_4 rfl (lv_at hl 0 rfl) ?_
  refine lv_iload_n hx hb dJ3_checkIndex_8e157_5 rfl (lv_at hl 1 rfl) ?_
  refine lv_icmp_lt (tgt := 16) hx hb dJ3_checkIndex_8e157_6 (by decide) (fun hc => ?_) (fun hc => absurd h1 hc)
  refine lv_iload_n hx hb dJ3_checkIndex_8e157_16 rfl (lv_at hl 0 rfl) ?_
  exact zret_t zc rfl trivial dJ3_checkIndex_8e157_17
abbrev rm_str_check : Room := { frames := 1, cells := 0, slots := 0, locals := 22 }
theorem c_str_check (l : Launch) {G : zG} {A : Nat → Prop} {x y : Int32} (h0 : ¬ x < 0) (h1 : x < y) : Met l yJ0_checkIndex_df160 (Cond.code yJ0_checkIndex_df160 cJ0_checkIndex_df160 2 none :: zb) rm_str_check (va_Pc [.int x, .int y] (fun U => zZ G A U U.heap)) (va_Sv (fun _ => True)) 0 0 (fun _ => False) := by
  refine Met.ofW (cc := cJ0_checkIndex_df160) (maxL := 2) (ret := none) (by decide) rfl ?_
  intro p e s m args below meth c s₁ B hml hv
  obtain ⟨rfl, hZ⟩ := hv
  have zc := zc_of B hml
  have hx := zc.1
  have hb := zc.2.1
  have hz := zc.2.2.2.2.1
  have hl := lv_entry ([.int x, .int y]) (n := 2) (Nat.le_of_ble_eq_true rfl)
  rw [lg_entry_eq]
  generalize (lg_sl ([.int x, .int y]) ++ List.replicate (2 - (lg_sl ([.int x, .int y])).length) Slot.unset).toArray = ls at hl ⊢
  have hl : lv_has ls 2 [(0, .int x), (1, .int y)] := hl
  refine lv_iload_n hx hb dJ0_checkIndex_df160_0 rfl (lv_at hl 0 rfl) ?_
  refine lv_iload_n hx hb dJ0_checkIndex_df160_1 rfl (lv_at hl 1 rfl) ?_
  rcases hZ.2.2.1.2 with hq | ⟨t, hq⟩
  · refine va_gets hx hb hq va_S.rf zc.2.2.2.1 (hz _ kf_J0_1053) (fun _ h => h) dJ0_checkIndex_df160_2 ?_
    refine zS_i [.int x, .int y, .null] [] zc ky_J3_checkIndex_8e157 kz_J3_checkIndex_8e157 km_J0_1059 (c_str_pren l h0 h1) preS0 rfl rfl hl.1 (Nat.le_of_ble_eq_true rfl) ⟨rfl, rfl⟩ ⟨Nat.le_of_ble_eq_true rfl, Nat.le_of_ble_eq_true rfl⟩ ⟨Nat.zero_le _, Nat.zero_le _⟩ dJ0_checkIndex_df160_5 (fun r hr => ?_)
    refine lv_pop hx hb dJ0_checkIndex_df160_8 rfl ?_
    exact zret_v0 zc trivial dJ0_checkIndex_df160_9
  · refine va_gets hx hb hq va_S.rf zc.2.2.2.1 (hz _ kf_J0_1053) (fun _ h => h) dJ0_checkIndex_df160_2 ?_
    refine zS_i [.int x, .int y, .ref t] [] zc ky_J3_checkIndex_8e157 kz_J3_checkIndex_8e157 km_J0_1059 (c_str_prer l h0 h1) preS0 rfl rfl hl.1 (Nat.le_of_ble_eq_true rfl) ⟨rfl, rfl⟩ ⟨Nat.le_of_ble_eq_true rfl, Nat.le_of_ble_eq_true rfl⟩ ⟨Nat.zero_le _, Nat.zero_le _⟩ dJ0_checkIndex_df160_5 (fun r hr => ?_)
    refine lv_pop hx hb dJ0_checkIndex_df160_8 rfl ?_
    exact zret_v0 zc trivial dJ0_checkIndex_df160_9
abbrev rm_str_l1 : Room := { frames := 2, cells := 0, slots := 0, locals := 60 }
theorem c_str_l1 (l : Launch) {G : zG} {A : Nat → Prop} {i : Nat} (hi : i < 20) {k : Int32} (hk : vp_in k (sLen.getD i 0)) : Met l yJ1_charAt_3b067 (Cond.code yJ1_charAt_3b067 cJ1_charAt_3b067 2 (some .char) :: zb) rm_str_l1 (va_Pc [.ref (G.2.1 i), .int k] (fun U => zZ G A U U.heap)) (vp_Si (fun r => r = ((sByt.getD i []).getD k.toNatClampNeg 0 &&& 255))) 0 0 (fun _ => False) := by
  refine Met.ofW (cc := cJ1_charAt_3b067) (maxL := 2) (ret := (some .char)) (by decide) rfl ?_
  intro p e s m args below meth c s₁ B hml hv
  obtain ⟨rfl, hZ⟩ := hv
  have zc := zc_of B hml
  have hx := zc.1
  have hb := zc.2.1
  have hz := zc.2.2.2.2.1
  have hl := lv_entry ([.ref (G.2.1 i), .int k]) (n := 2) (Nat.le_of_ble_eq_true rfl)
  rw [lg_entry_eq]
  generalize (lg_sl ([.ref (G.2.1 i), .int k]) ++ List.replicate (2 - (lg_sl ([.ref (G.2.1 i), .int k])).length) Slot.unset).toArray = ls at hl ⊢
  have hl : lv_has ls 2 [(0, .ref (G.2.1 i)), (1, .int k)] := hl
  have hlen := sLen_lt i hi
  have h0 : ¬ k < 0 := fun h => hk (Or.inl h)
  have h1 : k < nI (sLen.getD i 0) := by
    obtain ⟨j, hj, rfl⟩ := vp_in_of hk hlen
    exact nI_lt hj hlen
  refine lv_iload_n hx hb dJ1_charAt_3b067_0 rfl (lv_at hl 1 rfl) ?_
  refine lv_aload_n hx hb dJ1_charAt_3b067_1 rfl (lv_at hl 0 rfl) ?_
  refine va_tlen hx hb (hZ.2.2.2.1.1 i hi).2.2.2 va_S.rf (v := nI (sLen.getD i 0)) rfl dJ1_charAt_3b067_2 ?_
  refine zS_v [.int k, .int (nI (sLen.getD i 0))] [] zc ky_J0_checkIndex_df160 kz_J0_checkIndex_df160 km_J1_9 (c_str_check l h0 h1) (strPreS hZ va_S.rf) rfl rfl hl.1 (Nat.le_of_ble_eq_true rfl) ⟨rfl, rfl⟩ ⟨Nat.le_of_ble_eq_true rfl, Nat.le_of_ble_eq_true rfl⟩ ⟨Nat.zero_le _, Nat.zero_le _⟩ dJ1_charAt_3b067_3 (fun _ => ?_)
  refine lv_aload_n hx hb dJ1_charAt_3b067_6 rfl (lv_at hl 0 rfl) ?_
  refine lv_iload_n hx hb dJ1_charAt_3b067_7 rfl (lv_at hl 1 rfl) ?_
  refine va_tb hx hb (hZ.2.2.2.1.1 i hi).2.2.2 va_S.rf hk rfl dJ1_charAt_3b067_8 ?_
  refine lv_sipush (v := (255 : Int32)) hx hb dJ1_charAt_3b067_9 (by decide) ?_
  refine lv_iand hx hb dJ1_charAt_3b067_12 ?_
  refine lv_i2c (v := ((sByt.getD i []).getD k.toNatClampNeg 0 &&& 255)) hx hb dJ1_charAt_3b067_13 (sc_c2 _) ?_
  exact zret_t zc (sc_nar _) rfl dJ1_charAt_3b067_14
abbrev rm_str_charAt : Room := { frames := 3, cells := 0, slots := 0, locals := 90 }
theorem c_str_charAt (l : Launch) {G : zG} {A : Nat → Prop} {i : Nat} (hi : i < 20) {k : Int32} (hk : vp_in k (sLen.getD i 0)) : Met l yJ0_charAt_5068e (Cond.code yJ0_charAt_5068e cJ0_charAt_5068e 2 (some .char) :: zb) rm_str_charAt (va_Pc [.ref (G.1 i), .int k] (fun U => zZ G A U U.heap)) (vp_Si (fun r => r = ((sByt.getD i []).getD k.toNatClampNeg 0 &&& 255))) 0 0 (fun _ => False) := by
  refine Met.ofW (cc := cJ0_charAt_5068e) (maxL := 2) (ret := (some .char)) (by decide) rfl ?_
  intro p e s m args below meth c s₁ B hml hv
  obtain ⟨rfl, hZ⟩ := hv
  have zc := zc_of B hml
  have hx := zc.1
  have hb := zc.2.1
  have hz := zc.2.2.2.2.1
  have hl := lv_entry ([.ref (G.1 i), .int k]) (n := 2) (Nat.le_of_ble_eq_true rfl)
  rw [lg_entry_eq]
  generalize (lg_sl ([.ref (G.1 i), .int k]) ++ List.replicate (2 - (lg_sl ([.ref (G.1 i), .int k])).length) Slot.unset).toArray = ls at hl ⊢
  have hl : lv_has ls 2 [(0, .ref (G.1 i)), (1, .int k)] := hl
  refine lv_aload_n hx hb dJ0_charAt_5068e_0 rfl (lv_at hl 0 rfl) ?_
  refine zV_i [] [] zc ky_J0_isLatin1_aae02 kz_J0_isLatin1_aae02 km_J0_492 (c_str_latin l hi) (strPreV hZ va_S.rf hi) rfl rfl hl.1 (Nat.le_of_ble_eq_true rfl) ⟨rfl, rfl⟩ ⟨Nat.le_of_ble_eq_true rfl, Nat.le_of_ble_eq_true rfl⟩ ⟨Nat.zero_le _, Nat.zero_le _⟩ dJ0_charAt_5068e_1 (fun r hr => ?_)
  subst hr
  refine lv_if_eq (tgt := 16) hx hb dJ0_charAt_5068e_4 (by decide) (fun hc => absurd hc (by decide)) (fun hc => ?_)
  refine lv_aload_n hx hb dJ0_charAt_5068e_7 rfl (lv_at hl 0 rfl) ?_
  refine vk_getf hx hb (hZ.2.2.2.1.1 i hi).2.2.1 va_S.rf zc.2.2.2.1 (hz _ kf_J0_9) (fun _ h => h) dJ0_charAt_5068e_8 ?_
  refine lv_iload_n hx hb dJ0_charAt_5068e_11 rfl (lv_at hl 1 rfl) ?_
  refine zS_i [.ref (G.2.1 i), .int k] [] zc ky_J1_charAt_3b067 kz_J1_charAt_3b067 km_J0_495 (c_str_l1 l hi hk) (strPreS hZ va_S.rf) rfl rfl hl.1 (Nat.le_of_ble_eq_true rfl) ⟨rfl, rfl⟩ ⟨Nat.le_of_ble_eq_true rfl, Nat.le_of_ble_eq_true rfl⟩ ⟨Nat.zero_le _, Nat.zero_le _⟩ dJ0_charAt_5068e_12 (fun r hr => ?_)
  subst hr
  exact zret_t zc (sc_nar _) rfl dJ0_charAt_5068e_15
def q_spelling (x : Int32) (post : Nat → Prop) : Prop := vp_in x 20 ∧ post x.toNatClampNeg
abbrev rm_spelling : Room := { frames := 0, cells := 0, slots := 0, locals := 0 }
theorem c_spelling (l : Launch) {G : zG} {A : Nat → Prop} {x : Int32} {post : Nat → Prop} (hin : vp_in x 20) (hw : post x.toNatClampNeg) : Met l yX4_spelling (Cond.code yX4_spelling cX4_spelling 1 (some (.object "java/lang/String")) :: zb) rm_spelling (va_Pc [.int x] (fun U => zZ G A U U.heap)) (va_Sr post (fun k => .ref (G.1 k))) 0 0 (fun _ => False) := by
  refine Met.ofW (cc := cX4_spelling) (maxL := 1) (ret := (some (.object "java/lang/String"))) (by decide) rfl ?_
  intro p e s m args below meth c s₁ B hml hv
  obtain ⟨rfl, hZ⟩ := hv
  have zc := zc_of B hml
  have hx := zc.1
  have hb := zc.2.1
  have hz := zc.2.2.2.2.1
  have hl := lv_entry ([.int x]) (n := 1) (Nat.le_of_ble_eq_true rfl)
  rw [lg_entry_eq]
  generalize (lg_sl ([.int x]) ++ List.replicate (1 - (lg_sl ([.int x])).length) Slot.unset).toArray = ls at hl ⊢
  have hl : lv_has ls 1 [(0, .int x)] := hl
  obtain ⟨j, hj, rfl⟩ := vp_in_of hin (by omega)
  rw [nI_clamp (by omega)] at hw
  refine lv_iload_n hx hb dX4_spelling_0 rfl (lv_at hl 0 rfl) ?_
  match j, hj, hw with
  | 0, _, hw =>
    refine lv_tableIn (tgt := 92) hx hb dX4_spelling_1 (by decide) (by decide) rfl (by decide) ?_
    refine va_ldcS hx hb zc.2.2.2.1 (hZ.2.2.2.2 0 (by omega)) dX4_spelling_92 ?_
    exact zret_r (k := 0) zc (Or.inr ⟨_, rfl⟩) hw dX4_spelling_94
  | 1, _, hw =>
    refine lv_tableIn (tgt := 95) hx hb dX4_spelling_1 (by decide) (by decide) rfl (by decide) ?_
    refine va_ldcS hx hb zc.2.2.2.1 (hZ.2.2.2.2 1 (by omega)) dX4_spelling_95 ?_
    exact zret_r (k := 1) zc (Or.inr ⟨_, rfl⟩) hw dX4_spelling_97
  | 2, _, hw =>
    refine lv_tableIn (tgt := 98) hx hb dX4_spelling_1 (by decide) (by decide) rfl (by decide) ?_
    refine va_ldcS hx hb zc.2.2.2.1 (hZ.2.2.2.2 2 (by omega)) dX4_spelling_98 ?_
    exact zret_r (k := 2) zc (Or.inr ⟨_, rfl⟩) hw dX4_spelling_100
  | 3, _, hw =>
    refine lv_tableIn (tgt := 101) hx hb dX4_spelling_1 (by decide) (by decide) rfl (by decide) ?_
    refine va_ldcS hx hb zc.2.2.2.1 (hZ.2.2.2.2 3 (by omega)) dX4_spelling_101 ?_
    exact zret_r (k := 3) zc (Or.inr ⟨_, rfl⟩) hw dX4_spelling_103
  | 4, _, hw =>
    refine lv_tableIn (tgt := 104) hx hb dX4_spelling_1 (by decide) (by decide) rfl (by decide) ?_
    refine va_ldcS hx hb zc.2.2.2.1 (hZ.2.2.2.2 4 (by omega)) dX4_spelling_104 ?_
    exact zret_r (k := 4) zc (Or.inr ⟨_, rfl⟩) hw dX4_spelling_106
  | 5, _, hw =>
    refine lv_tableIn (tgt := 107) hx hb dX4_spelling_1 (by decide) (by decide) rfl (by decide) ?_
    refine va_ldcS hx hb zc.2.2.2.1 (hZ.2.2.2.2 5 (by omega)) dX4_spelling_107 ?_
    exact zret_r (k := 5) zc (Or.inr ⟨_, rfl⟩) hw dX4_spelling_109
  | 6, _, hw =>
    refine lv_tableIn (tgt := 110) hx hb dX4_spelling_1 (by decide) (by decide) rfl (by decide) ?_
    refine va_ldcS hx hb zc.2.2.2.1 (hZ.2.2.2.2 6 (by omega)) dX4_spelling_110 ?_
    exact zret_r (k := 6) zc (Or.inr ⟨_, rfl⟩) hw dX4_spelling_112
  | 7, _, hw =>
    refine lv_tableIn (tgt := 113) hx hb dX4_spelling_1 (by decide) (by decide) rfl (by decide) ?_
    refine va_ldcS hx hb zc.2.2.2.1 (hZ.2.2.2.2 7 (by omega)) dX4_spelling_113 ?_
    exact zret_r (k := 7) zc (Or.inr ⟨_, rfl⟩) hw dX4_spelling_115
  | 8, _, hw =>
    refine lv_tableIn (tgt := 116) hx hb dX4_spelling_1 (by decide) (by decide) rfl (by decide) ?_
    refine va_ldcS hx hb zc.2.2.2.1 (hZ.2.2.2.2 8 (by omega)) dX4_spelling_116 ?_
    exact zret_r (k := 8) zc (Or.inr ⟨_, rfl⟩) hw dX4_spelling_118
  | 9, _, hw =>
    refine lv_tableIn (tgt := 119) hx hb dX4_spelling_1 (by decide) (by decide) rfl (by decide) ?_
    refine va_ldcS hx hb zc.2.2.2.1 (hZ.2.2.2.2 9 (by omega)) dX4_spelling_119 ?_
    exact zret_r (k := 9) zc (Or.inr ⟨_, rfl⟩) hw dX4_spelling_121
  | 10, _, hw =>
    refine lv_tableIn (tgt := 122) hx hb dX4_spelling_1 (by decide) (by decide) rfl (by decide) ?_
    refine va_ldcS hx hb zc.2.2.2.1 (hZ.2.2.2.2 10 (by omega)) dX4_spelling_122 ?_
    exact zret_r (k := 10) zc (Or.inr ⟨_, rfl⟩) hw dX4_spelling_124
  | 11, _, hw =>
    refine lv_tableIn (tgt := 125) hx hb dX4_spelling_1 (by decide) (by decide) rfl (by decide) ?_
    refine va_ldcS hx hb zc.2.2.2.1 (hZ.2.2.2.2 11 (by omega)) dX4_spelling_125 ?_
    exact zret_r (k := 11) zc (Or.inr ⟨_, rfl⟩) hw dX4_spelling_127
  | 12, _, hw =>
    refine lv_tableIn (tgt := 128) hx hb dX4_spelling_1 (by decide) (by decide) rfl (by decide) ?_
    refine va_ldcS hx hb zc.2.2.2.1 (hZ.2.2.2.2 12 (by omega)) dX4_spelling_128 ?_
    exact zret_r (k := 12) zc (Or.inr ⟨_, rfl⟩) hw dX4_spelling_130
  | 13, _, hw =>
    refine lv_tableIn (tgt := 131) hx hb dX4_spelling_1 (by decide) (by decide) rfl (by decide) ?_
    refine va_ldcS hx hb zc.2.2.2.1 (hZ.2.2.2.2 13 (by omega)) dX4_spelling_131 ?_
    exact zret_r (k := 13) zc (Or.inr ⟨_, rfl⟩) hw dX4_spelling_133
  | 14, _, hw =>
    refine lv_tableIn (tgt := 134) hx hb dX4_spelling_1 (by decide) (by decide) rfl (by decide) ?_
    refine va_ldcS hx hb zc.2.2.2.1 (hZ.2.2.2.2 14 (by omega)) dX4_spelling_134 ?_
    exact zret_r (k := 14) zc (Or.inr ⟨_, rfl⟩) hw dX4_spelling_136
  | 15, _, hw =>
    refine lv_tableIn (tgt := 137) hx hb dX4_spelling_1 (by decide) (by decide) rfl (by decide) ?_
    refine va_ldcS hx hb zc.2.2.2.1 (hZ.2.2.2.2 15 (by omega)) dX4_spelling_137 ?_
    exact zret_r (k := 15) zc (Or.inr ⟨_, rfl⟩) hw dX4_spelling_139
  | 16, _, hw =>
    refine lv_tableIn (tgt := 140) hx hb dX4_spelling_1 (by decide) (by decide) rfl (by decide) ?_
    refine va_ldcSw hx hb zc.2.2.2.1 (hZ.2.2.2.2 16 (by omega)) dX4_spelling_140 ?_
    exact zret_r (k := 16) zc (Or.inr ⟨_, rfl⟩) hw dX4_spelling_143
  | 17, _, hw =>
    refine lv_tableIn (tgt := 144) hx hb dX4_spelling_1 (by decide) (by decide) rfl (by decide) ?_
    refine va_ldcSw hx hb zc.2.2.2.1 (hZ.2.2.2.2 17 (by omega)) dX4_spelling_144 ?_
    exact zret_r (k := 17) zc (Or.inr ⟨_, rfl⟩) hw dX4_spelling_147
  | 18, _, hw =>
    refine lv_tableIn (tgt := 148) hx hb dX4_spelling_1 (by decide) (by decide) rfl (by decide) ?_
    refine va_ldcSw hx hb zc.2.2.2.1 (hZ.2.2.2.2 18 (by omega)) dX4_spelling_148 ?_
    exact zret_r (k := 18) zc (Or.inr ⟨_, rfl⟩) hw dX4_spelling_151
  | 19, _, hw =>
    refine lv_tableOut (tgt := 152) hx hb dX4_spelling_1 (by decide) (by decide) ?_
    refine va_ldcSw hx hb zc.2.2.2.1 (hZ.2.2.2.2 19 (by omega)) dX4_spelling_152 ?_
    exact zret_r (k := 19) zc (Or.inr ⟨_, rfl⟩) hw dX4_spelling_155
  | j + 20, hj, _ => exact absurd hj (by omega)

