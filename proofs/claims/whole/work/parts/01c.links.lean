abbrev zMe : Type := MethodName × ByteArray × Nat × Option FieldType
def zMC (m : zMe) (n : Nat) : Prop := plainName m.1.cls = true ∧ Cond.code m.1 m.2.1 m.2.2.1 m.2.2.2 ∈ zTb ∧ Cond.initialized m.1.cls ∈ zTb ∧ (m.1.cls ≠ "java/lang/invoke/MethodHandle" ∧ m.1.cls ≠ "java/lang/invoke/VarHandle" ∧ (parseMethodDescriptor m.1.desc).map (fun d => d.parameters.length) = some n) ∧ m.2.2.1 ≤ 40
def zMV (m : zMe) (n : Nat) : Prop := zMC m n ∧ Cond.instanceMethod m.1 ∈ zTb ∧ Cond.selects m.1.cls m.1 m.1 ∈ zTb
def zMS (m : zMe) (n : Nat) : Prop := zMC m n ∧ Cond.static m.1 ∈ zTb
def zMI (m : zMe) (n : Nat) : Prop := zMC m n ∧ m.1.name = "<init>" ∧ Cond.instanceMethod m.1 ∈ zTb
def zLk (own : String) (idx : Nat) (m : zMe) : Prop := Cond.methodLink own idx m.1 ∈ zTb ∨ ∃ host, Cond.methodLinkNest own idx m.1 host ∈ zNw
def zFd (own : String) (idx ci k : Nat) (ty : FieldType) (fin : Bool) : Prop := ∃ (Cn : String) (Tn : u_T) (N : Nat) (ty0 : Nat → FieldType), vwCl[ci]? = some (Cn, Tn, N) ∧ k < N ∧ (∀ w ∈ u_ws Cn Tn N, w ∈ zTb) ∧ (∀ j, j < N → parseFieldDescriptor (Tn j).2.2.1 = some (ty0 j)) ∧ (∀ a, a < N → ∀ b, b < N → a ≠ b → (Tn a).2.1 ≠ (Tn b).2.1) ∧ parseFieldDescriptor (Tn k).2.2.1 = some ty ∧ (Tn k).2.2.2 = fin ∧ (Tn k).1 = Cn ∧ (Cond.fieldLink own idx (Tn k).1 (Tn k).2.1 (Tn k).2.2.1 ∈ zTb ∨ ∃ host, Cond.fieldLinkNest own idx (Tn k).1 (Tn k).2.1 (Tn k).2.2.1 host ∈ zNw)
def zFp (own : String) (idx ci k : Nat) (ty : FieldType) : Prop := ∃ (Tn : u_T) (N : Nat) (ty0 : Nat → FieldType), vwCl[ci]? = some (own, Tn, N) ∧ k < N ∧ (∀ w ∈ u_ws own Tn N, w ∈ zTb) ∧ (∀ j, j < N → parseFieldDescriptor (Tn j).2.2.1 = some (ty0 j)) ∧ (∀ a, a < N → ∀ b, b < N → a ≠ b → (Tn a).2.1 ≠ (Tn b).2.1) ∧ parseFieldDescriptor (Tn k).2.2.1 = some ty ∧ (Tn k).2.2.2 = true ∧ (Tn k).1 = own ∧ Cond.fieldLink own idx (Tn k).1 (Tn k).2.1 (Tn k).2.2.1 ∈ zTb
def mX11_init : zMe := (yX11_init, cX11_init, 2, (Option.none : Option Jvm.ClassFile.FieldType))
theorem mX11_init_ok : zMI mX11_init 0 := ⟨⟨by decide +kernel, zin (wt1 _ (List.mem_of_getElem? (i := 27) rfl)) rfl, zin (wt1 _ (List.mem_of_getElem? (i := 1) rfl)) rfl, by decide +kernel, by decide⟩, rfl, zin (wt1 _ (List.mem_of_getElem? (i := 26) rfl)) rfl⟩
def mX4_init : zMe := (yX4_init, cX4_init, 1, (Option.none : Option Jvm.ClassFile.FieldType))
theorem mX4_init_ok : zMI mX4_init 0 := ⟨⟨by decide +kernel, zin (wt1 _ (List.mem_of_getElem? (i := 35) rfl)) rfl, zin (wt1 _ (List.mem_of_getElem? (i := 2) rfl)) rfl, by decide +kernel, by decide⟩, rfl, zin (wt1 _ (List.mem_of_getElem? (i := 34) rfl)) rfl⟩
def mX1_init : zMe := (yX1_init, cX1_init, 1, (Option.none : Option Jvm.ClassFile.FieldType))
theorem mX1_init_ok : zMI mX1_init 0 := ⟨⟨by decide +kernel, zin (wt1 _ (List.mem_of_getElem? (i := 41) rfl)) rfl, zin (wt1 _ (List.mem_of_getElem? (i := 3) rfl)) rfl, by decide +kernel, by decide⟩, rfl, zin (wt1 _ (List.mem_of_getElem? (i := 40) rfl)) rfl⟩
def mX7_init : zMe := (yX7_init, cX7_init, 1, (Option.none : Option Jvm.ClassFile.FieldType))
theorem mX7_init_ok : zMI mX7_init 0 := ⟨⟨by decide +kernel, zin (wt1 _ (List.mem_of_getElem? (i := 127) rfl)) rfl, zin (wt1 _ (List.mem_of_getElem? (i := 4) rfl)) rfl, by decide +kernel, by decide⟩, rfl, zin (wt1 _ (List.mem_of_getElem? (i := 126) rfl)) rfl⟩
def mX5_init : zMe := (yX5_init, cX5_init, 1, (Option.none : Option Jvm.ClassFile.FieldType))
theorem mX5_init_ok : zMI mX5_init 0 := ⟨⟨by decide +kernel, zin (wt1 _ (List.mem_of_getElem? (i := 151) rfl)) rfl, zin (wt1 _ (List.mem_of_getElem? (i := 5) rfl)) rfl, by decide +kernel, by decide⟩, rfl, zin (wt1 _ (List.mem_of_getElem? (i := 150) rfl)) rfl⟩
def mX9_init : zMe := (yX9_init, cX9_init, 2, (Option.none : Option Jvm.ClassFile.FieldType))
theorem mX9_init_ok : zMI mX9_init 1 := ⟨⟨by decide +kernel, zin (wt1 _ (List.mem_of_getElem? (i := 191) rfl)) rfl, zin (wt1 _ (List.mem_of_getElem? (i := 6) rfl)) rfl, by decide +kernel, by decide⟩, rfl, zin (wt1 _ (List.mem_of_getElem? (i := 190) rfl)) rfl⟩
def mX10_init : zMe := (yX10_init, cX10_init, 3, (Option.none : Option Jvm.ClassFile.FieldType))
theorem mX10_init_ok : zMI mX10_init 2 := ⟨⟨by decide +kernel, zin (wt1 _ (List.mem_of_getElem? (i := 231) rfl)) rfl, zin (wt1 _ (List.mem_of_getElem? (i := 7) rfl)) rfl, by decide +kernel, by decide⟩, rfl, zin (wt1 _ (List.mem_of_getElem? (i := 230) rfl)) rfl⟩
def mX6_init : zMe := (yX6_init, cX6_init, 2, (Option.none : Option Jvm.ClassFile.FieldType))
theorem mX6_init_ok : zMI mX6_init 1 := ⟨⟨by decide +kernel, zin (wt2 _ (List.mem_of_getElem? (i := 13) rfl)) rfl, zin (wt1 _ (List.mem_of_getElem? (i := 8) rfl)) rfl, by decide +kernel, by decide⟩, rfl, zin (wt2 _ (List.mem_of_getElem? (i := 12) rfl)) rfl⟩
def mX8_init : zMe := (yX8_init, cX8_init, 1, (Option.none : Option Jvm.ClassFile.FieldType))
theorem mX8_init_ok : zMI mX8_init 0 := ⟨⟨by decide +kernel, zin (wt2 _ (List.mem_of_getElem? (i := 29) rfl)) rfl, zin (wt1 _ (List.mem_of_getElem? (i := 9) rfl)) rfl, by decide +kernel, by decide⟩, rfl, zin (wt2 _ (List.mem_of_getElem? (i := 28) rfl)) rfl⟩
def mX3_init : zMe := (yX3_init, cX3_init, 1, (Option.none : Option Jvm.ClassFile.FieldType))
theorem mX3_init_ok : zMI mX3_init 0 := ⟨⟨by decide +kernel, zin (wt2 _ (List.mem_of_getElem? (i := 45) rfl)) rfl, zin (wt1 _ (List.mem_of_getElem? (i := 10) rfl)) rfl, by decide +kernel, by decide⟩, rfl, zin (wt2 _ (List.mem_of_getElem? (i := 44) rfl)) rfl⟩
def mX0_init : zMe := (yX0_init, cX0_init, 2, (Option.none : Option Jvm.ClassFile.FieldType))
theorem mX0_init_ok : zMI mX0_init 1 := ⟨⟨by decide +kernel, zin (wt2 _ (List.mem_of_getElem? (i := 62) rfl)) rfl, zin (wt1 _ (List.mem_of_getElem? (i := 11) rfl)) rfl, by decide +kernel, by decide⟩, rfl, zin (wt2 _ (List.mem_of_getElem? (i := 61) rfl)) rfl⟩
def mX5_numberOf : zMe := (yX5_numberOf, cX5_numberOf, 6, (Option.some Jvm.ClassFile.FieldType.int))
theorem mX5_numberOf_ok : zMS mX5_numberOf 2 := ⟨⟨by decide +kernel, zin (wt2 _ (List.mem_of_getElem? (i := 66) rfl)) rfl, zin (wt1 _ (List.mem_of_getElem? (i := 5) rfl)) rfl, by decide +kernel, by decide⟩, zin (wt2 _ (List.mem_of_getElem? (i := 65) rfl)) rfl⟩
def mX1_asLaw : zMe := (yX1_asLaw, cX1_asLaw, 1, (Option.some (Jvm.ClassFile.FieldType.object "DrawerNames$Law")))
theorem mX1_asLaw_ok : zMV mX1_asLaw 0 := ⟨⟨by decide +kernel, zin (wt2 _ (List.mem_of_getElem? (i := 70) rfl)) rfl, zin (wt1 _ (List.mem_of_getElem? (i := 3) rfl)) rfl, by decide +kernel, by decide⟩, zin (wt2 _ (List.mem_of_getElem? (i := 69) rfl)) rfl, zin (wp1 (⟨"DrawerNames$Draft", "asLaw", "()LDrawerNames$Law;"⟩, 4) (List.mem_of_getElem? (i := 0) rfl)) rfl⟩
def mJ7_copyOf_59c91 : zMe := (yJ7_copyOf_59c91, cJ7_copyOf_59c91, 3, (Option.some (Jvm.ClassFile.FieldType.array Jvm.ClassFile.FieldType.int)))
theorem mJ7_copyOf_59c91_ok : zMS mJ7_copyOf_59c91 2 := ⟨⟨by decide +kernel, zin (wt2 _ (List.mem_of_getElem? (i := 75) rfl)) rfl, zin (wt1 _ (List.mem_of_getElem? (i := 13) rfl)) rfl, by decide +kernel, by decide⟩, zin (wt2 _ (List.mem_of_getElem? (i := 74) rfl)) rfl⟩
def mX2_init : zMe := (yX2_init, cX2_init, 3, (Option.none : Option Jvm.ClassFile.FieldType))
theorem mX2_init_ok : zMI mX2_init 2 := ⟨⟨by decide +kernel, zin (wt2 _ (List.mem_of_getElem? (i := 91) rfl)) rfl, zin (wt1 _ (List.mem_of_getElem? (i := 12) rfl)) rfl, by decide +kernel, by decide⟩, rfl, zin (wt2 _ (List.mem_of_getElem? (i := 90) rfl)) rfl⟩
def mX11_sitAt : zMe := (yX11_sitAt, cX11_sitAt, 2, (Option.none : Option Jvm.ClassFile.FieldType))
theorem mX11_sitAt_ok : zMV mX11_sitAt 1 := ⟨⟨by decide +kernel, zin (wt2 _ (List.mem_of_getElem? (i := 141) rfl)) rfl, zin (wt1 _ (List.mem_of_getElem? (i := 1) rfl)) rfl, by decide +kernel, by decide⟩, zin (wt2 _ (List.mem_of_getElem? (i := 140) rfl)) rfl, zin (wp1 (⟨"DrawerNames", "sitAt", "(LDrawerNames$Desk;)V"⟩, 18) (List.mem_of_getElem? (i := 1) rfl)) rfl⟩
def mX5_hold : zMe := (yX5_hold, cX5_hold, 3, (Option.none : Option Jvm.ClassFile.FieldType))
theorem mX5_hold_ok : zMV mX5_hold 1 := ⟨⟨by decide +kernel, zin (wt2 _ (List.mem_of_getElem? (i := 145) rfl)) rfl, zin (wt1 _ (List.mem_of_getElem? (i := 5) rfl)) rfl, by decide +kernel, by decide⟩, zin (wt2 _ (List.mem_of_getElem? (i := 144) rfl)) rfl, zin (wp1 (⟨"DrawerNames$Rows", "hold", "(I)V"⟩, 8) (List.mem_of_getElem? (i := 2) rfl)) rfl⟩
def mX5_fillRow : zMe := (yX5_fillRow, cX5_fillRow, 7, (Option.none : Option Jvm.ClassFile.FieldType))
theorem mX5_fillRow_ok : zMV mX5_fillRow 1 := ⟨⟨by decide +kernel, zin (wt2 _ (List.mem_of_getElem? (i := 151) rfl)) rfl, zin (wt1 _ (List.mem_of_getElem? (i := 5) rfl)) rfl, by decide +kernel, by decide⟩, zin (wt2 _ (List.mem_of_getElem? (i := 150) rfl)) rfl, zin (wp1 (⟨"DrawerNames$Rows", "fillRow", "(I)V"⟩, 8) (List.mem_of_getElem? (i := 3) rfl)) rfl⟩
def mX5_unusedName : zMe := (yX5_unusedName, cX5_unusedName, 5, (Option.some Jvm.ClassFile.FieldType.int))
theorem mX5_unusedName_ok : zMV mX5_unusedName 2 := ⟨⟨by decide +kernel, zin (wt2 _ (List.mem_of_getElem? (i := 155) rfl)) rfl, zin (wt1 _ (List.mem_of_getElem? (i := 5) rfl)) rfl, by decide +kernel, by decide⟩, zin (wt2 _ (List.mem_of_getElem? (i := 154) rfl)) rfl, zin (wp1 (⟨"DrawerNames$Rows", "unusedName", "(II)I"⟩, 8) (List.mem_of_getElem? (i := 4) rfl)) rfl⟩
def mX9_sitAt : zMe := (yX9_sitAt, cX9_sitAt, 3, (Option.none : Option Jvm.ClassFile.FieldType))
theorem mX9_sitAt_ok : zMV mX9_sitAt 1 := ⟨⟨by decide +kernel, zin (wt2 _ (List.mem_of_getElem? (i := 159) rfl)) rfl, zin (wt1 _ (List.mem_of_getElem? (i := 6) rfl)) rfl, by decide +kernel, by decide⟩, zin (wt2 _ (List.mem_of_getElem? (i := 158) rfl)) rfl, zin (wp1 (⟨"DrawerNames$Visits", "sitAt", "(LDrawerNames$Desk;)V"⟩, 10) (List.mem_of_getElem? (i := 5) rfl)) rfl⟩
def mX11_feed : zMe := (yX11_feed, cX11_feed, 6, (Option.some Jvm.ClassFile.FieldType.int))
theorem mX11_feed_ok : zMV mX11_feed 5 := ⟨⟨by decide +kernel, zin (wt2 _ (List.mem_of_getElem? (i := 218) rfl)) rfl, zin (wt1 _ (List.mem_of_getElem? (i := 1) rfl)) rfl, by decide +kernel, by decide⟩, zin (wt2 _ (List.mem_of_getElem? (i := 216) rfl)) rfl, zin (wt2 _ (List.mem_of_getElem? (i := 217) rfl)) rfl⟩
def mX11_putOnTape : zMe := (yX11_putOnTape, cX11_putOnTape, 3, (Option.none : Option Jvm.ClassFile.FieldType))
theorem mX11_putOnTape_ok : zMV mX11_putOnTape 1 := ⟨⟨by decide +kernel, zin (wt2 _ (List.mem_of_getElem? (i := 222) rfl)) rfl, zin (wt1 _ (List.mem_of_getElem? (i := 1) rfl)) rfl, by decide +kernel, by decide⟩, zin (wt2 _ (List.mem_of_getElem? (i := 221) rfl)) rfl, zin (wp1 (⟨"DrawerNames", "putOnTape", "(I)V"⟩, 18) (List.mem_of_getElem? (i := 6) rfl)) rfl⟩
def mX11_desk : zMe := (yX11_desk, cX11_desk, 3, (Option.some Jvm.ClassFile.FieldType.int))
theorem mX11_desk_ok : zMV mX11_desk 1 := ⟨⟨by decide +kernel, zin (wt2 _ (List.mem_of_getElem? (i := 226) rfl)) rfl, zin (wt1 _ (List.mem_of_getElem? (i := 1) rfl)) rfl, by decide +kernel, by decide⟩, zin (wt2 _ (List.mem_of_getElem? (i := 224) rfl)) rfl, zin (wt2 _ (List.mem_of_getElem? (i := 225) rfl)) rfl⟩
def mX4_read : zMe := (yX4_read, cX4_read, 4, (Option.none : Option Jvm.ClassFile.FieldType))
theorem mX4_read_ok : zMV mX4_read 2 := ⟨⟨by decide +kernel, zin (wt2 _ (List.mem_of_getElem? (i := 230) rfl)) rfl, zin (wt1 _ (List.mem_of_getElem? (i := 2) rfl)) rfl, by decide +kernel, by decide⟩, zin (wt2 _ (List.mem_of_getElem? (i := 229) rfl)) rfl, zin (wp1 (⟨"DrawerNames$Reader", "read", "([BI)V"⟩, 18) (List.mem_of_getElem? (i := 7) rfl)) rfl⟩
def mX4_clear : zMe := (yX4_clear, cX4_clear, 2, (Option.none : Option Jvm.ClassFile.FieldType))
theorem mX4_clear_ok : zMV mX4_clear 0 := ⟨⟨by decide +kernel, zin (wt2 _ (List.mem_of_getElem? (i := 234) rfl)) rfl, zin (wt1 _ (List.mem_of_getElem? (i := 2) rfl)) rfl, by decide +kernel, by decide⟩, zin (wt2 _ (List.mem_of_getElem? (i := 233) rfl)) rfl, zin (wp1 (⟨"DrawerNames$Reader", "clear", "()V"⟩, 18) (List.mem_of_getElem? (i := 8) rfl)) rfl⟩
def mX1_clear : zMe := (yX1_clear, cX1_clear, 1, (Option.none : Option Jvm.ClassFile.FieldType))
theorem mX1_clear_ok : zMV mX1_clear 0 := ⟨⟨by decide +kernel, zin (wt2 _ (List.mem_of_getElem? (i := 238) rfl)) rfl, zin (wt1 _ (List.mem_of_getElem? (i := 3) rfl)) rfl, by decide +kernel, by decide⟩, zin (wt2 _ (List.mem_of_getElem? (i := 237) rfl)) rfl, zin (wp1 (⟨"DrawerNames$Draft", "clear", "()V"⟩, 4) (List.mem_of_getElem? (i := 9) rfl)) rfl⟩
def mX4_advance : zMe := (yX4_advance, cX4_advance, 2, (Option.none : Option Jvm.ClassFile.FieldType))
theorem mX4_advance_ok : zMV mX4_advance 0 := ⟨⟨by decide +kernel, zin (wt3 _ (List.mem_of_getElem? (i := 3) rfl)) rfl, zin (wt1 _ (List.mem_of_getElem? (i := 2) rfl)) rfl, by decide +kernel, by decide⟩, zin (wt3 _ (List.mem_of_getElem? (i := 2) rfl)) rfl, zin (wp1 (⟨"DrawerNames$Reader", "advance", "()V"⟩, 18) (List.mem_of_getElem? (i := 10) rfl)) rfl⟩
def mX4_isLetter : zMe := (yX4_isLetter, cX4_isLetter, 1, (Option.some Jvm.ClassFile.FieldType.boolean))
theorem mX4_isLetter_ok : zMS mX4_isLetter 1 := ⟨⟨by decide +kernel, zin (wt3 _ (List.mem_of_getElem? (i := 6) rfl)) rfl, zin (wt1 _ (List.mem_of_getElem? (i := 2) rfl)) rfl, by decide +kernel, by decide⟩, zin (wt3 _ (List.mem_of_getElem? (i := 5) rfl)) rfl⟩
def mX4_wordBetween : zMe := (yX4_wordBetween, cX4_wordBetween, 8, (Option.some Jvm.ClassFile.FieldType.int))
theorem mX4_wordBetween_ok : zMV mX4_wordBetween 2 := ⟨⟨by decide +kernel, zin (wt3 _ (List.mem_of_getElem? (i := 10) rfl)) rfl, zin (wt1 _ (List.mem_of_getElem? (i := 2) rfl)) rfl, by decide +kernel, by decide⟩, zin (wt3 _ (List.mem_of_getElem? (i := 9) rfl)) rfl, zin (wp1 (⟨"DrawerNames$Reader", "wordBetween", "(II)I"⟩, 18) (List.mem_of_getElem? (i := 11) rfl)) rfl⟩
def mJ0_length_8abf5 : zMe := (yJ0_length_8abf5, cJ0_length_8abf5, 1, (Option.some Jvm.ClassFile.FieldType.int))
theorem mJ0_length_8abf5_ok : zMV mJ0_length_8abf5 0 := ⟨⟨by decide +kernel, zin (wt3 _ (List.mem_of_getElem? (i := 15) rfl)) rfl, zin (wt1 _ (List.mem_of_getElem? (i := 17) rfl)) rfl, by decide +kernel, by decide⟩, zin (wt3 _ (List.mem_of_getElem? (i := 13) rfl)) rfl, zin (wt3 _ (List.mem_of_getElem? (i := 14) rfl)) rfl⟩
def mJ0_coder_7d493 : zMe := (yJ0_coder_7d493, cJ0_coder_7d493, 1, (Option.some Jvm.ClassFile.FieldType.byte))
theorem mJ0_coder_7d493_ok : zMV mJ0_coder_7d493 0 := ⟨⟨by decide +kernel, zin (wt3 _ (List.mem_of_getElem? (i := 19) rfl)) rfl, zin (wt1 _ (List.mem_of_getElem? (i := 17) rfl)) rfl, by decide +kernel, by decide⟩, zin (wt3 _ (List.mem_of_getElem? (i := 17) rfl)) rfl, zin (wt3 _ (List.mem_of_getElem? (i := 18) rfl)) rfl⟩
def mJ0_charAt_5068e : zMe := (yJ0_charAt_5068e, cJ0_charAt_5068e, 2, (Option.some Jvm.ClassFile.FieldType.char))
theorem mJ0_charAt_5068e_ok : zMV mJ0_charAt_5068e 1 := ⟨⟨by decide +kernel, zin (wt3 _ (List.mem_of_getElem? (i := 25) rfl)) rfl, zin (wt1 _ (List.mem_of_getElem? (i := 17) rfl)) rfl, by decide +kernel, by decide⟩, zin (wt3 _ (List.mem_of_getElem? (i := 23) rfl)) rfl, zin (wt3 _ (List.mem_of_getElem? (i := 24) rfl)) rfl⟩
def mJ0_isLatin1_aae02 : zMe := (yJ0_isLatin1_aae02, cJ0_isLatin1_aae02, 1, (Option.some Jvm.ClassFile.FieldType.boolean))
theorem mJ0_isLatin1_aae02_ok : zMV mJ0_isLatin1_aae02 0 := ⟨⟨by decide +kernel, zin (wt3 _ (List.mem_of_getElem? (i := 29) rfl)) rfl, zin (wt1 _ (List.mem_of_getElem? (i := 17) rfl)) rfl, by decide +kernel, by decide⟩, zin (wt3 _ (List.mem_of_getElem? (i := 27) rfl)) rfl, zin (wt3 _ (List.mem_of_getElem? (i := 28) rfl)) rfl⟩
def mJ1_charAt_3b067 : zMe := (yJ1_charAt_3b067, cJ1_charAt_3b067, 2, (Option.some Jvm.ClassFile.FieldType.char))
theorem mJ1_charAt_3b067_ok : zMS mJ1_charAt_3b067 2 := ⟨⟨by decide +kernel, zin (wt3 _ (List.mem_of_getElem? (i := 32) rfl)) rfl, zin (wt1 _ (List.mem_of_getElem? (i := 18) rfl)) rfl, by decide +kernel, by decide⟩, zin (wt3 _ (List.mem_of_getElem? (i := 31) rfl)) rfl⟩
def mJ0_checkIndex_df160 : zMe := (yJ0_checkIndex_df160, cJ0_checkIndex_df160, 2, (Option.none : Option Jvm.ClassFile.FieldType))
theorem mJ0_checkIndex_df160_ok : zMS mJ0_checkIndex_df160 2 := ⟨⟨by decide +kernel, zin (wt3 _ (List.mem_of_getElem? (i := 35) rfl)) rfl, zin (wt1 _ (List.mem_of_getElem? (i := 17) rfl)) rfl, by decide +kernel, by decide⟩, zin (wt3 _ (List.mem_of_getElem? (i := 34) rfl)) rfl⟩
def mJ3_checkIndex_8e157 : zMe := (yJ3_checkIndex_8e157, cJ3_checkIndex_8e157, 3, (Option.some Jvm.ClassFile.FieldType.int))
theorem mJ3_checkIndex_8e157_ok : zMS mJ3_checkIndex_8e157 3 := ⟨⟨by decide +kernel, zin (wt3 _ (List.mem_of_getElem? (i := 40) rfl)) rfl, zin (wt1 _ (List.mem_of_getElem? (i := 19) rfl)) rfl, by decide +kernel, by decide⟩, zin (wt3 _ (List.mem_of_getElem? (i := 39) rfl)) rfl⟩
def mJ2_charAt_3b067 : zMe := (yJ2_charAt_3b067, cJ2_charAt_3b067, 2, (Option.some Jvm.ClassFile.FieldType.char))
theorem mJ2_charAt_3b067_ok : zMS mJ2_charAt_3b067 2 := ⟨⟨by decide +kernel, zin (wt3 _ (List.mem_of_getElem? (i := 43) rfl)) rfl, zin (wt1 _ (List.mem_of_getElem? (i := 20) rfl)) rfl, by decide +kernel, by decide⟩, zin (wt3 _ (List.mem_of_getElem? (i := 42) rfl)) rfl⟩
def mJ2_checkIndex_2214a : zMe := (yJ2_checkIndex_2214a, cJ2_checkIndex_2214a, 2, (Option.none : Option Jvm.ClassFile.FieldType))
theorem mJ2_checkIndex_2214a_ok : zMS mJ2_checkIndex_2214a 2 := ⟨⟨by decide +kernel, zin (wt3 _ (List.mem_of_getElem? (i := 46) rfl)) rfl, zin (wt1 _ (List.mem_of_getElem? (i := 20) rfl)) rfl, by decide +kernel, by decide⟩, zin (wt3 _ (List.mem_of_getElem? (i := 45) rfl)) rfl⟩
def mJ2_length_9d52b : zMe := (yJ2_length_9d52b, cJ2_length_9d52b, 1, (Option.some Jvm.ClassFile.FieldType.int))
theorem mJ2_length_9d52b_ok : zMS mJ2_length_9d52b 1 := ⟨⟨by decide +kernel, zin (wt3 _ (List.mem_of_getElem? (i := 49) rfl)) rfl, zin (wt1 _ (List.mem_of_getElem? (i := 20) rfl)) rfl, by decide +kernel, by decide⟩, zin (wt3 _ (List.mem_of_getElem? (i := 48) rfl)) rfl⟩
def mJ2_getChar_3b067 : zMe := (yJ2_getChar_3b067, cJ2_getChar_3b067, 2, (Option.some Jvm.ClassFile.FieldType.char))
theorem mJ2_getChar_3b067_ok : zMS mJ2_getChar_3b067 2 := ⟨⟨by decide +kernel, zin (wt3 _ (List.mem_of_getElem? (i := 53) rfl)) rfl, zin (wt1 _ (List.mem_of_getElem? (i := 20) rfl)) rfl, by decide +kernel, by decide⟩, zin (wt3 _ (List.mem_of_getElem? (i := 52) rfl)) rfl⟩
def mX4_isDigit : zMe := (yX4_isDigit, cX4_isDigit, 1, (Option.some Jvm.ClassFile.FieldType.boolean))
theorem mX4_isDigit_ok : zMS mX4_isDigit 1 := ⟨⟨by decide +kernel, zin (wt3 _ (List.mem_of_getElem? (i := 62) rfl)) rfl, zin (wt1 _ (List.mem_of_getElem? (i := 2) rfl)) rfl, by decide +kernel, by decide⟩, zin (wt3 _ (List.mem_of_getElem? (i := 61) rfl)) rfl⟩
def mX4_readNumber : zMe := (yX4_readNumber, cX4_readNumber, 1, (Option.none : Option Jvm.ClassFile.FieldType))
theorem mX4_readNumber_ok : zMV mX4_readNumber 0 := ⟨⟨by decide +kernel, zin (wt3 _ (List.mem_of_getElem? (i := 66) rfl)) rfl, zin (wt1 _ (List.mem_of_getElem? (i := 2) rfl)) rfl, by decide +kernel, by decide⟩, zin (wt3 _ (List.mem_of_getElem? (i := 65) rfl)) rfl, zin (wp1 (⟨"DrawerNames$Reader", "readNumber", "()V"⟩, 18) (List.mem_of_getElem? (i := 12) rfl)) rfl⟩
def mX4_fail : zMe := (yX4_fail, cX4_fail, 2, (Option.none : Option Jvm.ClassFile.FieldType))
theorem mX4_fail_ok : zMV mX4_fail 1 := ⟨⟨by decide +kernel, zin (wt3 _ (List.mem_of_getElem? (i := 70) rfl)) rfl, zin (wt1 _ (List.mem_of_getElem? (i := 2) rfl)) rfl, by decide +kernel, by decide⟩, zin (wt3 _ (List.mem_of_getElem? (i := 69) rfl)) rfl, zin (wp1 (⟨"DrawerNames$Reader", "fail", "(I)V"⟩, 18) (List.mem_of_getElem? (i := 13) rfl)) rfl⟩
def mJ0_indexOf_0f7a4 : zMe := (yJ0_indexOf_0f7a4, cJ0_indexOf_0f7a4, 2, (Option.some Jvm.ClassFile.FieldType.int))
theorem mJ0_indexOf_0f7a4_ok : zMV mJ0_indexOf_0f7a4 1 := ⟨⟨by decide +kernel, zin (wt3 _ (List.mem_of_getElem? (i := 75) rfl)) rfl, zin (wt1 _ (List.mem_of_getElem? (i := 17) rfl)) rfl, by decide +kernel, by decide⟩, zin (wt3 _ (List.mem_of_getElem? (i := 73) rfl)) rfl, zin (wt3 _ (List.mem_of_getElem? (i := 74) rfl)) rfl⟩
def mJ0_indexOf_7cf53 : zMe := (yJ0_indexOf_7cf53, cJ0_indexOf_7cf53, 3, (Option.some Jvm.ClassFile.FieldType.int))
theorem mJ0_indexOf_7cf53_ok : zMV mJ0_indexOf_7cf53 2 := ⟨⟨by decide +kernel, zin (wt3 _ (List.mem_of_getElem? (i := 79) rfl)) rfl, zin (wt1 _ (List.mem_of_getElem? (i := 17) rfl)) rfl, by decide +kernel, by decide⟩, zin (wt3 _ (List.mem_of_getElem? (i := 77) rfl)) rfl, zin (wt3 _ (List.mem_of_getElem? (i := 78) rfl)) rfl⟩
def mJ1_indexOf_4cfef : zMe := (yJ1_indexOf_4cfef, cJ1_indexOf_4cfef, 4, (Option.some Jvm.ClassFile.FieldType.int))
theorem mJ1_indexOf_4cfef_ok : zMS mJ1_indexOf_4cfef 4 := ⟨⟨by decide +kernel, zin (wt3 _ (List.mem_of_getElem? (i := 83) rfl)) rfl, zin (wt1 _ (List.mem_of_getElem? (i := 18) rfl)) rfl, by decide +kernel, by decide⟩, zin (wt3 _ (List.mem_of_getElem? (i := 82) rfl)) rfl⟩
def mJ1_canEncode_9a6ad : zMe := (yJ1_canEncode_9a6ad, cJ1_canEncode_9a6ad, 1, (Option.some Jvm.ClassFile.FieldType.boolean))
theorem mJ1_canEncode_9a6ad_ok : zMS mJ1_canEncode_9a6ad 1 := ⟨⟨by decide +kernel, zin (wt3 _ (List.mem_of_getElem? (i := 86) rfl)) rfl, zin (wt1 _ (List.mem_of_getElem? (i := 18) rfl)) rfl, by decide +kernel, by decide⟩, zin (wt3 _ (List.mem_of_getElem? (i := 85) rfl)) rfl⟩
def mJ1_indexOfChar_4cfef : zMe := (yJ1_indexOfChar_4cfef, cJ1_indexOfChar_4cfef, 6, (Option.some Jvm.ClassFile.FieldType.int))
theorem mJ1_indexOfChar_4cfef_ok : zMS mJ1_indexOfChar_4cfef 4 := ⟨⟨by decide +kernel, zin (wt3 _ (List.mem_of_getElem? (i := 91) rfl)) rfl, zin (wt1 _ (List.mem_of_getElem? (i := 18) rfl)) rfl, by decide +kernel, by decide⟩, zin (wt3 _ (List.mem_of_getElem? (i := 90) rfl)) rfl⟩
def mJ2_indexOf_4cfef : zMe := (yJ2_indexOf_4cfef, cJ2_indexOf_4cfef, 4, (Option.some Jvm.ClassFile.FieldType.int))
theorem mJ2_indexOf_4cfef_ok : zMS mJ2_indexOf_4cfef 4 := ⟨⟨by decide +kernel, zin (wt3 _ (List.mem_of_getElem? (i := 94) rfl)) rfl, zin (wt1 _ (List.mem_of_getElem? (i := 20) rfl)) rfl, by decide +kernel, by decide⟩, zin (wt3 _ (List.mem_of_getElem? (i := 93) rfl)) rfl⟩
def mJ2_indexOfChar_4cfef : zMe := (yJ2_indexOfChar_4cfef, cJ2_indexOfChar_4cfef, 4, (Option.some Jvm.ClassFile.FieldType.int))
theorem mJ2_indexOfChar_4cfef_ok : zMS mJ2_indexOfChar_4cfef 4 := ⟨⟨by decide +kernel, zin (wt3 _ (List.mem_of_getElem? (i := 100) rfl)) rfl, zin (wt1 _ (List.mem_of_getElem? (i := 20) rfl)) rfl, by decide +kernel, by decide⟩, zin (wt3 _ (List.mem_of_getElem? (i := 99) rfl)) rfl⟩
def mJ2_checkBoundsBeginEnd_d044e : zMe := (yJ2_checkBoundsBeginEnd_d044e, cJ2_checkBoundsBeginEnd_d044e, 3, (Option.none : Option Jvm.ClassFile.FieldType))
theorem mJ2_checkBoundsBeginEnd_d044e_ok : zMS mJ2_checkBoundsBeginEnd_d044e 3 := ⟨⟨by decide +kernel, zin (wt3 _ (List.mem_of_getElem? (i := 103) rfl)) rfl, zin (wt1 _ (List.mem_of_getElem? (i := 20) rfl)) rfl, by decide +kernel, by decide⟩, zin (wt3 _ (List.mem_of_getElem? (i := 102) rfl)) rfl⟩
def mJ0_checkBoundsBeginEnd_23922 : zMe := (yJ0_checkBoundsBeginEnd_23922, cJ0_checkBoundsBeginEnd_23922, 3, (Option.none : Option Jvm.ClassFile.FieldType))
theorem mJ0_checkBoundsBeginEnd_23922_ok : zMS mJ0_checkBoundsBeginEnd_23922 3 := ⟨⟨by decide +kernel, zin (wt3 _ (List.mem_of_getElem? (i := 106) rfl)) rfl, zin (wt1 _ (List.mem_of_getElem? (i := 17) rfl)) rfl, by decide +kernel, by decide⟩, zin (wt3 _ (List.mem_of_getElem? (i := 105) rfl)) rfl⟩
def mJ3_checkFromToIndex_8c36e : zMe := (yJ3_checkFromToIndex_8c36e, cJ3_checkFromToIndex_8c36e, 4, (Option.some Jvm.ClassFile.FieldType.int))
theorem mJ3_checkFromToIndex_8c36e_ok : zMS mJ3_checkFromToIndex_8c36e 4 := ⟨⟨by decide +kernel, zin (wt3 _ (List.mem_of_getElem? (i := 109) rfl)) rfl, zin (wt1 _ (List.mem_of_getElem? (i := 19) rfl)) rfl, by decide +kernel, by decide⟩, zin (wt3 _ (List.mem_of_getElem? (i := 108) rfl)) rfl⟩
def mJ2_indexOfCharUnsafe_4cfef : zMe := (yJ2_indexOfCharUnsafe_4cfef, cJ2_indexOfCharUnsafe_4cfef, 5, (Option.some Jvm.ClassFile.FieldType.int))
theorem mJ2_indexOfCharUnsafe_4cfef_ok : zMS mJ2_indexOfCharUnsafe_4cfef 4 := ⟨⟨by decide +kernel, zin (wt3 _ (List.mem_of_getElem? (i := 112) rfl)) rfl, zin (wt1 _ (List.mem_of_getElem? (i := 20) rfl)) rfl, by decide +kernel, by decide⟩, zin (wt3 _ (List.mem_of_getElem? (i := 111) rfl)) rfl⟩
def mJ2_indexOfSupplementary_4cfef : zMe := (yJ2_indexOfSupplementary_4cfef, cJ2_indexOfSupplementary_4cfef, 7, (Option.some Jvm.ClassFile.FieldType.int))
theorem mJ2_indexOfSupplementary_4cfef_ok : zMS mJ2_indexOfSupplementary_4cfef 4 := ⟨⟨by decide +kernel, zin (wt3 _ (List.mem_of_getElem? (i := 115) rfl)) rfl, zin (wt1 _ (List.mem_of_getElem? (i := 20) rfl)) rfl, by decide +kernel, by decide⟩, zin (wt3 _ (List.mem_of_getElem? (i := 114) rfl)) rfl⟩
def mJ11_isValidCodePoint_9a6ad : zMe := (yJ11_isValidCodePoint_9a6ad, cJ11_isValidCodePoint_9a6ad, 2, (Option.some Jvm.ClassFile.FieldType.boolean))
theorem mJ11_isValidCodePoint_9a6ad_ok : zMS mJ11_isValidCodePoint_9a6ad 1 := ⟨⟨by decide +kernel, zin (wt3 _ (List.mem_of_getElem? (i := 118) rfl)) rfl, zin (wt1 _ (List.mem_of_getElem? (i := 21) rfl)) rfl, by decide +kernel, by decide⟩, zin (wt3 _ (List.mem_of_getElem? (i := 117) rfl)) rfl⟩
def mJ11_highSurrogate_5068e : zMe := (yJ11_highSurrogate_5068e, cJ11_highSurrogate_5068e, 1, (Option.some Jvm.ClassFile.FieldType.char))
theorem mJ11_highSurrogate_5068e_ok : zMS mJ11_highSurrogate_5068e 1 := ⟨⟨by decide +kernel, zin (wt3 _ (List.mem_of_getElem? (i := 121) rfl)) rfl, zin (wt1 _ (List.mem_of_getElem? (i := 21) rfl)) rfl, by decide +kernel, by decide⟩, zin (wt3 _ (List.mem_of_getElem? (i := 120) rfl)) rfl⟩
def mJ11_lowSurrogate_5068e : zMe := (yJ11_lowSurrogate_5068e, cJ11_lowSurrogate_5068e, 1, (Option.some Jvm.ClassFile.FieldType.char))
theorem mJ11_lowSurrogate_5068e_ok : zMS mJ11_lowSurrogate_5068e 1 := ⟨⟨by decide +kernel, zin (wt3 _ (List.mem_of_getElem? (i := 125) rfl)) rfl, zin (wt1 _ (List.mem_of_getElem? (i := 21) rfl)) rfl, by decide +kernel, by decide⟩, zin (wt3 _ (List.mem_of_getElem? (i := 124) rfl)) rfl⟩
def mX4_header : zMe := (yX4_header, cX4_header, 1, (Option.none : Option Jvm.ClassFile.FieldType))
theorem mX4_header_ok : zMV mX4_header 0 := ⟨⟨by decide +kernel, zin (wt3 _ (List.mem_of_getElem? (i := 130) rfl)) rfl, zin (wt1 _ (List.mem_of_getElem? (i := 2) rfl)) rfl, by decide +kernel, by decide⟩, zin (wt3 _ (List.mem_of_getElem? (i := 129) rfl)) rfl, zin (wp1 (⟨"DrawerNames$Reader", "header", "()V"⟩, 18) (List.mem_of_getElem? (i := 14) rfl)) rfl⟩
def mX4_expect : zMe := (yX4_expect, cX4_expect, 2, (Option.none : Option Jvm.ClassFile.FieldType))
theorem mX4_expect_ok : zMV mX4_expect 1 := ⟨⟨by decide +kernel, zin (wt3 _ (List.mem_of_getElem? (i := 134) rfl)) rfl, zin (wt1 _ (List.mem_of_getElem? (i := 2) rfl)) rfl, by decide +kernel, by decide⟩, zin (wt3 _ (List.mem_of_getElem? (i := 133) rfl)) rfl, zin (wp1 (⟨"DrawerNames$Reader", "expect", "(I)V"⟩, 18) (List.mem_of_getElem? (i := 15) rfl)) rfl⟩
def mX4_number : zMe := (yX4_number, cX4_number, 4, (Option.some Jvm.ClassFile.FieldType.int))
theorem mX4_number_ok : zMV mX4_number 2 := ⟨⟨by decide +kernel, zin (wt3 _ (List.mem_of_getElem? (i := 138) rfl)) rfl, zin (wt1 _ (List.mem_of_getElem? (i := 2) rfl)) rfl, by decide +kernel, by decide⟩, zin (wt3 _ (List.mem_of_getElem? (i := 137) rfl)) rfl, zin (wp2 (⟨"DrawerNames$Reader", "number", "(II)I"⟩, 18) (List.mem_of_getElem? (i := 0) rfl)) rfl⟩
def mX4_line : zMe := (yX4_line, cX4_line, 1, (Option.none : Option Jvm.ClassFile.FieldType))
theorem mX4_line_ok : zMV mX4_line 0 := ⟨⟨by decide +kernel, zin (wt3 _ (List.mem_of_getElem? (i := 142) rfl)) rfl, zin (wt1 _ (List.mem_of_getElem? (i := 2) rfl)) rfl, by decide +kernel, by decide⟩, zin (wt3 _ (List.mem_of_getElem? (i := 141) rfl)) rfl, zin (wp2 (⟨"DrawerNames$Reader", "line", "()V"⟩, 18) (List.mem_of_getElem? (i := 1) rfl)) rfl⟩
def mX4_tell : zMe := (yX4_tell, cX4_tell, 4, (Option.none : Option Jvm.ClassFile.FieldType))
theorem mX4_tell_ok : zMV mX4_tell 1 := ⟨⟨by decide +kernel, zin (wt3 _ (List.mem_of_getElem? (i := 146) rfl)) rfl, zin (wt1 _ (List.mem_of_getElem? (i := 2) rfl)) rfl, by decide +kernel, by decide⟩, zin (wt3 _ (List.mem_of_getElem? (i := 145) rfl)) rfl, zin (wp2 (⟨"DrawerNames$Reader", "tell", "([I)V"⟩, 18) (List.mem_of_getElem? (i := 2) rfl)) rfl⟩
def mX4_begin : zMe := (yX4_begin, cX4_begin, 2, (Option.none : Option Jvm.ClassFile.FieldType))
theorem mX4_begin_ok : zMV mX4_begin 1 := ⟨⟨by decide +kernel, zin (wt3 _ (List.mem_of_getElem? (i := 150) rfl)) rfl, zin (wt1 _ (List.mem_of_getElem? (i := 2) rfl)) rfl, by decide +kernel, by decide⟩, zin (wt3 _ (List.mem_of_getElem? (i := 149) rfl)) rfl, zin (wp2 (⟨"DrawerNames$Reader", "begin", "(LDrawerNames$Draft;)V"⟩, 18) (List.mem_of_getElem? (i := 3) rfl)) rfl⟩
def mX4_sum : zMe := (yX4_sum, cX4_sum, 3, (Option.none : Option Jvm.ClassFile.FieldType))
theorem mX4_sum_ok : zMV mX4_sum 0 := ⟨⟨by decide +kernel, zin (wt3 _ (List.mem_of_getElem? (i := 154) rfl)) rfl, zin (wt1 _ (List.mem_of_getElem? (i := 2) rfl)) rfl, by decide +kernel, by decide⟩, zin (wt3 _ (List.mem_of_getElem? (i := 153) rfl)) rfl, zin (wp2 (⟨"DrawerNames$Reader", "sum", "()V"⟩, 18) (List.mem_of_getElem? (i := 4) rfl)) rfl⟩
def mX4_term : zMe := (yX4_term, cX4_term, 2, (Option.none : Option Jvm.ClassFile.FieldType))
theorem mX4_term_ok : zMV mX4_term 0 := ⟨⟨by decide +kernel, zin (wt3 _ (List.mem_of_getElem? (i := 158) rfl)) rfl, zin (wt1 _ (List.mem_of_getElem? (i := 2) rfl)) rfl, by decide +kernel, by decide⟩, zin (wt3 _ (List.mem_of_getElem? (i := 157) rfl)) rfl, zin (wp2 (⟨"DrawerNames$Reader", "term", "()V"⟩, 18) (List.mem_of_getElem? (i := 5) rfl)) rfl⟩
def mX4_atom : zMe := (yX4_atom, cX4_atom, 1, (Option.none : Option Jvm.ClassFile.FieldType))
theorem mX4_atom_ok : zMV mX4_atom 0 := ⟨⟨by decide +kernel, zin (wt3 _ (List.mem_of_getElem? (i := 162) rfl)) rfl, zin (wt1 _ (List.mem_of_getElem? (i := 2) rfl)) rfl, by decide +kernel, by decide⟩, zin (wt3 _ (List.mem_of_getElem? (i := 161) rfl)) rfl, zin (wp2 (⟨"DrawerNames$Reader", "atom", "()V"⟩, 18) (List.mem_of_getElem? (i := 6) rfl)) rfl⟩
def mX4_leaf : zMe := (yX4_leaf, cX4_leaf, 2, (Option.none : Option Jvm.ClassFile.FieldType))
theorem mX4_leaf_ok : zMV mX4_leaf 1 := ⟨⟨by decide +kernel, zin (wt3 _ (List.mem_of_getElem? (i := 166) rfl)) rfl, zin (wt1 _ (List.mem_of_getElem? (i := 2) rfl)) rfl, by decide +kernel, by decide⟩, zin (wt3 _ (List.mem_of_getElem? (i := 165) rfl)) rfl, zin (wp2 (⟨"DrawerNames$Reader", "leaf", "(I)V"⟩, 18) (List.mem_of_getElem? (i := 7) rfl)) rfl⟩
def mX1_add : zMe := (yX1_add, cX1_add, 2, (Option.none : Option Jvm.ClassFile.FieldType))
theorem mX1_add_ok : zMV mX1_add 1 := ⟨⟨by decide +kernel, zin (wt3 _ (List.mem_of_getElem? (i := 170) rfl)) rfl, zin (wt1 _ (List.mem_of_getElem? (i := 3) rfl)) rfl, by decide +kernel, by decide⟩, zin (wt3 _ (List.mem_of_getElem? (i := 169) rfl)) rfl, zin (wp2 (⟨"DrawerNames$Draft", "add", "(I)V"⟩, 4) (List.mem_of_getElem? (i := 8) rfl)) rfl⟩
def mX1_growth : zMe := (yX1_growth, cX1_growth, 1, (Option.some Jvm.ClassFile.FieldType.int))
theorem mX1_growth_ok : zMS mX1_growth 1 := ⟨⟨by decide +kernel, zin (wt3 _ (List.mem_of_getElem? (i := 173) rfl)) rfl, zin (wt1 _ (List.mem_of_getElem? (i := 3) rfl)) rfl, by decide +kernel, by decide⟩, zin (wt3 _ (List.mem_of_getElem? (i := 172) rfl)) rfl⟩
def mX4_enter : zMe := (yX4_enter, cX4_enter, 1, (Option.none : Option Jvm.ClassFile.FieldType))
theorem mX4_enter_ok : zMV mX4_enter 0 := ⟨⟨by decide +kernel, zin (wt3 _ (List.mem_of_getElem? (i := 178) rfl)) rfl, zin (wt1 _ (List.mem_of_getElem? (i := 2) rfl)) rfl, by decide +kernel, by decide⟩, zin (wt3 _ (List.mem_of_getElem? (i := 177) rfl)) rfl, zin (wp2 (⟨"DrawerNames$Reader", "enter", "()V"⟩, 18) (List.mem_of_getElem? (i := 9) rfl)) rfl⟩
def mX4_choice : zMe := (yX4_choice, cX4_choice, 1, (Option.none : Option Jvm.ClassFile.FieldType))
theorem mX4_choice_ok : zMV mX4_choice 0 := ⟨⟨by decide +kernel, zin (wt3 _ (List.mem_of_getElem? (i := 182) rfl)) rfl, zin (wt1 _ (List.mem_of_getElem? (i := 2) rfl)) rfl, by decide +kernel, by decide⟩, zin (wt3 _ (List.mem_of_getElem? (i := 181) rfl)) rfl, zin (wp2 (⟨"DrawerNames$Reader", "choice", "()V"⟩, 18) (List.mem_of_getElem? (i := 10) rfl)) rfl⟩
def mX4_truth : zMe := (yX4_truth, cX4_truth, 2, (Option.none : Option Jvm.ClassFile.FieldType))
theorem mX4_truth_ok : zMV mX4_truth 0 := ⟨⟨by decide +kernel, zin (wt3 _ (List.mem_of_getElem? (i := 186) rfl)) rfl, zin (wt1 _ (List.mem_of_getElem? (i := 2) rfl)) rfl, by decide +kernel, by decide⟩, zin (wt3 _ (List.mem_of_getElem? (i := 185) rfl)) rfl, zin (wp2 (⟨"DrawerNames$Reader", "truth", "()V"⟩, 18) (List.mem_of_getElem? (i := 11) rfl)) rfl⟩
def mX4_both : zMe := (yX4_both, cX4_both, 2, (Option.none : Option Jvm.ClassFile.FieldType))
theorem mX4_both_ok : zMV mX4_both 0 := ⟨⟨by decide +kernel, zin (wt3 _ (List.mem_of_getElem? (i := 190) rfl)) rfl, zin (wt1 _ (List.mem_of_getElem? (i := 2) rfl)) rfl, by decide +kernel, by decide⟩, zin (wt3 _ (List.mem_of_getElem? (i := 189) rfl)) rfl, zin (wp2 (⟨"DrawerNames$Reader", "both", "()V"⟩, 18) (List.mem_of_getElem? (i := 12) rfl)) rfl⟩
def mX4_unit : zMe := (yX4_unit, cX4_unit, 1, (Option.none : Option Jvm.ClassFile.FieldType))
theorem mX4_unit_ok : zMV mX4_unit 0 := ⟨⟨by decide +kernel, zin (wt3 _ (List.mem_of_getElem? (i := 194) rfl)) rfl, zin (wt1 _ (List.mem_of_getElem? (i := 2) rfl)) rfl, by decide +kernel, by decide⟩, zin (wt3 _ (List.mem_of_getElem? (i := 193) rfl)) rfl, zin (wp2 (⟨"DrawerNames$Reader", "unit", "()V"⟩, 18) (List.mem_of_getElem? (i := 13) rfl)) rfl⟩
def mX4_comparison : zMe := (yX4_comparison, cX4_comparison, 2, (Option.none : Option Jvm.ClassFile.FieldType))
theorem mX4_comparison_ok : zMV mX4_comparison 0 := ⟨⟨by decide +kernel, zin (wt3 _ (List.mem_of_getElem? (i := 198) rfl)) rfl, zin (wt1 _ (List.mem_of_getElem? (i := 2) rfl)) rfl, by decide +kernel, by decide⟩, zin (wt3 _ (List.mem_of_getElem? (i := 197) rfl)) rfl, zin (wp2 (⟨"DrawerNames$Reader", "comparison", "()V"⟩, 18) (List.mem_of_getElem? (i := 14) rfl)) rfl⟩
def mX4_stepOfSign : zMe := (yX4_stepOfSign, cX4_stepOfSign, 1, (Option.some Jvm.ClassFile.FieldType.int))
theorem mX4_stepOfSign_ok : zMV mX4_stepOfSign 0 := ⟨⟨by decide +kernel, zin (wt3 _ (List.mem_of_getElem? (i := 202) rfl)) rfl, zin (wt1 _ (List.mem_of_getElem? (i := 2) rfl)) rfl, by decide +kernel, by decide⟩, zin (wt3 _ (List.mem_of_getElem? (i := 201) rfl)) rfl, zin (wp2 (⟨"DrawerNames$Reader", "stepOfSign", "()I"⟩, 18) (List.mem_of_getElem? (i := 15) rfl)) rfl⟩
def mX4_isWhole : zMe := (yX4_isWhole, cX4_isWhole, 4, (Option.some Jvm.ClassFile.FieldType.boolean))
theorem mX4_isWhole_ok : zMV mX4_isWhole 1 := ⟨⟨by decide +kernel, zin (wt3 _ (List.mem_of_getElem? (i := 206) rfl)) rfl, zin (wt1 _ (List.mem_of_getElem? (i := 2) rfl)) rfl, by decide +kernel, by decide⟩, zin (wt3 _ (List.mem_of_getElem? (i := 205) rfl)) rfl, zin (wp3 (⟨"DrawerNames$Reader", "isWhole", "([I)Z"⟩, 18) (List.mem_of_getElem? (i := 0) rfl)) rfl⟩
def mX11_fault : zMe := (yX11_fault, cX11_fault, 2, (Option.some Jvm.ClassFile.FieldType.int))
theorem mX11_fault_ok : zMV mX11_fault 1 := ⟨⟨by decide +kernel, zin (wt3 _ (List.mem_of_getElem? (i := 210) rfl)) rfl, zin (wt1 _ (List.mem_of_getElem? (i := 1) rfl)) rfl, by decide +kernel, by decide⟩, zin (wt3 _ (List.mem_of_getElem? (i := 208) rfl)) rfl, zin (wt3 _ (List.mem_of_getElem? (i := 209) rfl)) rfl⟩
def mX11_drawer : zMe := (yX11_drawer, cX11_drawer, 3, (Option.some Jvm.ClassFile.FieldType.int))
theorem mX11_drawer_ok : zMV mX11_drawer 2 := ⟨⟨by decide +kernel, zin (wt3 _ (List.mem_of_getElem? (i := 214) rfl)) rfl, zin (wt1 _ (List.mem_of_getElem? (i := 1) rfl)) rfl, by decide +kernel, by decide⟩, zin (wt3 _ (List.mem_of_getElem? (i := 212) rfl)) rfl, zin (wt3 _ (List.mem_of_getElem? (i := 213) rfl)) rfl⟩
def mX11_isDrawer : zMe := (yX11_isDrawer, cX11_isDrawer, 2, (Option.some Jvm.ClassFile.FieldType.boolean))
theorem mX11_isDrawer_ok : zMV mX11_isDrawer 1 := ⟨⟨by decide +kernel, zin (wt3 _ (List.mem_of_getElem? (i := 218) rfl)) rfl, zin (wt1 _ (List.mem_of_getElem? (i := 1) rfl)) rfl, by decide +kernel, by decide⟩, zin (wt3 _ (List.mem_of_getElem? (i := 217) rfl)) rfl, zin (wp3 (⟨"DrawerNames", "isDrawer", "(I)Z"⟩, 18) (List.mem_of_getElem? (i := 1) rfl)) rfl⟩
def mX11_isOneOf : zMe := (yX11_isOneOf, cX11_isOneOf, 2, (Option.some Jvm.ClassFile.FieldType.boolean))
theorem mX11_isOneOf_ok : zMS mX11_isOneOf 2 := ⟨⟨by decide +kernel, zin (wt3 _ (List.mem_of_getElem? (i := 221) rfl)) rfl, zin (wt1 _ (List.mem_of_getElem? (i := 1) rfl)) rfl, by decide +kernel, by decide⟩, zin (wt3 _ (List.mem_of_getElem? (i := 220) rfl)) rfl⟩
def mX5_nameIn : zMe := (yX5_nameIn, cX5_nameIn, 4, (Option.some Jvm.ClassFile.FieldType.int))
theorem mX5_nameIn_ok : zMV mX5_nameIn 2 := ⟨⟨by decide +kernel, zin (wt3 _ (List.mem_of_getElem? (i := 225) rfl)) rfl, zin (wt1 _ (List.mem_of_getElem? (i := 5) rfl)) rfl, by decide +kernel, by decide⟩, zin (wt3 _ (List.mem_of_getElem? (i := 224) rfl)) rfl, zin (wp3 (⟨"DrawerNames$Rows", "nameIn", "(II)I"⟩, 8) (List.mem_of_getElem? (i := 2) rfl)) rfl⟩
def mX11_visit : zMe := (yX11_visit, cX11_visit, 3, (Option.some Jvm.ClassFile.FieldType.int))
theorem mX11_visit_ok : zMV mX11_visit 2 := ⟨⟨by decide +kernel, zin (wt3 _ (List.mem_of_getElem? (i := 229) rfl)) rfl, zin (wt1 _ (List.mem_of_getElem? (i := 1) rfl)) rfl, by decide +kernel, by decide⟩, zin (wt3 _ (List.mem_of_getElem? (i := 227) rfl)) rfl, zin (wt3 _ (List.mem_of_getElem? (i := 228) rfl)) rfl⟩
def mX9_go : zMe := (yX9_go, cX9_go, 6, (Option.none : Option Jvm.ClassFile.FieldType))
theorem mX9_go_ok : zMV mX9_go 3 := ⟨⟨by decide +kernel, zin (wt3 _ (List.mem_of_getElem? (i := 233) rfl)) rfl, zin (wt1 _ (List.mem_of_getElem? (i := 6) rfl)) rfl, by decide +kernel, by decide⟩, zin (wt3 _ (List.mem_of_getElem? (i := 232) rfl)) rfl, zin (wp3 (⟨"DrawerNames$Visits", "go", "(III)V"⟩, 10) (List.mem_of_getElem? (i := 3) rfl)) rfl⟩
def mX9_prepare : zMe := (yX9_prepare, cX9_prepare, 3, (Option.none : Option Jvm.ClassFile.FieldType))
theorem mX9_prepare_ok : zMV mX9_prepare 1 := ⟨⟨by decide +kernel, zin (wt3 _ (List.mem_of_getElem? (i := 237) rfl)) rfl, zin (wt1 _ (List.mem_of_getElem? (i := 6) rfl)) rfl, by decide +kernel, by decide⟩, zin (wt3 _ (List.mem_of_getElem? (i := 236) rfl)) rfl, zin (wp3 (⟨"DrawerNames$Visits", "prepare", "(I)V"⟩, 10) (List.mem_of_getElem? (i := 4) rfl)) rfl⟩
def mX9_nextMove : zMe := (yX9_nextMove, cX9_nextMove, 5, (Option.some Jvm.ClassFile.FieldType.int))
theorem mX9_nextMove_ok : zMV mX9_nextMove 0 := ⟨⟨by decide +kernel, zin (wt4 _ (List.mem_of_getElem? (i := 1) rfl)) rfl, zin (wt1 _ (List.mem_of_getElem? (i := 6) rfl)) rfl, by decide +kernel, by decide⟩, zin (wt4 _ (List.mem_of_getElem? (i := 0) rfl)) rfl, zin (wp3 (⟨"DrawerNames$Visits", "nextMove", "()I"⟩, 10) (List.mem_of_getElem? (i := 5) rfl)) rfl⟩
def mX2_tell : zMe := (yX2_tell, cX2_tell, 5, (Option.some Jvm.ClassFile.FieldType.int))
theorem mX2_tell_ok : zMV mX2_tell 1 := ⟨⟨by decide +kernel, zin (wt4 _ (List.mem_of_getElem? (i := 5) rfl)) rfl, zin (wt1 _ (List.mem_of_getElem? (i := 12) rfl)) rfl, by decide +kernel, by decide⟩, zin (wt4 _ (List.mem_of_getElem? (i := 4) rfl)) rfl, zin (wp3 (⟨"DrawerNames$Law", "tell", "([I)I"⟩, 2) (List.mem_of_getElem? (i := 6) rfl)) rfl⟩
def mX2_joined : zMe := (yX2_joined, cX2_joined, 3, (Option.some Jvm.ClassFile.FieldType.int))
theorem mX2_joined_ok : zMS mX2_joined 3 := ⟨⟨by decide +kernel, zin (wt4 _ (List.mem_of_getElem? (i := 8) rfl)) rfl, zin (wt1 _ (List.mem_of_getElem? (i := 12) rfl)) rfl, by decide +kernel, by decide⟩, zin (wt4 _ (List.mem_of_getElem? (i := 7) rfl)) rfl⟩
def mX2_kept : zMe := (yX2_kept, cX2_kept, 2, (Option.some Jvm.ClassFile.FieldType.int))
theorem mX2_kept_ok : zMS mX2_kept 1 := ⟨⟨by decide +kernel, zin (wt4 _ (List.mem_of_getElem? (i := 11) rfl)) rfl, zin (wt1 _ (List.mem_of_getElem? (i := 12) rfl)) rfl, by decide +kernel, by decide⟩, zin (wt4 _ (List.mem_of_getElem? (i := 10) rfl)) rfl⟩
def mX11_opened : zMe := (yX11_opened, cX11_opened, 3, (Option.some Jvm.ClassFile.FieldType.int))
theorem mX11_opened_ok : zMV mX11_opened 2 := ⟨⟨by decide +kernel, zin (wt4 _ (List.mem_of_getElem? (i := 24) rfl)) rfl, zin (wt1 _ (List.mem_of_getElem? (i := 1) rfl)) rfl, by decide +kernel, by decide⟩, zin (wt4 _ (List.mem_of_getElem? (i := 22) rfl)) rfl, zin (wt4 _ (List.mem_of_getElem? (i := 23) rfl)) rfl⟩
def mX9_openedAt : zMe := (yX9_openedAt, cX9_openedAt, 2, (Option.some Jvm.ClassFile.FieldType.int))
theorem mX9_openedAt_ok : zMV mX9_openedAt 1 := ⟨⟨by decide +kernel, zin (wt4 _ (List.mem_of_getElem? (i := 28) rfl)) rfl, zin (wt1 _ (List.mem_of_getElem? (i := 6) rfl)) rfl, by decide +kernel, by decide⟩, zin (wt4 _ (List.mem_of_getElem? (i := 27) rfl)) rfl, zin (wp3 (⟨"DrawerNames$Visits", "openedAt", "(I)I"⟩, 10) (List.mem_of_getElem? (i := 7) rfl)) rfl⟩
def mX11_letOff : zMe := (yX11_letOff, cX11_letOff, 1, (Option.some Jvm.ClassFile.FieldType.int))
theorem mX11_letOff_ok : zMV mX11_letOff 0 := ⟨⟨by decide +kernel, zin (wt4 _ (List.mem_of_getElem? (i := 32) rfl)) rfl, zin (wt1 _ (List.mem_of_getElem? (i := 1) rfl)) rfl, by decide +kernel, by decide⟩, zin (wt4 _ (List.mem_of_getElem? (i := 30) rfl)) rfl, zin (wt4 _ (List.mem_of_getElem? (i := 31) rfl)) rfl⟩
def mX9_maskOf : zMe := (yX9_maskOf, cX9_maskOf, 6, (Option.some Jvm.ClassFile.FieldType.int))
theorem mX9_maskOf_ok : zMV mX9_maskOf 2 := ⟨⟨by decide +kernel, zin (wt4 _ (List.mem_of_getElem? (i := 36) rfl)) rfl, zin (wt1 _ (List.mem_of_getElem? (i := 6) rfl)) rfl, by decide +kernel, by decide⟩, zin (wt4 _ (List.mem_of_getElem? (i := 35) rfl)) rfl, zin (wp3 (⟨"DrawerNames$Visits", "maskOf", "(II)I"⟩, 10) (List.mem_of_getElem? (i := 8) rfl)) rfl⟩
def mX11_swap : zMe := (yX11_swap, cX11_swap, 3, (Option.some Jvm.ClassFile.FieldType.int))
theorem mX11_swap_ok : zMV mX11_swap 2 := ⟨⟨by decide +kernel, zin (wt4 _ (List.mem_of_getElem? (i := 41) rfl)) rfl, zin (wt1 _ (List.mem_of_getElem? (i := 1) rfl)) rfl, by decide +kernel, by decide⟩, zin (wt4 _ (List.mem_of_getElem? (i := 39) rfl)) rfl, zin (wt4 _ (List.mem_of_getElem? (i := 40) rfl)) rfl⟩
def mX11_canSwap : zMe := (yX11_canSwap, cX11_canSwap, 3, (Option.some Jvm.ClassFile.FieldType.boolean))
theorem mX11_canSwap_ok : zMV mX11_canSwap 2 := ⟨⟨by decide +kernel, zin (wt4 _ (List.mem_of_getElem? (i := 45) rfl)) rfl, zin (wt1 _ (List.mem_of_getElem? (i := 1) rfl)) rfl, by decide +kernel, by decide⟩, zin (wt4 _ (List.mem_of_getElem? (i := 44) rfl)) rfl, zin (wp3 (⟨"DrawerNames", "canSwap", "(II)Z"⟩, 18) (List.mem_of_getElem? (i := 9) rfl)) rfl⟩
def mX11_keepForUndoing : zMe := (yX11_keepForUndoing, cX11_keepForUndoing, 2, (Option.none : Option Jvm.ClassFile.FieldType))
theorem mX11_keepForUndoing_ok : zMV mX11_keepForUndoing 1 := ⟨⟨by decide +kernel, zin (wt4 _ (List.mem_of_getElem? (i := 49) rfl)) rfl, zin (wt1 _ (List.mem_of_getElem? (i := 1) rfl)) rfl, by decide +kernel, by decide⟩, zin (wt4 _ (List.mem_of_getElem? (i := 48) rfl)) rfl, zin (wp3 (⟨"DrawerNames", "keepForUndoing", "(LDrawerNames$State;)V"⟩, 18) (List.mem_of_getElem? (i := 10) rfl)) rfl⟩
def mX11_forgetEldest : zMe := (yX11_forgetEldest, cX11_forgetEldest, 3, (Option.none : Option Jvm.ClassFile.FieldType))
theorem mX11_forgetEldest_ok : zMV mX11_forgetEldest 0 := ⟨⟨by decide +kernel, zin (wt4 _ (List.mem_of_getElem? (i := 53) rfl)) rfl, zin (wt1 _ (List.mem_of_getElem? (i := 1) rfl)) rfl, by decide +kernel, by decide⟩, zin (wt4 _ (List.mem_of_getElem? (i := 52) rfl)) rfl, zin (wp3 (⟨"DrawerNames", "forgetEldest", "()V"⟩, 18) (List.mem_of_getElem? (i := 11) rfl)) rfl⟩
def mX7_become : zMe := (yX7_become, cX7_become, 2, (Option.none : Option Jvm.ClassFile.FieldType))
theorem mX7_become_ok : zMV mX7_become 1 := ⟨⟨by decide +kernel, zin (wt4 _ (List.mem_of_getElem? (i := 57) rfl)) rfl, zin (wt1 _ (List.mem_of_getElem? (i := 4) rfl)) rfl, by decide +kernel, by decide⟩, zin (wt4 _ (List.mem_of_getElem? (i := 56) rfl)) rfl, zin (wp3 (⟨"DrawerNames$State", "become", "(LDrawerNames$State;)V"⟩, 3) (List.mem_of_getElem? (i := 12) rfl)) rfl⟩
def mX5_swappedRow : zMe := (yX5_swappedRow, cX5_swappedRow, 5, (Option.some Jvm.ClassFile.FieldType.int))
theorem mX5_swappedRow_ok : zMV mX5_swappedRow 3 := ⟨⟨by decide +kernel, zin (wt4 _ (List.mem_of_getElem? (i := 61) rfl)) rfl, zin (wt1 _ (List.mem_of_getElem? (i := 5) rfl)) rfl, by decide +kernel, by decide⟩, zin (wt4 _ (List.mem_of_getElem? (i := 60) rfl)) rfl, zin (wp3 (⟨"DrawerNames$Rows", "swappedRow", "(III)I"⟩, 8) (List.mem_of_getElem? (i := 13) rfl)) rfl⟩
def mX11_howManyFree : zMe := (yX11_howManyFree, cX11_howManyFree, 1, (Option.some Jvm.ClassFile.FieldType.int))
theorem mX11_howManyFree_ok : zMV mX11_howManyFree 0 := ⟨⟨by decide +kernel, zin (wt4 _ (List.mem_of_getElem? (i := 67) rfl)) rfl, zin (wt1 _ (List.mem_of_getElem? (i := 1) rfl)) rfl, by decide +kernel, by decide⟩, zin (wt4 _ (List.mem_of_getElem? (i := 66) rfl)) rfl, zin (wp3 (⟨"DrawerNames", "howManyFree", "()I"⟩, 18) (List.mem_of_getElem? (i := 14) rfl)) rfl⟩
def mJ6_bitCount_0f7a4 : zMe := (yJ6_bitCount_0f7a4, cJ6_bitCount_0f7a4, 1, (Option.some Jvm.ClassFile.FieldType.int))
theorem mJ6_bitCount_0f7a4_ok : zMS mJ6_bitCount_0f7a4 1 := ⟨⟨by decide +kernel, zin (wt4 _ (List.mem_of_getElem? (i := 70) rfl)) rfl, zin (wt1 _ (List.mem_of_getElem? (i := 22) rfl)) rfl, by decide +kernel, by decide⟩, zin (wt4 _ (List.mem_of_getElem? (i := 69) rfl)) rfl⟩
def mX11_nights : zMe := (yX11_nights, cX11_nights, 2, (Option.some Jvm.ClassFile.FieldType.int))
theorem mX11_nights_ok : zMV mX11_nights 1 := ⟨⟨by decide +kernel, zin (wt4 _ (List.mem_of_getElem? (i := 77) rfl)) rfl, zin (wt1 _ (List.mem_of_getElem? (i := 1) rfl)) rfl, by decide +kernel, by decide⟩, zin (wt4 _ (List.mem_of_getElem? (i := 75) rfl)) rfl, zin (wt4 _ (List.mem_of_getElem? (i := 76) rfl)) rfl⟩
def mX11_rowBehind : zMe := (yX11_rowBehind, cX11_rowBehind, 3, (Option.some Jvm.ClassFile.FieldType.int))
theorem mX11_rowBehind_ok : zMV mX11_rowBehind 1 := ⟨⟨by decide +kernel, zin (wt4 _ (List.mem_of_getElem? (i := 81) rfl)) rfl, zin (wt1 _ (List.mem_of_getElem? (i := 1) rfl)) rfl, by decide +kernel, by decide⟩, zin (wt4 _ (List.mem_of_getElem? (i := 80) rfl)) rfl, zin (wp3 (⟨"DrawerNames", "rowBehind", "(J)I"⟩, 18) (List.mem_of_getElem? (i := 15) rfl)) rfl⟩
def mX5_powerOf : zMe := (yX5_powerOf, cX5_powerOf, 6, (Option.some Jvm.ClassFile.FieldType.int))
theorem mX5_powerOf_ok : zMV mX5_powerOf 2 := ⟨⟨by decide +kernel, zin (wt4 _ (List.mem_of_getElem? (i := 85) rfl)) rfl, zin (wt1 _ (List.mem_of_getElem? (i := 5) rfl)) rfl, by decide +kernel, by decide⟩, zin (wt4 _ (List.mem_of_getElem? (i := 84) rfl)) rfl, zin (wp4 (⟨"DrawerNames$Rows", "powerOf", "(IJ)I"⟩, 8) (List.mem_of_getElem? (i := 0) rfl)) rfl⟩
def mX5_roundBits : zMe := (yX5_roundBits, cX5_roundBits, 6, (Option.some Jvm.ClassFile.FieldType.int))
theorem mX5_roundBits_ok : zMV mX5_roundBits 2 := ⟨⟨by decide +kernel, zin (wt4 _ (List.mem_of_getElem? (i := 89) rfl)) rfl, zin (wt1 _ (List.mem_of_getElem? (i := 5) rfl)) rfl, by decide +kernel, by decide⟩, zin (wt4 _ (List.mem_of_getElem? (i := 88) rfl)) rfl, zin (wp4 (⟨"DrawerNames$Rows", "roundBits", "(II)I"⟩, 8) (List.mem_of_getElem? (i := 1) rfl)) rfl⟩
def mX5_nameBehind : zMe := (yX5_nameBehind, cX5_nameBehind, 6, (Option.some Jvm.ClassFile.FieldType.int))
theorem mX5_nameBehind_ok : zMV mX5_nameBehind 3 := ⟨⟨by decide +kernel, zin (wt4 _ (List.mem_of_getElem? (i := 95) rfl)) rfl, zin (wt1 _ (List.mem_of_getElem? (i := 5) rfl)) rfl, by decide +kernel, by decide⟩, zin (wt4 _ (List.mem_of_getElem? (i := 94) rfl)) rfl, zin (wp4 (⟨"DrawerNames$Rows", "nameBehind", "(III)I"⟩, 8) (List.mem_of_getElem? (i := 2) rfl)) rfl⟩
def mX5_movedRow : zMe := (yX5_movedRow, cX5_movedRow, 5, (Option.some Jvm.ClassFile.FieldType.int))
theorem mX5_movedRow_ok : zMV mX5_movedRow 2 := ⟨⟨by decide +kernel, zin (wt4 _ (List.mem_of_getElem? (i := 99) rfl)) rfl, zin (wt1 _ (List.mem_of_getElem? (i := 5) rfl)) rfl, by decide +kernel, by decide⟩, zin (wt4 _ (List.mem_of_getElem? (i := 98) rfl)) rfl, zin (wp4 (⟨"DrawerNames$Rows", "movedRow", "(II)I"⟩, 8) (List.mem_of_getElem? (i := 3) rfl)) rfl⟩
def mX11_clue : zMe := (yX11_clue, cX11_clue, 3, (Option.some Jvm.ClassFile.FieldType.int))
theorem mX11_clue_ok : zMV mX11_clue 1 := ⟨⟨by decide +kernel, zin (wt4 _ (List.mem_of_getElem? (i := 103) rfl)) rfl, zin (wt1 _ (List.mem_of_getElem? (i := 1) rfl)) rfl, by decide +kernel, by decide⟩, zin (wt4 _ (List.mem_of_getElem? (i := 101) rfl)) rfl, zin (wt4 _ (List.mem_of_getElem? (i := 102) rfl)) rfl⟩
def mX11_undo : zMe := (yX11_undo, cX11_undo, 2, (Option.some Jvm.ClassFile.FieldType.int))
theorem mX11_undo_ok : zMV mX11_undo 1 := ⟨⟨by decide +kernel, zin (wt4 _ (List.mem_of_getElem? (i := 107) rfl)) rfl, zin (wt1 _ (List.mem_of_getElem? (i := 1) rfl)) rfl, by decide +kernel, by decide⟩, zin (wt4 _ (List.mem_of_getElem? (i := 105) rfl)) rfl, zin (wt4 _ (List.mem_of_getElem? (i := 106) rfl)) rfl⟩
def mX11_judge : zMe := (yX11_judge, cX11_judge, 5, (Option.some Jvm.ClassFile.FieldType.int))
theorem mX11_judge_ok : zMV mX11_judge 2 := ⟨⟨by decide +kernel, zin (wt4 _ (List.mem_of_getElem? (i := 111) rfl)) rfl, zin (wt1 _ (List.mem_of_getElem? (i := 1) rfl)) rfl, by decide +kernel, by decide⟩, zin (wt4 _ (List.mem_of_getElem? (i := 109) rfl)) rfl, zin (wt4 _ (List.mem_of_getElem? (i := 110) rfl)) rfl⟩
def mX8_isMissing : zMe := (yX8_isMissing, cX8_isMissing, 1, (Option.some Jvm.ClassFile.FieldType.boolean))
theorem mX8_isMissing_ok : zMV mX8_isMissing 0 := ⟨⟨by decide +kernel, zin (wt4 _ (List.mem_of_getElem? (i := 115) rfl)) rfl, zin (wt1 _ (List.mem_of_getElem? (i := 9) rfl)) rfl, by decide +kernel, by decide⟩, zin (wt4 _ (List.mem_of_getElem? (i := 114) rfl)) rfl, zin (wp4 (⟨"DrawerNames$Tray", "isMissing", "()Z"⟩, 3) (List.mem_of_getElem? (i := 4) rfl)) rfl⟩
def mX11_doDeeds : zMe := (yX11_doDeeds, cX11_doDeeds, 4, (Option.some Jvm.ClassFile.FieldType.int))
theorem mX11_doDeeds_ok : zMV mX11_doDeeds 2 := ⟨⟨by decide +kernel, zin (wt4 _ (List.mem_of_getElem? (i := 119) rfl)) rfl, zin (wt1 _ (List.mem_of_getElem? (i := 1) rfl)) rfl, by decide +kernel, by decide⟩, zin (wt4 _ (List.mem_of_getElem? (i := 118) rfl)) rfl, zin (wp4 (⟨"DrawerNames", "doDeeds", "(LDrawerNames$State;LDrawerNames$Tray;)I"⟩, 18) (List.mem_of_getElem? (i := 5) rfl)) rfl⟩
def mX8_valueAt : zMe := (yX8_valueAt, cX8_valueAt, 2, (Option.some Jvm.ClassFile.FieldType.long))
theorem mX8_valueAt_ok : zMV mX8_valueAt 1 := ⟨⟨by decide +kernel, zin (wt4 _ (List.mem_of_getElem? (i := 123) rfl)) rfl, zin (wt1 _ (List.mem_of_getElem? (i := 9) rfl)) rfl, by decide +kernel, by decide⟩, zin (wt4 _ (List.mem_of_getElem? (i := 122) rfl)) rfl, zin (wp4 (⟨"DrawerNames$Tray", "valueAt", "(I)J"⟩, 3) (List.mem_of_getElem? (i := 6) rfl)) rfl⟩
def mX11_doDeed : zMe := (yX11_doDeed, cX11_doDeed, 4, (Option.some Jvm.ClassFile.FieldType.boolean))
theorem mX11_doDeed_ok : zMV mX11_doDeed 2 := ⟨⟨by decide +kernel, zin (wt4 _ (List.mem_of_getElem? (i := 127) rfl)) rfl, zin (wt1 _ (List.mem_of_getElem? (i := 1) rfl)) rfl, by decide +kernel, by decide⟩, zin (wt4 _ (List.mem_of_getElem? (i := 126) rfl)) rfl, zin (wp4 (⟨"DrawerNames", "doDeed", "(LDrawerNames$State;J)Z"⟩, 18) (List.mem_of_getElem? (i := 7) rfl)) rfl⟩
def mX11_doSwap : zMe := (yX11_doSwap, cX11_doSwap, 4, (Option.some Jvm.ClassFile.FieldType.boolean))
theorem mX11_doSwap_ok : zMV mX11_doSwap 3 := ⟨⟨by decide +kernel, zin (wt4 _ (List.mem_of_getElem? (i := 135) rfl)) rfl, zin (wt1 _ (List.mem_of_getElem? (i := 1) rfl)) rfl, by decide +kernel, by decide⟩, zin (wt4 _ (List.mem_of_getElem? (i := 134) rfl)) rfl, zin (wp4 (⟨"DrawerNames", "doSwap", "(LDrawerNames$State;II)Z"⟩, 18) (List.mem_of_getElem? (i := 8) rfl)) rfl⟩
def mX11_perform : zMe := (yX11_perform, cX11_perform, 4, (Option.some Jvm.ClassFile.FieldType.int))
theorem mX11_perform_ok : zMV mX11_perform 1 := ⟨⟨by decide +kernel, zin (wt4 _ (List.mem_of_getElem? (i := 139) rfl)) rfl, zin (wt1 _ (List.mem_of_getElem? (i := 1) rfl)) rfl, by decide +kernel, by decide⟩, zin (wt4 _ (List.mem_of_getElem? (i := 137) rfl)) rfl, zin (wt4 _ (List.mem_of_getElem? (i := 138) rfl)) rfl⟩
def mX11_year : zMe := (yX11_year, cX11_year, 5, (Option.some Jvm.ClassFile.FieldType.int))
theorem mX11_year_ok : zMV mX11_year 2 := ⟨⟨by decide +kernel, zin (wt4 _ (List.mem_of_getElem? (i := 143) rfl)) rfl, zin (wt1 _ (List.mem_of_getElem? (i := 1) rfl)) rfl, by decide +kernel, by decide⟩, zin (wt4 _ (List.mem_of_getElem? (i := 141) rfl)) rfl, zin (wt4 _ (List.mem_of_getElem? (i := 142) rfl)) rfl⟩
def mX11_drawDeed : zMe := (yX11_drawDeed, cX11_drawDeed, 4, (Option.some Jvm.ClassFile.FieldType.int))
theorem mX11_drawDeed_ok : zMV mX11_drawDeed 0 := ⟨⟨by decide +kernel, zin (wt4 _ (List.mem_of_getElem? (i := 147) rfl)) rfl, zin (wt1 _ (List.mem_of_getElem? (i := 1) rfl)) rfl, by decide +kernel, by decide⟩, zin (wt4 _ (List.mem_of_getElem? (i := 146) rfl)) rfl, zin (wp4 (⟨"DrawerNames", "drawDeed", "()I"⟩, 18) (List.mem_of_getElem? (i := 9) rfl)) rfl⟩
def mX11_draw : zMe := (yX11_draw, cX11_draw, 1, (Option.some Jvm.ClassFile.FieldType.int))
theorem mX11_draw_ok : zMV mX11_draw 0 := ⟨⟨by decide +kernel, zin (wt4 _ (List.mem_of_getElem? (i := 151) rfl)) rfl, zin (wt1 _ (List.mem_of_getElem? (i := 1) rfl)) rfl, by decide +kernel, by decide⟩, zin (wt4 _ (List.mem_of_getElem? (i := 150) rfl)) rfl, zin (wp4 (⟨"DrawerNames", "draw", "()I"⟩, 18) (List.mem_of_getElem? (i := 10) rfl)) rfl⟩
def mX11_lies : zMe := (yX11_lies, cX11_lies, 2, (Option.some Jvm.ClassFile.FieldType.int))
theorem mX11_lies_ok : zMV mX11_lies 1 := ⟨⟨by decide +kernel, zin (wt4 _ (List.mem_of_getElem? (i := 156) rfl)) rfl, zin (wt1 _ (List.mem_of_getElem? (i := 1) rfl)) rfl, by decide +kernel, by decide⟩, zin (wt4 _ (List.mem_of_getElem? (i := 154) rfl)) rfl, zin (wt4 _ (List.mem_of_getElem? (i := 155) rfl)) rfl⟩
def mX5_roundsOf : zMe := (yX5_roundsOf, cX5_roundsOf, 4, (Option.some Jvm.ClassFile.FieldType.int))
theorem mX5_roundsOf_ok : zMV mX5_roundsOf 1 := ⟨⟨by decide +kernel, zin (wt4 _ (List.mem_of_getElem? (i := 160) rfl)) rfl, zin (wt1 _ (List.mem_of_getElem? (i := 5) rfl)) rfl, by decide +kernel, by decide⟩, zin (wt4 _ (List.mem_of_getElem? (i := 159) rfl)) rfl, zin (wp4 (⟨"DrawerNames$Rows", "roundsOf", "(I)I"⟩, 8) (List.mem_of_getElem? (i := 11) rfl)) rfl⟩
def mJ6_numberOfTrailingZeros_0f7a4 : zMe := (yJ6_numberOfTrailingZeros_0f7a4, cJ6_numberOfTrailingZeros_0f7a4, 2, (Option.some Jvm.ClassFile.FieldType.int))
theorem mJ6_numberOfTrailingZeros_0f7a4_ok : zMS mJ6_numberOfTrailingZeros_0f7a4 1 := ⟨⟨by decide +kernel, zin (wt4 _ (List.mem_of_getElem? (i := 163) rfl)) rfl, zin (wt1 _ (List.mem_of_getElem? (i := 22) rfl)) rfl, by decide +kernel, by decide⟩, zin (wt4 _ (List.mem_of_getElem? (i := 162) rfl)) rfl⟩
def mX5_longestOf : zMe := (yX5_longestOf, cX5_longestOf, 4, (Option.some Jvm.ClassFile.FieldType.int))
theorem mX5_longestOf_ok : zMV mX5_longestOf 1 := ⟨⟨by decide +kernel, zin (wt4 _ (List.mem_of_getElem? (i := 168) rfl)) rfl, zin (wt1 _ (List.mem_of_getElem? (i := 5) rfl)) rfl, by decide +kernel, by decide⟩, zin (wt4 _ (List.mem_of_getElem? (i := 167) rfl)) rfl, zin (wp4 (⟨"DrawerNames$Rows", "longestOf", "(I)I"⟩, 8) (List.mem_of_getElem? (i := 12) rfl)) rfl⟩
def mX5_fixedOf : zMe := (yX5_fixedOf, cX5_fixedOf, 4, (Option.some Jvm.ClassFile.FieldType.int))
theorem mX5_fixedOf_ok : zMV mX5_fixedOf 1 := ⟨⟨by decide +kernel, zin (wt4 _ (List.mem_of_getElem? (i := 172) rfl)) rfl, zin (wt1 _ (List.mem_of_getElem? (i := 5) rfl)) rfl, by decide +kernel, by decide⟩, zin (wt4 _ (List.mem_of_getElem? (i := 171) rfl)) rfl, zin (wp4 (⟨"DrawerNames$Rows", "fixedOf", "(I)I"⟩, 8) (List.mem_of_getElem? (i := 13) rfl)) rfl⟩
def mX5_orderOf : zMe := (yX5_orderOf, cX5_orderOf, 3, (Option.some Jvm.ClassFile.FieldType.int))
theorem mX5_orderOf_ok : zMV mX5_orderOf 1 := ⟨⟨by decide +kernel, zin (wt4 _ (List.mem_of_getElem? (i := 176) rfl)) rfl, zin (wt1 _ (List.mem_of_getElem? (i := 5) rfl)) rfl, by decide +kernel, by decide⟩, zin (wt4 _ (List.mem_of_getElem? (i := 175) rfl)) rfl, zin (wp4 (⟨"DrawerNames$Rows", "orderOf", "(I)I"⟩, 8) (List.mem_of_getElem? (i := 14) rfl)) rfl⟩
def mX5_inversionsOf : zMe := (yX5_inversionsOf, cX5_inversionsOf, 5, (Option.some Jvm.ClassFile.FieldType.int))
theorem mX5_inversionsOf_ok : zMV mX5_inversionsOf 1 := ⟨⟨by decide +kernel, zin (wt4 _ (List.mem_of_getElem? (i := 181) rfl)) rfl, zin (wt1 _ (List.mem_of_getElem? (i := 5) rfl)) rfl, by decide +kernel, by decide⟩, zin (wt4 _ (List.mem_of_getElem? (i := 180) rfl)) rfl, zin (wp4 (⟨"DrawerNames$Rows", "inversionsOf", "(I)I"⟩, 8) (List.mem_of_getElem? (i := 15) rfl)) rfl⟩
def mX11_round : zMe := (yX11_round, cX11_round, 4, (Option.some Jvm.ClassFile.FieldType.int))
theorem mX11_round_ok : zMV mX11_round 2 := ⟨⟨by decide +kernel, zin (wt4 _ (List.mem_of_getElem? (i := 185) rfl)) rfl, zin (wt1 _ (List.mem_of_getElem? (i := 1) rfl)) rfl, by decide +kernel, by decide⟩, zin (wt4 _ (List.mem_of_getElem? (i := 183) rfl)) rfl, zin (wt4 _ (List.mem_of_getElem? (i := 184) rfl)) rfl⟩
def mX11_power : zMe := (yX11_power, cX11_power, 3, (Option.some Jvm.ClassFile.FieldType.int))
theorem mX11_power_ok : zMV mX11_power 1 := ⟨⟨by decide +kernel, zin (wt4 _ (List.mem_of_getElem? (i := 190) rfl)) rfl, zin (wt1 _ (List.mem_of_getElem? (i := 1) rfl)) rfl, by decide +kernel, by decide⟩, zin (wt4 _ (List.mem_of_getElem? (i := 188) rfl)) rfl, zin (wt4 _ (List.mem_of_getElem? (i := 189) rfl)) rfl⟩
def mX11_roots : zMe := (yX11_roots, cX11_roots, 4, (Option.some Jvm.ClassFile.FieldType.int))
theorem mX11_roots_ok : zMV mX11_roots 1 := ⟨⟨by decide +kernel, zin (wt4 _ (List.mem_of_getElem? (i := 195) rfl)) rfl, zin (wt1 _ (List.mem_of_getElem? (i := 1) rfl)) rfl, by decide +kernel, by decide⟩, zin (wt4 _ (List.mem_of_getElem? (i := 193) rfl)) rfl, zin (wt4 _ (List.mem_of_getElem? (i := 194) rfl)) rfl⟩
def mX5_isRoot : zMe := (yX5_isRoot, cX5_isRoot, 5, (Option.some Jvm.ClassFile.FieldType.boolean))
theorem mX5_isRoot_ok : zMV mX5_isRoot 3 := ⟨⟨by decide +kernel, zin (wt4 _ (List.mem_of_getElem? (i := 199) rfl)) rfl, zin (wt1 _ (List.mem_of_getElem? (i := 5) rfl)) rfl, by decide +kernel, by decide⟩, zin (wt4 _ (List.mem_of_getElem? (i := 198) rfl)) rfl, zin (wp5 (⟨"DrawerNames$Rows", "isRoot", "(III)Z"⟩, 8) (List.mem_of_getElem? (i := 0) rfl)) rfl⟩
def mX11_bounded : zMe := (yX11_bounded, cX11_bounded, 4, (Option.some Jvm.ClassFile.FieldType.long))
theorem mX11_bounded_ok : zMV mX11_bounded 2 := ⟨⟨by decide +kernel, zin (wt4 _ (List.mem_of_getElem? (i := 203) rfl)) rfl, zin (wt1 _ (List.mem_of_getElem? (i := 1) rfl)) rfl, by decide +kernel, by decide⟩, zin (wt4 _ (List.mem_of_getElem? (i := 201) rfl)) rfl, zin (wt4 _ (List.mem_of_getElem? (i := 202) rfl)) rfl⟩
def mX11_boundedBy : zMe := (yX11_boundedBy, cX11_boundedBy, 8, (Option.some Jvm.ClassFile.FieldType.long))
theorem mX11_boundedBy_ok : zMV mX11_boundedBy 2 := ⟨⟨by decide +kernel, zin (wt4 _ (List.mem_of_getElem? (i := 208) rfl)) rfl, zin (wt1 _ (List.mem_of_getElem? (i := 1) rfl)) rfl, by decide +kernel, by decide⟩, zin (wt4 _ (List.mem_of_getElem? (i := 207) rfl)) rfl, zin (wp5 (⟨"DrawerNames", "boundedBy", "(II)J"⟩, 18) (List.mem_of_getElem? (i := 1) rfl)) rfl⟩
def mX11_fewest : zMe := (yX11_fewest, cX11_fewest, 2, (Option.some Jvm.ClassFile.FieldType.int))
theorem mX11_fewest_ok : zMV mX11_fewest 1 := ⟨⟨by decide +kernel, zin (wt4 _ (List.mem_of_getElem? (i := 212) rfl)) rfl, zin (wt1 _ (List.mem_of_getElem? (i := 1) rfl)) rfl, by decide +kernel, by decide⟩, zin (wt4 _ (List.mem_of_getElem? (i := 210) rfl)) rfl, zin (wt4 _ (List.mem_of_getElem? (i := 211) rfl)) rfl⟩
def mX11_isAim : zMe := (yX11_isAim, cX11_isAim, 1, (Option.some Jvm.ClassFile.FieldType.boolean))
theorem mX11_isAim_ok : zMS mX11_isAim 1 := ⟨⟨by decide +kernel, zin (wt4 _ (List.mem_of_getElem? (i := 215) rfl)) rfl, zin (wt1 _ (List.mem_of_getElem? (i := 1) rfl)) rfl, by decide +kernel, by decide⟩, zin (wt4 _ (List.mem_of_getElem? (i := 214) rfl)) rfl⟩
def mX10_measure : zMe := (yX10_measure, cX10_measure, 5, (Option.none : Option Jvm.ClassFile.FieldType))
theorem mX10_measure_ok : zMV mX10_measure 2 := ⟨⟨by decide +kernel, zin (wt4 _ (List.mem_of_getElem? (i := 219) rfl)) rfl, zin (wt1 _ (List.mem_of_getElem? (i := 7) rfl)) rfl, by decide +kernel, by decide⟩, zin (wt4 _ (List.mem_of_getElem? (i := 218) rfl)) rfl, zin (wp5 (⟨"DrawerNames$Ways", "measure", "(II)V"⟩, 5) (List.mem_of_getElem? (i := 2) rfl)) rfl⟩
def mX5_prepareSwaps : zMe := (yX5_prepareSwaps, cX5_prepareSwaps, 4, (Option.none : Option Jvm.ClassFile.FieldType))
theorem mX5_prepareSwaps_ok : zMV mX5_prepareSwaps 0 := ⟨⟨by decide +kernel, zin (wt4 _ (List.mem_of_getElem? (i := 223) rfl)) rfl, zin (wt1 _ (List.mem_of_getElem? (i := 5) rfl)) rfl, by decide +kernel, by decide⟩, zin (wt4 _ (List.mem_of_getElem? (i := 222) rfl)) rfl, zin (wp5 (⟨"DrawerNames$Rows", "prepareSwaps", "()V"⟩, 8) (List.mem_of_getElem? (i := 3) rfl)) rfl⟩
def mX5_fillSwapped : zMe := (yX5_fillSwapped, cX5_fillSwapped, 5, (Option.none : Option Jvm.ClassFile.FieldType))
theorem mX5_fillSwapped_ok : zMV mX5_fillSwapped 3 := ⟨⟨by decide +kernel, zin (wt4 _ (List.mem_of_getElem? (i := 227) rfl)) rfl, zin (wt1 _ (List.mem_of_getElem? (i := 5) rfl)) rfl, by decide +kernel, by decide⟩, zin (wt4 _ (List.mem_of_getElem? (i := 226) rfl)) rfl, zin (wp5 (⟨"DrawerNames$Rows", "fillSwapped", "(III)V"⟩, 8) (List.mem_of_getElem? (i := 4) rfl)) rfl⟩
def mX9_goalOf : zMe := (yX9_goalOf, cX9_goalOf, 2, (Option.some Jvm.ClassFile.FieldType.int))
theorem mX9_goalOf_ok : zMV mX9_goalOf 1 := ⟨⟨by decide +kernel, zin (wt4 _ (List.mem_of_getElem? (i := 232) rfl)) rfl, zin (wt1 _ (List.mem_of_getElem? (i := 6) rfl)) rfl, by decide +kernel, by decide⟩, zin (wt4 _ (List.mem_of_getElem? (i := 231) rfl)) rfl, zin (wp5 (⟨"DrawerNames$Visits", "goalOf", "(I)I"⟩, 10) (List.mem_of_getElem? (i := 5) rfl)) rfl⟩
def mX10_reach : zMe := (yX10_reach, cX10_reach, 3, (Option.none : Option Jvm.ClassFile.FieldType))
theorem mX10_reach_ok : zMV mX10_reach 2 := ⟨⟨by decide +kernel, zin (wt4 _ (List.mem_of_getElem? (i := 237) rfl)) rfl, zin (wt1 _ (List.mem_of_getElem? (i := 7) rfl)) rfl, by decide +kernel, by decide⟩, zin (wt4 _ (List.mem_of_getElem? (i := 236) rfl)) rfl, zin (wp5 (⟨"DrawerNames$Ways", "reach", "(II)V"⟩, 5) (List.mem_of_getElem? (i := 6) rfl)) rfl⟩
def mX10_reachNeighbours : zMe := (yX10_reachNeighbours, cX10_reachNeighbours, 5, (Option.none : Option Jvm.ClassFile.FieldType))
theorem mX10_reachNeighbours_ok : zMV mX10_reachNeighbours 1 := ⟨⟨by decide +kernel, zin (wt5 _ (List.mem_of_getElem? (i := 1) rfl)) rfl, zin (wt1 _ (List.mem_of_getElem? (i := 7) rfl)) rfl, by decide +kernel, by decide⟩, zin (wt5 _ (List.mem_of_getElem? (i := 0) rfl)) rfl, zin (wp5 (⟨"DrawerNames$Ways", "reachNeighbours", "(I)V"⟩, 5) (List.mem_of_getElem? (i := 7) rfl)) rfl⟩
def mX10_stepsFrom : zMe := (yX10_stepsFrom, cX10_stepsFrom, 2, (Option.some Jvm.ClassFile.FieldType.int))
theorem mX10_stepsFrom_ok : zMV mX10_stepsFrom 1 := ⟨⟨by decide +kernel, zin (wt5 _ (List.mem_of_getElem? (i := 5) rfl)) rfl, zin (wt1 _ (List.mem_of_getElem? (i := 7) rfl)) rfl, by decide +kernel, by decide⟩, zin (wt5 _ (List.mem_of_getElem? (i := 4) rfl)) rfl, zin (wp5 (⟨"DrawerNames$Ways", "stepsFrom", "(I)I"⟩, 5) (List.mem_of_getElem? (i := 8) rfl)) rfl⟩
def mX5_bySwap : zMe := (yX5_bySwap, cX5_bySwap, 4, (Option.some Jvm.ClassFile.FieldType.int))
theorem mX5_bySwap_ok : zMV mX5_bySwap 2 := ⟨⟨by decide +kernel, zin (wt5 _ (List.mem_of_getElem? (i := 9) rfl)) rfl, zin (wt1 _ (List.mem_of_getElem? (i := 5) rfl)) rfl, by decide +kernel, by decide⟩, zin (wt5 _ (List.mem_of_getElem? (i := 8) rfl)) rfl, zin (wp5 (⟨"DrawerNames$Rows", "bySwap", "(II)I"⟩, 8) (List.mem_of_getElem? (i := 9) rfl)) rfl⟩
def mX11_way : zMe := (yX11_way, cX11_way, 5, (Option.some Jvm.ClassFile.FieldType.int))
theorem mX11_way_ok : zMV mX11_way 2 := ⟨⟨by decide +kernel, zin (wt5 _ (List.mem_of_getElem? (i := 14) rfl)) rfl, zin (wt1 _ (List.mem_of_getElem? (i := 1) rfl)) rfl, by decide +kernel, by decide⟩, zin (wt5 _ (List.mem_of_getElem? (i := 12) rfl)) rfl, zin (wt5 _ (List.mem_of_getElem? (i := 13) rfl)) rfl⟩
def mX10_pairFrom : zMe := (yX10_pairFrom, cX10_pairFrom, 3, (Option.some Jvm.ClassFile.FieldType.int))
theorem mX10_pairFrom_ok : zMV mX10_pairFrom 1 := ⟨⟨by decide +kernel, zin (wt5 _ (List.mem_of_getElem? (i := 18) rfl)) rfl, zin (wt1 _ (List.mem_of_getElem? (i := 7) rfl)) rfl, by decide +kernel, by decide⟩, zin (wt5 _ (List.mem_of_getElem? (i := 17) rfl)) rfl, zin (wp5 (⟨"DrawerNames$Ways", "pairFrom", "(I)I"⟩, 5) (List.mem_of_getElem? (i := 10) rfl)) rfl⟩
def mX5_codeOf : zMe := (yX5_codeOf, cX5_codeOf, 2, (Option.some Jvm.ClassFile.FieldType.int))
theorem mX5_codeOf_ok : zMV mX5_codeOf 1 := ⟨⟨by decide +kernel, zin (wt5 _ (List.mem_of_getElem? (i := 23) rfl)) rfl, zin (wt1 _ (List.mem_of_getElem? (i := 5) rfl)) rfl, by decide +kernel, by decide⟩, zin (wt5 _ (List.mem_of_getElem? (i := 22) rfl)) rfl, zin (wp5 (⟨"DrawerNames$Rows", "codeOf", "(I)I"⟩, 8) (List.mem_of_getElem? (i := 11) rfl)) rfl⟩
def mX11_rows : zMe := (yX11_rows, cX11_rows, 4, (Option.some Jvm.ClassFile.FieldType.long))
theorem mX11_rows_ok : zMV mX11_rows 2 := ⟨⟨by decide +kernel, zin (wt5 _ (List.mem_of_getElem? (i := 27) rfl)) rfl, zin (wt1 _ (List.mem_of_getElem? (i := 1) rfl)) rfl, by decide +kernel, by decide⟩, zin (wt5 _ (List.mem_of_getElem? (i := 25) rfl)) rfl, zin (wt5 _ (List.mem_of_getElem? (i := 26) rfl)) rfl⟩
def mX6_begin : zMe := (yX6_begin, cX6_begin, 2, (Option.none : Option Jvm.ClassFile.FieldType))
theorem mX6_begin_ok : zMV mX6_begin 1 := ⟨⟨by decide +kernel, zin (wt5 _ (List.mem_of_getElem? (i := 32) rfl)) rfl, zin (wt1 _ (List.mem_of_getElem? (i := 8) rfl)) rfl, by decide +kernel, by decide⟩, zin (wt5 _ (List.mem_of_getElem? (i := 31) rfl)) rfl, zin (wp5 (⟨"DrawerNames$Spread", "begin", "(I)V"⟩, 3) (List.mem_of_getElem? (i := 12) rfl)) rfl⟩
def mJ7_fill_d0a16 : zMe := (yJ7_fill_d0a16, cJ7_fill_d0a16, 5, (Option.none : Option Jvm.ClassFile.FieldType))
theorem mJ7_fill_d0a16_ok : zMS mJ7_fill_d0a16 2 := ⟨⟨by decide +kernel, zin (wt5 _ (List.mem_of_getElem? (i := 36) rfl)) rfl, zin (wt1 _ (List.mem_of_getElem? (i := 13) rfl)) rfl, by decide +kernel, by decide⟩, zin (wt5 _ (List.mem_of_getElem? (i := 35) rfl)) rfl⟩
def mX6_bySwaps : zMe := (yX6_bySwaps, cX6_bySwaps, 5, (Option.none : Option Jvm.ClassFile.FieldType))
theorem mX6_bySwaps_ok : zMV mX6_bySwaps 0 := ⟨⟨by decide +kernel, zin (wt5 _ (List.mem_of_getElem? (i := 40) rfl)) rfl, zin (wt1 _ (List.mem_of_getElem? (i := 8) rfl)) rfl, by decide +kernel, by decide⟩, zin (wt5 _ (List.mem_of_getElem? (i := 39) rfl)) rfl, zin (wp5 (⟨"DrawerNames$Spread", "bySwaps", "()V"⟩, 3) (List.mem_of_getElem? (i := 13) rfl)) rfl⟩
def mX6_weightAt : zMe := (yX6_weightAt, cX6_weightAt, 2, (Option.some Jvm.ClassFile.FieldType.long))
theorem mX6_weightAt_ok : zMV mX6_weightAt 1 := ⟨⟨by decide +kernel, zin (wt5 _ (List.mem_of_getElem? (i := 44) rfl)) rfl, zin (wt1 _ (List.mem_of_getElem? (i := 8) rfl)) rfl, by decide +kernel, by decide⟩, zin (wt5 _ (List.mem_of_getElem? (i := 43) rfl)) rfl, zin (wp5 (⟨"DrawerNames$Spread", "weightAt", "(I)J"⟩, 3) (List.mem_of_getElem? (i := 14) rfl)) rfl⟩
def mX6_addLater : zMe := (yX6_addLater, cX6_addLater, 4, (Option.none : Option Jvm.ClassFile.FieldType))
theorem mX6_addLater_ok : zMV mX6_addLater 2 := ⟨⟨by decide +kernel, zin (wt5 _ (List.mem_of_getElem? (i := 49) rfl)) rfl, zin (wt1 _ (List.mem_of_getElem? (i := 8) rfl)) rfl, by decide +kernel, by decide⟩, zin (wt5 _ (List.mem_of_getElem? (i := 48) rfl)) rfl, zin (wp5 (⟨"DrawerNames$Spread", "addLater", "(IJ)V"⟩, 3) (List.mem_of_getElem? (i := 15) rfl)) rfl⟩
def mX6_goOn : zMe := (yX6_goOn, cX6_goOn, 2, (Option.none : Option Jvm.ClassFile.FieldType))
theorem mX6_goOn_ok : zMV mX6_goOn 0 := ⟨⟨by decide +kernel, zin (wt5 _ (List.mem_of_getElem? (i := 53) rfl)) rfl, zin (wt1 _ (List.mem_of_getElem? (i := 8) rfl)) rfl, by decide +kernel, by decide⟩, zin (wt5 _ (List.mem_of_getElem? (i := 52) rfl)) rfl, zin (wp6 (⟨"DrawerNames$Spread", "goOn", "()V"⟩, 3) (List.mem_of_getElem? (i := 0) rfl)) rfl⟩
def mX11_weightOf : zMe := (yX11_weightOf, cX11_weightOf, 8, (Option.some Jvm.ClassFile.FieldType.long))
theorem mX11_weightOf_ok : zMV mX11_weightOf 1 := ⟨⟨by decide +kernel, zin (wt5 _ (List.mem_of_getElem? (i := 57) rfl)) rfl, zin (wt1 _ (List.mem_of_getElem? (i := 1) rfl)) rfl, by decide +kernel, by decide⟩, zin (wt5 _ (List.mem_of_getElem? (i := 56) rfl)) rfl, zin (wp6 (⟨"DrawerNames", "weightOf", "(I)J"⟩, 18) (List.mem_of_getElem? (i := 1) rfl)) rfl⟩
def mX11_ofAll : zMe := (yX11_ofAll, cX11_ofAll, 2, (Option.some Jvm.ClassFile.FieldType.int))
theorem mX11_ofAll_ok : zMV mX11_ofAll 1 := ⟨⟨by decide +kernel, zin (wt5 _ (List.mem_of_getElem? (i := 63) rfl)) rfl, zin (wt1 _ (List.mem_of_getElem? (i := 1) rfl)) rfl, by decide +kernel, by decide⟩, zin (wt5 _ (List.mem_of_getElem? (i := 61) rfl)) rfl, zin (wt5 _ (List.mem_of_getElem? (i := 62) rfl)) rfl⟩
def mX11_rowsWithJust : zMe := (yX11_rowsWithJust, cX11_rowsWithJust, 4, (Option.some Jvm.ClassFile.FieldType.int))
theorem mX11_rowsWithJust_ok : zMV mX11_rowsWithJust 1 := ⟨⟨by decide +kernel, zin (wt5 _ (List.mem_of_getElem? (i := 67) rfl)) rfl, zin (wt1 _ (List.mem_of_getElem? (i := 1) rfl)) rfl, by decide +kernel, by decide⟩, zin (wt5 _ (List.mem_of_getElem? (i := 66) rfl)) rfl, zin (wp6 (⟨"DrawerNames", "rowsWithJust", "(I)I"⟩, 18) (List.mem_of_getElem? (i := 2) rfl)) rfl⟩
def mX11_ofOne : zMe := (yX11_ofOne, cX11_ofOne, 4, (Option.some Jvm.ClassFile.FieldType.int))
theorem mX11_ofOne_ok : zMV mX11_ofOne 1 := ⟨⟨by decide +kernel, zin (wt5 _ (List.mem_of_getElem? (i := 71) rfl)) rfl, zin (wt1 _ (List.mem_of_getElem? (i := 1) rfl)) rfl, by decide +kernel, by decide⟩, zin (wt5 _ (List.mem_of_getElem? (i := 69) rfl)) rfl, zin (wt5 _ (List.mem_of_getElem? (i := 70) rfl)) rfl⟩
def mX11_just : zMe := (yX11_just, cX11_just, 2, (Option.some Jvm.ClassFile.FieldType.int))
theorem mX11_just_ok : zMV mX11_just 1 := ⟨⟨by decide +kernel, zin (wt5 _ (List.mem_of_getElem? (i := 75) rfl)) rfl, zin (wt1 _ (List.mem_of_getElem? (i := 1) rfl)) rfl, by decide +kernel, by decide⟩, zin (wt5 _ (List.mem_of_getElem? (i := 73) rfl)) rfl, zin (wt5 _ (List.mem_of_getElem? (i := 74) rfl)) rfl⟩
def mX11_at : zMe := (yX11_at, cX11_at, 3, (Option.some Jvm.ClassFile.FieldType.int))
theorem mX11_at_ok : zMV mX11_at 1 := ⟨⟨by decide +kernel, zin (wt5 _ (List.mem_of_getElem? (i := 79) rfl)) rfl, zin (wt1 _ (List.mem_of_getElem? (i := 1) rfl)) rfl, by decide +kernel, by decide⟩, zin (wt5 _ (List.mem_of_getElem? (i := 77) rfl)) rfl, zin (wt5 _ (List.mem_of_getElem? (i := 78) rfl)) rfl⟩
def mX11_comesRound : zMe := (yX11_comesRound, cX11_comesRound, 1, (Option.some Jvm.ClassFile.FieldType.int))
theorem mX11_comesRound_ok : zMV mX11_comesRound 0 := ⟨⟨by decide +kernel, zin (wt5 _ (List.mem_of_getElem? (i := 83) rfl)) rfl, zin (wt1 _ (List.mem_of_getElem? (i := 1) rfl)) rfl, by decide +kernel, by decide⟩, zin (wt5 _ (List.mem_of_getElem? (i := 81) rfl)) rfl, zin (wt5 _ (List.mem_of_getElem? (i := 82) rfl)) rfl⟩
def mX11_first : zMe := (yX11_first, cX11_first, 5, (Option.some Jvm.ClassFile.FieldType.int))
theorem mX11_first_ok : zMV mX11_first 1 := ⟨⟨by decide +kernel, zin (wt5 _ (List.mem_of_getElem? (i := 87) rfl)) rfl, zin (wt1 _ (List.mem_of_getElem? (i := 1) rfl)) rfl, by decide +kernel, by decide⟩, zin (wt5 _ (List.mem_of_getElem? (i := 85) rfl)) rfl, zin (wt5 _ (List.mem_of_getElem? (i := 86) rfl)) rfl⟩
def mX11_often : zMe := (yX11_often, cX11_often, 5, (Option.some Jvm.ClassFile.FieldType.long))
theorem mX11_often_ok : zMV mX11_often 2 := ⟨⟨by decide +kernel, zin (wt5 _ (List.mem_of_getElem? (i := 91) rfl)) rfl, zin (wt1 _ (List.mem_of_getElem? (i := 1) rfl)) rfl, by decide +kernel, by decide⟩, zin (wt5 _ (List.mem_of_getElem? (i := 89) rfl)) rfl, zin (wt5 _ (List.mem_of_getElem? (i := 90) rfl)) rfl⟩
def mX11_hitsWithin : zMe := (yX11_hitsWithin, cX11_hitsWithin, 6, (Option.some Jvm.ClassFile.FieldType.int))
theorem mX11_hitsWithin_ok : zMV mX11_hitsWithin 2 := ⟨⟨by decide +kernel, zin (wt5 _ (List.mem_of_getElem? (i := 96) rfl)) rfl, zin (wt1 _ (List.mem_of_getElem? (i := 1) rfl)) rfl, by decide +kernel, by decide⟩, zin (wt5 _ (List.mem_of_getElem? (i := 95) rfl)) rfl, zin (wp6 (⟨"DrawerNames", "hitsWithin", "(II)I"⟩, 18) (List.mem_of_getElem? (i := 3) rfl)) rfl⟩
def mX11_found : zMe := (yX11_found, cX11_found, 4, (Option.some Jvm.ClassFile.FieldType.int))
theorem mX11_found_ok : zMV mX11_found 2 := ⟨⟨by decide +kernel, zin (wt5 _ (List.mem_of_getElem? (i := 100) rfl)) rfl, zin (wt1 _ (List.mem_of_getElem? (i := 1) rfl)) rfl, by decide +kernel, by decide⟩, zin (wt5 _ (List.mem_of_getElem? (i := 98) rfl)) rfl, zin (wt5 _ (List.mem_of_getElem? (i := 99) rfl)) rfl⟩
def mX11_refusalOfFound : zMe := (yX11_refusalOfFound, cX11_refusalOfFound, 4, (Option.some Jvm.ClassFile.FieldType.int))
theorem mX11_refusalOfFound_ok : zMV mX11_refusalOfFound 3 := ⟨⟨by decide +kernel, zin (wt5 _ (List.mem_of_getElem? (i := 104) rfl)) rfl, zin (wt1 _ (List.mem_of_getElem? (i := 1) rfl)) rfl, by decide +kernel, by decide⟩, zin (wt5 _ (List.mem_of_getElem? (i := 103) rfl)) rfl, zin (wp6 (⟨"DrawerNames", "refusalOfFound", "(III)I"⟩, 18) (List.mem_of_getElem? (i := 4) rfl)) rfl⟩
def mX11_refusalOfNumbers : zMe := (yX11_refusalOfNumbers, cX11_refusalOfNumbers, 4, (Option.some Jvm.ClassFile.FieldType.int))
theorem mX11_refusalOfNumbers_ok : zMS mX11_refusalOfNumbers 3 := ⟨⟨by decide +kernel, zin (wt5 _ (List.mem_of_getElem? (i := 107) rfl)) rfl, zin (wt1 _ (List.mem_of_getElem? (i := 1) rfl)) rfl, by decide +kernel, by decide⟩, zin (wt5 _ (List.mem_of_getElem? (i := 106) rfl)) rfl⟩
def mX11_gatherFound : zMe := (yX11_gatherFound, cX11_gatherFound, 5, (Option.some Jvm.ClassFile.FieldType.int))
theorem mX11_gatherFound_ok : zMV mX11_gatherFound 2 := ⟨⟨by decide +kernel, zin (wt5 _ (List.mem_of_getElem? (i := 111) rfl)) rfl, zin (wt1 _ (List.mem_of_getElem? (i := 1) rfl)) rfl, by decide +kernel, by decide⟩, zin (wt5 _ (List.mem_of_getElem? (i := 110) rfl)) rfl, zin (wp6 (⟨"DrawerNames", "gatherFound", "(LDrawerNames$Tray;I)I"⟩, 18) (List.mem_of_getElem? (i := 5) rfl)) rfl⟩
def mJ7_fill_53178 : zMe := (yJ7_fill_53178, cJ7_fill_53178, 4, (Option.none : Option Jvm.ClassFile.FieldType))
theorem mJ7_fill_53178_ok : zMS mJ7_fill_53178 2 := ⟨⟨by decide +kernel, zin (wt5 _ (List.mem_of_getElem? (i := 114) rfl)) rfl, zin (wt1 _ (List.mem_of_getElem? (i := 13) rfl)) rfl, by decide +kernel, by decide⟩, zin (wt5 _ (List.mem_of_getElem? (i := 113) rfl)) rfl⟩
def mX11_fits : zMe := (yX11_fits, cX11_fits, 7, (Option.some Jvm.ClassFile.FieldType.boolean))
theorem mX11_fits_ok : zMV mX11_fits 3 := ⟨⟨by decide +kernel, zin (wt5 _ (List.mem_of_getElem? (i := 118) rfl)) rfl, zin (wt1 _ (List.mem_of_getElem? (i := 1) rfl)) rfl, by decide +kernel, by decide⟩, zin (wt5 _ (List.mem_of_getElem? (i := 117) rfl)) rfl, zin (wp6 (⟨"DrawerNames", "fits", "(LDrawerNames$Tray;II)Z"⟩, 18) (List.mem_of_getElem? (i := 6) rfl)) rfl⟩
def mX11_countLying : zMe := (yX11_countLying, cX11_countLying, 4, (Option.none : Option Jvm.ClassFile.FieldType))
theorem mX11_countLying_ok : zMV mX11_countLying 1 := ⟨⟨by decide +kernel, zin (wt5 _ (List.mem_of_getElem? (i := 123) rfl)) rfl, zin (wt1 _ (List.mem_of_getElem? (i := 1) rfl)) rfl, by decide +kernel, by decide⟩, zin (wt5 _ (List.mem_of_getElem? (i := 122) rfl)) rfl, zin (wp6 (⟨"DrawerNames", "countLying", "(I)V"⟩, 18) (List.mem_of_getElem? (i := 7) rfl)) rfl⟩
def mX11_names : zMe := (yX11_names, cX11_names, 7, (Option.some Jvm.ClassFile.FieldType.int))
theorem mX11_names_ok : zMV mX11_names 3 := ⟨⟨by decide +kernel, zin (wt5 _ (List.mem_of_getElem? (i := 127) rfl)) rfl, zin (wt1 _ (List.mem_of_getElem? (i := 1) rfl)) rfl, by decide +kernel, by decide⟩, zin (wt5 _ (List.mem_of_getElem? (i := 125) rfl)) rfl, zin (wt5 _ (List.mem_of_getElem? (i := 126) rfl)) rfl⟩
def mX11_look : zMe := (yX11_look, cX11_look, 6, (Option.some Jvm.ClassFile.FieldType.int))
theorem mX11_look_ok : zMV mX11_look 2 := ⟨⟨by decide +kernel, zin (wt5 _ (List.mem_of_getElem? (i := 131) rfl)) rfl, zin (wt1 _ (List.mem_of_getElem? (i := 1) rfl)) rfl, by decide +kernel, by decide⟩, zin (wt5 _ (List.mem_of_getElem? (i := 129) rfl)) rfl, zin (wt5 _ (List.mem_of_getElem? (i := 130) rfl)) rfl⟩
def mX11_mostLying : zMe := (yX11_mostLying, cX11_mostLying, 4, (Option.some Jvm.ClassFile.FieldType.int))
theorem mX11_mostLying_ok : zMV mX11_mostLying 1 := ⟨⟨by decide +kernel, zin (wt5 _ (List.mem_of_getElem? (i := 135) rfl)) rfl, zin (wt1 _ (List.mem_of_getElem? (i := 1) rfl)) rfl, by decide +kernel, by decide⟩, zin (wt5 _ (List.mem_of_getElem? (i := 134) rfl)) rfl, zin (wp6 (⟨"DrawerNames", "mostLying", "(I)I"⟩, 18) (List.mem_of_getElem? (i := 8) rfl)) rfl⟩
def mX11_clues : zMe := (yX11_clues, cX11_clues, 6, (Option.some Jvm.ClassFile.FieldType.int))
theorem mX11_clues_ok : zMV mX11_clues 1 := ⟨⟨by decide +kernel, zin (wt5 _ (List.mem_of_getElem? (i := 139) rfl)) rfl, zin (wt1 _ (List.mem_of_getElem? (i := 1) rfl)) rfl, by decide +kernel, by decide⟩, zin (wt5 _ (List.mem_of_getElem? (i := 137) rfl)) rfl, zin (wt5 _ (List.mem_of_getElem? (i := 138) rfl)) rfl⟩
def mX11_wereLetOff : zMe := (yX11_wereLetOff, cX11_wereLetOff, 5, (Option.some Jvm.ClassFile.FieldType.boolean))
theorem mX11_wereLetOff_ok : zMV mX11_wereLetOff 2 := ⟨⟨by decide +kernel, zin (wt5 _ (List.mem_of_getElem? (i := 143) rfl)) rfl, zin (wt1 _ (List.mem_of_getElem? (i := 1) rfl)) rfl, by decide +kernel, by decide⟩, zin (wt5 _ (List.mem_of_getElem? (i := 142) rfl)) rfl, zin (wp6 (⟨"DrawerNames", "wereLetOff", "(LDrawerNames$Tray;I)Z"⟩, 18) (List.mem_of_getElem? (i := 9) rfl)) rfl⟩
def mX11_forces : zMe := (yX11_forces, cX11_forces, 2, (Option.some Jvm.ClassFile.FieldType.int))
theorem mX11_forces_ok : zMV mX11_forces 1 := ⟨⟨by decide +kernel, zin (wt5 _ (List.mem_of_getElem? (i := 147) rfl)) rfl, zin (wt1 _ (List.mem_of_getElem? (i := 1) rfl)) rfl, by decide +kernel, by decide⟩, zin (wt5 _ (List.mem_of_getElem? (i := 145) rfl)) rfl, zin (wt5 _ (List.mem_of_getElem? (i := 146) rfl)) rfl⟩
def mX11_pairTo : zMe := (yX11_pairTo, cX11_pairTo, 4, (Option.some Jvm.ClassFile.FieldType.int))
theorem mX11_pairTo_ok : zMV mX11_pairTo 1 := ⟨⟨by decide +kernel, zin (wt5 _ (List.mem_of_getElem? (i := 151) rfl)) rfl, zin (wt1 _ (List.mem_of_getElem? (i := 1) rfl)) rfl, by decide +kernel, by decide⟩, zin (wt5 _ (List.mem_of_getElem? (i := 150) rfl)) rfl, zin (wp6 (⟨"DrawerNames", "pairTo", "(I)I"⟩, 18) (List.mem_of_getElem? (i := 10) rfl)) rfl⟩
def mX11_best : zMe := (yX11_best, cX11_best, 3, (Option.some Jvm.ClassFile.FieldType.int))
theorem mX11_best_ok : zMV mX11_best 1 := ⟨⟨by decide +kernel, zin (wt5 _ (List.mem_of_getElem? (i := 156) rfl)) rfl, zin (wt1 _ (List.mem_of_getElem? (i := 1) rfl)) rfl, by decide +kernel, by decide⟩, zin (wt5 _ (List.mem_of_getElem? (i := 154) rfl)) rfl, zin (wt5 _ (List.mem_of_getElem? (i := 155) rfl)) rfl⟩
def mX11_chance : zMe := (yX11_chance, cX11_chance, 6, (Option.some Jvm.ClassFile.FieldType.int))
theorem mX11_chance_ok : zMV mX11_chance 3 := ⟨⟨by decide +kernel, zin (wt5 _ (List.mem_of_getElem? (i := 160) rfl)) rfl, zin (wt1 _ (List.mem_of_getElem? (i := 1) rfl)) rfl, by decide +kernel, by decide⟩, zin (wt5 _ (List.mem_of_getElem? (i := 158) rfl)) rfl, zin (wt5 _ (List.mem_of_getElem? (i := 159) rfl)) rfl⟩
def mX11_drawLots : zMe := (yX11_drawLots, cX11_drawLots, 5, (Option.some Jvm.ClassFile.FieldType.long))
theorem mX11_drawLots_ok : zMV mX11_drawLots 1 := ⟨⟨by decide +kernel, zin (wt5 _ (List.mem_of_getElem? (i := 164) rfl)) rfl, zin (wt1 _ (List.mem_of_getElem? (i := 1) rfl)) rfl, by decide +kernel, by decide⟩, zin (wt5 _ (List.mem_of_getElem? (i := 163) rfl)) rfl, zin (wp6 (⟨"DrawerNames", "drawLots", "(I)J"⟩, 18) (List.mem_of_getElem? (i := 11) rfl)) rfl⟩
def mX6_byLots : zMe := (yX6_byLots, cX6_byLots, 2, (Option.none : Option Jvm.ClassFile.FieldType))
theorem mX6_byLots_ok : zMV mX6_byLots 0 := ⟨⟨by decide +kernel, zin (wt5 _ (List.mem_of_getElem? (i := 168) rfl)) rfl, zin (wt1 _ (List.mem_of_getElem? (i := 8) rfl)) rfl, by decide +kernel, by decide⟩, zin (wt5 _ (List.mem_of_getElem? (i := 167) rfl)) rfl, zin (wp6 (⟨"DrawerNames$Spread", "byLots", "()V"⟩, 3) (List.mem_of_getElem? (i := 12) rfl)) rfl⟩
def mX6_addLots : zMe := (yX6_addLots, cX6_addLots, 3, (Option.none : Option Jvm.ClassFile.FieldType))
theorem mX6_addLots_ok : zMV mX6_addLots 1 := ⟨⟨by decide +kernel, zin (wt5 _ (List.mem_of_getElem? (i := 172) rfl)) rfl, zin (wt1 _ (List.mem_of_getElem? (i := 8) rfl)) rfl, by decide +kernel, by decide⟩, zin (wt5 _ (List.mem_of_getElem? (i := 171) rfl)) rfl, zin (wp6 (⟨"DrawerNames$Spread", "addLots", "(I)V"⟩, 3) (List.mem_of_getElem? (i := 13) rfl)) rfl⟩
def mX6_isOfNeighbours : zMe := (yX6_isOfNeighbours, cX6_isOfNeighbours, 1, (Option.some Jvm.ClassFile.FieldType.boolean))
theorem mX6_isOfNeighbours_ok : zMS mX6_isOfNeighbours 1 := ⟨⟨by decide +kernel, zin (wt5 _ (List.mem_of_getElem? (i := 176) rfl)) rfl, zin (wt1 _ (List.mem_of_getElem? (i := 8) rfl)) rfl, by decide +kernel, by decide⟩, zin (wt5 _ (List.mem_of_getElem? (i := 175) rfl)) rfl⟩
def mX11_inLowestTerms : zMe := (yX11_inLowestTerms, cX11_inLowestTerms, 7, (Option.some Jvm.ClassFile.FieldType.int))
theorem mX11_inLowestTerms_ok : zMS mX11_inLowestTerms 3 := ⟨⟨by decide +kernel, zin (wt5 _ (List.mem_of_getElem? (i := 179) rfl)) rfl, zin (wt1 _ (List.mem_of_getElem? (i := 1) rfl)) rfl, by decide +kernel, by decide⟩, zin (wt5 _ (List.mem_of_getElem? (i := 178) rfl)) rfl⟩
def mX11_greatestDivisor : zMe := (yX11_greatestDivisor, cX11_greatestDivisor, 11, (Option.some Jvm.ClassFile.FieldType.long))
theorem mX11_greatestDivisor_ok : zMS mX11_greatestDivisor 2 := ⟨⟨by decide +kernel, zin (wt5 _ (List.mem_of_getElem? (i := 182) rfl)) rfl, zin (wt1 _ (List.mem_of_getElem? (i := 1) rfl)) rfl, by decide +kernel, by decide⟩, zin (wt5 _ (List.mem_of_getElem? (i := 181) rfl)) rfl⟩
def mX11_mean : zMe := (yX11_mean, cX11_mean, 10, (Option.some Jvm.ClassFile.FieldType.int))
theorem mX11_mean_ok : zMV mX11_mean 2 := ⟨⟨by decide +kernel, zin (wt5 _ (List.mem_of_getElem? (i := 189) rfl)) rfl, zin (wt1 _ (List.mem_of_getElem? (i := 1) rfl)) rfl, by decide +kernel, by decide⟩, zin (wt5 _ (List.mem_of_getElem? (i := 187) rfl)) rfl, zin (wt5 _ (List.mem_of_getElem? (i := 188) rfl)) rfl⟩
def mX11_numbers : zMe := (yX11_numbers, cX11_numbers, 4, (Option.some Jvm.ClassFile.FieldType.int))
theorem mX11_numbers_ok : zMV mX11_numbers 3 := ⟨⟨by decide +kernel, zin (wt5 _ (List.mem_of_getElem? (i := 193) rfl)) rfl, zin (wt1 _ (List.mem_of_getElem? (i := 1) rfl)) rfl, by decide +kernel, by decide⟩, zin (wt5 _ (List.mem_of_getElem? (i := 191) rfl)) rfl, zin (wt5 _ (List.mem_of_getElem? (i := 192) rfl)) rfl⟩
def mX8_empty : zMe := (yX8_empty, cX8_empty, 3, (Option.none : Option Jvm.ClassFile.FieldType))
theorem mX8_empty_ok : zMV mX8_empty 2 := ⟨⟨by decide +kernel, zin (wt5 _ (List.mem_of_getElem? (i := 197) rfl)) rfl, zin (wt1 _ (List.mem_of_getElem? (i := 9) rfl)) rfl, by decide +kernel, by decide⟩, zin (wt5 _ (List.mem_of_getElem? (i := 196) rfl)) rfl, zin (wp6 (⟨"DrawerNames$Tray", "empty", "(II)V"⟩, 3) (List.mem_of_getElem? (i := 14) rfl)) rfl⟩
def mX11_write : zMe := (yX11_write, cX11_write, 6, (Option.some Jvm.ClassFile.FieldType.long))
theorem mX11_write_ok : zMV mX11_write 3 := ⟨⟨by decide +kernel, zin (wt5 _ (List.mem_of_getElem? (i := 202) rfl)) rfl, zin (wt1 _ (List.mem_of_getElem? (i := 1) rfl)) rfl, by decide +kernel, by decide⟩, zin (wt5 _ (List.mem_of_getElem? (i := 200) rfl)) rfl, zin (wt5 _ (List.mem_of_getElem? (i := 201) rfl)) rfl⟩
def mX8_put : zMe := (yX8_put, cX8_put, 6, (Option.some Jvm.ClassFile.FieldType.long))
theorem mX8_put_ok : zMV mX8_put 2 := ⟨⟨by decide +kernel, zin (wt5 _ (List.mem_of_getElem? (i := 208) rfl)) rfl, zin (wt1 _ (List.mem_of_getElem? (i := 9) rfl)) rfl, by decide +kernel, by decide⟩, zin (wt5 _ (List.mem_of_getElem? (i := 207) rfl)) rfl, zin (wp6 (⟨"DrawerNames$Tray", "put", "(IJ)J"⟩, 3) (List.mem_of_getElem? (i := 15) rfl)) rfl⟩
def mX8_cutToSort : zMe := (yX8_cutToSort, cX8_cutToSort, 3, (Option.some Jvm.ClassFile.FieldType.long))
theorem mX8_cutToSort_ok : zMV mX8_cutToSort 1 := ⟨⟨by decide +kernel, zin (wt5 _ (List.mem_of_getElem? (i := 212) rfl)) rfl, zin (wt1 _ (List.mem_of_getElem? (i := 9) rfl)) rfl, by decide +kernel, by decide⟩, zin (wt5 _ (List.mem_of_getElem? (i := 211) rfl)) rfl, zin (wp7 (⟨"DrawerNames$Tray", "cutToSort", "(J)J"⟩, 3) (List.mem_of_getElem? (i := 0) rfl)) rfl⟩
def mX11_lists : zMe := (yX11_lists, cX11_lists, 6, (Option.some Jvm.ClassFile.FieldType.int))
theorem mX11_lists_ok : zMV mX11_lists 2 := ⟨⟨by decide +kernel, zin (wt5 _ (List.mem_of_getElem? (i := 216) rfl)) rfl, zin (wt1 _ (List.mem_of_getElem? (i := 1) rfl)) rfl, by decide +kernel, by decide⟩, zin (wt5 _ (List.mem_of_getElem? (i := 214) rfl)) rfl, zin (wt5 _ (List.mem_of_getElem? (i := 215) rfl)) rfl⟩
def mX11_image : zMe := (yX11_image, cX11_image, 2, (Option.some Jvm.ClassFile.FieldType.int))
theorem mX11_image_ok : zMV mX11_image 1 := ⟨⟨by decide +kernel, zin (wt5 _ (List.mem_of_getElem? (i := 221) rfl)) rfl, zin (wt1 _ (List.mem_of_getElem? (i := 1) rfl)) rfl, by decide +kernel, by decide⟩, zin (wt5 _ (List.mem_of_getElem? (i := 219) rfl)) rfl, zin (wt5 _ (List.mem_of_getElem? (i := 220) rfl)) rfl⟩
def mX11_restore : zMe := (yX11_restore, cX11_restore, 3, (Option.some Jvm.ClassFile.FieldType.int))
theorem mX11_restore_ok : zMV mX11_restore 1 := ⟨⟨by decide +kernel, zin (wt5 _ (List.mem_of_getElem? (i := 225) rfl)) rfl, zin (wt1 _ (List.mem_of_getElem? (i := 1) rfl)) rfl, by decide +kernel, by decide⟩, zin (wt5 _ (List.mem_of_getElem? (i := 223) rfl)) rfl, zin (wt5 _ (List.mem_of_getElem? (i := 224) rfl)) rfl⟩
def mX11_count : zMe := (yX11_count, cX11_count, 2, (Option.some Jvm.ClassFile.FieldType.int))
theorem mX11_count_ok : zMV mX11_count 1 := ⟨⟨by decide +kernel, zin (wt5 _ (List.mem_of_getElem? (i := 229) rfl)) rfl, zin (wt1 _ (List.mem_of_getElem? (i := 1) rfl)) rfl, by decide +kernel, by decide⟩, zin (wt5 _ (List.mem_of_getElem? (i := 227) rfl)) rfl, zin (wt5 _ (List.mem_of_getElem? (i := 228) rfl)) rfl⟩
def mX12_init : zMe := (yX12_init, cX12_init, 1, (Option.none : Option Jvm.ClassFile.FieldType))
theorem mX12_init_ok : zMI mX12_init 0 := ⟨⟨by decide +kernel, zin (wt5 _ (List.mem_of_getElem? (i := 234) rfl)) rfl, zin (wt1 _ (List.mem_of_getElem? (i := 16) rfl)) rfl, by decide +kernel, by decide⟩, rfl, zin (wt5 _ (List.mem_of_getElem? (i := 233) rfl)) rfl⟩
def mX12_plain : zMe := (yX12_plain, cX12_plain, 2, (Option.none : Option Jvm.ClassFile.FieldType))
theorem mX12_plain_ok : zMS mX12_plain 1 := ⟨⟨by decide +kernel, zin (wt5 _ (List.mem_of_getElem? (i := 238) rfl)) rfl, zin (wt1 _ (List.mem_of_getElem? (i := 16) rfl)) rfl, by decide +kernel, by decide⟩, zin (wt5 _ (List.mem_of_getElem? (i := 237) rfl)) rfl⟩
def mX12_laysAll : zMe := (yX12_laysAll, cX12_laysAll, 1, (Option.none : Option Jvm.ClassFile.FieldType))
theorem mX12_laysAll_ok : zMV mX12_laysAll 0 := ⟨⟨by decide +kernel, zin (wt6 _ (List.mem_of_getElem? (i := 2) rfl)) rfl, zin (wt1 _ (List.mem_of_getElem? (i := 16) rfl)) rfl, by decide +kernel, by decide⟩, zin (wt6 _ (List.mem_of_getElem? (i := 1) rfl)) rfl, zin (wp7 (⟨"DrawerNamesModel", "laysAll", "()V"⟩, 41) (List.mem_of_getElem? (i := 1) rfl)) rfl⟩
def mX12_goesAll : zMe := (yX12_goesAll, cX12_goesAll, 4, (Option.none : Option Jvm.ClassFile.FieldType))
theorem mX12_goesAll_ok : zMV mX12_goesAll 2 := ⟨⟨by decide +kernel, zin (wt6 _ (List.mem_of_getElem? (i := 6) rfl)) rfl, zin (wt1 _ (List.mem_of_getElem? (i := 16) rfl)) rfl, by decide +kernel, by decide⟩, zin (wt6 _ (List.mem_of_getElem? (i := 5) rfl)) rfl, zin (wp7 (⟨"DrawerNamesModel", "goesAll", "(II)V"⟩, 41) (List.mem_of_getElem? (i := 2) rfl)) rfl⟩
def mX12_isIn : zMe := (yX12_isIn, cX12_isIn, 3, (Option.some Jvm.ClassFile.FieldType.boolean))
theorem mX12_isIn_ok : zMS mX12_isIn 2 := ⟨⟨by decide +kernel, zin (wt6 _ (List.mem_of_getElem? (i := 9) rfl)) rfl, zin (wt1 _ (List.mem_of_getElem? (i := 16) rfl)) rfl, by decide +kernel, by decide⟩, zin (wt6 _ (List.mem_of_getElem? (i := 8) rfl)) rfl⟩
def mX12_feed : zMe := (yX12_feed, cX12_feed, 8, (Option.some Jvm.ClassFile.FieldType.int))
theorem mX12_feed_ok : zMV mX12_feed 5 := ⟨⟨by decide +kernel, zin (wt6 _ (List.mem_of_getElem? (i := 137) rfl)) rfl, zin (wt1 _ (List.mem_of_getElem? (i := 16) rfl)) rfl, by decide +kernel, by decide⟩, zin (wt6 _ (List.mem_of_getElem? (i := 135) rfl)) rfl, zin (wt6 _ (List.mem_of_getElem? (i := 136) rfl)) rfl⟩
def mX12_desk : zMe := (yX12_desk, cX12_desk, 3, (Option.some Jvm.ClassFile.FieldType.int))
theorem mX12_desk_ok : zMV mX12_desk 1 := ⟨⟨by decide +kernel, zin (wt6 _ (List.mem_of_getElem? (i := 141) rfl)) rfl, zin (wt1 _ (List.mem_of_getElem? (i := 16) rfl)) rfl, by decide +kernel, by decide⟩, zin (wt6 _ (List.mem_of_getElem? (i := 139) rfl)) rfl, zin (wt6 _ (List.mem_of_getElem? (i := 140) rfl)) rfl⟩
def mX12_within : zMe := (yX12_within, cX12_within, 6, (Option.some Jvm.ClassFile.FieldType.boolean))
theorem mX12_within_ok : zMS mX12_within 3 := ⟨⟨by decide +kernel, zin (wt6 _ (List.mem_of_getElem? (i := 144) rfl)) rfl, zin (wt1 _ (List.mem_of_getElem? (i := 16) rfl)) rfl, by decide +kernel, by decide⟩, zin (wt6 _ (List.mem_of_getElem? (i := 143) rfl)) rfl⟩
def mX12_next : zMe := (yX12_next, cX12_next, 2, (Option.none : Option Jvm.ClassFile.FieldType))
theorem mX12_next_ok : zMV mX12_next 0 := ⟨⟨by decide +kernel, zin (wt6 _ (List.mem_of_getElem? (i := 148) rfl)) rfl, zin (wt1 _ (List.mem_of_getElem? (i := 16) rfl)) rfl, by decide +kernel, by decide⟩, zin (wt6 _ (List.mem_of_getElem? (i := 147) rfl)) rfl, zin (wp7 (⟨"DrawerNamesModel", "next", "()V"⟩, 41) (List.mem_of_getElem? (i := 3) rfl)) rfl⟩
def mX12_see : zMe := (yX12_see, cX12_see, 2, (Option.some Jvm.ClassFile.FieldType.int))
theorem mX12_see_ok : zMV mX12_see 1 := ⟨⟨by decide +kernel, zin (wt6 _ (List.mem_of_getElem? (i := 152) rfl)) rfl, zin (wt1 _ (List.mem_of_getElem? (i := 16) rfl)) rfl, by decide +kernel, by decide⟩, zin (wt6 _ (List.mem_of_getElem? (i := 151) rfl)) rfl, zin (wp7 (⟨"DrawerNamesModel", "see", "(I)I"⟩, 41) (List.mem_of_getElem? (i := 4) rfl)) rfl⟩
def mX12_isSmall : zMe := (yX12_isSmall, cX12_isSmall, 1, (Option.some Jvm.ClassFile.FieldType.boolean))
theorem mX12_isSmall_ok : zMS mX12_isSmall 1 := ⟨⟨by decide +kernel, zin (wt6 _ (List.mem_of_getElem? (i := 155) rfl)) rfl, zin (wt1 _ (List.mem_of_getElem? (i := 16) rfl)) rfl, by decide +kernel, by decide⟩, zin (wt6 _ (List.mem_of_getElem? (i := 154) rfl)) rfl⟩
def mX12_keyAt : zMe := (yX12_keyAt, cX12_keyAt, 4, (Option.some Jvm.ClassFile.FieldType.int))
theorem mX12_keyAt_ok : zMV mX12_keyAt 0 := ⟨⟨by decide +kernel, zin (wt6 _ (List.mem_of_getElem? (i := 159) rfl)) rfl, zin (wt1 _ (List.mem_of_getElem? (i := 16) rfl)) rfl, by decide +kernel, by decide⟩, zin (wt6 _ (List.mem_of_getElem? (i := 158) rfl)) rfl, zin (wp7 (⟨"DrawerNamesModel", "keyAt", "()I"⟩, 41) (List.mem_of_getElem? (i := 5) rfl)) rfl⟩
def mX12_isDigit : zMe := (yX12_isDigit, cX12_isDigit, 1, (Option.some Jvm.ClassFile.FieldType.boolean))
theorem mX12_isDigit_ok : zMS mX12_isDigit 1 := ⟨⟨by decide +kernel, zin (wt6 _ (List.mem_of_getElem? (i := 165) rfl)) rfl, zin (wt1 _ (List.mem_of_getElem? (i := 16) rfl)) rfl, by decide +kernel, by decide⟩, zin (wt6 _ (List.mem_of_getElem? (i := 164) rfl)) rfl⟩
def mX12_eats : zMe := (yX12_eats, cX12_eats, 2, (Option.some Jvm.ClassFile.FieldType.boolean))
theorem mX12_eats_ok : zMV mX12_eats 1 := ⟨⟨by decide +kernel, zin (wt6 _ (List.mem_of_getElem? (i := 170) rfl)) rfl, zin (wt1 _ (List.mem_of_getElem? (i := 16) rfl)) rfl, by decide +kernel, by decide⟩, zin (wt6 _ (List.mem_of_getElem? (i := 169) rfl)) rfl, zin (wp7 (⟨"DrawerNamesModel", "eats", "(I)Z"⟩, 41) (List.mem_of_getElem? (i := 6) rfl)) rfl⟩
def mX12_is : zMe := (yX12_is, cX12_is, 2, (Option.some Jvm.ClassFile.FieldType.boolean))
theorem mX12_is_ok : zMV mX12_is 1 := ⟨⟨by decide +kernel, zin (wt6 _ (List.mem_of_getElem? (i := 174) rfl)) rfl, zin (wt1 _ (List.mem_of_getElem? (i := 16) rfl)) rfl, by decide +kernel, by decide⟩, zin (wt6 _ (List.mem_of_getElem? (i := 173) rfl)) rfl, zin (wp7 (⟨"DrawerNamesModel", "is", "(I)Z"⟩, 41) (List.mem_of_getElem? (i := 7) rfl)) rfl⟩
def mX12_fails : zMe := (yX12_fails, cX12_fails, 2, (Option.none : Option Jvm.ClassFile.FieldType))
theorem mX12_fails_ok : zMV mX12_fails 1 := ⟨⟨by decide +kernel, zin (wt6 _ (List.mem_of_getElem? (i := 178) rfl)) rfl, zin (wt1 _ (List.mem_of_getElem? (i := 16) rfl)) rfl, by decide +kernel, by decide⟩, zin (wt6 _ (List.mem_of_getElem? (i := 177) rfl)) rfl, zin (wp7 (⟨"DrawerNamesModel", "fails", "(I)V"⟩, 41) (List.mem_of_getElem? (i := 8) rfl)) rfl⟩
def mX12_named : zMe := (yX12_named, cX12_named, 4, (Option.some Jvm.ClassFile.FieldType.int))
theorem mX12_named_ok : zMV mX12_named 3 := ⟨⟨by decide +kernel, zin (wt6 _ (List.mem_of_getElem? (i := 182) rfl)) rfl, zin (wt1 _ (List.mem_of_getElem? (i := 16) rfl)) rfl, by decide +kernel, by decide⟩, zin (wt6 _ (List.mem_of_getElem? (i := 181) rfl)) rfl, zin (wp7 (⟨"DrawerNamesModel", "named", "(III)I"⟩, 41) (List.mem_of_getElem? (i := 9) rfl)) rfl⟩
def mX12_takes : zMe := (yX12_takes, cX12_takes, 4, (Option.some Jvm.ClassFile.FieldType.int))
theorem mX12_takes_ok : zMV mX12_takes 2 := ⟨⟨by decide +kernel, zin (wt6 _ (List.mem_of_getElem? (i := 186) rfl)) rfl, zin (wt1 _ (List.mem_of_getElem? (i := 16) rfl)) rfl, by decide +kernel, by decide⟩, zin (wt6 _ (List.mem_of_getElem? (i := 185) rfl)) rfl, zin (wp7 (⟨"DrawerNamesModel", "takes", "(II)I"⟩, 41) (List.mem_of_getElem? (i := 10) rfl)) rfl⟩
def mX12_closes : zMe := (yX12_closes, cX12_closes, 1, (Option.none : Option Jvm.ClassFile.FieldType))
theorem mX12_closes_ok : zMV mX12_closes 0 := ⟨⟨by decide +kernel, zin (wt6 _ (List.mem_of_getElem? (i := 190) rfl)) rfl, zin (wt1 _ (List.mem_of_getElem? (i := 16) rfl)) rfl, by decide +kernel, by decide⟩, zin (wt6 _ (List.mem_of_getElem? (i := 189) rfl)) rfl, zin (wp7 (⟨"DrawerNamesModel", "closes", "()V"⟩, 41) (List.mem_of_getElem? (i := 11) rfl)) rfl⟩
def mX12_readLine : zMe := (yX12_readLine, cX12_readLine, 1, (Option.none : Option Jvm.ClassFile.FieldType))
theorem mX12_readLine_ok : zMV mX12_readLine 0 := ⟨⟨by decide +kernel, zin (wt6 _ (List.mem_of_getElem? (i := 194) rfl)) rfl, zin (wt1 _ (List.mem_of_getElem? (i := 16) rfl)) rfl, by decide +kernel, by decide⟩, zin (wt6 _ (List.mem_of_getElem? (i := 193) rfl)) rfl, zin (wp7 (⟨"DrawerNamesModel", "readLine", "()V"⟩, 41) (List.mem_of_getElem? (i := 12) rfl)) rfl⟩
def mX12_readDrawer : zMe := (yX12_readDrawer, cX12_readDrawer, 4, (Option.none : Option Jvm.ClassFile.FieldType))
theorem mX12_readDrawer_ok : zMV mX12_readDrawer 1 := ⟨⟨by decide +kernel, zin (wt6 _ (List.mem_of_getElem? (i := 198) rfl)) rfl, zin (wt1 _ (List.mem_of_getElem? (i := 16) rfl)) rfl, by decide +kernel, by decide⟩, zin (wt6 _ (List.mem_of_getElem? (i := 197) rfl)) rfl, zin (wp7 (⟨"DrawerNamesModel", "readDrawer", "(I)V"⟩, 41) (List.mem_of_getElem? (i := 13) rfl)) rfl⟩
def mX12_readLaw : zMe := (yX12_readLaw, cX12_readLaw, 3, (Option.none : Option Jvm.ClassFile.FieldType))
theorem mX12_readLaw_ok : zMV mX12_readLaw 1 := ⟨⟨by decide +kernel, zin (wt6 _ (List.mem_of_getElem? (i := 202) rfl)) rfl, zin (wt1 _ (List.mem_of_getElem? (i := 16) rfl)) rfl, by decide +kernel, by decide⟩, zin (wt6 _ (List.mem_of_getElem? (i := 201) rfl)) rfl, zin (wp7 (⟨"DrawerNamesModel", "readLaw", "(I)V"⟩, 41) (List.mem_of_getElem? (i := 14) rfl)) rfl⟩
def mX12_readSum : zMe := (yX12_readSum, cX12_readSum, 3, (Option.none : Option Jvm.ClassFile.FieldType))
theorem mX12_readSum_ok : zMV mX12_readSum 1 := ⟨⟨by decide +kernel, zin (wt6 _ (List.mem_of_getElem? (i := 206) rfl)) rfl, zin (wt1 _ (List.mem_of_getElem? (i := 16) rfl)) rfl, by decide +kernel, by decide⟩, zin (wt6 _ (List.mem_of_getElem? (i := 205) rfl)) rfl, zin (wp7 (⟨"DrawerNamesModel", "readSum", "(I)V"⟩, 41) (List.mem_of_getElem? (i := 15) rfl)) rfl⟩
def mX12_readTerm : zMe := (yX12_readTerm, cX12_readTerm, 2, (Option.none : Option Jvm.ClassFile.FieldType))
theorem mX12_readTerm_ok : zMV mX12_readTerm 1 := ⟨⟨by decide +kernel, zin (wt6 _ (List.mem_of_getElem? (i := 210) rfl)) rfl, zin (wt1 _ (List.mem_of_getElem? (i := 16) rfl)) rfl, by decide +kernel, by decide⟩, zin (wt6 _ (List.mem_of_getElem? (i := 209) rfl)) rfl, zin (wp8 (⟨"DrawerNamesModel", "readTerm", "(I)V"⟩, 41) (List.mem_of_getElem? (i := 0) rfl)) rfl⟩
def mX12_readAtom : zMe := (yX12_readAtom, cX12_readAtom, 2, (Option.none : Option Jvm.ClassFile.FieldType))
theorem mX12_readAtom_ok : zMV mX12_readAtom 1 := ⟨⟨by decide +kernel, zin (wt6 _ (List.mem_of_getElem? (i := 214) rfl)) rfl, zin (wt1 _ (List.mem_of_getElem? (i := 16) rfl)) rfl, by decide +kernel, by decide⟩, zin (wt6 _ (List.mem_of_getElem? (i := 213) rfl)) rfl, zin (wp8 (⟨"DrawerNamesModel", "readAtom", "(I)V"⟩, 41) (List.mem_of_getElem? (i := 1) rfl)) rfl⟩
def mX12_codes : zMe := (yX12_codes, cX12_codes, 2, (Option.none : Option Jvm.ClassFile.FieldType))
theorem mX12_codes_ok : zMV mX12_codes 1 := ⟨⟨by decide +kernel, zin (wt6 _ (List.mem_of_getElem? (i := 218) rfl)) rfl, zin (wt1 _ (List.mem_of_getElem? (i := 16) rfl)) rfl, by decide +kernel, by decide⟩, zin (wt6 _ (List.mem_of_getElem? (i := 217) rfl)) rfl, zin (wp8 (⟨"DrawerNamesModel", "codes", "(I)V"⟩, 41) (List.mem_of_getElem? (i := 2) rfl)) rfl⟩
def mX12_wordOf : zMe := (yX12_wordOf, cX12_wordOf, 2, (Option.some Jvm.ClassFile.FieldType.int))
theorem mX12_wordOf_ok : zMV mX12_wordOf 1 := ⟨⟨by decide +kernel, zin (wt6 _ (List.mem_of_getElem? (i := 222) rfl)) rfl, zin (wt1 _ (List.mem_of_getElem? (i := 16) rfl)) rfl, by decide +kernel, by decide⟩, zin (wt6 _ (List.mem_of_getElem? (i := 221) rfl)) rfl, zin (wp8 (⟨"DrawerNamesModel", "wordOf", "(I)I"⟩, 41) (List.mem_of_getElem? (i := 3) rfl)) rfl⟩
def mX12_goesIn : zMe := (yX12_goesIn, cX12_goesIn, 2, (Option.some Jvm.ClassFile.FieldType.boolean))
theorem mX12_goesIn_ok : zMV mX12_goesIn 1 := ⟨⟨by decide +kernel, zin (wt6 _ (List.mem_of_getElem? (i := 226) rfl)) rfl, zin (wt1 _ (List.mem_of_getElem? (i := 16) rfl)) rfl, by decide +kernel, by decide⟩, zin (wt6 _ (List.mem_of_getElem? (i := 225) rfl)) rfl, zin (wp8 (⟨"DrawerNamesModel", "goesIn", "(I)Z"⟩, 41) (List.mem_of_getElem? (i := 4) rfl)) rfl⟩
def mX12_readIf : zMe := (yX12_readIf, cX12_readIf, 2, (Option.none : Option Jvm.ClassFile.FieldType))
theorem mX12_readIf_ok : zMV mX12_readIf 1 := ⟨⟨by decide +kernel, zin (wt6 _ (List.mem_of_getElem? (i := 230) rfl)) rfl, zin (wt1 _ (List.mem_of_getElem? (i := 16) rfl)) rfl, by decide +kernel, by decide⟩, zin (wt6 _ (List.mem_of_getElem? (i := 229) rfl)) rfl, zin (wp8 (⟨"DrawerNamesModel", "readIf", "(I)V"⟩, 41) (List.mem_of_getElem? (i := 5) rfl)) rfl⟩
def mX12_readTruth : zMe := (yX12_readTruth, cX12_readTruth, 2, (Option.none : Option Jvm.ClassFile.FieldType))
theorem mX12_readTruth_ok : zMV mX12_readTruth 1 := ⟨⟨by decide +kernel, zin (wt6 _ (List.mem_of_getElem? (i := 234) rfl)) rfl, zin (wt1 _ (List.mem_of_getElem? (i := 16) rfl)) rfl, by decide +kernel, by decide⟩, zin (wt6 _ (List.mem_of_getElem? (i := 233) rfl)) rfl, zin (wp8 (⟨"DrawerNamesModel", "readTruth", "(I)V"⟩, 41) (List.mem_of_getElem? (i := 6) rfl)) rfl⟩
def mX12_readBoth : zMe := (yX12_readBoth, cX12_readBoth, 2, (Option.none : Option Jvm.ClassFile.FieldType))
theorem mX12_readBoth_ok : zMV mX12_readBoth 1 := ⟨⟨by decide +kernel, zin (wt6 _ (List.mem_of_getElem? (i := 238) rfl)) rfl, zin (wt1 _ (List.mem_of_getElem? (i := 16) rfl)) rfl, by decide +kernel, by decide⟩, zin (wt6 _ (List.mem_of_getElem? (i := 237) rfl)) rfl, zin (wp8 (⟨"DrawerNamesModel", "readBoth", "(I)V"⟩, 41) (List.mem_of_getElem? (i := 7) rfl)) rfl⟩
def mX12_readUnit : zMe := (yX12_readUnit, cX12_readUnit, 3, (Option.none : Option Jvm.ClassFile.FieldType))
theorem mX12_readUnit_ok : zMV mX12_readUnit 1 := ⟨⟨by decide +kernel, zin (wt7 _ (List.mem_of_getElem? (i := 2) rfl)) rfl, zin (wt1 _ (List.mem_of_getElem? (i := 16) rfl)) rfl, by decide +kernel, by decide⟩, zin (wt7 _ (List.mem_of_getElem? (i := 1) rfl)) rfl, zin (wp8 (⟨"DrawerNamesModel", "readUnit", "(I)V"⟩, 41) (List.mem_of_getElem? (i := 8) rfl)) rfl⟩
def mX12_isWhole : zMe := (yX12_isWhole, cX12_isWhole, 4, (Option.some Jvm.ClassFile.FieldType.boolean))
theorem mX12_isWhole_ok : zMV mX12_isWhole 1 := ⟨⟨by decide +kernel, zin (wt7 _ (List.mem_of_getElem? (i := 6) rfl)) rfl, zin (wt1 _ (List.mem_of_getElem? (i := 16) rfl)) rfl, by decide +kernel, by decide⟩, zin (wt7 _ (List.mem_of_getElem? (i := 5) rfl)) rfl, zin (wp8 (⟨"DrawerNamesModel", "isWhole", "(I)Z"⟩, 41) (List.mem_of_getElem? (i := 9) rfl)) rfl⟩
def mX12_numberNow : zMe := (yX12_numberNow, cX12_numberNow, 6, (Option.some Jvm.ClassFile.FieldType.int))
theorem mX12_numberNow_ok : zMV mX12_numberNow 0 := ⟨⟨by decide +kernel, zin (wt7 _ (List.mem_of_getElem? (i := 10) rfl)) rfl, zin (wt1 _ (List.mem_of_getElem? (i := 16) rfl)) rfl, by decide +kernel, by decide⟩, zin (wt7 _ (List.mem_of_getElem? (i := 9) rfl)) rfl, zin (wp8 (⟨"DrawerNamesModel", "numberNow", "()I"⟩, 41) (List.mem_of_getElem? (i := 10) rfl)) rfl⟩
def mX12_fault : zMe := (yX12_fault, cX12_fault, 2, (Option.some Jvm.ClassFile.FieldType.int))
theorem mX12_fault_ok : zMV mX12_fault 1 := ⟨⟨by decide +kernel, zin (wt7 _ (List.mem_of_getElem? (i := 14) rfl)) rfl, zin (wt1 _ (List.mem_of_getElem? (i := 16) rfl)) rfl, by decide +kernel, by decide⟩, zin (wt7 _ (List.mem_of_getElem? (i := 12) rfl)) rfl, zin (wt7 _ (List.mem_of_getElem? (i := 13) rfl)) rfl⟩
def mX12_drawer : zMe := (yX12_drawer, cX12_drawer, 3, (Option.some Jvm.ClassFile.FieldType.int))
theorem mX12_drawer_ok : zMV mX12_drawer 2 := ⟨⟨by decide +kernel, zin (wt7 _ (List.mem_of_getElem? (i := 18) rfl)) rfl, zin (wt1 _ (List.mem_of_getElem? (i := 16) rfl)) rfl, by decide +kernel, by decide⟩, zin (wt7 _ (List.mem_of_getElem? (i := 16) rfl)) rfl, zin (wt7 _ (List.mem_of_getElem? (i := 17) rfl)) rfl⟩
def mX12_isDrawer : zMe := (yX12_isDrawer, cX12_isDrawer, 3, (Option.some Jvm.ClassFile.FieldType.boolean))
theorem mX12_isDrawer_ok : zMV mX12_isDrawer 1 := ⟨⟨by decide +kernel, zin (wt7 _ (List.mem_of_getElem? (i := 22) rfl)) rfl, zin (wt1 _ (List.mem_of_getElem? (i := 16) rfl)) rfl, by decide +kernel, by decide⟩, zin (wt7 _ (List.mem_of_getElem? (i := 21) rfl)) rfl, zin (wp8 (⟨"DrawerNamesModel", "isDrawer", "(J)Z"⟩, 41) (List.mem_of_getElem? (i := 11) rfl)) rfl⟩
def mX12_nameIn : zMe := (yX12_nameIn, cX12_nameIn, 3, (Option.some Jvm.ClassFile.FieldType.int))
theorem mX12_nameIn_ok : zMV mX12_nameIn 2 := ⟨⟨by decide +kernel, zin (wt7 _ (List.mem_of_getElem? (i := 26) rfl)) rfl, zin (wt1 _ (List.mem_of_getElem? (i := 16) rfl)) rfl, by decide +kernel, by decide⟩, zin (wt7 _ (List.mem_of_getElem? (i := 25) rfl)) rfl, zin (wp8 (⟨"DrawerNamesModel", "nameIn", "(II)I"⟩, 41) (List.mem_of_getElem? (i := 12) rfl)) rfl⟩
def mX12_visit : zMe := (yX12_visit, cX12_visit, 3, (Option.some Jvm.ClassFile.FieldType.int))
theorem mX12_visit_ok : zMV mX12_visit 2 := ⟨⟨by decide +kernel, zin (wt7 _ (List.mem_of_getElem? (i := 30) rfl)) rfl, zin (wt1 _ (List.mem_of_getElem? (i := 16) rfl)) rfl, by decide +kernel, by decide⟩, zin (wt7 _ (List.mem_of_getElem? (i := 28) rfl)) rfl, zin (wt7 _ (List.mem_of_getElem? (i := 29) rfl)) rfl⟩
def mX12_goesVisit : zMe := (yX12_goesVisit, cX12_goesVisit, 5, (Option.none : Option Jvm.ClassFile.FieldType))
theorem mX12_goesVisit_ok : zMV mX12_goesVisit 3 := ⟨⟨by decide +kernel, zin (wt7 _ (List.mem_of_getElem? (i := 34) rfl)) rfl, zin (wt1 _ (List.mem_of_getElem? (i := 16) rfl)) rfl, by decide +kernel, by decide⟩, zin (wt7 _ (List.mem_of_getElem? (i := 33) rfl)) rfl, zin (wp8 (⟨"DrawerNamesModel", "goesVisit", "(III)V"⟩, 41) (List.mem_of_getElem? (i := 13) rfl)) rfl⟩
def mX12_reckons : zMe := (yX12_reckons, cX12_reckons, 5, (Option.some Jvm.ClassFile.FieldType.int))
theorem mX12_reckons_ok : zMV mX12_reckons 1 := ⟨⟨by decide +kernel, zin (wt7 _ (List.mem_of_getElem? (i := 38) rfl)) rfl, zin (wt1 _ (List.mem_of_getElem? (i := 16) rfl)) rfl, by decide +kernel, by decide⟩, zin (wt7 _ (List.mem_of_getElem? (i := 37) rfl)) rfl, zin (wp8 (⟨"DrawerNamesModel", "reckons", "(I)I"⟩, 41) (List.mem_of_getElem? (i := 14) rfl)) rfl⟩
def mX12_between : zMe := (yX12_between, cX12_between, 5, (Option.some Jvm.ClassFile.FieldType.int))
theorem mX12_between_ok : zMS mX12_between 3 := ⟨⟨by decide +kernel, zin (wt7 _ (List.mem_of_getElem? (i := 41) rfl)) rfl, zin (wt1 _ (List.mem_of_getElem? (i := 16) rfl)) rfl, by decide +kernel, by decide⟩, zin (wt7 _ (List.mem_of_getElem? (i := 40) rfl)) rfl⟩
def mX12_opened : zMe := (yX12_opened, cX12_opened, 3, (Option.some Jvm.ClassFile.FieldType.int))
theorem mX12_opened_ok : zMV mX12_opened 2 := ⟨⟨by decide +kernel, zin (wt7 _ (List.mem_of_getElem? (i := 47) rfl)) rfl, zin (wt1 _ (List.mem_of_getElem? (i := 16) rfl)) rfl, by decide +kernel, by decide⟩, zin (wt7 _ (List.mem_of_getElem? (i := 45) rfl)) rfl, zin (wt7 _ (List.mem_of_getElem? (i := 46) rfl)) rfl⟩
def mX12_letOff : zMe := (yX12_letOff, cX12_letOff, 1, (Option.some Jvm.ClassFile.FieldType.int))
theorem mX12_letOff_ok : zMV mX12_letOff 0 := ⟨⟨by decide +kernel, zin (wt7 _ (List.mem_of_getElem? (i := 51) rfl)) rfl, zin (wt1 _ (List.mem_of_getElem? (i := 16) rfl)) rfl, by decide +kernel, by decide⟩, zin (wt7 _ (List.mem_of_getElem? (i := 49) rfl)) rfl, zin (wt7 _ (List.mem_of_getElem? (i := 50) rfl)) rfl⟩
def mX12_letNow : zMe := (yX12_letNow, cX12_letNow, 1, (Option.some Jvm.ClassFile.FieldType.int))
theorem mX12_letNow_ok : zMV mX12_letNow 0 := ⟨⟨by decide +kernel, zin (wt7 _ (List.mem_of_getElem? (i := 55) rfl)) rfl, zin (wt1 _ (List.mem_of_getElem? (i := 16) rfl)) rfl, by decide +kernel, by decide⟩, zin (wt7 _ (List.mem_of_getElem? (i := 54) rfl)) rfl, zin (wp8 (⟨"DrawerNamesModel", "letNow", "()I"⟩, 41) (List.mem_of_getElem? (i := 15) rfl)) rfl⟩
def mX12_letIn : zMe := (yX12_letIn, cX12_letIn, 5, (Option.some Jvm.ClassFile.FieldType.int))
theorem mX12_letIn_ok : zMV mX12_letIn 2 := ⟨⟨by decide +kernel, zin (wt7 _ (List.mem_of_getElem? (i := 59) rfl)) rfl, zin (wt1 _ (List.mem_of_getElem? (i := 16) rfl)) rfl, by decide +kernel, by decide⟩, zin (wt7 _ (List.mem_of_getElem? (i := 58) rfl)) rfl, zin (wp9 (⟨"DrawerNamesModel", "letIn", "(II)I"⟩, 41) (List.mem_of_getElem? (i := 0) rfl)) rfl⟩
def mX12_swap : zMe := (yX12_swap, cX12_swap, 3, (Option.some Jvm.ClassFile.FieldType.int))
theorem mX12_swap_ok : zMV mX12_swap 2 := ⟨⟨by decide +kernel, zin (wt7 _ (List.mem_of_getElem? (i := 63) rfl)) rfl, zin (wt1 _ (List.mem_of_getElem? (i := 16) rfl)) rfl, by decide +kernel, by decide⟩, zin (wt7 _ (List.mem_of_getElem? (i := 61) rfl)) rfl, zin (wt7 _ (List.mem_of_getElem? (i := 62) rfl)) rfl⟩
def mX12_canSwap : zMe := (yX12_canSwap, cX12_canSwap, 5, (Option.some Jvm.ClassFile.FieldType.boolean))
theorem mX12_canSwap_ok : zMV mX12_canSwap 2 := ⟨⟨by decide +kernel, zin (wt7 _ (List.mem_of_getElem? (i := 67) rfl)) rfl, zin (wt1 _ (List.mem_of_getElem? (i := 16) rfl)) rfl, by decide +kernel, by decide⟩, zin (wt7 _ (List.mem_of_getElem? (i := 66) rfl)) rfl, zin (wp9 (⟨"DrawerNamesModel", "canSwap", "(JJ)Z"⟩, 41) (List.mem_of_getElem? (i := 1) rfl)) rfl⟩
def mX12_stores : zMe := (yX12_stores, cX12_stores, 2, (Option.none : Option Jvm.ClassFile.FieldType))
theorem mX12_stores_ok : zMV mX12_stores 0 := ⟨⟨by decide +kernel, zin (wt7 _ (List.mem_of_getElem? (i := 71) rfl)) rfl, zin (wt1 _ (List.mem_of_getElem? (i := 16) rfl)) rfl, by decide +kernel, by decide⟩, zin (wt7 _ (List.mem_of_getElem? (i := 70) rfl)) rfl, zin (wp9 (⟨"DrawerNamesModel", "stores", "()V"⟩, 41) (List.mem_of_getElem? (i := 2) rfl)) rfl⟩
def mX12_swapTo : zMe := (yX12_swapTo, cX12_swapTo, 5, (Option.some Jvm.ClassFile.FieldType.int))
theorem mX12_swapTo_ok : zMV mX12_swapTo 3 := ⟨⟨by decide +kernel, zin (wt7 _ (List.mem_of_getElem? (i := 75) rfl)) rfl, zin (wt1 _ (List.mem_of_getElem? (i := 16) rfl)) rfl, by decide +kernel, by decide⟩, zin (wt7 _ (List.mem_of_getElem? (i := 74) rfl)) rfl, zin (wp9 (⟨"DrawerNamesModel", "swapTo", "(III)I"⟩, 41) (List.mem_of_getElem? (i := 3) rfl)) rfl⟩
def mX12_notes : zMe := (yX12_notes, cX12_notes, 2, (Option.none : Option Jvm.ClassFile.FieldType))
theorem mX12_notes_ok : zMV mX12_notes 0 := ⟨⟨by decide +kernel, zin (wt7 _ (List.mem_of_getElem? (i := 79) rfl)) rfl, zin (wt1 _ (List.mem_of_getElem? (i := 16) rfl)) rfl, by decide +kernel, by decide⟩, zin (wt7 _ (List.mem_of_getElem? (i := 78) rfl)) rfl, zin (wp9 (⟨"DrawerNamesModel", "notes", "()V"⟩, 41) (List.mem_of_getElem? (i := 4) rfl)) rfl⟩
def mX12_bitsOf : zMe := (yX12_bitsOf, cX12_bitsOf, 3, (Option.some Jvm.ClassFile.FieldType.int))
theorem mX12_bitsOf_ok : zMS mX12_bitsOf 1 := ⟨⟨by decide +kernel, zin (wt7 _ (List.mem_of_getElem? (i := 82) rfl)) rfl, zin (wt1 _ (List.mem_of_getElem? (i := 16) rfl)) rfl, by decide +kernel, by decide⟩, zin (wt7 _ (List.mem_of_getElem? (i := 81) rfl)) rfl⟩
def mX12_nights : zMe := (yX12_nights, cX12_nights, 3, (Option.some Jvm.ClassFile.FieldType.int))
theorem mX12_nights_ok : zMV mX12_nights 1 := ⟨⟨by decide +kernel, zin (wt7 _ (List.mem_of_getElem? (i := 86) rfl)) rfl, zin (wt1 _ (List.mem_of_getElem? (i := 16) rfl)) rfl, by decide +kernel, by decide⟩, zin (wt7 _ (List.mem_of_getElem? (i := 84) rfl)) rfl, zin (wt7 _ (List.mem_of_getElem? (i := 85) rfl)) rfl⟩
def mX12_goesNight : zMe := (yX12_goesNight, cX12_goesNight, 1, (Option.none : Option Jvm.ClassFile.FieldType))
theorem mX12_goesNight_ok : zMV mX12_goesNight 0 := ⟨⟨by decide +kernel, zin (wt7 _ (List.mem_of_getElem? (i := 91) rfl)) rfl, zin (wt1 _ (List.mem_of_getElem? (i := 16) rfl)) rfl, by decide +kernel, by decide⟩, zin (wt7 _ (List.mem_of_getElem? (i := 90) rfl)) rfl, zin (wp9 (⟨"DrawerNamesModel", "goesNight", "()V"⟩, 41) (List.mem_of_getElem? (i := 5) rfl)) rfl⟩
def mX12_nightTo : zMe := (yX12_nightTo, cX12_nightTo, 3, (Option.some Jvm.ClassFile.FieldType.int))
theorem mX12_nightTo_ok : zMV mX12_nightTo 1 := ⟨⟨by decide +kernel, zin (wt7 _ (List.mem_of_getElem? (i := 95) rfl)) rfl, zin (wt1 _ (List.mem_of_getElem? (i := 16) rfl)) rfl, by decide +kernel, by decide⟩, zin (wt7 _ (List.mem_of_getElem? (i := 94) rfl)) rfl, zin (wp9 (⟨"DrawerNamesModel", "nightTo", "(I)I"⟩, 41) (List.mem_of_getElem? (i := 6) rfl)) rfl⟩
def mX12_clue : zMe := (yX12_clue, cX12_clue, 2, (Option.some Jvm.ClassFile.FieldType.int))
theorem mX12_clue_ok : zMV mX12_clue 1 := ⟨⟨by decide +kernel, zin (wt7 _ (List.mem_of_getElem? (i := 99) rfl)) rfl, zin (wt1 _ (List.mem_of_getElem? (i := 16) rfl)) rfl, by decide +kernel, by decide⟩, zin (wt7 _ (List.mem_of_getElem? (i := 97) rfl)) rfl, zin (wt7 _ (List.mem_of_getElem? (i := 98) rfl)) rfl⟩
def mX12_undo : zMe := (yX12_undo, cX12_undo, 3, (Option.some Jvm.ClassFile.FieldType.int))
theorem mX12_undo_ok : zMV mX12_undo 1 := ⟨⟨by decide +kernel, zin (wt7 _ (List.mem_of_getElem? (i := 104) rfl)) rfl, zin (wt1 _ (List.mem_of_getElem? (i := 16) rfl)) rfl, by decide +kernel, by decide⟩, zin (wt7 _ (List.mem_of_getElem? (i := 102) rfl)) rfl, zin (wt7 _ (List.mem_of_getElem? (i := 103) rfl)) rfl⟩
def mX12_judge : zMe := (yX12_judge, cX12_judge, 7, (Option.some Jvm.ClassFile.FieldType.int))
theorem mX12_judge_ok : zMV mX12_judge 2 := ⟨⟨by decide +kernel, zin (wt7 _ (List.mem_of_getElem? (i := 109) rfl)) rfl, zin (wt1 _ (List.mem_of_getElem? (i := 16) rfl)) rfl, by decide +kernel, by decide⟩, zin (wt7 _ (List.mem_of_getElem? (i := 107) rfl)) rfl, zin (wt7 _ (List.mem_of_getElem? (i := 108) rfl)) rfl⟩
def mX12_noTray : zMe := (yX12_noTray, cX12_noTray, 2, (Option.some Jvm.ClassFile.FieldType.int))
theorem mX12_noTray_ok : zMV mX12_noTray 1 := ⟨⟨by decide +kernel, zin (wt7 _ (List.mem_of_getElem? (i := 114) rfl)) rfl, zin (wt1 _ (List.mem_of_getElem? (i := 16) rfl)) rfl, by decide +kernel, by decide⟩, zin (wt7 _ (List.mem_of_getElem? (i := 113) rfl)) rfl, zin (wp9 (⟨"DrawerNamesModel", "noTray", "(I)I"⟩, 41) (List.mem_of_getElem? (i := 7) rfl)) rfl⟩
def mX12_tells : zMe := (yX12_tells, cX12_tells, 3, (Option.some Jvm.ClassFile.FieldType.int))
theorem mX12_tells_ok : zMV mX12_tells 1 := ⟨⟨by decide +kernel, zin (wt7 _ (List.mem_of_getElem? (i := 118) rfl)) rfl, zin (wt1 _ (List.mem_of_getElem? (i := 16) rfl)) rfl, by decide +kernel, by decide⟩, zin (wt7 _ (List.mem_of_getElem? (i := 117) rfl)) rfl, zin (wp9 (⟨"DrawerNamesModel", "tells", "(I)I"⟩, 41) (List.mem_of_getElem? (i := 8) rfl)) rfl⟩
def mX12_whyNot : zMe := (yX12_whyNot, cX12_whyNot, 3, (Option.some Jvm.ClassFile.FieldType.int))
theorem mX12_whyNot_ok : zMV mX12_whyNot 1 := ⟨⟨by decide +kernel, zin (wt7 _ (List.mem_of_getElem? (i := 122) rfl)) rfl, zin (wt1 _ (List.mem_of_getElem? (i := 16) rfl)) rfl, by decide +kernel, by decide⟩, zin (wt7 _ (List.mem_of_getElem? (i := 121) rfl)) rfl, zin (wp9 (⟨"DrawerNamesModel", "whyNot", "(J)I"⟩, 41) (List.mem_of_getElem? (i := 9) rfl)) rfl⟩
def mX12_does : zMe := (yX12_does, cX12_does, 2, (Option.none : Option Jvm.ClassFile.FieldType))
theorem mX12_does_ok : zMV mX12_does 1 := ⟨⟨by decide +kernel, zin (wt7 _ (List.mem_of_getElem? (i := 129) rfl)) rfl, zin (wt1 _ (List.mem_of_getElem? (i := 16) rfl)) rfl, by decide +kernel, by decide⟩, zin (wt7 _ (List.mem_of_getElem? (i := 128) rfl)) rfl, zin (wp9 (⟨"DrawerNamesModel", "does", "(I)V"⟩, 41) (List.mem_of_getElem? (i := 10) rfl)) rfl⟩
def mX12_isAgain : zMe := (yX12_isAgain, cX12_isAgain, 2, (Option.none : Option Jvm.ClassFile.FieldType))
theorem mX12_isAgain_ok : zMV mX12_isAgain 0 := ⟨⟨by decide +kernel, zin (wt7 _ (List.mem_of_getElem? (i := 133) rfl)) rfl, zin (wt1 _ (List.mem_of_getElem? (i := 16) rfl)) rfl, by decide +kernel, by decide⟩, zin (wt7 _ (List.mem_of_getElem? (i := 132) rfl)) rfl, zin (wp9 (⟨"DrawerNamesModel", "isAgain", "()V"⟩, 41) (List.mem_of_getElem? (i := 11) rfl)) rfl⟩
def mX12_perform : zMe := (yX12_perform, cX12_perform, 4, (Option.some Jvm.ClassFile.FieldType.int))
theorem mX12_perform_ok : zMV mX12_perform 1 := ⟨⟨by decide +kernel, zin (wt7 _ (List.mem_of_getElem? (i := 137) rfl)) rfl, zin (wt1 _ (List.mem_of_getElem? (i := 16) rfl)) rfl, by decide +kernel, by decide⟩, zin (wt7 _ (List.mem_of_getElem? (i := 135) rfl)) rfl, zin (wt7 _ (List.mem_of_getElem? (i := 136) rfl)) rfl⟩
def mX12_year : zMe := (yX12_year, cX12_year, 6, (Option.some Jvm.ClassFile.FieldType.int))
theorem mX12_year_ok : zMV mX12_year 2 := ⟨⟨by decide +kernel, zin (wt7 _ (List.mem_of_getElem? (i := 141) rfl)) rfl, zin (wt1 _ (List.mem_of_getElem? (i := 16) rfl)) rfl, by decide +kernel, by decide⟩, zin (wt7 _ (List.mem_of_getElem? (i := 139) rfl)) rfl, zin (wt7 _ (List.mem_of_getElem? (i := 140) rfl)) rfl⟩
def mX12_drawn : zMe := (yX12_drawn, cX12_drawn, 3, (Option.some Jvm.ClassFile.FieldType.int))
theorem mX12_drawn_ok : zMV mX12_drawn 0 := ⟨⟨by decide +kernel, zin (wt7 _ (List.mem_of_getElem? (i := 146) rfl)) rfl, zin (wt1 _ (List.mem_of_getElem? (i := 16) rfl)) rfl, by decide +kernel, by decide⟩, zin (wt7 _ (List.mem_of_getElem? (i := 145) rfl)) rfl, zin (wp9 (⟨"DrawerNamesModel", "drawn", "()I"⟩, 41) (List.mem_of_getElem? (i := 12) rfl)) rfl⟩
def mX12_draw : zMe := (yX12_draw, cX12_draw, 2, (Option.some Jvm.ClassFile.FieldType.int))
theorem mX12_draw_ok : zMV mX12_draw 1 := ⟨⟨by decide +kernel, zin (wt7 _ (List.mem_of_getElem? (i := 150) rfl)) rfl, zin (wt1 _ (List.mem_of_getElem? (i := 16) rfl)) rfl, by decide +kernel, by decide⟩, zin (wt7 _ (List.mem_of_getElem? (i := 149) rfl)) rfl, zin (wp9 (⟨"DrawerNamesModel", "draw", "(I)I"⟩, 41) (List.mem_of_getElem? (i := 13) rfl)) rfl⟩
def mX12_lies : zMe := (yX12_lies, cX12_lies, 10, (Option.some Jvm.ClassFile.FieldType.int))
theorem mX12_lies_ok : zMV mX12_lies 1 := ⟨⟨by decide +kernel, zin (wt7 _ (List.mem_of_getElem? (i := 155) rfl)) rfl, zin (wt1 _ (List.mem_of_getElem? (i := 16) rfl)) rfl, by decide +kernel, by decide⟩, zin (wt7 _ (List.mem_of_getElem? (i := 153) rfl)) rfl, zin (wt7 _ (List.mem_of_getElem? (i := 154) rfl)) rfl⟩
def mX12_orderOf : zMe := (yX12_orderOf, cX12_orderOf, 5, (Option.some Jvm.ClassFile.FieldType.int))
theorem mX12_orderOf_ok : zMV mX12_orderOf 1 := ⟨⟨by decide +kernel, zin (wt7 _ (List.mem_of_getElem? (i := 160) rfl)) rfl, zin (wt1 _ (List.mem_of_getElem? (i := 16) rfl)) rfl, by decide +kernel, by decide⟩, zin (wt7 _ (List.mem_of_getElem? (i := 159) rfl)) rfl, zin (wp9 (⟨"DrawerNamesModel", "orderOf", "(I)I"⟩, 41) (List.mem_of_getElem? (i := 14) rfl)) rfl⟩
def mX12_roundOf : zMe := (yX12_roundOf, cX12_roundOf, 5, (Option.some Jvm.ClassFile.FieldType.int))
theorem mX12_roundOf_ok : zMV mX12_roundOf 2 := ⟨⟨by decide +kernel, zin (wt7 _ (List.mem_of_getElem? (i := 164) rfl)) rfl, zin (wt1 _ (List.mem_of_getElem? (i := 16) rfl)) rfl, by decide +kernel, by decide⟩, zin (wt7 _ (List.mem_of_getElem? (i := 163) rfl)) rfl, zin (wp9 (⟨"DrawerNamesModel", "roundOf", "(II)I"⟩, 41) (List.mem_of_getElem? (i := 15) rfl)) rfl⟩
def mX12_common : zMe := (yX12_common, cX12_common, 2, (Option.some Jvm.ClassFile.FieldType.int))
theorem mX12_common_ok : zMS mX12_common 2 := ⟨⟨by decide +kernel, zin (wt7 _ (List.mem_of_getElem? (i := 167) rfl)) rfl, zin (wt1 _ (List.mem_of_getElem? (i := 16) rfl)) rfl, by decide +kernel, by decide⟩, zin (wt7 _ (List.mem_of_getElem? (i := 166) rfl)) rfl⟩
def mX12_round : zMe := (yX12_round, cX12_round, 4, (Option.some Jvm.ClassFile.FieldType.int))
theorem mX12_round_ok : zMV mX12_round 2 := ⟨⟨by decide +kernel, zin (wt7 _ (List.mem_of_getElem? (i := 171) rfl)) rfl, zin (wt1 _ (List.mem_of_getElem? (i := 16) rfl)) rfl, by decide +kernel, by decide⟩, zin (wt7 _ (List.mem_of_getElem? (i := 169) rfl)) rfl, zin (wt7 _ (List.mem_of_getElem? (i := 170) rfl)) rfl⟩
def mX12_power : zMe := (yX12_power, cX12_power, 3, (Option.some Jvm.ClassFile.FieldType.int))
theorem mX12_power_ok : zMV mX12_power 1 := ⟨⟨by decide +kernel, zin (wt7 _ (List.mem_of_getElem? (i := 175) rfl)) rfl, zin (wt1 _ (List.mem_of_getElem? (i := 16) rfl)) rfl, by decide +kernel, by decide⟩, zin (wt7 _ (List.mem_of_getElem? (i := 173) rfl)) rfl, zin (wt7 _ (List.mem_of_getElem? (i := 174) rfl)) rfl⟩
def mX12_powerOf : zMe := (yX12_powerOf, cX12_powerOf, 6, (Option.some Jvm.ClassFile.FieldType.int))
theorem mX12_powerOf_ok : zMV mX12_powerOf 2 := ⟨⟨by decide +kernel, zin (wt7 _ (List.mem_of_getElem? (i := 180) rfl)) rfl, zin (wt1 _ (List.mem_of_getElem? (i := 16) rfl)) rfl, by decide +kernel, by decide⟩, zin (wt7 _ (List.mem_of_getElem? (i := 179) rfl)) rfl, zin (wp10 (⟨"DrawerNamesModel", "powerOf", "(II)I"⟩, 41) (List.mem_of_getElem? (i := 0) rfl)) rfl⟩
def mX12_roots : zMe := (yX12_roots, cX12_roots, 4, (Option.some Jvm.ClassFile.FieldType.int))
theorem mX12_roots_ok : zMV mX12_roots 1 := ⟨⟨by decide +kernel, zin (wt7 _ (List.mem_of_getElem? (i := 184) rfl)) rfl, zin (wt1 _ (List.mem_of_getElem? (i := 16) rfl)) rfl, by decide +kernel, by decide⟩, zin (wt7 _ (List.mem_of_getElem? (i := 182) rfl)) rfl, zin (wt7 _ (List.mem_of_getElem? (i := 183) rfl)) rfl⟩
def mX12_bounded : zMe := (yX12_bounded, cX12_bounded, 9, (Option.some Jvm.ClassFile.FieldType.long))
theorem mX12_bounded_ok : zMV mX12_bounded 2 := ⟨⟨by decide +kernel, zin (wt7 _ (List.mem_of_getElem? (i := 188) rfl)) rfl, zin (wt1 _ (List.mem_of_getElem? (i := 16) rfl)) rfl, by decide +kernel, by decide⟩, zin (wt7 _ (List.mem_of_getElem? (i := 186) rfl)) rfl, zin (wt7 _ (List.mem_of_getElem? (i := 187) rfl)) rfl⟩
def mX12_fewest : zMe := (yX12_fewest, cX12_fewest, 2, (Option.some Jvm.ClassFile.FieldType.int))
theorem mX12_fewest_ok : zMV mX12_fewest 1 := ⟨⟨by decide +kernel, zin (wt7 _ (List.mem_of_getElem? (i := 194) rfl)) rfl, zin (wt1 _ (List.mem_of_getElem? (i := 16) rfl)) rfl, by decide +kernel, by decide⟩, zin (wt7 _ (List.mem_of_getElem? (i := 192) rfl)) rfl, zin (wt7 _ (List.mem_of_getElem? (i := 193) rfl)) rfl⟩
def mX12_isAim : zMe := (yX12_isAim, cX12_isAim, 1, (Option.some Jvm.ClassFile.FieldType.boolean))
theorem mX12_isAim_ok : zMS mX12_isAim 1 := ⟨⟨by decide +kernel, zin (wt7 _ (List.mem_of_getElem? (i := 197) rfl)) rfl, zin (wt1 _ (List.mem_of_getElem? (i := 16) rfl)) rfl, by decide +kernel, by decide⟩, zin (wt7 _ (List.mem_of_getElem? (i := 196) rfl)) rfl⟩
def mX12_laysFar : zMe := (yX12_laysFar, cX12_laysFar, 6, (Option.some Jvm.ClassFile.FieldType.int))
theorem mX12_laysFar_ok : zMV mX12_laysFar 1 := ⟨⟨by decide +kernel, zin (wt7 _ (List.mem_of_getElem? (i := 201) rfl)) rfl, zin (wt1 _ (List.mem_of_getElem? (i := 16) rfl)) rfl, by decide +kernel, by decide⟩, zin (wt7 _ (List.mem_of_getElem? (i := 200) rfl)) rfl, zin (wp10 (⟨"DrawerNamesModel", "laysFar", "(I)I"⟩, 41) (List.mem_of_getElem? (i := 1) rfl)) rfl⟩
def mX12_laysThen : zMe := (yX12_laysThen, cX12_laysThen, 3, (Option.none : Option Jvm.ClassFile.FieldType))
theorem mX12_laysThen_ok : zMV mX12_laysThen 0 := ⟨⟨by decide +kernel, zin (wt7 _ (List.mem_of_getElem? (i := 205) rfl)) rfl, zin (wt1 _ (List.mem_of_getElem? (i := 16) rfl)) rfl, by decide +kernel, by decide⟩, zin (wt7 _ (List.mem_of_getElem? (i := 204) rfl)) rfl, zin (wp10 (⟨"DrawerNamesModel", "laysThen", "()V"⟩, 41) (List.mem_of_getElem? (i := 2) rfl)) rfl⟩
def mX12_laysLet : zMe := (yX12_laysLet, cX12_laysLet, 2, (Option.none : Option Jvm.ClassFile.FieldType))
theorem mX12_laysLet_ok : zMV mX12_laysLet 0 := ⟨⟨by decide +kernel, zin (wt7 _ (List.mem_of_getElem? (i := 209) rfl)) rfl, zin (wt1 _ (List.mem_of_getElem? (i := 16) rfl)) rfl, by decide +kernel, by decide⟩, zin (wt7 _ (List.mem_of_getElem? (i := 208) rfl)) rfl, zin (wp10 (⟨"DrawerNamesModel", "laysLet", "()V"⟩, 41) (List.mem_of_getElem? (i := 3) rfl)) rfl⟩
def mX12_isSo : zMe := (yX12_isSo, cX12_isSo, 3, (Option.some Jvm.ClassFile.FieldType.boolean))
theorem mX12_isSo_ok : zMV mX12_isSo 2 := ⟨⟨by decide +kernel, zin (wt7 _ (List.mem_of_getElem? (i := 213) rfl)) rfl, zin (wt1 _ (List.mem_of_getElem? (i := 16) rfl)) rfl, by decide +kernel, by decide⟩, zin (wt7 _ (List.mem_of_getElem? (i := 212) rfl)) rfl, zin (wp10 (⟨"DrawerNamesModel", "isSo", "(II)Z"⟩, 41) (List.mem_of_getElem? (i := 4) rfl)) rfl⟩
def mX12_toldFar : zMe := (yX12_toldFar, cX12_toldFar, 1, (Option.some Jvm.ClassFile.FieldType.int))
theorem mX12_toldFar_ok : zMS mX12_toldFar 1 := ⟨⟨by decide +kernel, zin (wt7 _ (List.mem_of_getElem? (i := 217) rfl)) rfl, zin (wt1 _ (List.mem_of_getElem? (i := 16) rfl)) rfl, by decide +kernel, by decide⟩, zin (wt7 _ (List.mem_of_getElem? (i := 216) rfl)) rfl⟩
def mX12_way : zMe := (yX12_way, cX12_way, 6, (Option.some Jvm.ClassFile.FieldType.int))
theorem mX12_way_ok : zMV mX12_way 2 := ⟨⟨by decide +kernel, zin (wt7 _ (List.mem_of_getElem? (i := 221) rfl)) rfl, zin (wt1 _ (List.mem_of_getElem? (i := 16) rfl)) rfl, by decide +kernel, by decide⟩, zin (wt7 _ (List.mem_of_getElem? (i := 219) rfl)) rfl, zin (wt7 _ (List.mem_of_getElem? (i := 220) rfl)) rfl⟩
def mX12_rows : zMe := (yX12_rows, cX12_rows, 6, (Option.some Jvm.ClassFile.FieldType.long))
theorem mX12_rows_ok : zMV mX12_rows 2 := ⟨⟨by decide +kernel, zin (wt7 _ (List.mem_of_getElem? (i := 225) rfl)) rfl, zin (wt1 _ (List.mem_of_getElem? (i := 16) rfl)) rfl, by decide +kernel, by decide⟩, zin (wt7 _ (List.mem_of_getElem? (i := 223) rfl)) rfl, zin (wt7 _ (List.mem_of_getElem? (i := 224) rfl)) rfl⟩
def mX12_beginsMany : zMe := (yX12_beginsMany, cX12_beginsMany, 2, (Option.none : Option Jvm.ClassFile.FieldType))
theorem mX12_beginsMany_ok : zMV mX12_beginsMany 0 := ⟨⟨by decide +kernel, zin (wt7 _ (List.mem_of_getElem? (i := 231) rfl)) rfl, zin (wt1 _ (List.mem_of_getElem? (i := 16) rfl)) rfl, by decide +kernel, by decide⟩, zin (wt7 _ (List.mem_of_getElem? (i := 230) rfl)) rfl, zin (wp10 (⟨"DrawerNamesModel", "beginsMany", "()V"⟩, 41) (List.mem_of_getElem? (i := 5) rfl)) rfl⟩
def mX12_isThen : zMe := (yX12_isThen, cX12_isThen, 2, (Option.none : Option Jvm.ClassFile.FieldType))
theorem mX12_isThen_ok : zMV mX12_isThen 0 := ⟨⟨by decide +kernel, zin (wt7 _ (List.mem_of_getElem? (i := 235) rfl)) rfl, zin (wt1 _ (List.mem_of_getElem? (i := 16) rfl)) rfl, by decide +kernel, by decide⟩, zin (wt7 _ (List.mem_of_getElem? (i := 234) rfl)) rfl, zin (wp10 (⟨"DrawerNamesModel", "isThen", "()V"⟩, 41) (List.mem_of_getElem? (i := 6) rfl)) rfl⟩
def mX12_ofAll : zMe := (yX12_ofAll, cX12_ofAll, 4, (Option.some Jvm.ClassFile.FieldType.int))
theorem mX12_ofAll_ok : zMV mX12_ofAll 1 := ⟨⟨by decide +kernel, zin (wt7 _ (List.mem_of_getElem? (i := 239) rfl)) rfl, zin (wt1 _ (List.mem_of_getElem? (i := 16) rfl)) rfl, by decide +kernel, by decide⟩, zin (wt7 _ (List.mem_of_getElem? (i := 237) rfl)) rfl, zin (wt7 _ (List.mem_of_getElem? (i := 238) rfl)) rfl⟩
def mX12_ofOne : zMe := (yX12_ofOne, cX12_ofOne, 4, (Option.some Jvm.ClassFile.FieldType.int))
theorem mX12_ofOne_ok : zMV mX12_ofOne 1 := ⟨⟨by decide +kernel, zin (wt8 _ (List.mem_of_getElem? (i := 3) rfl)) rfl, zin (wt1 _ (List.mem_of_getElem? (i := 16) rfl)) rfl, by decide +kernel, by decide⟩, zin (wt8 _ (List.mem_of_getElem? (i := 1) rfl)) rfl, zin (wt8 _ (List.mem_of_getElem? (i := 2) rfl)) rfl⟩
def mX12_just : zMe := (yX12_just, cX12_just, 4, (Option.some Jvm.ClassFile.FieldType.int))
theorem mX12_just_ok : zMV mX12_just 1 := ⟨⟨by decide +kernel, zin (wt8 _ (List.mem_of_getElem? (i := 7) rfl)) rfl, zin (wt1 _ (List.mem_of_getElem? (i := 16) rfl)) rfl, by decide +kernel, by decide⟩, zin (wt8 _ (List.mem_of_getElem? (i := 5) rfl)) rfl, zin (wt8 _ (List.mem_of_getElem? (i := 6) rfl)) rfl⟩
def mX12_at : zMe := (yX12_at, cX12_at, 3, (Option.some Jvm.ClassFile.FieldType.int))
theorem mX12_at_ok : zMV mX12_at 1 := ⟨⟨by decide +kernel, zin (wt8 _ (List.mem_of_getElem? (i := 11) rfl)) rfl, zin (wt1 _ (List.mem_of_getElem? (i := 16) rfl)) rfl, by decide +kernel, by decide⟩, zin (wt8 _ (List.mem_of_getElem? (i := 9) rfl)) rfl, zin (wt8 _ (List.mem_of_getElem? (i := 10) rfl)) rfl⟩
def mX12_laysLine : zMe := (yX12_laysLine, cX12_laysLine, 2, (Option.none : Option Jvm.ClassFile.FieldType))
theorem mX12_laysLine_ok : zMV mX12_laysLine 0 := ⟨⟨by decide +kernel, zin (wt8 _ (List.mem_of_getElem? (i := 15) rfl)) rfl, zin (wt1 _ (List.mem_of_getElem? (i := 16) rfl)) rfl, by decide +kernel, by decide⟩, zin (wt8 _ (List.mem_of_getElem? (i := 14) rfl)) rfl, zin (wp10 (⟨"DrawerNamesModel", "laysLine", "()V"⟩, 41) (List.mem_of_getElem? (i := 7) rfl)) rfl⟩
def mX12_comesRound : zMe := (yX12_comesRound, cX12_comesRound, 1, (Option.some Jvm.ClassFile.FieldType.int))
theorem mX12_comesRound_ok : zMV mX12_comesRound 0 := ⟨⟨by decide +kernel, zin (wt8 _ (List.mem_of_getElem? (i := 19) rfl)) rfl, zin (wt1 _ (List.mem_of_getElem? (i := 16) rfl)) rfl, by decide +kernel, by decide⟩, zin (wt8 _ (List.mem_of_getElem? (i := 17) rfl)) rfl, zin (wt8 _ (List.mem_of_getElem? (i := 18) rfl)) rfl⟩
def mX12_first : zMe := (yX12_first, cX12_first, 3, (Option.some Jvm.ClassFile.FieldType.int))
theorem mX12_first_ok : zMV mX12_first 1 := ⟨⟨by decide +kernel, zin (wt8 _ (List.mem_of_getElem? (i := 23) rfl)) rfl, zin (wt1 _ (List.mem_of_getElem? (i := 16) rfl)) rfl, by decide +kernel, by decide⟩, zin (wt8 _ (List.mem_of_getElem? (i := 21) rfl)) rfl, zin (wt8 _ (List.mem_of_getElem? (i := 22) rfl)) rfl⟩
def mX12_often : zMe := (yX12_often, cX12_often, 7, (Option.some Jvm.ClassFile.FieldType.long))
theorem mX12_often_ok : zMV mX12_often 2 := ⟨⟨by decide +kernel, zin (wt8 _ (List.mem_of_getElem? (i := 27) rfl)) rfl, zin (wt1 _ (List.mem_of_getElem? (i := 16) rfl)) rfl, by decide +kernel, by decide⟩, zin (wt8 _ (List.mem_of_getElem? (i := 25) rfl)) rfl, zin (wt8 _ (List.mem_of_getElem? (i := 26) rfl)) rfl⟩
def mX12_found : zMe := (yX12_found, cX12_found, 4, (Option.some Jvm.ClassFile.FieldType.int))
theorem mX12_found_ok : zMV mX12_found 2 := ⟨⟨by decide +kernel, zin (wt8 _ (List.mem_of_getElem? (i := 31) rfl)) rfl, zin (wt1 _ (List.mem_of_getElem? (i := 16) rfl)) rfl, by decide +kernel, by decide⟩, zin (wt8 _ (List.mem_of_getElem? (i := 29) rfl)) rfl, zin (wt8 _ (List.mem_of_getElem? (i := 30) rfl)) rfl⟩
def mX12_noOne : zMe := (yX12_noOne, cX12_noOne, 3, (Option.some Jvm.ClassFile.FieldType.int))
theorem mX12_noOne_ok : zMV mX12_noOne 2 := ⟨⟨by decide +kernel, zin (wt8 _ (List.mem_of_getElem? (i := 35) rfl)) rfl, zin (wt1 _ (List.mem_of_getElem? (i := 16) rfl)) rfl, by decide +kernel, by decide⟩, zin (wt8 _ (List.mem_of_getElem? (i := 34) rfl)) rfl, zin (wp10 (⟨"DrawerNamesModel", "noOne", "(II)I"⟩, 41) (List.mem_of_getElem? (i := 8) rfl)) rfl⟩
def mX12_noFound : zMe := (yX12_noFound, cX12_noFound, 4, (Option.some Jvm.ClassFile.FieldType.int))
theorem mX12_noFound_ok : zMV mX12_noFound 1 := ⟨⟨by decide +kernel, zin (wt8 _ (List.mem_of_getElem? (i := 39) rfl)) rfl, zin (wt1 _ (List.mem_of_getElem? (i := 16) rfl)) rfl, by decide +kernel, by decide⟩, zin (wt8 _ (List.mem_of_getElem? (i := 38) rfl)) rfl, zin (wp10 (⟨"DrawerNamesModel", "noFound", "(I)I"⟩, 41) (List.mem_of_getElem? (i := 9) rfl)) rfl⟩
def mX12_laysFound : zMe := (yX12_laysFound, cX12_laysFound, 6, (Option.some Jvm.ClassFile.FieldType.int))
theorem mX12_laysFound_ok : zMV mX12_laysFound 2 := ⟨⟨by decide +kernel, zin (wt8 _ (List.mem_of_getElem? (i := 45) rfl)) rfl, zin (wt1 _ (List.mem_of_getElem? (i := 16) rfl)) rfl, by decide +kernel, by decide⟩, zin (wt8 _ (List.mem_of_getElem? (i := 44) rfl)) rfl, zin (wp10 (⟨"DrawerNamesModel", "laysFound", "(II)I"⟩, 41) (List.mem_of_getElem? (i := 10) rfl)) rfl⟩
def mX12_isFound : zMe := (yX12_isFound, cX12_isFound, 7, (Option.some Jvm.ClassFile.FieldType.boolean))
theorem mX12_isFound_ok : zMV mX12_isFound 3 := ⟨⟨by decide +kernel, zin (wt8 _ (List.mem_of_getElem? (i := 49) rfl)) rfl, zin (wt1 _ (List.mem_of_getElem? (i := 16) rfl)) rfl, by decide +kernel, by decide⟩, zin (wt8 _ (List.mem_of_getElem? (i := 48) rfl)) rfl, zin (wp10 (⟨"DrawerNamesModel", "isFound", "(III)Z"⟩, 41) (List.mem_of_getElem? (i := 11) rfl)) rfl⟩
def mX12_names : zMe := (yX12_names, cX12_names, 7, (Option.some Jvm.ClassFile.FieldType.int))
theorem mX12_names_ok : zMV mX12_names 3 := ⟨⟨by decide +kernel, zin (wt8 _ (List.mem_of_getElem? (i := 53) rfl)) rfl, zin (wt1 _ (List.mem_of_getElem? (i := 16) rfl)) rfl, by decide +kernel, by decide⟩, zin (wt8 _ (List.mem_of_getElem? (i := 51) rfl)) rfl, zin (wt8 _ (List.mem_of_getElem? (i := 52) rfl)) rfl⟩
def mX12_look : zMe := (yX12_look, cX12_look, 9, (Option.some Jvm.ClassFile.FieldType.int))
theorem mX12_look_ok : zMV mX12_look 2 := ⟨⟨by decide +kernel, zin (wt8 _ (List.mem_of_getElem? (i := 57) rfl)) rfl, zin (wt1 _ (List.mem_of_getElem? (i := 16) rfl)) rfl, by decide +kernel, by decide⟩, zin (wt8 _ (List.mem_of_getElem? (i := 55) rfl)) rfl, zin (wt8 _ (List.mem_of_getElem? (i := 56) rfl)) rfl⟩
def mX12_clues : zMe := (yX12_clues, cX12_clues, 8, (Option.some Jvm.ClassFile.FieldType.int))
theorem mX12_clues_ok : zMV mX12_clues 1 := ⟨⟨by decide +kernel, zin (wt8 _ (List.mem_of_getElem? (i := 61) rfl)) rfl, zin (wt1 _ (List.mem_of_getElem? (i := 16) rfl)) rfl, by decide +kernel, by decide⟩, zin (wt8 _ (List.mem_of_getElem? (i := 59) rfl)) rfl, zin (wt8 _ (List.mem_of_getElem? (i := 60) rfl)) rfl⟩
def mX12_forces : zMe := (yX12_forces, cX12_forces, 2, (Option.some Jvm.ClassFile.FieldType.int))
theorem mX12_forces_ok : zMV mX12_forces 1 := ⟨⟨by decide +kernel, zin (wt8 _ (List.mem_of_getElem? (i := 65) rfl)) rfl, zin (wt1 _ (List.mem_of_getElem? (i := 16) rfl)) rfl, by decide +kernel, by decide⟩, zin (wt8 _ (List.mem_of_getElem? (i := 63) rfl)) rfl, zin (wt8 _ (List.mem_of_getElem? (i := 64) rfl)) rfl⟩
def mX12_laysForce : zMe := (yX12_laysForce, cX12_laysForce, 6, (Option.some Jvm.ClassFile.FieldType.int))
theorem mX12_laysForce_ok : zMV mX12_laysForce 1 := ⟨⟨by decide +kernel, zin (wt8 _ (List.mem_of_getElem? (i := 69) rfl)) rfl, zin (wt1 _ (List.mem_of_getElem? (i := 16) rfl)) rfl, by decide +kernel, by decide⟩, zin (wt8 _ (List.mem_of_getElem? (i := 68) rfl)) rfl, zin (wp10 (⟨"DrawerNamesModel", "laysForce", "(I)I"⟩, 41) (List.mem_of_getElem? (i := 12) rfl)) rfl⟩
def mX12_firstBy : zMe := (yX12_firstBy, cX12_firstBy, 4, (Option.some Jvm.ClassFile.FieldType.int))
theorem mX12_firstBy_ok : zMV mX12_firstBy 2 := ⟨⟨by decide +kernel, zin (wt8 _ (List.mem_of_getElem? (i := 73) rfl)) rfl, zin (wt1 _ (List.mem_of_getElem? (i := 16) rfl)) rfl, by decide +kernel, by decide⟩, zin (wt8 _ (List.mem_of_getElem? (i := 72) rfl)) rfl, zin (wp10 (⟨"DrawerNamesModel", "firstBy", "(II)I"⟩, 41) (List.mem_of_getElem? (i := 13) rfl)) rfl⟩
def mX12_forcedTo : zMe := (yX12_forcedTo, cX12_forcedTo, 3, (Option.some Jvm.ClassFile.FieldType.int))
theorem mX12_forcedTo_ok : zMV mX12_forcedTo 2 := ⟨⟨by decide +kernel, zin (wt8 _ (List.mem_of_getElem? (i := 77) rfl)) rfl, zin (wt1 _ (List.mem_of_getElem? (i := 16) rfl)) rfl, by decide +kernel, by decide⟩, zin (wt8 _ (List.mem_of_getElem? (i := 76) rfl)) rfl, zin (wp10 (⟨"DrawerNamesModel", "forcedTo", "(II)I"⟩, 41) (List.mem_of_getElem? (i := 14) rfl)) rfl⟩
def mX12_otherAt : zMe := (yX12_otherAt, cX12_otherAt, 5, (Option.some Jvm.ClassFile.FieldType.int))
theorem mX12_otherAt_ok : zMV mX12_otherAt 1 := ⟨⟨by decide +kernel, zin (wt8 _ (List.mem_of_getElem? (i := 81) rfl)) rfl, zin (wt1 _ (List.mem_of_getElem? (i := 16) rfl)) rfl, by decide +kernel, by decide⟩, zin (wt8 _ (List.mem_of_getElem? (i := 80) rfl)) rfl, zin (wp10 (⟨"DrawerNamesModel", "otherAt", "(I)I"⟩, 41) (List.mem_of_getElem? (i := 15) rfl)) rfl⟩
def mX12_best : zMe := (yX12_best, cX12_best, 4, (Option.some Jvm.ClassFile.FieldType.int))
theorem mX12_best_ok : zMV mX12_best 1 := ⟨⟨by decide +kernel, zin (wt8 _ (List.mem_of_getElem? (i := 85) rfl)) rfl, zin (wt1 _ (List.mem_of_getElem? (i := 16) rfl)) rfl, by decide +kernel, by decide⟩, zin (wt8 _ (List.mem_of_getElem? (i := 83) rfl)) rfl, zin (wt8 _ (List.mem_of_getElem? (i := 84) rfl)) rfl⟩
def mX12_chance : zMe := (yX12_chance, cX12_chance, 7, (Option.some Jvm.ClassFile.FieldType.int))
theorem mX12_chance_ok : zMV mX12_chance 3 := ⟨⟨by decide +kernel, zin (wt8 _ (List.mem_of_getElem? (i := 89) rfl)) rfl, zin (wt1 _ (List.mem_of_getElem? (i := 16) rfl)) rfl, by decide +kernel, by decide⟩, zin (wt8 _ (List.mem_of_getElem? (i := 87) rfl)) rfl, zin (wt8 _ (List.mem_of_getElem? (i := 88) rfl)) rfl⟩
def mX12_laysLikely : zMe := (yX12_laysLikely, cX12_laysLikely, 5, (Option.none : Option Jvm.ClassFile.FieldType))
theorem mX12_laysLikely_ok : zMV mX12_laysLikely 1 := ⟨⟨by decide +kernel, zin (wt8 _ (List.mem_of_getElem? (i := 93) rfl)) rfl, zin (wt1 _ (List.mem_of_getElem? (i := 16) rfl)) rfl, by decide +kernel, by decide⟩, zin (wt8 _ (List.mem_of_getElem? (i := 92) rfl)) rfl, zin (wp11 (⟨"DrawerNamesModel", "laysLikely", "(I)V"⟩, 41) (List.mem_of_getElem? (i := 0) rfl)) rfl⟩
def mX12_wholeOf : zMe := (yX12_wholeOf, cX12_wholeOf, 4, (Option.some Jvm.ClassFile.FieldType.long))
theorem mX12_wholeOf_ok : zMS mX12_wholeOf 1 := ⟨⟨by decide +kernel, zin (wt8 _ (List.mem_of_getElem? (i := 96) rfl)) rfl, zin (wt1 _ (List.mem_of_getElem? (i := 16) rfl)) rfl, by decide +kernel, by decide⟩, zin (wt8 _ (List.mem_of_getElem? (i := 95) rfl)) rfl⟩
def mX12_part : zMe := (yX12_part, cX12_part, 5, (Option.some Jvm.ClassFile.FieldType.int))
theorem mX12_part_ok : zMS mX12_part 3 := ⟨⟨by decide +kernel, zin (wt8 _ (List.mem_of_getElem? (i := 99) rfl)) rfl, zin (wt1 _ (List.mem_of_getElem? (i := 16) rfl)) rfl, by decide +kernel, by decide⟩, zin (wt8 _ (List.mem_of_getElem? (i := 98) rfl)) rfl⟩
def mX12_commonOf : zMe := (yX12_commonOf, cX12_commonOf, 4, (Option.some Jvm.ClassFile.FieldType.long))
theorem mX12_commonOf_ok : zMS mX12_commonOf 2 := ⟨⟨by decide +kernel, zin (wt8 _ (List.mem_of_getElem? (i := 102) rfl)) rfl, zin (wt1 _ (List.mem_of_getElem? (i := 16) rfl)) rfl, by decide +kernel, by decide⟩, zin (wt8 _ (List.mem_of_getElem? (i := 101) rfl)) rfl⟩
def mX12_mean : zMe := (yX12_mean, cX12_mean, 6, (Option.some Jvm.ClassFile.FieldType.int))
theorem mX12_mean_ok : zMV mX12_mean 2 := ⟨⟨by decide +kernel, zin (wt8 _ (List.mem_of_getElem? (i := 106) rfl)) rfl, zin (wt1 _ (List.mem_of_getElem? (i := 16) rfl)) rfl, by decide +kernel, by decide⟩, zin (wt8 _ (List.mem_of_getElem? (i := 104) rfl)) rfl, zin (wt8 _ (List.mem_of_getElem? (i := 105) rfl)) rfl⟩
def mX12_numbers : zMe := (yX12_numbers, cX12_numbers, 5, (Option.some Jvm.ClassFile.FieldType.int))
theorem mX12_numbers_ok : zMV mX12_numbers 3 := ⟨⟨by decide +kernel, zin (wt8 _ (List.mem_of_getElem? (i := 110) rfl)) rfl, zin (wt1 _ (List.mem_of_getElem? (i := 16) rfl)) rfl, by decide +kernel, by decide⟩, zin (wt8 _ (List.mem_of_getElem? (i := 108) rfl)) rfl, zin (wt8 _ (List.mem_of_getElem? (i := 109) rfl)) rfl⟩
def mX12_write : zMe := (yX12_write, cX12_write, 6, (Option.some Jvm.ClassFile.FieldType.long))
theorem mX12_write_ok : zMV mX12_write 3 := ⟨⟨by decide +kernel, zin (wt8 _ (List.mem_of_getElem? (i := 114) rfl)) rfl, zin (wt1 _ (List.mem_of_getElem? (i := 16) rfl)) rfl, by decide +kernel, by decide⟩, zin (wt8 _ (List.mem_of_getElem? (i := 112) rfl)) rfl, zin (wt8 _ (List.mem_of_getElem? (i := 113) rfl)) rfl⟩
def mX12_cut : zMe := (yX12_cut, cX12_cut, 3, (Option.some Jvm.ClassFile.FieldType.long))
theorem mX12_cut_ok : zMS mX12_cut 2 := ⟨⟨by decide +kernel, zin (wt8 _ (List.mem_of_getElem? (i := 118) rfl)) rfl, zin (wt1 _ (List.mem_of_getElem? (i := 16) rfl)) rfl, by decide +kernel, by decide⟩, zin (wt8 _ (List.mem_of_getElem? (i := 117) rfl)) rfl⟩
def mX12_lists : zMe := (yX12_lists, cX12_lists, 6, (Option.some Jvm.ClassFile.FieldType.int))
theorem mX12_lists_ok : zMV mX12_lists 2 := ⟨⟨by decide +kernel, zin (wt8 _ (List.mem_of_getElem? (i := 122) rfl)) rfl, zin (wt1 _ (List.mem_of_getElem? (i := 16) rfl)) rfl, by decide +kernel, by decide⟩, zin (wt8 _ (List.mem_of_getElem? (i := 120) rfl)) rfl, zin (wt8 _ (List.mem_of_getElem? (i := 121) rfl)) rfl⟩
def mX12_image : zMe := (yX12_image, cX12_image, 3, (Option.some Jvm.ClassFile.FieldType.int))
theorem mX12_image_ok : zMV mX12_image 1 := ⟨⟨by decide +kernel, zin (wt8 _ (List.mem_of_getElem? (i := 126) rfl)) rfl, zin (wt1 _ (List.mem_of_getElem? (i := 16) rfl)) rfl, by decide +kernel, by decide⟩, zin (wt8 _ (List.mem_of_getElem? (i := 124) rfl)) rfl, zin (wt8 _ (List.mem_of_getElem? (i := 125) rfl)) rfl⟩
def mX12_restore : zMe := (yX12_restore, cX12_restore, 3, (Option.some Jvm.ClassFile.FieldType.int))
theorem mX12_restore_ok : zMV mX12_restore 1 := ⟨⟨by decide +kernel, zin (wt8 _ (List.mem_of_getElem? (i := 130) rfl)) rfl, zin (wt1 _ (List.mem_of_getElem? (i := 16) rfl)) rfl, by decide +kernel, by decide⟩, zin (wt8 _ (List.mem_of_getElem? (i := 128) rfl)) rfl, zin (wt8 _ (List.mem_of_getElem? (i := 129) rfl)) rfl⟩
def mX12_count : zMe := (yX12_count, cX12_count, 2, (Option.some Jvm.ClassFile.FieldType.int))
theorem mX12_count_ok : zMV mX12_count 1 := ⟨⟨by decide +kernel, zin (wt8 _ (List.mem_of_getElem? (i := 134) rfl)) rfl, zin (wt1 _ (List.mem_of_getElem? (i := 16) rfl)) rfl, by decide +kernel, by decide⟩, zin (wt8 _ (List.mem_of_getElem? (i := 132) rfl)) rfl, zin (wt8 _ (List.mem_of_getElem? (i := 133) rfl)) rfl⟩
theorem lkL_9 : zLk RL 9 mX11_init := Or.inl (zin (wt1 _ (List.mem_of_getElem? (i := 25) rfl)) rfl)
theorem lkX11_19 : zLk RX11 19 mX4_init := Or.inr ⟨_, List.mem_of_getElem? (i := 0) rfl⟩
theorem lkX4_39 : zLk RX4 39 mX1_init := Or.inr ⟨_, List.mem_of_getElem? (i := 1) rfl⟩
theorem lkX11_26 : zLk RX11 26 mX7_init := Or.inr ⟨_, List.mem_of_getElem? (i := 12) rfl⟩
theorem lkX11_61 : zLk RX11 61 mX5_init := Or.inr ⟨_, List.mem_of_getElem? (i := 16) rfl⟩
theorem lkX11_68 : zLk RX11 68 mX9_init := Or.inr ⟨_, List.mem_of_getElem? (i := 26) rfl⟩
theorem lkX11_77 : zLk RX11 77 mX10_init := Or.inr ⟨_, List.mem_of_getElem? (i := 29) rfl⟩
theorem lkX11_86 : zLk RX11 86 mX6_init := Or.inr ⟨_, List.mem_of_getElem? (i := 30) rfl⟩
theorem lkX11_99 : zLk RX11 99 mX8_init := Or.inr ⟨_, List.mem_of_getElem? (i := 31) rfl⟩
theorem lkX11_100 : zLk RX11 100 mX3_init := Or.inr ⟨_, List.mem_of_getElem? (i := 33) rfl⟩
theorem lkX3_15 : zLk RX3 15 mX7_init := Or.inr ⟨_, List.mem_of_getElem? (i := 34) rfl⟩
theorem lkX11_103 : zLk RX11 103 mX0_init := Or.inr ⟨_, List.mem_of_getElem? (i := 37) rfl⟩
theorem lkX0_30 : zLk RX0 30 mX5_numberOf := Or.inr ⟨_, List.mem_of_getElem? (i := 38) rfl⟩
theorem lkX0_53 : zLk RX0 53 mX1_asLaw := Or.inr ⟨_, List.mem_of_getElem? (i := 39) rfl⟩
theorem lkX1_37 : zLk RX1 37 mJ7_copyOf_59c91 := Or.inl (zin (wt2 _ (List.mem_of_getElem? (i := 73) rfl)) rfl)
theorem lkX1_43 : zLk RX1 43 mX2_init := Or.inr ⟨_, List.mem_of_getElem? (i := 40) rfl⟩
theorem lkX11_110 : zLk RX11 110 mX11_sitAt := Or.inl (zin (wt2 _ (List.mem_of_getElem? (i := 138) rfl)) rfl)
theorem lkX11_146 : zLk RX11 146 mX5_hold := Or.inr ⟨_, List.mem_of_getElem? (i := 51) rfl⟩
theorem lkX5_42 : zLk RX5 42 mX5_fillRow := Or.inl (zin (wt2 _ (List.mem_of_getElem? (i := 148) rfl)) rfl)
theorem lkX5_46 : zLk RX5 46 mX5_unusedName := Or.inl (zin (wt2 _ (List.mem_of_getElem? (i := 152) rfl)) rfl)
theorem lkX11_149 : zLk RX11 149 mX9_sitAt := Or.inr ⟨_, List.mem_of_getElem? (i := 52) rfl⟩
theorem lkL_13 : zLk RL 13 mX11_feed := Or.inl (zin (wt2 _ (List.mem_of_getElem? (i := 215) rfl)) rfl)
theorem lkX11_114 : zLk RX11 114 mX11_putOnTape := Or.inl (zin (wt2 _ (List.mem_of_getElem? (i := 219) rfl)) rfl)
theorem lkL_18 : zLk RL 18 mX11_desk := Or.inl (zin (wt2 _ (List.mem_of_getElem? (i := 223) rfl)) rfl)
theorem lkX11_118 : zLk RX11 118 mX4_read := Or.inr ⟨_, List.mem_of_getElem? (i := 53) rfl⟩
theorem lkX4_72 : zLk RX4 72 mX4_clear := Or.inl (zin (wt2 _ (List.mem_of_getElem? (i := 231) rfl)) rfl)
theorem lkX4_101 : zLk RX4 101 mX1_clear := Or.inr ⟨_, List.mem_of_getElem? (i := 54) rfl⟩
theorem lkX4_81 : zLk RX4 81 mX4_advance := Or.inl (zin (wt3 _ (List.mem_of_getElem? (i := 0) rfl)) rfl)
theorem lkX4_152 : zLk RX4 152 mX4_isLetter := Or.inl (zin (wt3 _ (List.mem_of_getElem? (i := 4) rfl)) rfl)
theorem lkX4_156 : zLk RX4 156 mX4_wordBetween := Or.inl (zin (wt3 _ (List.mem_of_getElem? (i := 7) rfl)) rfl)
theorem lkX4_175 : zLk RX4 175 mJ0_length_8abf5 := Or.inl (zin (wt3 _ (List.mem_of_getElem? (i := 12) rfl)) rfl)
theorem lkJ0_335 : zLk RJ0 335 mJ0_coder_7d493 := Or.inl (zin (wt3 _ (List.mem_of_getElem? (i := 16) rfl)) rfl)
theorem lkX4_177 : zLk RX4 177 mJ0_charAt_5068e := Or.inl (zin (wt3 _ (List.mem_of_getElem? (i := 22) rfl)) rfl)
theorem lkJ0_492 : zLk RJ0 492 mJ0_isLatin1_aae02 := Or.inl (zin (wt3 _ (List.mem_of_getElem? (i := 26) rfl)) rfl)
theorem lkJ0_495 : zLk RJ0 495 mJ1_charAt_3b067 := Or.inl (zin (wt3 _ (List.mem_of_getElem? (i := 30) rfl)) rfl)
theorem lkJ1_9 : zLk RJ1 9 mJ0_checkIndex_df160 := Or.inl (zin (wt3 _ (List.mem_of_getElem? (i := 33) rfl)) rfl)
theorem lkJ0_1059 : zLk RJ0 1059 mJ3_checkIndex_8e157 := Or.inl (zin (wt3 _ (List.mem_of_getElem? (i := 38) rfl)) rfl)
theorem lkJ0_498 : zLk RJ0 498 mJ2_charAt_3b067 := Or.inl (zin (wt3 _ (List.mem_of_getElem? (i := 41) rfl)) rfl)
theorem lkJ2_67 : zLk RJ2 67 mJ2_checkIndex_2214a := Or.inl (zin (wt3 _ (List.mem_of_getElem? (i := 44) rfl)) rfl)
theorem lkJ2_48 : zLk RJ2 48 mJ2_length_9d52b := Or.inl (zin (wt3 _ (List.mem_of_getElem? (i := 47) rfl)) rfl)
theorem lkJ2_414 : zLk RJ2 414 mJ0_checkIndex_df160 := Or.inl (zin (wt3 _ (List.mem_of_getElem? (i := 50) rfl)) rfl)
theorem lkJ2_71 : zLk RJ2 71 mJ2_getChar_3b067 := Or.inl (zin (wt3 _ (List.mem_of_getElem? (i := 51) rfl)) rfl)
theorem lkX4_159 : zLk RX4 159 mX4_isDigit := Or.inl (zin (wt3 _ (List.mem_of_getElem? (i := 60) rfl)) rfl)
theorem lkX4_162 : zLk RX4 162 mX4_readNumber := Or.inl (zin (wt3 _ (List.mem_of_getElem? (i := 63) rfl)) rfl)
theorem lkX4_98 : zLk RX4 98 mX4_fail := Or.inl (zin (wt3 _ (List.mem_of_getElem? (i := 67) rfl)) rfl)
theorem lkX4_167 : zLk RX4 167 mJ0_indexOf_0f7a4 := Or.inl (zin (wt3 _ (List.mem_of_getElem? (i := 72) rfl)) rfl)
theorem lkJ0_633 : zLk RJ0 633 mJ0_indexOf_7cf53 := Or.inl (zin (wt3 _ (List.mem_of_getElem? (i := 76) rfl)) rfl)
theorem lkJ0_505 : zLk RJ0 505 mJ0_length_8abf5 := Or.inl (zin (wt3 _ (List.mem_of_getElem? (i := 80) rfl)) rfl)
theorem lkJ0_637 : zLk RJ0 637 mJ1_indexOf_4cfef := Or.inl (zin (wt3 _ (List.mem_of_getElem? (i := 81) rfl)) rfl)
theorem lkJ1_88 : zLk RJ1 88 mJ1_canEncode_9a6ad := Or.inl (zin (wt3 _ (List.mem_of_getElem? (i := 84) rfl)) rfl)
theorem lkJ1_95 : zLk RJ1 95 mJ1_indexOfChar_4cfef := Or.inl (zin (wt3 _ (List.mem_of_getElem? (i := 89) rfl)) rfl)
theorem lkJ0_640 : zLk RJ0 640 mJ2_indexOf_4cfef := Or.inl (zin (wt3 _ (List.mem_of_getElem? (i := 92) rfl)) rfl)
theorem lkJ2_228 : zLk RJ2 228 mJ2_indexOfChar_4cfef := Or.inl (zin (wt3 _ (List.mem_of_getElem? (i := 98) rfl)) rfl)
theorem lkJ2_96 : zLk RJ2 96 mJ2_checkBoundsBeginEnd_d044e := Or.inl (zin (wt3 _ (List.mem_of_getElem? (i := 101) rfl)) rfl)
theorem lkJ2_241 : zLk RJ2 241 mJ0_checkBoundsBeginEnd_23922 := Or.inl (zin (wt3 _ (List.mem_of_getElem? (i := 104) rfl)) rfl)
theorem lkJ0_1062 : zLk RJ0 1062 mJ3_checkFromToIndex_8c36e := Or.inl (zin (wt3 _ (List.mem_of_getElem? (i := 107) rfl)) rfl)
theorem lkJ2_244 : zLk RJ2 244 mJ2_indexOfCharUnsafe_4cfef := Or.inl (zin (wt3 _ (List.mem_of_getElem? (i := 110) rfl)) rfl)
theorem lkJ2_232 : zLk RJ2 232 mJ2_indexOfSupplementary_4cfef := Or.inl (zin (wt3 _ (List.mem_of_getElem? (i := 113) rfl)) rfl)
theorem lkJ2_164 : zLk RJ2 164 mJ11_isValidCodePoint_9a6ad := Or.inl (zin (wt3 _ (List.mem_of_getElem? (i := 116) rfl)) rfl)
theorem lkJ2_157 : zLk RJ2 157 mJ11_highSurrogate_5068e := Or.inl (zin (wt3 _ (List.mem_of_getElem? (i := 119) rfl)) rfl)
theorem lkJ2_161 : zLk RJ2 161 mJ11_lowSurrogate_5068e := Or.inl (zin (wt3 _ (List.mem_of_getElem? (i := 123) rfl)) rfl)
theorem lkX4_84 : zLk RX4 84 mX4_header := Or.inl (zin (wt3 _ (List.mem_of_getElem? (i := 127) rfl)) rfl)
theorem lkX4_90 : zLk RX4 90 mX4_expect := Or.inl (zin (wt3 _ (List.mem_of_getElem? (i := 131) rfl)) rfl)
theorem lkX4_102 : zLk RX4 102 mX4_number := Or.inl (zin (wt3 _ (List.mem_of_getElem? (i := 135) rfl)) rfl)
theorem lkX4_87 : zLk RX4 87 mX4_line := Or.inl (zin (wt3 _ (List.mem_of_getElem? (i := 139) rfl)) rfl)
theorem lkX4_105 : zLk RX4 105 mX4_tell := Or.inl (zin (wt3 _ (List.mem_of_getElem? (i := 143) rfl)) rfl)
theorem lkX4_109 : zLk RX4 109 mX4_begin := Or.inl (zin (wt3 _ (List.mem_of_getElem? (i := 147) rfl)) rfl)
theorem lkX4_113 : zLk RX4 113 mX4_sum := Or.inl (zin (wt3 _ (List.mem_of_getElem? (i := 151) rfl)) rfl)
theorem lkX4_119 : zLk RX4 119 mX4_term := Or.inl (zin (wt3 _ (List.mem_of_getElem? (i := 155) rfl)) rfl)
theorem lkX4_127 : zLk RX4 127 mX4_atom := Or.inl (zin (wt3 _ (List.mem_of_getElem? (i := 159) rfl)) rfl)
theorem lkX4_130 : zLk RX4 130 mX4_leaf := Or.inl (zin (wt3 _ (List.mem_of_getElem? (i := 163) rfl)) rfl)
theorem lkX4_124 : zLk RX4 124 mX1_add := Or.inr ⟨_, List.mem_of_getElem? (i := 55) rfl⟩
theorem lkX1_25 : zLk RX1 25 mX1_growth := Or.inl (zin (wt3 _ (List.mem_of_getElem? (i := 171) rfl)) rfl)
theorem lkX4_133 : zLk RX4 133 mX4_enter := Or.inl (zin (wt3 _ (List.mem_of_getElem? (i := 175) rfl)) rfl)
theorem lkX4_136 : zLk RX4 136 mX4_choice := Or.inl (zin (wt3 _ (List.mem_of_getElem? (i := 179) rfl)) rfl)
theorem lkX4_116 : zLk RX4 116 mX4_truth := Or.inl (zin (wt3 _ (List.mem_of_getElem? (i := 183) rfl)) rfl)
theorem lkX4_139 : zLk RX4 139 mX4_both := Or.inl (zin (wt3 _ (List.mem_of_getElem? (i := 187) rfl)) rfl)
theorem lkX4_142 : zLk RX4 142 mX4_unit := Or.inl (zin (wt3 _ (List.mem_of_getElem? (i := 191) rfl)) rfl)
theorem lkX4_145 : zLk RX4 145 mX4_comparison := Or.inl (zin (wt3 _ (List.mem_of_getElem? (i := 195) rfl)) rfl)
theorem lkX4_148 : zLk RX4 148 mX4_stepOfSign := Or.inl (zin (wt3 _ (List.mem_of_getElem? (i := 199) rfl)) rfl)
theorem lkX4_94 : zLk RX4 94 mX4_isWhole := Or.inl (zin (wt3 _ (List.mem_of_getElem? (i := 203) rfl)) rfl)
theorem lkL_23 : zLk RL 23 mX11_fault := Or.inl (zin (wt3 _ (List.mem_of_getElem? (i := 207) rfl)) rfl)
theorem lkL_27 : zLk RL 27 mX11_drawer := Or.inl (zin (wt3 _ (List.mem_of_getElem? (i := 211) rfl)) rfl)
theorem lkX11_153 : zLk RX11 153 mX11_isDrawer := Or.inl (zin (wt3 _ (List.mem_of_getElem? (i := 215) rfl)) rfl)
theorem lkX11_157 : zLk RX11 157 mX11_isOneOf := Or.inl (zin (wt3 _ (List.mem_of_getElem? (i := 219) rfl)) rfl)
theorem lkX11_164 : zLk RX11 164 mX5_nameIn := Or.inr ⟨_, List.mem_of_getElem? (i := 56) rfl⟩
theorem lkL_32 : zLk RL 32 mX11_visit := Or.inl (zin (wt3 _ (List.mem_of_getElem? (i := 226) rfl)) rfl)
theorem lkX11_168 : zLk RX11 168 mX9_go := Or.inr ⟨_, List.mem_of_getElem? (i := 57) rfl⟩
theorem lkX9_64 : zLk RX9 64 mX9_prepare := Or.inl (zin (wt3 _ (List.mem_of_getElem? (i := 234) rfl)) rfl)
theorem lkX9_72 : zLk RX9 72 mX9_nextMove := Or.inl (zin (wt3 _ (List.mem_of_getElem? (i := 238) rfl)) rfl)
theorem lkX9_84 : zLk RX9 84 mX2_tell := Or.inr ⟨_, List.mem_of_getElem? (i := 58) rfl⟩
theorem lkX2_22 : zLk RX2 22 mX2_joined := Or.inl (zin (wt4 _ (List.mem_of_getElem? (i := 6) rfl)) rfl)
theorem lkX2_26 : zLk RX2 26 mX2_kept := Or.inl (zin (wt4 _ (List.mem_of_getElem? (i := 9) rfl)) rfl)
theorem lkX9_76 : zLk RX9 76 mX5_nameIn := Or.inr ⟨_, List.mem_of_getElem? (i := 59) rfl⟩
theorem lkL_36 : zLk RL 36 mX11_opened := Or.inl (zin (wt4 _ (List.mem_of_getElem? (i := 21) rfl)) rfl)
theorem lkX11_179 : zLk RX11 179 mX9_openedAt := Or.inr ⟨_, List.mem_of_getElem? (i := 60) rfl⟩
theorem lkL_40 : zLk RL 40 mX11_letOff := Or.inl (zin (wt4 _ (List.mem_of_getElem? (i := 29) rfl)) rfl)
theorem lkX11_183 : zLk RX11 183 mX9_maskOf := Or.inr ⟨_, List.mem_of_getElem? (i := 61) rfl⟩
theorem lkX9_68 : zLk RX9 68 mX9_go := Or.inl (zin (wt4 _ (List.mem_of_getElem? (i := 37) rfl)) rfl)
theorem lkL_45 : zLk RL 45 mX11_swap := Or.inl (zin (wt4 _ (List.mem_of_getElem? (i := 38) rfl)) rfl)
theorem lkX11_191 : zLk RX11 191 mX11_canSwap := Or.inl (zin (wt4 _ (List.mem_of_getElem? (i := 42) rfl)) rfl)
theorem lkX11_194 : zLk RX11 194 mX11_keepForUndoing := Or.inl (zin (wt4 _ (List.mem_of_getElem? (i := 46) rfl)) rfl)
theorem lkX11_220 : zLk RX11 220 mX11_forgetEldest := Or.inl (zin (wt4 _ (List.mem_of_getElem? (i := 50) rfl)) rfl)
theorem lkX11_217 : zLk RX11 217 mX7_become := Or.inr ⟨_, List.mem_of_getElem? (i := 62) rfl⟩
theorem lkX11_198 : zLk RX11 198 mX5_swappedRow := Or.inr ⟨_, List.mem_of_getElem? (i := 63) rfl⟩
theorem lkX5_50 : zLk RX5 50 mX5_nameIn := Or.inl (zin (wt4 _ (List.mem_of_getElem? (i := 62) rfl)) rfl)
theorem lkX5_53 : zLk RX5 53 mX5_numberOf := Or.inl (zin (wt4 _ (List.mem_of_getElem? (i := 63) rfl)) rfl)
theorem lkX11_202 : zLk RX11 202 mX11_howManyFree := Or.inl (zin (wt4 _ (List.mem_of_getElem? (i := 64) rfl)) rfl)
theorem lkX11_186 : zLk RX11 186 mJ6_bitCount_0f7a4 := Or.inl (zin (wt4 _ (List.mem_of_getElem? (i := 68) rfl)) rfl)
theorem lkL_49 : zLk RL 49 mX11_nights := Or.inl (zin (wt4 _ (List.mem_of_getElem? (i := 74) rfl)) rfl)
theorem lkX11_206 : zLk RX11 206 mX11_rowBehind := Or.inl (zin (wt4 _ (List.mem_of_getElem? (i := 78) rfl)) rfl)
theorem lkX11_210 : zLk RX11 210 mX5_powerOf := Or.inr ⟨_, List.mem_of_getElem? (i := 64) rfl⟩
theorem lkX5_57 : zLk RX5 57 mX5_roundBits := Or.inl (zin (wt4 _ (List.mem_of_getElem? (i := 86) rfl)) rfl)
theorem lkX5_60 : zLk RX5 60 mJ6_bitCount_0f7a4 := Or.inl (zin (wt4 _ (List.mem_of_getElem? (i := 90) rfl)) rfl)
theorem lkX5_71 : zLk RX5 71 mX5_nameBehind := Or.inl (zin (wt4 _ (List.mem_of_getElem? (i := 92) rfl)) rfl)
theorem lkX11_214 : zLk RX11 214 mX5_movedRow := Or.inr ⟨_, List.mem_of_getElem? (i := 65) rfl⟩
theorem lkL_53 : zLk RL 53 mX11_clue := Or.inl (zin (wt4 _ (List.mem_of_getElem? (i := 100) rfl)) rfl)
theorem lkL_57 : zLk RL 57 mX11_undo := Or.inl (zin (wt4 _ (List.mem_of_getElem? (i := 104) rfl)) rfl)
theorem lkL_61 : zLk RL 61 mX11_judge := Or.inl (zin (wt4 _ (List.mem_of_getElem? (i := 108) rfl)) rfl)
theorem lkX11_223 : zLk RX11 223 mX8_isMissing := Or.inr ⟨_, List.mem_of_getElem? (i := 66) rfl⟩
theorem lkX11_227 : zLk RX11 227 mX11_doDeeds := Or.inl (zin (wt4 _ (List.mem_of_getElem? (i := 116) rfl)) rfl)
theorem lkX11_234 : zLk RX11 234 mX8_valueAt := Or.inr ⟨_, List.mem_of_getElem? (i := 67) rfl⟩
theorem lkX11_238 : zLk RX11 238 mX11_doDeed := Or.inl (zin (wt4 _ (List.mem_of_getElem? (i := 124) rfl)) rfl)
theorem lkX11_250 : zLk RX11 250 mX11_doSwap := Or.inl (zin (wt4 _ (List.mem_of_getElem? (i := 132) rfl)) rfl)
theorem lkL_65 : zLk RL 65 mX11_perform := Or.inl (zin (wt4 _ (List.mem_of_getElem? (i := 136) rfl)) rfl)
theorem lkL_69 : zLk RL 69 mX11_year := Or.inl (zin (wt4 _ (List.mem_of_getElem? (i := 140) rfl)) rfl)
theorem lkX11_254 : zLk RX11 254 mX11_drawDeed := Or.inl (zin (wt4 _ (List.mem_of_getElem? (i := 144) rfl)) rfl)
theorem lkX11_257 : zLk RX11 257 mX11_draw := Or.inl (zin (wt4 _ (List.mem_of_getElem? (i := 148) rfl)) rfl)
theorem lkL_73 : zLk RL 73 mX11_lies := Or.inl (zin (wt4 _ (List.mem_of_getElem? (i := 153) rfl)) rfl)
theorem lkX11_261 : zLk RX11 261 mX5_roundsOf := Or.inr ⟨_, List.mem_of_getElem? (i := 68) rfl⟩
theorem lkX5_75 : zLk RX5 75 mJ6_numberOfTrailingZeros_0f7a4 := Or.inl (zin (wt4 _ (List.mem_of_getElem? (i := 161) rfl)) rfl)
theorem lkX11_264 : zLk RX11 264 mX5_longestOf := Or.inr ⟨_, List.mem_of_getElem? (i := 69) rfl⟩
theorem lkX11_267 : zLk RX11 267 mX5_fixedOf := Or.inr ⟨_, List.mem_of_getElem? (i := 70) rfl⟩
theorem lkX11_270 : zLk RX11 270 mX5_orderOf := Or.inr ⟨_, List.mem_of_getElem? (i := 71) rfl⟩
theorem lkX5_78 : zLk RX5 78 mX5_powerOf := Or.inl (zin (wt4 _ (List.mem_of_getElem? (i := 177) rfl)) rfl)
theorem lkX11_273 : zLk RX11 273 mX5_inversionsOf := Or.inr ⟨_, List.mem_of_getElem? (i := 72) rfl⟩
theorem lkL_77 : zLk RL 77 mX11_round := Or.inl (zin (wt4 _ (List.mem_of_getElem? (i := 182) rfl)) rfl)
theorem lkX11_276 : zLk RX11 276 mX5_roundBits := Or.inr ⟨_, List.mem_of_getElem? (i := 73) rfl⟩
theorem lkL_83 : zLk RL 83 mX11_power := Or.inl (zin (wt4 _ (List.mem_of_getElem? (i := 187) rfl)) rfl)
theorem lkL_88 : zLk RL 88 mX11_roots := Or.inl (zin (wt4 _ (List.mem_of_getElem? (i := 192) rfl)) rfl)
theorem lkX11_284 : zLk RX11 284 mX5_isRoot := Or.inr ⟨_, List.mem_of_getElem? (i := 74) rfl⟩
theorem lkL_92 : zLk RL 92 mX11_bounded := Or.inl (zin (wt4 _ (List.mem_of_getElem? (i := 200) rfl)) rfl)
theorem lkX11_290 : zLk RX11 290 mX11_boundedBy := Or.inl (zin (wt4 _ (List.mem_of_getElem? (i := 205) rfl)) rfl)
theorem lkL_97 : zLk RL 97 mX11_fewest := Or.inl (zin (wt4 _ (List.mem_of_getElem? (i := 209) rfl)) rfl)
theorem lkX11_294 : zLk RX11 294 mX11_isAim := Or.inl (zin (wt4 _ (List.mem_of_getElem? (i := 213) rfl)) rfl)
theorem lkX11_297 : zLk RX11 297 mX10_measure := Or.inr ⟨_, List.mem_of_getElem? (i := 75) rfl⟩
theorem lkX10_30 : zLk RX10 30 mX5_prepareSwaps := Or.inr ⟨_, List.mem_of_getElem? (i := 76) rfl⟩
theorem lkX5_82 : zLk RX5 82 mX5_fillSwapped := Or.inl (zin (wt4 _ (List.mem_of_getElem? (i := 224) rfl)) rfl)
theorem lkX5_86 : zLk RX5 86 mX5_swappedRow := Or.inl (zin (wt4 _ (List.mem_of_getElem? (i := 228) rfl)) rfl)
theorem lkX10_38 : zLk RX10 38 mX9_goalOf := Or.inr ⟨_, List.mem_of_getElem? (i := 77) rfl⟩
theorem lkX10_44 : zLk RX10 44 mX9_maskOf := Or.inr ⟨_, List.mem_of_getElem? (i := 78) rfl⟩
theorem lkX10_48 : zLk RX10 48 mX10_reach := Or.inl (zin (wt4 _ (List.mem_of_getElem? (i := 234) rfl)) rfl)
theorem lkX10_52 : zLk RX10 52 mX10_reachNeighbours := Or.inl (zin (wt4 _ (List.mem_of_getElem? (i := 238) rfl)) rfl)
theorem lkX10_56 : zLk RX10 56 mX10_stepsFrom := Or.inl (zin (wt5 _ (List.mem_of_getElem? (i := 2) rfl)) rfl)
theorem lkX10_62 : zLk RX10 62 mX5_bySwap := Or.inr ⟨_, List.mem_of_getElem? (i := 79) rfl⟩
theorem lkX11_301 : zLk RX11 301 mX10_stepsFrom := Or.inr ⟨_, List.mem_of_getElem? (i := 80) rfl⟩
theorem lkL_101 : zLk RL 101 mX11_way := Or.inl (zin (wt5 _ (List.mem_of_getElem? (i := 11) rfl)) rfl)
theorem lkX11_304 : zLk RX11 304 mX10_pairFrom := Or.inr ⟨_, List.mem_of_getElem? (i := 81) rfl⟩
theorem lkX11_307 : zLk RX11 307 mX5_bySwap := Or.inr ⟨_, List.mem_of_getElem? (i := 82) rfl⟩
theorem lkX11_310 : zLk RX11 310 mX5_codeOf := Or.inr ⟨_, List.mem_of_getElem? (i := 83) rfl⟩
theorem lkL_105 : zLk RL 105 mX11_rows := Or.inl (zin (wt5 _ (List.mem_of_getElem? (i := 24) rfl)) rfl)
theorem lkX11_315 : zLk RX11 315 mX6_begin := Or.inr ⟨_, List.mem_of_getElem? (i := 84) rfl⟩
theorem lkX6_22 : zLk RX6 22 mX5_prepareSwaps := Or.inr ⟨_, List.mem_of_getElem? (i := 85) rfl⟩
theorem lkX6_31 : zLk RX6 31 mJ7_fill_d0a16 := Or.inl (zin (wt5 _ (List.mem_of_getElem? (i := 34) rfl)) rfl)
theorem lkX11_318 : zLk RX11 318 mX6_bySwaps := Or.inr ⟨_, List.mem_of_getElem? (i := 86) rfl⟩
theorem lkX6_37 : zLk RX6 37 mX6_weightAt := Or.inl (zin (wt5 _ (List.mem_of_getElem? (i := 41) rfl)) rfl)
theorem lkX6_44 : zLk RX6 44 mX5_bySwap := Or.inr ⟨_, List.mem_of_getElem? (i := 87) rfl⟩
theorem lkX6_48 : zLk RX6 48 mX6_addLater := Or.inl (zin (wt5 _ (List.mem_of_getElem? (i := 46) rfl)) rfl)
theorem lkX6_52 : zLk RX6 52 mX6_goOn := Or.inl (zin (wt5 _ (List.mem_of_getElem? (i := 50) rfl)) rfl)
theorem lkX11_321 : zLk RX11 321 mX11_weightOf := Or.inl (zin (wt5 _ (List.mem_of_getElem? (i := 54) rfl)) rfl)
theorem lkX11_324 : zLk RX11 324 mX9_goalOf := Or.inr ⟨_, List.mem_of_getElem? (i := 88) rfl⟩
theorem lkX11_327 : zLk RX11 327 mX6_weightAt := Or.inr ⟨_, List.mem_of_getElem? (i := 89) rfl⟩
theorem lkL_109 : zLk RL 109 mX11_ofAll := Or.inl (zin (wt5 _ (List.mem_of_getElem? (i := 60) rfl)) rfl)
theorem lkX11_330 : zLk RX11 330 mX11_rowsWithJust := Or.inl (zin (wt5 _ (List.mem_of_getElem? (i := 64) rfl)) rfl)
theorem lkL_113 : zLk RL 113 mX11_ofOne := Or.inl (zin (wt5 _ (List.mem_of_getElem? (i := 68) rfl)) rfl)
theorem lkL_117 : zLk RL 117 mX11_just := Or.inl (zin (wt5 _ (List.mem_of_getElem? (i := 72) rfl)) rfl)
theorem lkL_121 : zLk RL 121 mX11_at := Or.inl (zin (wt5 _ (List.mem_of_getElem? (i := 76) rfl)) rfl)
theorem lkL_125 : zLk RL 125 mX11_comesRound := Or.inl (zin (wt5 _ (List.mem_of_getElem? (i := 80) rfl)) rfl)
theorem lkL_129 : zLk RL 129 mX11_first := Or.inl (zin (wt5 _ (List.mem_of_getElem? (i := 84) rfl)) rfl)
theorem lkL_133 : zLk RL 133 mX11_often := Or.inl (zin (wt5 _ (List.mem_of_getElem? (i := 88) rfl)) rfl)
theorem lkX11_338 : zLk RX11 338 mX11_hitsWithin := Or.inl (zin (wt5 _ (List.mem_of_getElem? (i := 93) rfl)) rfl)
theorem lkL_138 : zLk RL 138 mX11_found := Or.inl (zin (wt5 _ (List.mem_of_getElem? (i := 97) rfl)) rfl)
theorem lkX11_341 : zLk RX11 341 mX11_refusalOfFound := Or.inl (zin (wt5 _ (List.mem_of_getElem? (i := 101) rfl)) rfl)
theorem lkX11_351 : zLk RX11 351 mX11_refusalOfNumbers := Or.inl (zin (wt5 _ (List.mem_of_getElem? (i := 105) rfl)) rfl)
theorem lkX11_344 : zLk RX11 344 mX11_gatherFound := Or.inl (zin (wt5 _ (List.mem_of_getElem? (i := 108) rfl)) rfl)
theorem lkX11_355 : zLk RX11 355 mJ7_fill_53178 := Or.inl (zin (wt5 _ (List.mem_of_getElem? (i := 112) rfl)) rfl)
theorem lkX11_361 : zLk RX11 361 mX11_fits := Or.inl (zin (wt5 _ (List.mem_of_getElem? (i := 115) rfl)) rfl)
theorem lkX11_365 : zLk RX11 365 mX11_countLying := Or.inl (zin (wt5 _ (List.mem_of_getElem? (i := 120) rfl)) rfl)
theorem lkL_142 : zLk RL 142 mX11_names := Or.inl (zin (wt5 _ (List.mem_of_getElem? (i := 124) rfl)) rfl)
theorem lkL_147 : zLk RL 147 mX11_look := Or.inl (zin (wt5 _ (List.mem_of_getElem? (i := 128) rfl)) rfl)
theorem lkX11_348 : zLk RX11 348 mX11_mostLying := Or.inl (zin (wt5 _ (List.mem_of_getElem? (i := 132) rfl)) rfl)
theorem lkL_151 : zLk RL 151 mX11_clues := Or.inl (zin (wt5 _ (List.mem_of_getElem? (i := 136) rfl)) rfl)
theorem lkX11_370 : zLk RX11 370 mX11_wereLetOff := Or.inl (zin (wt5 _ (List.mem_of_getElem? (i := 140) rfl)) rfl)
theorem lkL_155 : zLk RL 155 mX11_forces := Or.inl (zin (wt5 _ (List.mem_of_getElem? (i := 144) rfl)) rfl)
theorem lkX11_374 : zLk RX11 374 mX11_pairTo := Or.inl (zin (wt5 _ (List.mem_of_getElem? (i := 148) rfl)) rfl)
theorem lkX11_377 : zLk RX11 377 mX5_prepareSwaps := Or.inr ⟨_, List.mem_of_getElem? (i := 90) rfl⟩
theorem lkL_159 : zLk RL 159 mX11_best := Or.inl (zin (wt5 _ (List.mem_of_getElem? (i := 153) rfl)) rfl)
theorem lkL_163 : zLk RL 163 mX11_chance := Or.inl (zin (wt5 _ (List.mem_of_getElem? (i := 157) rfl)) rfl)
theorem lkX11_383 : zLk RX11 383 mX11_drawLots := Or.inl (zin (wt5 _ (List.mem_of_getElem? (i := 161) rfl)) rfl)
theorem lkX11_390 : zLk RX11 390 mX6_byLots := Or.inr ⟨_, List.mem_of_getElem? (i := 91) rfl⟩
theorem lkX6_55 : zLk RX6 55 mX6_addLots := Or.inl (zin (wt5 _ (List.mem_of_getElem? (i := 169) rfl)) rfl)
theorem lkX6_62 : zLk RX6 62 mX5_codeOf := Or.inr ⟨_, List.mem_of_getElem? (i := 92) rfl⟩
theorem lkX6_66 : zLk RX6 66 mX6_isOfNeighbours := Or.inl (zin (wt5 _ (List.mem_of_getElem? (i := 174) rfl)) rfl)
theorem lkX11_386 : zLk RX11 386 mX11_inLowestTerms := Or.inl (zin (wt5 _ (List.mem_of_getElem? (i := 177) rfl)) rfl)
theorem lkX11_393 : zLk RX11 393 mX11_greatestDivisor := Or.inl (zin (wt5 _ (List.mem_of_getElem? (i := 180) rfl)) rfl)
theorem lkL_167 : zLk RL 167 mX11_mean := Or.inl (zin (wt5 _ (List.mem_of_getElem? (i := 186) rfl)) rfl)
theorem lkL_171 : zLk RL 171 mX11_numbers := Or.inl (zin (wt5 _ (List.mem_of_getElem? (i := 190) rfl)) rfl)
theorem lkX11_399 : zLk RX11 399 mX8_empty := Or.inr ⟨_, List.mem_of_getElem? (i := 93) rfl⟩
theorem lkX8_22 : zLk RX8 22 mJ7_fill_d0a16 := Or.inl (zin (wt5 _ (List.mem_of_getElem? (i := 198) rfl)) rfl)
theorem lkL_175 : zLk RL 175 mX11_write := Or.inl (zin (wt5 _ (List.mem_of_getElem? (i := 199) rfl)) rfl)
theorem lkX11_406 : zLk RX11 406 mX8_put := Or.inr ⟨_, List.mem_of_getElem? (i := 94) rfl⟩
theorem lkX8_28 : zLk RX8 28 mX8_cutToSort := Or.inl (zin (wt5 _ (List.mem_of_getElem? (i := 209) rfl)) rfl)
theorem lkL_180 : zLk RL 180 mX11_lists := Or.inl (zin (wt5 _ (List.mem_of_getElem? (i := 213) rfl)) rfl)
theorem lkL_184 : zLk RL 184 mX11_image := Or.inl (zin (wt5 _ (List.mem_of_getElem? (i := 218) rfl)) rfl)
theorem lkL_188 : zLk RL 188 mX11_restore := Or.inl (zin (wt5 _ (List.mem_of_getElem? (i := 222) rfl)) rfl)
theorem lkL_192 : zLk RL 192 mX11_count := Or.inl (zin (wt5 _ (List.mem_of_getElem? (i := 226) rfl)) rfl)
theorem lkL_12 : zLk RL 12 mX12_init := Or.inl (zin (wt5 _ (List.mem_of_getElem? (i := 232) rfl)) rfl)
theorem lkX12_88 : zLk RX12 88 mX12_plain := Or.inl (zin (wt5 _ (List.mem_of_getElem? (i := 236) rfl)) rfl)
theorem lkX12_92 : zLk RX12 92 mX12_laysAll := Or.inl (zin (wt5 _ (List.mem_of_getElem? (i := 239) rfl)) rfl)
theorem lkX12_226 : zLk RX12 226 mX12_goesAll := Or.inl (zin (wt6 _ (List.mem_of_getElem? (i := 3) rfl)) rfl)
theorem lkX12_230 : zLk RX12 230 mX12_isIn := Or.inl (zin (wt6 _ (List.mem_of_getElem? (i := 7) rfl)) rfl)
theorem lkL_17 : zLk RL 17 mX12_feed := Or.inl (zin (wt6 _ (List.mem_of_getElem? (i := 134) rfl)) rfl)
theorem lkL_22 : zLk RL 22 mX12_desk := Or.inl (zin (wt6 _ (List.mem_of_getElem? (i := 138) rfl)) rfl)
theorem lkX12_157 : zLk RX12 157 mX12_within := Or.inl (zin (wt6 _ (List.mem_of_getElem? (i := 142) rfl)) rfl)
theorem lkX12_150 : zLk RX12 150 mX12_next := Or.inl (zin (wt6 _ (List.mem_of_getElem? (i := 145) rfl)) rfl)
theorem lkX12_119 : zLk RX12 119 mX12_see := Or.inl (zin (wt6 _ (List.mem_of_getElem? (i := 149) rfl)) rfl)
theorem lkX12_126 : zLk RX12 126 mX12_isSmall := Or.inl (zin (wt6 _ (List.mem_of_getElem? (i := 153) rfl)) rfl)
theorem lkX12_130 : zLk RX12 130 mX12_keyAt := Or.inl (zin (wt6 _ (List.mem_of_getElem? (i := 156) rfl)) rfl)
theorem lkX12_103 : zLk RX12 103 mJ0_length_8abf5 := Or.inl (zin (wt6 _ (List.mem_of_getElem? (i := 161) rfl)) rfl)
theorem lkX12_109 : zLk RX12 109 mJ0_charAt_5068e := Or.inl (zin (wt6 _ (List.mem_of_getElem? (i := 162) rfl)) rfl)
theorem lkX12_133 : zLk RX12 133 mX12_isDigit := Or.inl (zin (wt6 _ (List.mem_of_getElem? (i := 163) rfl)) rfl)
theorem lkX12_173 : zLk RX12 173 mX12_eats := Or.inl (zin (wt6 _ (List.mem_of_getElem? (i := 167) rfl)) rfl)
theorem lkX12_147 : zLk RX12 147 mX12_is := Or.inl (zin (wt6 _ (List.mem_of_getElem? (i := 171) rfl)) rfl)
theorem lkX12_153 : zLk RX12 153 mX12_fails := Or.inl (zin (wt6 _ (List.mem_of_getElem? (i := 175) rfl)) rfl)
theorem lkX12_204 : zLk RX12 204 mX12_named := Or.inl (zin (wt6 _ (List.mem_of_getElem? (i := 179) rfl)) rfl)
theorem lkX12_194 : zLk RX12 194 mX12_takes := Or.inl (zin (wt6 _ (List.mem_of_getElem? (i := 183) rfl)) rfl)
theorem lkX12_208 : zLk RX12 208 mX12_closes := Or.inl (zin (wt6 _ (List.mem_of_getElem? (i := 187) rfl)) rfl)
theorem lkX12_211 : zLk RX12 211 mX12_readLine := Or.inl (zin (wt6 _ (List.mem_of_getElem? (i := 191) rfl)) rfl)
theorem lkX12_198 : zLk RX12 198 mX12_readDrawer := Or.inl (zin (wt6 _ (List.mem_of_getElem? (i := 195) rfl)) rfl)
theorem lkX12_201 : zLk RX12 201 mX12_readLaw := Or.inl (zin (wt6 _ (List.mem_of_getElem? (i := 199) rfl)) rfl)
theorem lkX12_170 : zLk RX12 170 mX12_readSum := Or.inl (zin (wt6 _ (List.mem_of_getElem? (i := 203) rfl)) rfl)
theorem lkX12_185 : zLk RX12 185 mX12_readTerm := Or.inl (zin (wt6 _ (List.mem_of_getElem? (i := 207) rfl)) rfl)
theorem lkX12_182 : zLk RX12 182 mX12_readAtom := Or.inl (zin (wt6 _ (List.mem_of_getElem? (i := 211) rfl)) rfl)
theorem lkX12_161 : zLk RX12 161 mX12_codes := Or.inl (zin (wt6 _ (List.mem_of_getElem? (i := 215) rfl)) rfl)
theorem lkX12_164 : zLk RX12 164 mX12_wordOf := Or.inl (zin (wt6 _ (List.mem_of_getElem? (i := 219) rfl)) rfl)
theorem lkX12_167 : zLk RX12 167 mX12_goesIn := Or.inl (zin (wt6 _ (List.mem_of_getElem? (i := 223) rfl)) rfl)
theorem lkX12_176 : zLk RX12 176 mX12_readIf := Or.inl (zin (wt6 _ (List.mem_of_getElem? (i := 227) rfl)) rfl)
theorem lkX12_179 : zLk RX12 179 mX12_readTruth := Or.inl (zin (wt6 _ (List.mem_of_getElem? (i := 231) rfl)) rfl)
theorem lkX12_191 : zLk RX12 191 mX12_readBoth := Or.inl (zin (wt6 _ (List.mem_of_getElem? (i := 235) rfl)) rfl)
theorem lkX12_188 : zLk RX12 188 mX12_readUnit := Or.inl (zin (wt6 _ (List.mem_of_getElem? (i := 239) rfl)) rfl)
theorem lkX12_214 : zLk RX12 214 mX12_isWhole := Or.inl (zin (wt7 _ (List.mem_of_getElem? (i := 3) rfl)) rfl)
theorem lkX12_220 : zLk RX12 220 mX12_numberNow := Or.inl (zin (wt7 _ (List.mem_of_getElem? (i := 7) rfl)) rfl)
theorem lkL_26 : zLk RL 26 mX12_fault := Or.inl (zin (wt7 _ (List.mem_of_getElem? (i := 11) rfl)) rfl)
theorem lkL_31 : zLk RL 31 mX12_drawer := Or.inl (zin (wt7 _ (List.mem_of_getElem? (i := 15) rfl)) rfl)
theorem lkX12_261 : zLk RX12 261 mX12_isDrawer := Or.inl (zin (wt7 _ (List.mem_of_getElem? (i := 19) rfl)) rfl)
theorem lkX12_251 : zLk RX12 251 mX12_nameIn := Or.inl (zin (wt7 _ (List.mem_of_getElem? (i := 23) rfl)) rfl)
theorem lkL_35 : zLk RL 35 mX12_visit := Or.inl (zin (wt7 _ (List.mem_of_getElem? (i := 27) rfl)) rfl)
theorem lkX12_254 : zLk RX12 254 mX12_goesVisit := Or.inl (zin (wt7 _ (List.mem_of_getElem? (i := 31) rfl)) rfl)
theorem lkX12_248 : zLk RX12 248 mX12_reckons := Or.inl (zin (wt7 _ (List.mem_of_getElem? (i := 35) rfl)) rfl)
theorem lkX12_238 : zLk RX12 238 mX12_between := Or.inl (zin (wt7 _ (List.mem_of_getElem? (i := 39) rfl)) rfl)
theorem lkL_39 : zLk RL 39 mX12_opened := Or.inl (zin (wt7 _ (List.mem_of_getElem? (i := 44) rfl)) rfl)
theorem lkL_44 : zLk RL 44 mX12_letOff := Or.inl (zin (wt7 _ (List.mem_of_getElem? (i := 48) rfl)) rfl)
theorem lkX12_265 : zLk RX12 265 mX12_letNow := Or.inl (zin (wt7 _ (List.mem_of_getElem? (i := 52) rfl)) rfl)
theorem lkX12_258 : zLk RX12 258 mX12_letIn := Or.inl (zin (wt7 _ (List.mem_of_getElem? (i := 56) rfl)) rfl)
theorem lkL_48 : zLk RL 48 mX12_swap := Or.inl (zin (wt7 _ (List.mem_of_getElem? (i := 60) rfl)) rfl)
theorem lkX12_271 : zLk RX12 271 mX12_canSwap := Or.inl (zin (wt7 _ (List.mem_of_getElem? (i := 64) rfl)) rfl)
theorem lkX12_275 : zLk RX12 275 mX12_stores := Or.inl (zin (wt7 _ (List.mem_of_getElem? (i := 68) rfl)) rfl)
theorem lkX12_278 : zLk RX12 278 mX12_swapTo := Or.inl (zin (wt7 _ (List.mem_of_getElem? (i := 72) rfl)) rfl)
theorem lkX12_281 : zLk RX12 281 mX12_notes := Or.inl (zin (wt7 _ (List.mem_of_getElem? (i := 76) rfl)) rfl)
theorem lkX12_284 : zLk RX12 284 mX12_bitsOf := Or.inl (zin (wt7 _ (List.mem_of_getElem? (i := 80) rfl)) rfl)
theorem lkL_52 : zLk RL 52 mX12_nights := Or.inl (zin (wt7 _ (List.mem_of_getElem? (i := 83) rfl)) rfl)
theorem lkX12_289 : zLk RX12 289 mX12_goesNight := Or.inl (zin (wt7 _ (List.mem_of_getElem? (i := 88) rfl)) rfl)
theorem lkX12_268 : zLk RX12 268 mX12_nightTo := Or.inl (zin (wt7 _ (List.mem_of_getElem? (i := 92) rfl)) rfl)
theorem lkL_56 : zLk RL 56 mX12_clue := Or.inl (zin (wt7 _ (List.mem_of_getElem? (i := 96) rfl)) rfl)
theorem lkL_60 : zLk RL 60 mX12_undo := Or.inl (zin (wt7 _ (List.mem_of_getElem? (i := 101) rfl)) rfl)
theorem lkL_64 : zLk RL 64 mX12_judge := Or.inl (zin (wt7 _ (List.mem_of_getElem? (i := 106) rfl)) rfl)
theorem lkX12_314 : zLk RX12 314 mX12_noTray := Or.inl (zin (wt7 _ (List.mem_of_getElem? (i := 111) rfl)) rfl)
theorem lkX12_317 : zLk RX12 317 mX12_tells := Or.inl (zin (wt7 _ (List.mem_of_getElem? (i := 115) rfl)) rfl)
theorem lkX12_305 : zLk RX12 305 mX12_whyNot := Or.inl (zin (wt7 _ (List.mem_of_getElem? (i := 119) rfl)) rfl)
theorem lkX12_309 : zLk RX12 309 mX12_does := Or.inl (zin (wt7 _ (List.mem_of_getElem? (i := 126) rfl)) rfl)
theorem lkX12_320 : zLk RX12 320 mX12_isAgain := Or.inl (zin (wt7 _ (List.mem_of_getElem? (i := 130) rfl)) rfl)
theorem lkL_68 : zLk RL 68 mX12_perform := Or.inl (zin (wt7 _ (List.mem_of_getElem? (i := 134) rfl)) rfl)
theorem lkL_72 : zLk RL 72 mX12_year := Or.inl (zin (wt7 _ (List.mem_of_getElem? (i := 138) rfl)) rfl)
theorem lkX12_332 : zLk RX12 332 mX12_drawn := Or.inl (zin (wt7 _ (List.mem_of_getElem? (i := 143) rfl)) rfl)
theorem lkX12_327 : zLk RX12 327 mX12_draw := Or.inl (zin (wt7 _ (List.mem_of_getElem? (i := 147) rfl)) rfl)
theorem lkL_76 : zLk RL 76 mX12_lies := Or.inl (zin (wt7 _ (List.mem_of_getElem? (i := 152) rfl)) rfl)
theorem lkX12_343 : zLk RX12 343 mX12_orderOf := Or.inl (zin (wt7 _ (List.mem_of_getElem? (i := 157) rfl)) rfl)
theorem lkX12_338 : zLk RX12 338 mX12_roundOf := Or.inl (zin (wt7 _ (List.mem_of_getElem? (i := 161) rfl)) rfl)
theorem lkX12_335 : zLk RX12 335 mX12_common := Or.inl (zin (wt7 _ (List.mem_of_getElem? (i := 165) rfl)) rfl)
theorem lkL_80 : zLk RL 80 mX12_round := Or.inl (zin (wt7 _ (List.mem_of_getElem? (i := 168) rfl)) rfl)
theorem lkL_87 : zLk RL 87 mX12_power := Or.inl (zin (wt7 _ (List.mem_of_getElem? (i := 172) rfl)) rfl)
theorem lkX12_348 : zLk RX12 348 mX12_powerOf := Or.inl (zin (wt7 _ (List.mem_of_getElem? (i := 177) rfl)) rfl)
theorem lkL_91 : zLk RL 91 mX12_roots := Or.inl (zin (wt7 _ (List.mem_of_getElem? (i := 181) rfl)) rfl)
theorem lkL_96 : zLk RL 96 mX12_bounded := Or.inl (zin (wt7 _ (List.mem_of_getElem? (i := 185) rfl)) rfl)
theorem lkL_100 : zLk RL 100 mX12_fewest := Or.inl (zin (wt7 _ (List.mem_of_getElem? (i := 191) rfl)) rfl)
theorem lkX12_369 : zLk RX12 369 mX12_isAim := Or.inl (zin (wt7 _ (List.mem_of_getElem? (i := 195) rfl)) rfl)
theorem lkX12_372 : zLk RX12 372 mX12_laysFar := Or.inl (zin (wt7 _ (List.mem_of_getElem? (i := 198) rfl)) rfl)
theorem lkX12_361 : zLk RX12 361 mX12_laysThen := Or.inl (zin (wt7 _ (List.mem_of_getElem? (i := 202) rfl)) rfl)
theorem lkX12_355 : zLk RX12 355 mX12_laysLet := Or.inl (zin (wt7 _ (List.mem_of_getElem? (i := 206) rfl)) rfl)
theorem lkX12_364 : zLk RX12 364 mX12_isSo := Or.inl (zin (wt7 _ (List.mem_of_getElem? (i := 210) rfl)) rfl)
theorem lkX12_375 : zLk RX12 375 mX12_toldFar := Or.inl (zin (wt7 _ (List.mem_of_getElem? (i := 215) rfl)) rfl)
theorem lkL_104 : zLk RL 104 mX12_way := Or.inl (zin (wt7 _ (List.mem_of_getElem? (i := 218) rfl)) rfl)
theorem lkL_108 : zLk RL 108 mX12_rows := Or.inl (zin (wt7 _ (List.mem_of_getElem? (i := 222) rfl)) rfl)
theorem lkX12_382 : zLk RX12 382 mX12_beginsMany := Or.inl (zin (wt7 _ (List.mem_of_getElem? (i := 228) rfl)) rfl)
theorem lkX12_385 : zLk RX12 385 mX12_isThen := Or.inl (zin (wt7 _ (List.mem_of_getElem? (i := 232) rfl)) rfl)
theorem lkL_112 : zLk RL 112 mX12_ofAll := Or.inl (zin (wt7 _ (List.mem_of_getElem? (i := 236) rfl)) rfl)
theorem lkL_116 : zLk RL 116 mX12_ofOne := Or.inl (zin (wt8 _ (List.mem_of_getElem? (i := 0) rfl)) rfl)
theorem lkL_120 : zLk RL 120 mX12_just := Or.inl (zin (wt8 _ (List.mem_of_getElem? (i := 4) rfl)) rfl)
theorem lkL_124 : zLk RL 124 mX12_at := Or.inl (zin (wt8 _ (List.mem_of_getElem? (i := 8) rfl)) rfl)
theorem lkX12_391 : zLk RX12 391 mX12_laysLine := Or.inl (zin (wt8 _ (List.mem_of_getElem? (i := 12) rfl)) rfl)
theorem lkL_128 : zLk RL 128 mX12_comesRound := Or.inl (zin (wt8 _ (List.mem_of_getElem? (i := 16) rfl)) rfl)
theorem lkL_132 : zLk RL 132 mX12_first := Or.inl (zin (wt8 _ (List.mem_of_getElem? (i := 20) rfl)) rfl)
theorem lkL_137 : zLk RL 137 mX12_often := Or.inl (zin (wt8 _ (List.mem_of_getElem? (i := 24) rfl)) rfl)
theorem lkL_141 : zLk RL 141 mX12_found := Or.inl (zin (wt8 _ (List.mem_of_getElem? (i := 28) rfl)) rfl)
theorem lkX12_405 : zLk RX12 405 mX12_noOne := Or.inl (zin (wt8 _ (List.mem_of_getElem? (i := 32) rfl)) rfl)
theorem lkX12_398 : zLk RX12 398 mX12_noFound := Or.inl (zin (wt8 _ (List.mem_of_getElem? (i := 36) rfl)) rfl)
theorem lkX12_408 : zLk RX12 408 mX12_laysFound := Or.inl (zin (wt8 _ (List.mem_of_getElem? (i := 42) rfl)) rfl)
theorem lkX12_401 : zLk RX12 401 mX12_isFound := Or.inl (zin (wt8 _ (List.mem_of_getElem? (i := 46) rfl)) rfl)
theorem lkL_146 : zLk RL 146 mX12_names := Or.inl (zin (wt8 _ (List.mem_of_getElem? (i := 50) rfl)) rfl)
theorem lkL_150 : zLk RL 150 mX12_look := Or.inl (zin (wt8 _ (List.mem_of_getElem? (i := 54) rfl)) rfl)
theorem lkL_154 : zLk RL 154 mX12_clues := Or.inl (zin (wt8 _ (List.mem_of_getElem? (i := 58) rfl)) rfl)
theorem lkL_158 : zLk RL 158 mX12_forces := Or.inl (zin (wt8 _ (List.mem_of_getElem? (i := 62) rfl)) rfl)
theorem lkX12_420 : zLk RX12 420 mX12_laysForce := Or.inl (zin (wt8 _ (List.mem_of_getElem? (i := 66) rfl)) rfl)
theorem lkX12_414 : zLk RX12 414 mX12_firstBy := Or.inl (zin (wt8 _ (List.mem_of_getElem? (i := 70) rfl)) rfl)
theorem lkX12_411 : zLk RX12 411 mX12_forcedTo := Or.inl (zin (wt8 _ (List.mem_of_getElem? (i := 74) rfl)) rfl)
theorem lkX12_417 : zLk RX12 417 mX12_otherAt := Or.inl (zin (wt8 _ (List.mem_of_getElem? (i := 78) rfl)) rfl)
theorem lkL_162 : zLk RL 162 mX12_best := Or.inl (zin (wt8 _ (List.mem_of_getElem? (i := 82) rfl)) rfl)
theorem lkL_166 : zLk RL 166 mX12_chance := Or.inl (zin (wt8 _ (List.mem_of_getElem? (i := 86) rfl)) rfl)
theorem lkX12_427 : zLk RX12 427 mX12_laysLikely := Or.inl (zin (wt8 _ (List.mem_of_getElem? (i := 90) rfl)) rfl)
theorem lkX12_430 : zLk RX12 430 mX12_wholeOf := Or.inl (zin (wt8 _ (List.mem_of_getElem? (i := 94) rfl)) rfl)
theorem lkX12_434 : zLk RX12 434 mX12_part := Or.inl (zin (wt8 _ (List.mem_of_getElem? (i := 97) rfl)) rfl)
theorem lkX12_423 : zLk RX12 423 mX12_commonOf := Or.inl (zin (wt8 _ (List.mem_of_getElem? (i := 100) rfl)) rfl)
theorem lkL_170 : zLk RL 170 mX12_mean := Or.inl (zin (wt8 _ (List.mem_of_getElem? (i := 103) rfl)) rfl)
theorem lkL_174 : zLk RL 174 mX12_numbers := Or.inl (zin (wt8 _ (List.mem_of_getElem? (i := 107) rfl)) rfl)
theorem lkL_179 : zLk RL 179 mX12_write := Or.inl (zin (wt8 _ (List.mem_of_getElem? (i := 111) rfl)) rfl)
theorem lkX12_440 : zLk RX12 440 mX12_cut := Or.inl (zin (wt8 _ (List.mem_of_getElem? (i := 116) rfl)) rfl)
theorem lkL_183 : zLk RL 183 mX12_lists := Or.inl (zin (wt8 _ (List.mem_of_getElem? (i := 119) rfl)) rfl)
theorem lkL_187 : zLk RL 187 mX12_image := Or.inl (zin (wt8 _ (List.mem_of_getElem? (i := 123) rfl)) rfl)
theorem lkL_191 : zLk RL 191 mX12_restore := Or.inl (zin (wt8 _ (List.mem_of_getElem? (i := 127) rfl)) rfl)
theorem lkL_195 : zLk RL 195 mX12_count := Or.inl (zin (wt8 _ (List.mem_of_getElem? (i := 131) rfl)) rfl)
theorem fdX1_9 : zFd RX1 9 1 0 (.array .int) true := ⟨RX1, TX1, 4, tyX1, rfl, by decide, inX1, tyX1_ok, nmX1, by decide +kernel, rfl, rfl, Or.inl (zin (wt1 _ (List.mem_of_getElem? (i := 43) rfl)) rfl)⟩
theorem fdX1_15 : zFd RX1 15 1 1 (.int) false := ⟨RX1, TX1, 4, tyX1, rfl, by decide, inX1, tyX1_ok, nmX1, by decide +kernel, rfl, rfl, Or.inl (zin (wt1 _ (List.mem_of_getElem? (i := 44) rfl)) rfl)⟩
theorem fdX1_19 : zFd RX1 19 1 2 (.int) false := ⟨RX1, TX1, 4, tyX1, rfl, by decide, inX1, tyX1_ok, nmX1, by decide +kernel, rfl, rfl, Or.inl (zin (wt1 _ (List.mem_of_getElem? (i := 45) rfl)) rfl)⟩
theorem fdX1_22 : zFd RX1 22 1 3 (.int) false := ⟨RX1, TX1, 4, tyX1, rfl, by decide, inX1, tyX1_ok, nmX1, by decide +kernel, rfl, rfl, Or.inl (zin (wt1 _ (List.mem_of_getElem? (i := 46) rfl)) rfl)⟩
theorem fdX4_9 : zFd RX4 9 4 0 (.int) false := ⟨RX4, TX4, 18, tyX4, rfl, by decide, inX4, tyX4_ok, nmX4, by decide +kernel, rfl, rfl, Or.inl (zin (wt1 _ (List.mem_of_getElem? (i := 58) rfl)) rfl)⟩
theorem fdX11_122 : zFd RX11 122 4 0 (.int) false := ⟨RX4, TX4, 18, tyX4, rfl, by decide, inX4, tyX4_ok, nmX4, by decide +kernel, rfl, rfl, Or.inr ⟨_, List.mem_of_getElem? (i := 2) rfl⟩⟩
theorem fdX4_15 : zFd RX4 15 4 1 (.int) false := ⟨RX4, TX4, 18, tyX4, rfl, by decide, inX4, tyX4_ok, nmX4, by decide +kernel, rfl, rfl, Or.inl (zin (wt1 _ (List.mem_of_getElem? (i := 60) rfl)) rfl)⟩
theorem fdX11_150 : zFd RX11 150 4 1 (.int) false := ⟨RX4, TX4, 18, tyX4, rfl, by decide, inX4, tyX4_ok, nmX4, by decide +kernel, rfl, rfl, Or.inr ⟨_, List.mem_of_getElem? (i := 3) rfl⟩⟩
theorem fdX0_7 : zFd RX0 7 4 2 (.int) false := ⟨RX4, TX4, 18, tyX4, rfl, by decide, inX4, tyX4_ok, nmX4, by decide +kernel, rfl, rfl, Or.inr ⟨_, List.mem_of_getElem? (i := 4) rfl⟩⟩
theorem fdX4_18 : zFd RX4 18 4 2 (.int) false := ⟨RX4, TX4, 18, tyX4, rfl, by decide, inX4, tyX4_ok, nmX4, by decide +kernel, rfl, rfl, Or.inl (zin (wt1 _ (List.mem_of_getElem? (i := 63) rfl)) rfl)⟩
theorem fdX0_16 : zFd RX0 16 4 3 (.int) false := ⟨RX4, TX4, 18, tyX4, rfl, by decide, inX4, tyX4_ok, nmX4, by decide +kernel, rfl, rfl, Or.inr ⟨_, List.mem_of_getElem? (i := 5) rfl⟩⟩
theorem fdX4_21 : zFd RX4 21 4 3 (.int) false := ⟨RX4, TX4, 18, tyX4, rfl, by decide, inX4, tyX4_ok, nmX4, by decide +kernel, rfl, rfl, Or.inl (zin (wt1 _ (List.mem_of_getElem? (i := 65) rfl)) rfl)⟩
theorem fdX0_20 : zFd RX0 20 4 4 (.int) false := ⟨RX4, TX4, 18, tyX4, rfl, by decide, inX4, tyX4_ok, nmX4, by decide +kernel, rfl, rfl, Or.inr ⟨_, List.mem_of_getElem? (i := 6) rfl⟩⟩
theorem fdX4_24 : zFd RX4 24 4 4 (.int) false := ⟨RX4, TX4, 18, tyX4, rfl, by decide, inX4, tyX4_ok, nmX4, by decide +kernel, rfl, rfl, Or.inl (zin (wt1 _ (List.mem_of_getElem? (i := 67) rfl)) rfl)⟩
theorem fdX4_27 : zFd RX4 27 4 5 (.int) false := ⟨RX4, TX4, 18, tyX4, rfl, by decide, inX4, tyX4_ok, nmX4, by decide +kernel, rfl, rfl, Or.inl (zin (wt1 _ (List.mem_of_getElem? (i := 68) rfl)) rfl)⟩
theorem fdX0_45 : zFd RX0 45 4 5 (.int) false := ⟨RX4, TX4, 18, tyX4, rfl, by decide, inX4, tyX4_ok, nmX4, by decide +kernel, rfl, rfl, Or.inr ⟨_, List.mem_of_getElem? (i := 7) rfl⟩⟩
theorem fdX0_26 : zFd RX0 26 4 6 (.array .int) true := ⟨RX4, TX4, 18, tyX4, rfl, by decide, inX4, tyX4_ok, nmX4, by decide +kernel, rfl, rfl, Or.inr ⟨_, List.mem_of_getElem? (i := 8) rfl⟩⟩
theorem fdX4_30 : zFd RX4 30 4 6 (.array .int) true := ⟨RX4, TX4, 18, tyX4, rfl, by decide, inX4, tyX4_ok, nmX4, by decide +kernel, rfl, rfl, Or.inl (zin (wt1 _ (List.mem_of_getElem? (i := 71) rfl)) rfl)⟩
theorem fdX0_39 : zFd RX0 39 4 7 (.array .int) true := ⟨RX4, TX4, 18, tyX4, rfl, by decide, inX4, tyX4_ok, nmX4, by decide +kernel, rfl, rfl, Or.inr ⟨_, List.mem_of_getElem? (i := 9) rfl⟩⟩
theorem fdX4_34 : zFd RX4 34 4 7 (.array .int) true := ⟨RX4, TX4, 18, tyX4, rfl, by decide, inX4, tyX4_ok, nmX4, by decide +kernel, rfl, rfl, Or.inl (zin (wt1 _ (List.mem_of_getElem? (i := 73) rfl)) rfl)⟩
theorem fdX4_40 : zFd RX4 40 4 8 (.object "DrawerNames$Draft") true := ⟨RX4, TX4, 18, tyX4, rfl, by decide, inX4, tyX4_ok, nmX4, by decide +kernel, rfl, rfl, Or.inl (zin (wt1 _ (List.mem_of_getElem? (i := 74) rfl)) rfl)⟩
theorem fdX0_49 : zFd RX0 49 4 8 (.object "DrawerNames$Draft") true := ⟨RX4, TX4, 18, tyX4, rfl, by decide, inX4, tyX4_ok, nmX4, by decide +kernel, rfl, rfl, Or.inr ⟨_, List.mem_of_getElem? (i := 10) rfl⟩⟩
theorem fdX4_44 : zFd RX4 44 4 9 (.object "DrawerNames$Draft") true := ⟨RX4, TX4, 18, tyX4, rfl, by decide, inX4, tyX4_ok, nmX4, by decide +kernel, rfl, rfl, Or.inl (zin (wt1 _ (List.mem_of_getElem? (i := 76) rfl)) rfl)⟩
theorem fdX0_62 : zFd RX0 62 4 9 (.object "DrawerNames$Draft") true := ⟨RX4, TX4, 18, tyX4, rfl, by decide, inX4, tyX4_ok, nmX4, by decide +kernel, rfl, rfl, Or.inr ⟨_, List.mem_of_getElem? (i := 11) rfl⟩⟩
theorem fdX4_47 : zFd RX4 47 4 10 (.array .byte) false := ⟨RX4, TX4, 18, tyX4, rfl, by decide, inX4, tyX4_ok, nmX4, by decide +kernel, rfl, rfl, Or.inl (zin (wt1 _ (List.mem_of_getElem? (i := 78) rfl)) rfl)⟩
theorem fdX4_51 : zFd RX4 51 4 11 (.int) false := ⟨RX4, TX4, 18, tyX4, rfl, by decide, inX4, tyX4_ok, nmX4, by decide +kernel, rfl, rfl, Or.inl (zin (wt1 _ (List.mem_of_getElem? (i := 79) rfl)) rfl)⟩
theorem fdX4_54 : zFd RX4 54 4 12 (.int) false := ⟨RX4, TX4, 18, tyX4, rfl, by decide, inX4, tyX4_ok, nmX4, by decide +kernel, rfl, rfl, Or.inl (zin (wt1 _ (List.mem_of_getElem? (i := 80) rfl)) rfl)⟩
theorem fdX4_57 : zFd RX4 57 4 13 (.int) false := ⟨RX4, TX4, 18, tyX4, rfl, by decide, inX4, tyX4_ok, nmX4, by decide +kernel, rfl, rfl, Or.inl (zin (wt1 _ (List.mem_of_getElem? (i := 81) rfl)) rfl)⟩
theorem fdX4_60 : zFd RX4 60 4 14 (.int) false := ⟨RX4, TX4, 18, tyX4, rfl, by decide, inX4, tyX4_ok, nmX4, by decide +kernel, rfl, rfl, Or.inl (zin (wt1 _ (List.mem_of_getElem? (i := 82) rfl)) rfl)⟩
theorem fdX4_63 : zFd RX4 63 4 15 (.int) false := ⟨RX4, TX4, 18, tyX4, rfl, by decide, inX4, tyX4_ok, nmX4, by decide +kernel, rfl, rfl, Or.inl (zin (wt1 _ (List.mem_of_getElem? (i := 83) rfl)) rfl)⟩
theorem fdX4_66 : zFd RX4 66 4 16 (.int) false := ⟨RX4, TX4, 18, tyX4, rfl, by decide, inX4, tyX4_ok, nmX4, by decide +kernel, rfl, rfl, Or.inl (zin (wt1 _ (List.mem_of_getElem? (i := 84) rfl)) rfl)⟩
theorem fdX4_69 : zFd RX4 69 4 17 (.object "DrawerNames$Draft") false := ⟨RX4, TX4, 18, tyX4, rfl, by decide, inX4, tyX4_ok, nmX4, by decide +kernel, rfl, rfl, Or.inl (zin (wt1 _ (List.mem_of_getElem? (i := 85) rfl)) rfl)⟩
theorem fdX7_7 : zFd RX7 7 7 0 (.int) false := ⟨RX7, TX7, 3, tyX7, rfl, by decide, inX7, tyX7_ok, nmX7, by decide +kernel, rfl, rfl, Or.inl (zin (wt1 _ (List.mem_of_getElem? (i := 129) rfl)) rfl)⟩
theorem fdX11_128 : zFd RX11 128 7 0 (.int) false := ⟨RX7, TX7, 3, tyX7, rfl, by decide, inX7, tyX7_ok, nmX7, by decide +kernel, rfl, rfl, Or.inr ⟨_, List.mem_of_getElem? (i := 13) rfl⟩⟩
theorem fdX7_13 : zFd RX7 13 7 1 (.int) false := ⟨RX7, TX7, 3, tyX7, rfl, by decide, inX7, tyX7_ok, nmX7, by decide +kernel, rfl, rfl, Or.inl (zin (wt1 _ (List.mem_of_getElem? (i := 131) rfl)) rfl)⟩
theorem fdX11_134 : zFd RX11 134 7 1 (.int) false := ⟨RX7, TX7, 3, tyX7, rfl, by decide, inX7, tyX7_ok, nmX7, by decide +kernel, rfl, rfl, Or.inr ⟨_, List.mem_of_getElem? (i := 14) rfl⟩⟩
theorem fdX7_16 : zFd RX7 16 7 2 (.int) false := ⟨RX7, TX7, 3, tyX7, rfl, by decide, inX7, tyX7_ok, nmX7, by decide +kernel, rfl, rfl, Or.inl (zin (wt1 _ (List.mem_of_getElem? (i := 133) rfl)) rfl)⟩
theorem fdX11_137 : zFd RX11 137 7 2 (.int) false := ⟨RX7, TX7, 3, tyX7, rfl, by decide, inX7, tyX7_ok, nmX7, by decide +kernel, rfl, rfl, Or.inr ⟨_, List.mem_of_getElem? (i := 15) rfl⟩⟩
theorem fdX5_9 : zFd RX5 9 5 0 (.int) false := ⟨RX5, TX5, 8, tyX5, rfl, by decide, inX5, tyX5_ok, nmX5, by decide +kernel, rfl, rfl, Or.inl (zin (wt1 _ (List.mem_of_getElem? (i := 153) rfl)) rfl)⟩
theorem fdX9_63 : zFd RX9 63 5 0 (.int) false := ⟨RX5, TX5, 8, tyX5, rfl, by decide, inX5, tyX5_ok, nmX5, by decide +kernel, rfl, rfl, Or.inr ⟨_, List.mem_of_getElem? (i := 17) rfl⟩⟩
theorem fdX6_59 : zFd RX6 59 5 0 (.int) false := ⟨RX5, TX5, 8, tyX5, rfl, by decide, inX5, tyX5_ok, nmX5, by decide +kernel, rfl, rfl, Or.inr ⟨_, List.mem_of_getElem? (i := 18) rfl⟩⟩
theorem fdX5_15 : zFd RX5 15 5 1 (.int) false := ⟨RX5, TX5, 8, tyX5, rfl, by decide, inX5, tyX5_ok, nmX5, by decide +kernel, rfl, rfl, Or.inl (zin (wt1 _ (List.mem_of_getElem? (i := 156) rfl)) rfl)⟩
theorem fdX10_35 : zFd RX10 35 5 1 (.int) false := ⟨RX5, TX5, 8, tyX5, rfl, by decide, inX5, tyX5_ok, nmX5, by decide +kernel, rfl, rfl, Or.inr ⟨_, List.mem_of_getElem? (i := 19) rfl⟩⟩
theorem fdX6_27 : zFd RX6 27 5 1 (.int) false := ⟨RX5, TX5, 8, tyX5, rfl, by decide, inX5, tyX5_ok, nmX5, by decide +kernel, rfl, rfl, Or.inr ⟨_, List.mem_of_getElem? (i := 20) rfl⟩⟩
theorem fdX9_58 : zFd RX9 58 5 1 (.int) false := ⟨RX5, TX5, 8, tyX5, rfl, by decide, inX5, tyX5_ok, nmX5, by decide +kernel, rfl, rfl, Or.inr ⟨_, List.mem_of_getElem? (i := 21) rfl⟩⟩
theorem fdX11_281 : zFd RX11 281 5 1 (.int) false := ⟨RX5, TX5, 8, tyX5, rfl, by decide, inX5, tyX5_ok, nmX5, by decide +kernel, rfl, rfl, Or.inr ⟨_, List.mem_of_getElem? (i := 22) rfl⟩⟩
theorem fdX5_18 : zFd RX5 18 5 2 (.int) false := ⟨RX5, TX5, 8, tyX5, rfl, by decide, inX5, tyX5_ok, nmX5, by decide +kernel, rfl, rfl, Or.inl (zin (wt1 _ (List.mem_of_getElem? (i := 161) rfl)) rfl)⟩
theorem fdX10_59 : zFd RX10 59 5 2 (.int) false := ⟨RX5, TX5, 8, tyX5, rfl, by decide, inX5, tyX5_ok, nmX5, by decide +kernel, rfl, rfl, Or.inr ⟨_, List.mem_of_getElem? (i := 23) rfl⟩⟩
theorem fdX6_41 : zFd RX6 41 5 2 (.int) false := ⟨RX5, TX5, 8, tyX5, rfl, by decide, inX5, tyX5_ok, nmX5, by decide +kernel, rfl, rfl, Or.inr ⟨_, List.mem_of_getElem? (i := 24) rfl⟩⟩
theorem fdX11_380 : zFd RX11 380 5 2 (.int) false := ⟨RX5, TX5, 8, tyX5, rfl, by decide, inX5, tyX5_ok, nmX5, by decide +kernel, rfl, rfl, Or.inr ⟨_, List.mem_of_getElem? (i := 25) rfl⟩⟩
theorem fdX5_21 : zFd RX5 21 5 3 (.boolean) false := ⟨RX5, TX5, 8, tyX5, rfl, by decide, inX5, tyX5_ok, nmX5, by decide +kernel, rfl, rfl, Or.inl (zin (wt1 _ (List.mem_of_getElem? (i := 165) rfl)) rfl)⟩
theorem fdX5_25 : zFd RX5 25 5 4 (.array .byte) false := ⟨RX5, TX5, 8, tyX5, rfl, by decide, inX5, tyX5_ok, nmX5, by decide +kernel, rfl, rfl, Or.inl (zin (wt1 _ (List.mem_of_getElem? (i := 166) rfl)) rfl)⟩
theorem fdX5_29 : zFd RX5 29 5 5 (.array .int) false := ⟨RX5, TX5, 8, tyX5, rfl, by decide, inX5, tyX5_ok, nmX5, by decide +kernel, rfl, rfl, Or.inl (zin (wt1 _ (List.mem_of_getElem? (i := 167) rfl)) rfl)⟩
theorem fdX5_33 : zFd RX5 33 5 6 (.array .int) true := ⟨RX5, TX5, 8, tyX5, rfl, by decide, inX5, tyX5_ok, nmX5, by decide +kernel, rfl, rfl, Or.inl (zin (wt1 _ (List.mem_of_getElem? (i := 168) rfl)) rfl)⟩
theorem fdX5_36 : zFd RX5 36 5 7 (.array .int) true := ⟨RX5, TX5, 8, tyX5, rfl, by decide, inX5, tyX5_ok, nmX5, by decide +kernel, rfl, rfl, Or.inl (zin (wt1 _ (List.mem_of_getElem? (i := 169) rfl)) rfl)⟩
theorem fdX9_46 : zFd RX9 46 9 0 (.object "DrawerNames$Rows") true := ⟨RX9, TX9, 10, tyX9, rfl, by decide, inX9, tyX9_ok, nmX9, by decide +kernel, rfl, rfl, Or.inl (zin (wt1 _ (List.mem_of_getElem? (i := 193) rfl)) rfl)⟩
theorem fdX9_9 : zFd RX9 9 9 1 (.object "DrawerNames$Desk") false := ⟨RX9, TX9, 10, tyX9, rfl, by decide, inX9, tyX9_ok, nmX9, by decide +kernel, rfl, rfl, Or.inl (zin (wt1 _ (List.mem_of_getElem? (i := 194) rfl)) rfl)⟩
theorem fdX9_15 : zFd RX9 15 9 2 (.array .byte) false := ⟨RX9, TX9, 10, tyX9, rfl, by decide, inX9, tyX9_ok, nmX9, by decide +kernel, rfl, rfl, Or.inl (zin (wt1 _ (List.mem_of_getElem? (i := 195) rfl)) rfl)⟩
theorem fdX9_19 : zFd RX9 19 9 3 (.array .byte) false := ⟨RX9, TX9, 10, tyX9, rfl, by decide, inX9, tyX9_ok, nmX9, by decide +kernel, rfl, rfl, Or.inl (zin (wt1 _ (List.mem_of_getElem? (i := 196) rfl)) rfl)⟩
theorem fdX9_22 : zFd RX9 22 9 4 (.int) false := ⟨RX9, TX9, 10, tyX9, rfl, by decide, inX9, tyX9_ok, nmX9, by decide +kernel, rfl, rfl, Or.inl (zin (wt1 _ (List.mem_of_getElem? (i := 197) rfl)) rfl)⟩
theorem fdX9_26 : zFd RX9 26 9 5 (.array .boolean) true := ⟨RX9, TX9, 10, tyX9, rfl, by decide, inX9, tyX9_ok, nmX9, by decide +kernel, rfl, rfl, Or.inl (zin (wt1 _ (List.mem_of_getElem? (i := 198) rfl)) rfl)⟩
theorem fdX9_32 : zFd RX9 32 9 6 (.array .int) true := ⟨RX9, TX9, 10, tyX9, rfl, by decide, inX9, tyX9_ok, nmX9, by decide +kernel, rfl, rfl, Or.inl (zin (wt1 _ (List.mem_of_getElem? (i := 199) rfl)) rfl)⟩
theorem fdX9_36 : zFd RX9 36 9 7 (.array .int) true := ⟨RX9, TX9, 10, tyX9, rfl, by decide, inX9, tyX9_ok, nmX9, by decide +kernel, rfl, rfl, Or.inl (zin (wt1 _ (List.mem_of_getElem? (i := 200) rfl)) rfl)⟩
theorem fdX9_39 : zFd RX9 39 9 8 (.int) false := ⟨RX9, TX9, 10, tyX9, rfl, by decide, inX9, tyX9_ok, nmX9, by decide +kernel, rfl, rfl, Or.inl (zin (wt1 _ (List.mem_of_getElem? (i := 201) rfl)) rfl)⟩
theorem fdX11_172 : zFd RX11 172 9 8 (.int) false := ⟨RX9, TX9, 10, tyX9, rfl, by decide, inX9, tyX9_ok, nmX9, by decide +kernel, rfl, rfl, Or.inr ⟨_, List.mem_of_getElem? (i := 27) rfl⟩⟩
theorem fdX9_42 : zFd RX9 42 9 9 (.boolean) false := ⟨RX9, TX9, 10, tyX9, rfl, by decide, inX9, tyX9_ok, nmX9, by decide +kernel, rfl, rfl, Or.inl (zin (wt1 _ (List.mem_of_getElem? (i := 203) rfl)) rfl)⟩
theorem fdX11_175 : zFd RX11 175 9 9 (.boolean) false := ⟨RX9, TX9, 10, tyX9, rfl, by decide, inX9, tyX9_ok, nmX9, by decide +kernel, rfl, rfl, Or.inr ⟨_, List.mem_of_getElem? (i := 28) rfl⟩⟩
theorem fdX10_22 : zFd RX10 22 10 0 (.object "DrawerNames$Rows") true := ⟨RX10, TX10, 5, tyX10, rfl, by decide, inX10, tyX10_ok, nmX10, by decide +kernel, rfl, rfl, Or.inl (zin (wt1 _ (List.mem_of_getElem? (i := 233) rfl)) rfl)⟩
theorem fdX10_26 : zFd RX10 26 10 1 (.object "DrawerNames$Visits") true := ⟨RX10, TX10, 5, tyX10, rfl, by decide, inX10, tyX10_ok, nmX10, by decide +kernel, rfl, rfl, Or.inl (zin (wt1 _ (List.mem_of_getElem? (i := 234) rfl)) rfl)⟩
theorem fdX10_9 : zFd RX10 9 10 2 (.array .int) false := ⟨RX10, TX10, 5, tyX10, rfl, by decide, inX10, tyX10_ok, nmX10, by decide +kernel, rfl, rfl, Or.inl (zin (wt1 _ (List.mem_of_getElem? (i := 235) rfl)) rfl)⟩
theorem fdX10_15 : zFd RX10 15 10 3 (.array .int) false := ⟨RX10, TX10, 5, tyX10, rfl, by decide, inX10, tyX10_ok, nmX10, by decide +kernel, rfl, rfl, Or.inl (zin (wt1 _ (List.mem_of_getElem? (i := 236) rfl)) rfl)⟩
theorem fdX10_18 : zFd RX10 18 10 4 (.int) false := ⟨RX10, TX10, 5, tyX10, rfl, by decide, inX10, tyX10_ok, nmX10, by decide +kernel, rfl, rfl, Or.inl (zin (wt1 _ (List.mem_of_getElem? (i := 237) rfl)) rfl)⟩
theorem fdX6_18 : zFd RX6 18 6 0 (.object "DrawerNames$Rows") true := ⟨RX6, TX6, 3, tyX6, rfl, by decide, inX6, tyX6_ok, nmX6, by decide +kernel, rfl, rfl, Or.inl (zin (wt2 _ (List.mem_of_getElem? (i := 15) rfl)) rfl)⟩
theorem fdX6_9 : zFd RX6 9 6 1 (.array .long) false := ⟨RX6, TX6, 3, tyX6, rfl, by decide, inX6, tyX6_ok, nmX6, by decide +kernel, rfl, rfl, Or.inl (zin (wt2 _ (List.mem_of_getElem? (i := 16) rfl)) rfl)⟩
theorem fdX6_15 : zFd RX6 15 6 2 (.array .long) false := ⟨RX6, TX6, 3, tyX6, rfl, by decide, inX6, tyX6_ok, nmX6, by decide +kernel, rfl, rfl, Or.inl (zin (wt2 _ (List.mem_of_getElem? (i := 17) rfl)) rfl)⟩
theorem fdX8_9 : zFd RX8 9 8 0 (.int) false := ⟨RX8, TX8, 3, tyX8, rfl, by decide, inX8, tyX8_ok, nmX8, by decide +kernel, rfl, rfl, Or.inl (zin (wt2 _ (List.mem_of_getElem? (i := 31) rfl)) rfl)⟩
theorem fdX8_15 : zFd RX8 15 8 1 (.int) false := ⟨RX8, TX8, 3, tyX8, rfl, by decide, inX8, tyX8_ok, nmX8, by decide +kernel, rfl, rfl, Or.inl (zin (wt2 _ (List.mem_of_getElem? (i := 32) rfl)) rfl)⟩
theorem fdX11_231 : zFd RX11 231 8 1 (.int) false := ⟨RX8, TX8, 3, tyX8, rfl, by decide, inX8, tyX8_ok, nmX8, by decide +kernel, rfl, rfl, Or.inr ⟨_, List.mem_of_getElem? (i := 32) rfl⟩⟩
theorem fdX8_18 : zFd RX8 18 8 2 (.array .long) true := ⟨RX8, TX8, 3, tyX8, rfl, by decide, inX8, tyX8_ok, nmX8, by decide +kernel, rfl, rfl, Or.inl (zin (wt2 _ (List.mem_of_getElem? (i := 34) rfl)) rfl)⟩
theorem fdX3_7 : zFd RX3 7 3 0 (.object "DrawerNames$Desk") false := ⟨RX3, TX3, 2, tyX3, rfl, by decide, inX3, tyX3_ok, nmX3, by decide +kernel, rfl, rfl, Or.inl (zin (wt2 _ (List.mem_of_getElem? (i := 49) rfl)) rfl)⟩
theorem fdX11_413 : zFd RX11 413 3 0 (.object "DrawerNames$Desk") false := ⟨RX3, TX3, 2, tyX3, rfl, by decide, inX3, tyX3_ok, nmX3, by decide +kernel, rfl, rfl, Or.inr ⟨_, List.mem_of_getElem? (i := 35) rfl⟩⟩
theorem fdX3_16 : zFd RX3 16 3 1 (.object "DrawerNames$State") true := ⟨RX3, TX3, 2, tyX3, rfl, by decide, inX3, tyX3_ok, nmX3, by decide +kernel, rfl, rfl, Or.inl (zin (wt2 _ (List.mem_of_getElem? (i := 51) rfl)) rfl)⟩
theorem fdX11_414 : zFd RX11 414 3 1 (.object "DrawerNames$State") true := ⟨RX3, TX3, 2, tyX3, rfl, by decide, inX3, tyX3_ok, nmX3, by decide +kernel, rfl, rfl, Or.inr ⟨_, List.mem_of_getElem? (i := 36) rfl⟩⟩
theorem fdX2_7 : zFd RX2 7 2 0 (.array .int) true := ⟨RX2, TX2, 2, tyX2, rfl, by decide, inX2, tyX2_ok, nmX2, by decide +kernel, rfl, rfl, Or.inl (zin (wt2 _ (List.mem_of_getElem? (i := 96) rfl)) rfl)⟩
theorem fdX2_19 : zFd RX2 19 2 1 (.array .int) true := ⟨RX2, TX2, 2, tyX2, rfl, by decide, inX2, tyX2_ok, nmX2, by decide +kernel, rfl, rfl, Or.inl (zin (wt2 _ (List.mem_of_getElem? (i := 97) rfl)) rfl)⟩
theorem fdX0_13 : zFd RX0 13 0 0 (.int) true := ⟨RX0, TX0, 8, tyX0, rfl, by decide, inX0, tyX0_ok, nmX0, by decide +kernel, rfl, rfl, Or.inl (zin (wt2 _ (List.mem_of_getElem? (i := 103) rfl)) rfl)⟩
theorem fdX9_50 : zFd RX9 50 0 0 (.int) true := ⟨RX0, TX0, 8, tyX0, rfl, by decide, inX0, tyX0_ok, nmX0, by decide +kernel, rfl, rfl, Or.inr ⟨_, List.mem_of_getElem? (i := 41) rfl⟩⟩
theorem fdX11_143 : zFd RX11 143 0 0 (.int) true := ⟨RX0, TX0, 8, tyX0, rfl, by decide, inX0, tyX0_ok, nmX0, by decide +kernel, rfl, rfl, Or.inr ⟨_, List.mem_of_getElem? (i := 42) rfl⟩⟩
theorem fdX0_19 : zFd RX0 19 0 1 (.int) true := ⟨RX0, TX0, 8, tyX0, rfl, by decide, inX0, tyX0_ok, nmX0, by decide +kernel, rfl, rfl, Or.inl (zin (wt2 _ (List.mem_of_getElem? (i := 106) rfl)) rfl)⟩
theorem fdX9_55 : zFd RX9 55 0 1 (.int) true := ⟨RX0, TX0, 8, tyX0, rfl, by decide, inX0, tyX0_ok, nmX0, by decide +kernel, rfl, rfl, Or.inr ⟨_, List.mem_of_getElem? (i := 43) rfl⟩⟩
theorem fdX11_417 : zFd RX11 417 0 1 (.int) true := ⟨RX0, TX0, 8, tyX0, rfl, by decide, inX0, tyX0_ok, nmX0, by decide +kernel, rfl, rfl, Or.inr ⟨_, List.mem_of_getElem? (i := 44) rfl⟩⟩
theorem fdX0_23 : zFd RX0 23 0 2 (.int) true := ⟨RX0, TX0, 8, tyX0, rfl, by decide, inX0, tyX0_ok, nmX0, by decide +kernel, rfl, rfl, Or.inl (zin (wt2 _ (List.mem_of_getElem? (i := 109) rfl)) rfl)⟩
theorem fdX11_131 : zFd RX11 131 0 2 (.int) true := ⟨RX0, TX0, 8, tyX0, rfl, by decide, inX0, tyX0_ok, nmX0, by decide +kernel, rfl, rfl, Or.inr ⟨_, List.mem_of_getElem? (i := 45) rfl⟩⟩
theorem fdX0_36 : zFd RX0 36 0 3 (.int) true := ⟨RX0, TX0, 8, tyX0, rfl, by decide, inX0, tyX0_ok, nmX0, by decide +kernel, rfl, rfl, Or.inl (zin (wt2 _ (List.mem_of_getElem? (i := 111) rfl)) rfl)⟩
theorem fdX11_125 : zFd RX11 125 0 3 (.int) true := ⟨RX0, TX0, 8, tyX0, rfl, by decide, inX0, tyX0_ok, nmX0, by decide +kernel, rfl, rfl, Or.inr ⟨_, List.mem_of_getElem? (i := 46) rfl⟩⟩
theorem fdX0_42 : zFd RX0 42 0 4 (.int) true := ⟨RX0, TX0, 8, tyX0, rfl, by decide, inX0, tyX0_ok, nmX0, by decide +kernel, rfl, rfl, Or.inl (zin (wt2 _ (List.mem_of_getElem? (i := 113) rfl)) rfl)⟩
theorem fdX11_161 : zFd RX11 161 0 4 (.int) true := ⟨RX0, TX0, 8, tyX0, rfl, by decide, inX0, tyX0_ok, nmX0, by decide +kernel, rfl, rfl, Or.inr ⟨_, List.mem_of_getElem? (i := 47) rfl⟩⟩
theorem fdX0_48 : zFd RX0 48 0 5 (.int) true := ⟨RX0, TX0, 8, tyX0, rfl, by decide, inX0, tyX0_ok, nmX0, by decide +kernel, rfl, rfl, Or.inl (zin (wt2 _ (List.mem_of_getElem? (i := 115) rfl)) rfl)⟩
theorem fdX11_140 : zFd RX11 140 0 5 (.int) true := ⟨RX0, TX0, 8, tyX0, rfl, by decide, inX0, tyX0_ok, nmX0, by decide +kernel, rfl, rfl, Or.inr ⟨_, List.mem_of_getElem? (i := 48) rfl⟩⟩
theorem fdX0_59 : zFd RX0 59 0 6 (.object "DrawerNames$Law") true := ⟨RX0, TX0, 8, tyX0, rfl, by decide, inX0, tyX0_ok, nmX0, by decide +kernel, rfl, rfl, Or.inl (zin (wt2 _ (List.mem_of_getElem? (i := 117) rfl)) rfl)⟩
theorem fdX9_88 : zFd RX9 88 0 6 (.object "DrawerNames$Law") true := ⟨RX0, TX0, 8, tyX0, rfl, by decide, inX0, tyX0_ok, nmX0, by decide +kernel, rfl, rfl, Or.inr ⟨_, List.mem_of_getElem? (i := 49) rfl⟩⟩
theorem fdX0_65 : zFd RX0 65 0 7 (.object "DrawerNames$Law") true := ⟨RX0, TX0, 8, tyX0, rfl, by decide, inX0, tyX0_ok, nmX0, by decide +kernel, rfl, rfl, Or.inl (zin (wt2 _ (List.mem_of_getElem? (i := 119) rfl)) rfl)⟩
theorem fdX9_80 : zFd RX9 80 0 7 (.object "DrawerNames$Law") true := ⟨RX0, TX0, 8, tyX0, rfl, by decide, inX0, tyX0_ok, nmX0, by decide +kernel, rfl, rfl, Or.inr ⟨_, List.mem_of_getElem? (i := 50) rfl⟩⟩
theorem fdX11_9 : zFd RX11 9 11 0 (.array .byte) true := ⟨RX11, TX11, 18, tyX11, rfl, by decide, inX11, tyX11_ok, nmX11, by decide +kernel, rfl, rfl, Or.inl (zin (wt2 _ (List.mem_of_getElem? (i := 160) rfl)) rfl)⟩
theorem fdX11_13 : zFd RX11 13 11 1 (.int) false := ⟨RX11, TX11, 18, tyX11, rfl, by decide, inX11, tyX11_ok, nmX11, by decide +kernel, rfl, rfl, Or.inl (zin (wt2 _ (List.mem_of_getElem? (i := 161) rfl)) rfl)⟩
theorem fdX11_20 : zFd RX11 20 11 2 (.object "DrawerNames$Reader") true := ⟨RX11, TX11, 18, tyX11, rfl, by decide, inX11, tyX11_ok, nmX11, by decide +kernel, rfl, rfl, Or.inl (zin (wt2 _ (List.mem_of_getElem? (i := 162) rfl)) rfl)⟩
theorem fdX11_106 : zFd RX11 106 11 3 (.object "DrawerNames$Desk") false := ⟨RX11, TX11, 18, tyX11, rfl, by decide, inX11, tyX11_ok, nmX11, by decide +kernel, rfl, rfl, Or.inl (zin (wt2 _ (List.mem_of_getElem? (i := 163) rfl)) rfl)⟩
theorem fdX11_27 : zFd RX11 27 11 4 (.object "DrawerNames$State") true := ⟨RX11, TX11, 18, tyX11, rfl, by decide, inX11, tyX11_ok, nmX11, by decide +kernel, rfl, rfl, Or.inl (zin (wt2 _ (List.mem_of_getElem? (i := 164) rfl)) rfl)⟩
theorem fdX11_31 : zFd RX11 31 11 5 (.object "DrawerNames$State") true := ⟨RX11, TX11, 18, tyX11, rfl, by decide, inX11, tyX11_ok, nmX11, by decide +kernel, rfl, rfl, Or.inl (zin (wt2 _ (List.mem_of_getElem? (i := 165) rfl)) rfl)⟩
theorem fdX11_34 : zFd RX11 34 11 6 (.object "DrawerNames$State") true := ⟨RX11, TX11, 18, tyX11, rfl, by decide, inX11, tyX11_ok, nmX11, by decide +kernel, rfl, rfl, Or.inl (zin (wt2 _ (List.mem_of_getElem? (i := 166) rfl)) rfl)⟩
theorem fdX11_37 : zFd RX11 37 11 7 (.array (.object "DrawerNames$State")) true := ⟨RX11, TX11, 18, tyX11, rfl, by decide, inX11, tyX11_ok, nmX11, by decide +kernel, rfl, rfl, Or.inl (zin (wt2 _ (List.mem_of_getElem? (i := 167) rfl)) rfl)⟩
theorem fdX11_41 : zFd RX11 41 11 8 (.int) false := ⟨RX11, TX11, 18, tyX11, rfl, by decide, inX11, tyX11_ok, nmX11, by decide +kernel, rfl, rfl, Or.inl (zin (wt2 _ (List.mem_of_getElem? (i := 168) rfl)) rfl)⟩
theorem fdX11_44 : zFd RX11 44 11 9 (.int) false := ⟨RX11, TX11, 18, tyX11, rfl, by decide, inX11, tyX11_ok, nmX11, by decide +kernel, rfl, rfl, Or.inl (zin (wt2 _ (List.mem_of_getElem? (i := 169) rfl)) rfl)⟩
theorem fdX11_49 : zFd RX11 49 11 10 (.array (.object "DrawerNames$Tray")) true := ⟨RX11, TX11, 18, tyX11, rfl, by decide, inX11, tyX11_ok, nmX11, by decide +kernel, rfl, rfl, Or.inl (zin (wt2 _ (List.mem_of_getElem? (i := 170) rfl)) rfl)⟩
theorem fdX11_55 : zFd RX11 55 11 11 (.array (.object "DrawerNames$Picture")) true := ⟨RX11, TX11, 18, tyX11, rfl, by decide, inX11, tyX11_ok, nmX11, by decide +kernel, rfl, rfl, Or.inl (zin (wt2 _ (List.mem_of_getElem? (i := 171) rfl)) rfl)⟩
theorem fdX11_62 : zFd RX11 62 11 12 (.object "DrawerNames$Rows") true := ⟨RX11, TX11, 18, tyX11, rfl, by decide, inX11, tyX11_ok, nmX11, by decide +kernel, rfl, rfl, Or.inl (zin (wt2 _ (List.mem_of_getElem? (i := 172) rfl)) rfl)⟩
theorem fdX11_71 : zFd RX11 71 11 13 (.object "DrawerNames$Visits") true := ⟨RX11, TX11, 18, tyX11, rfl, by decide, inX11, tyX11_ok, nmX11, by decide +kernel, rfl, rfl, Or.inl (zin (wt2 _ (List.mem_of_getElem? (i := 173) rfl)) rfl)⟩
theorem fdX11_80 : zFd RX11 80 11 14 (.object "DrawerNames$Ways") true := ⟨RX11, TX11, 18, tyX11, rfl, by decide, inX11, tyX11_ok, nmX11, by decide +kernel, rfl, rfl, Or.inl (zin (wt2 _ (List.mem_of_getElem? (i := 174) rfl)) rfl)⟩
theorem fdX11_87 : zFd RX11 87 11 15 (.object "DrawerNames$Spread") true := ⟨RX11, TX11, 18, tyX11, rfl, by decide, inX11, tyX11_ok, nmX11, by decide +kernel, rfl, rfl, Or.inl (zin (wt2 _ (List.mem_of_getElem? (i := 175) rfl)) rfl)⟩
theorem fdX11_91 : zFd RX11 91 11 16 (.array .int) true := ⟨RX11, TX11, 18, tyX11, rfl, by decide, inX11, tyX11_ok, nmX11, by decide +kernel, rfl, rfl, Or.inl (zin (wt2 _ (List.mem_of_getElem? (i := 176) rfl)) rfl)⟩
theorem fdX11_95 : zFd RX11 95 11 17 (.array .long) true := ⟨RX11, TX11, 18, tyX11, rfl, by decide, inX11, tyX11_ok, nmX11, by decide +kernel, rfl, rfl, Or.inl (zin (wt2 _ (List.mem_of_getElem? (i := 177) rfl)) rfl)⟩
theorem fdX12_1 : zFd RX12 1 12 0 (.int) false := ⟨RX12, TX12, 41, tyX12, rfl, by decide, inX12, tyX12_ok, nmX12, by decide +kernel, rfl, rfl, Or.inl (zin (wt6 _ (List.mem_of_getElem? (i := 10) rfl)) rfl)⟩
theorem fdX12_13 : zFd RX12 13 12 1 (.array .int) true := ⟨RX12, TX12, 41, tyX12, rfl, by decide, inX12, tyX12_ok, nmX12, by decide +kernel, rfl, rfl, Or.inl (zin (wt6 _ (List.mem_of_getElem? (i := 11) rfl)) rfl)⟩
theorem fdX12_17 : zFd RX12 17 12 2 (.array .boolean) true := ⟨RX12, TX12, 41, tyX12, rfl, by decide, inX12, tyX12_ok, nmX12, by decide +kernel, rfl, rfl, Or.inl (zin (wt6 _ (List.mem_of_getElem? (i := 12) rfl)) rfl)⟩
theorem fdX12_21 : zFd RX12 21 12 3 (.array .int) true := ⟨RX12, TX12, 41, tyX12, rfl, by decide, inX12, tyX12_ok, nmX12, by decide +kernel, rfl, rfl, Or.inl (zin (wt6 _ (List.mem_of_getElem? (i := 13) rfl)) rfl)⟩
theorem fdX12_24 : zFd RX12 24 12 4 (.array .int) true := ⟨RX12, TX12, 41, tyX12, rfl, by decide, inX12, tyX12_ok, nmX12, by decide +kernel, rfl, rfl, Or.inl (zin (wt6 _ (List.mem_of_getElem? (i := 14) rfl)) rfl)⟩
theorem fdX12_95 : zFd RX12 95 12 5 (.int) false := ⟨RX12, TX12, 41, tyX12, rfl, by decide, inX12, tyX12_ok, nmX12, by decide +kernel, rfl, rfl, Or.inl (zin (wt6 _ (List.mem_of_getElem? (i := 15) rfl)) rfl)⟩
theorem fdX12_113 : zFd RX12 113 12 6 (.int) false := ⟨RX12, TX12, 41, tyX12, rfl, by decide, inX12, tyX12_ok, nmX12, by decide +kernel, rfl, rfl, Or.inl (zin (wt6 _ (List.mem_of_getElem? (i := 16) rfl)) rfl)⟩
theorem fdX12_116 : zFd RX12 116 12 7 (.int) false := ⟨RX12, TX12, 41, tyX12, rfl, by decide, inX12, tyX12_ok, nmX12, by decide +kernel, rfl, rfl, Or.inl (zin (wt6 _ (List.mem_of_getElem? (i := 17) rfl)) rfl)⟩
theorem fdX12_98 : zFd RX12 98 12 8 (.int) false := ⟨RX12, TX12, 41, tyX12, rfl, by decide, inX12, tyX12_ok, nmX12, by decide +kernel, rfl, rfl, Or.inl (zin (wt6 _ (List.mem_of_getElem? (i := 18) rfl)) rfl)⟩
theorem fdX12_123 : zFd RX12 123 12 9 (.int) false := ⟨RX12, TX12, 41, tyX12, rfl, by decide, inX12, tyX12_ok, nmX12, by decide +kernel, rfl, rfl, Or.inl (zin (wt6 _ (List.mem_of_getElem? (i := 19) rfl)) rfl)⟩
theorem fdX12_136 : zFd RX12 136 12 10 (.int) false := ⟨RX12, TX12, 41, tyX12, rfl, by decide, inX12, tyX12_ok, nmX12, by decide +kernel, rfl, rfl, Or.inl (zin (wt6 _ (List.mem_of_getElem? (i := 20) rfl)) rfl)⟩
theorem fdX12_141 : zFd RX12 141 12 11 (.int) false := ⟨RX12, TX12, 41, tyX12, rfl, by decide, inX12, tyX12_ok, nmX12, by decide +kernel, rfl, rfl, Or.inl (zin (wt6 _ (List.mem_of_getElem? (i := 21) rfl)) rfl)⟩
theorem fdX12_144 : zFd RX12 144 12 12 (.int) false := ⟨RX12, TX12, 41, tyX12, rfl, by decide, inX12, tyX12_ok, nmX12, by decide +kernel, rfl, rfl, Or.inl (zin (wt6 _ (List.mem_of_getElem? (i := 22) rfl)) rfl)⟩
theorem fdX12_217 : zFd RX12 217 12 13 (.int) false := ⟨RX12, TX12, 41, tyX12, rfl, by decide, inX12, tyX12_ok, nmX12, by decide +kernel, rfl, rfl, Or.inl (zin (wt6 _ (List.mem_of_getElem? (i := 23) rfl)) rfl)⟩
theorem fdX12_27 : zFd RX12 27 12 14 (.int) false := ⟨RX12, TX12, 41, tyX12, rfl, by decide, inX12, tyX12_ok, nmX12, by decide +kernel, rfl, rfl, Or.inl (zin (wt6 _ (List.mem_of_getElem? (i := 24) rfl)) rfl)⟩
theorem fdX12_30 : zFd RX12 30 12 15 (.array .int) true := ⟨RX12, TX12, 41, tyX12, rfl, by decide, inX12, tyX12_ok, nmX12, by decide +kernel, rfl, rfl, Or.inl (zin (wt6 _ (List.mem_of_getElem? (i := 25) rfl)) rfl)⟩
theorem fdX12_33 : zFd RX12 33 12 16 (.array .int) true := ⟨RX12, TX12, 41, tyX12, rfl, by decide, inX12, tyX12_ok, nmX12, by decide +kernel, rfl, rfl, Or.inl (zin (wt6 _ (List.mem_of_getElem? (i := 26) rfl)) rfl)⟩
theorem fdX12_223 : zFd RX12 223 12 17 (.int) false := ⟨RX12, TX12, 41, tyX12, rfl, by decide, inX12, tyX12_ok, nmX12, by decide +kernel, rfl, rfl, Or.inl (zin (wt6 _ (List.mem_of_getElem? (i := 27) rfl)) rfl)⟩
theorem fdX12_36 : zFd RX12 36 12 18 (.array .int) true := ⟨RX12, TX12, 41, tyX12, rfl, by decide, inX12, tyX12_ok, nmX12, by decide +kernel, rfl, rfl, Or.inl (zin (wt6 _ (List.mem_of_getElem? (i := 28) rfl)) rfl)⟩
theorem fdX12_39 : zFd RX12 39 12 19 (.array .int) true := ⟨RX12, TX12, 41, tyX12, rfl, by decide, inX12, tyX12_ok, nmX12, by decide +kernel, rfl, rfl, Or.inl (zin (wt6 _ (List.mem_of_getElem? (i := 29) rfl)) rfl)⟩
theorem fdX12_42 : zFd RX12 42 12 20 (.array .int) true := ⟨RX12, TX12, 41, tyX12, rfl, by decide, inX12, tyX12_ok, nmX12, by decide +kernel, rfl, rfl, Or.inl (zin (wt6 _ (List.mem_of_getElem? (i := 30) rfl)) rfl)⟩
theorem fdX12_241 : zFd RX12 241 12 21 (.int) false := ⟨RX12, TX12, 41, tyX12, rfl, by decide, inX12, tyX12_ok, nmX12, by decide +kernel, rfl, rfl, Or.inl (zin (wt6 _ (List.mem_of_getElem? (i := 31) rfl)) rfl)⟩
theorem fdX12_244 : zFd RX12 244 12 22 (.boolean) false := ⟨RX12, TX12, 41, tyX12, rfl, by decide, inX12, tyX12_ok, nmX12, by decide +kernel, rfl, rfl, Or.inl (zin (wt6 _ (List.mem_of_getElem? (i := 32) rfl)) rfl)⟩
theorem fdX12_45 : zFd RX12 45 12 23 (.array .int) true := ⟨RX12, TX12, 41, tyX12, rfl, by decide, inX12, tyX12_ok, nmX12, by decide +kernel, rfl, rfl, Or.inl (zin (wt6 _ (List.mem_of_getElem? (i := 33) rfl)) rfl)⟩
theorem fdX12_302 : zFd RX12 302 12 24 (.int) false := ⟨RX12, TX12, 41, tyX12, rfl, by decide, inX12, tyX12_ok, nmX12, by decide +kernel, rfl, rfl, Or.inl (zin (wt6 _ (List.mem_of_getElem? (i := 34) rfl)) rfl)⟩
theorem fdX12_324 : zFd RX12 324 12 25 (.int) false := ⟨RX12, TX12, 41, tyX12, rfl, by decide, inX12, tyX12_ok, nmX12, by decide +kernel, rfl, rfl, Or.inl (zin (wt6 _ (List.mem_of_getElem? (i := 35) rfl)) rfl)⟩
theorem fdX12_48 : zFd RX12 48 12 26 (.array .long) true := ⟨RX12, TX12, 41, tyX12, rfl, by decide, inX12, tyX12_ok, nmX12, by decide +kernel, rfl, rfl, Or.inl (zin (wt6 _ (List.mem_of_getElem? (i := 36) rfl)) rfl)⟩
theorem fdX12_52 : zFd RX12 52 12 27 (.array .int) true := ⟨RX12, TX12, 41, tyX12, rfl, by decide, inX12, tyX12_ok, nmX12, by decide +kernel, rfl, rfl, Or.inl (zin (wt6 _ (List.mem_of_getElem? (i := 37) rfl)) rfl)⟩
theorem fdX12_55 : zFd RX12 55 12 28 (.array .int) true := ⟨RX12, TX12, 41, tyX12, rfl, by decide, inX12, tyX12_ok, nmX12, by decide +kernel, rfl, rfl, Or.inl (zin (wt6 _ (List.mem_of_getElem? (i := 38) rfl)) rfl)⟩
theorem fdX12_58 : zFd RX12 58 12 29 (.array .int) true := ⟨RX12, TX12, 41, tyX12, rfl, by decide, inX12, tyX12_ok, nmX12, by decide +kernel, rfl, rfl, Or.inl (zin (wt6 _ (List.mem_of_getElem? (i := 39) rfl)) rfl)⟩
theorem fdX12_61 : zFd RX12 61 12 30 (.array .int) true := ⟨RX12, TX12, 41, tyX12, rfl, by decide, inX12, tyX12_ok, nmX12, by decide +kernel, rfl, rfl, Or.inl (zin (wt6 _ (List.mem_of_getElem? (i := 40) rfl)) rfl)⟩
theorem fdX12_64 : zFd RX12 64 12 31 (.array .int) true := ⟨RX12, TX12, 41, tyX12, rfl, by decide, inX12, tyX12_ok, nmX12, by decide +kernel, rfl, rfl, Or.inl (zin (wt6 _ (List.mem_of_getElem? (i := 41) rfl)) rfl)⟩
theorem fdX12_358 : zFd RX12 358 12 32 (.int) false := ⟨RX12, TX12, 41, tyX12, rfl, by decide, inX12, tyX12_ok, nmX12, by decide +kernel, rfl, rfl, Or.inl (zin (wt6 _ (List.mem_of_getElem? (i := 42) rfl)) rfl)⟩
theorem fdX12_67 : zFd RX12 67 12 33 (.array .long) true := ⟨RX12, TX12, 41, tyX12, rfl, by decide, inX12, tyX12_ok, nmX12, by decide +kernel, rfl, rfl, Or.inl (zin (wt6 _ (List.mem_of_getElem? (i := 43) rfl)) rfl)⟩
theorem fdX12_70 : zFd RX12 70 12 34 (.array .long) true := ⟨RX12, TX12, 41, tyX12, rfl, by decide, inX12, tyX12_ok, nmX12, by decide +kernel, rfl, rfl, Or.inl (zin (wt6 _ (List.mem_of_getElem? (i := 44) rfl)) rfl)⟩
theorem fdX12_73 : zFd RX12 73 12 35 (.array .int) true := ⟨RX12, TX12, 41, tyX12, rfl, by decide, inX12, tyX12_ok, nmX12, by decide +kernel, rfl, rfl, Or.inl (zin (wt6 _ (List.mem_of_getElem? (i := 45) rfl)) rfl)⟩
theorem fdX12_388 : zFd RX12 388 12 36 (.int) false := ⟨RX12, TX12, 41, tyX12, rfl, by decide, inX12, tyX12_ok, nmX12, by decide +kernel, rfl, rfl, Or.inl (zin (wt6 _ (List.mem_of_getElem? (i := 46) rfl)) rfl)⟩
theorem fdX12_76 : zFd RX12 76 12 37 (.array .int) true := ⟨RX12, TX12, 41, tyX12, rfl, by decide, inX12, tyX12_ok, nmX12, by decide +kernel, rfl, rfl, Or.inl (zin (wt6 _ (List.mem_of_getElem? (i := 47) rfl)) rfl)⟩
theorem fdX12_79 : zFd RX12 79 12 38 (.array .int) true := ⟨RX12, TX12, 41, tyX12, rfl, by decide, inX12, tyX12_ok, nmX12, by decide +kernel, rfl, rfl, Or.inl (zin (wt6 _ (List.mem_of_getElem? (i := 48) rfl)) rfl)⟩
theorem fdX12_82 : zFd RX12 82 12 39 (.array .int) true := ⟨RX12, TX12, 41, tyX12, rfl, by decide, inX12, tyX12_ok, nmX12, by decide +kernel, rfl, rfl, Or.inl (zin (wt6 _ (List.mem_of_getElem? (i := 49) rfl)) rfl)⟩
theorem fdX12_85 : zFd RX12 85 12 40 (.array .long) true := ⟨RX12, TX12, 41, tyX12, rfl, by decide, inX12, tyX12_ok, nmX12, by decide +kernel, rfl, rfl, Or.inl (zin (wt6 _ (List.mem_of_getElem? (i := 50) rfl)) rfl)⟩
theorem fpX1_9 : zFp RX1 9 1 0 (.array .int) := ⟨TX1, 4, tyX1, rfl, by decide, inX1, tyX1_ok, nmX1, by decide +kernel, rfl, rfl, zin (wt1 _ (List.mem_of_getElem? (i := 43) rfl)) rfl⟩
theorem fpX4_30 : zFp RX4 30 4 6 (.array .int) := ⟨TX4, 18, tyX4, rfl, by decide, inX4, tyX4_ok, nmX4, by decide +kernel, rfl, rfl, zin (wt1 _ (List.mem_of_getElem? (i := 71) rfl)) rfl⟩
theorem fpX4_34 : zFp RX4 34 4 7 (.array .int) := ⟨TX4, 18, tyX4, rfl, by decide, inX4, tyX4_ok, nmX4, by decide +kernel, rfl, rfl, zin (wt1 _ (List.mem_of_getElem? (i := 73) rfl)) rfl⟩
theorem fpX4_40 : zFp RX4 40 4 8 (.object "DrawerNames$Draft") := ⟨TX4, 18, tyX4, rfl, by decide, inX4, tyX4_ok, nmX4, by decide +kernel, rfl, rfl, zin (wt1 _ (List.mem_of_getElem? (i := 74) rfl)) rfl⟩
theorem fpX4_44 : zFp RX4 44 4 9 (.object "DrawerNames$Draft") := ⟨TX4, 18, tyX4, rfl, by decide, inX4, tyX4_ok, nmX4, by decide +kernel, rfl, rfl, zin (wt1 _ (List.mem_of_getElem? (i := 76) rfl)) rfl⟩
theorem fpX5_33 : zFp RX5 33 5 6 (.array .int) := ⟨TX5, 8, tyX5, rfl, by decide, inX5, tyX5_ok, nmX5, by decide +kernel, rfl, rfl, zin (wt1 _ (List.mem_of_getElem? (i := 168) rfl)) rfl⟩
theorem fpX5_36 : zFp RX5 36 5 7 (.array .int) := ⟨TX5, 8, tyX5, rfl, by decide, inX5, tyX5_ok, nmX5, by decide +kernel, rfl, rfl, zin (wt1 _ (List.mem_of_getElem? (i := 169) rfl)) rfl⟩
theorem fpX9_46 : zFp RX9 46 9 0 (.object "DrawerNames$Rows") := ⟨TX9, 10, tyX9, rfl, by decide, inX9, tyX9_ok, nmX9, by decide +kernel, rfl, rfl, zin (wt1 _ (List.mem_of_getElem? (i := 193) rfl)) rfl⟩
theorem fpX9_26 : zFp RX9 26 9 5 (.array .boolean) := ⟨TX9, 10, tyX9, rfl, by decide, inX9, tyX9_ok, nmX9, by decide +kernel, rfl, rfl, zin (wt1 _ (List.mem_of_getElem? (i := 198) rfl)) rfl⟩
theorem fpX9_32 : zFp RX9 32 9 6 (.array .int) := ⟨TX9, 10, tyX9, rfl, by decide, inX9, tyX9_ok, nmX9, by decide +kernel, rfl, rfl, zin (wt1 _ (List.mem_of_getElem? (i := 199) rfl)) rfl⟩
theorem fpX9_36 : zFp RX9 36 9 7 (.array .int) := ⟨TX9, 10, tyX9, rfl, by decide, inX9, tyX9_ok, nmX9, by decide +kernel, rfl, rfl, zin (wt1 _ (List.mem_of_getElem? (i := 200) rfl)) rfl⟩
theorem fpX10_22 : zFp RX10 22 10 0 (.object "DrawerNames$Rows") := ⟨TX10, 5, tyX10, rfl, by decide, inX10, tyX10_ok, nmX10, by decide +kernel, rfl, rfl, zin (wt1 _ (List.mem_of_getElem? (i := 233) rfl)) rfl⟩
theorem fpX10_26 : zFp RX10 26 10 1 (.object "DrawerNames$Visits") := ⟨TX10, 5, tyX10, rfl, by decide, inX10, tyX10_ok, nmX10, by decide +kernel, rfl, rfl, zin (wt1 _ (List.mem_of_getElem? (i := 234) rfl)) rfl⟩
theorem fpX6_18 : zFp RX6 18 6 0 (.object "DrawerNames$Rows") := ⟨TX6, 3, tyX6, rfl, by decide, inX6, tyX6_ok, nmX6, by decide +kernel, rfl, rfl, zin (wt2 _ (List.mem_of_getElem? (i := 15) rfl)) rfl⟩
theorem fpX8_18 : zFp RX8 18 8 2 (.array .long) := ⟨TX8, 3, tyX8, rfl, by decide, inX8, tyX8_ok, nmX8, by decide +kernel, rfl, rfl, zin (wt2 _ (List.mem_of_getElem? (i := 34) rfl)) rfl⟩
theorem fpX3_16 : zFp RX3 16 3 1 (.object "DrawerNames$State") := ⟨TX3, 2, tyX3, rfl, by decide, inX3, tyX3_ok, nmX3, by decide +kernel, rfl, rfl, zin (wt2 _ (List.mem_of_getElem? (i := 51) rfl)) rfl⟩
theorem fpX2_7 : zFp RX2 7 2 0 (.array .int) := ⟨TX2, 2, tyX2, rfl, by decide, inX2, tyX2_ok, nmX2, by decide +kernel, rfl, rfl, zin (wt2 _ (List.mem_of_getElem? (i := 96) rfl)) rfl⟩
theorem fpX2_19 : zFp RX2 19 2 1 (.array .int) := ⟨TX2, 2, tyX2, rfl, by decide, inX2, tyX2_ok, nmX2, by decide +kernel, rfl, rfl, zin (wt2 _ (List.mem_of_getElem? (i := 97) rfl)) rfl⟩
theorem fpX0_13 : zFp RX0 13 0 0 (.int) := ⟨TX0, 8, tyX0, rfl, by decide, inX0, tyX0_ok, nmX0, by decide +kernel, rfl, rfl, zin (wt2 _ (List.mem_of_getElem? (i := 103) rfl)) rfl⟩
theorem fpX0_19 : zFp RX0 19 0 1 (.int) := ⟨TX0, 8, tyX0, rfl, by decide, inX0, tyX0_ok, nmX0, by decide +kernel, rfl, rfl, zin (wt2 _ (List.mem_of_getElem? (i := 106) rfl)) rfl⟩
theorem fpX0_23 : zFp RX0 23 0 2 (.int) := ⟨TX0, 8, tyX0, rfl, by decide, inX0, tyX0_ok, nmX0, by decide +kernel, rfl, rfl, zin (wt2 _ (List.mem_of_getElem? (i := 109) rfl)) rfl⟩
theorem fpX0_36 : zFp RX0 36 0 3 (.int) := ⟨TX0, 8, tyX0, rfl, by decide, inX0, tyX0_ok, nmX0, by decide +kernel, rfl, rfl, zin (wt2 _ (List.mem_of_getElem? (i := 111) rfl)) rfl⟩
theorem fpX0_42 : zFp RX0 42 0 4 (.int) := ⟨TX0, 8, tyX0, rfl, by decide, inX0, tyX0_ok, nmX0, by decide +kernel, rfl, rfl, zin (wt2 _ (List.mem_of_getElem? (i := 113) rfl)) rfl⟩
theorem fpX0_48 : zFp RX0 48 0 5 (.int) := ⟨TX0, 8, tyX0, rfl, by decide, inX0, tyX0_ok, nmX0, by decide +kernel, rfl, rfl, zin (wt2 _ (List.mem_of_getElem? (i := 115) rfl)) rfl⟩
theorem fpX0_59 : zFp RX0 59 0 6 (.object "DrawerNames$Law") := ⟨TX0, 8, tyX0, rfl, by decide, inX0, tyX0_ok, nmX0, by decide +kernel, rfl, rfl, zin (wt2 _ (List.mem_of_getElem? (i := 117) rfl)) rfl⟩
theorem fpX0_65 : zFp RX0 65 0 7 (.object "DrawerNames$Law") := ⟨TX0, 8, tyX0, rfl, by decide, inX0, tyX0_ok, nmX0, by decide +kernel, rfl, rfl, zin (wt2 _ (List.mem_of_getElem? (i := 119) rfl)) rfl⟩
theorem fpX11_9 : zFp RX11 9 11 0 (.array .byte) := ⟨TX11, 18, tyX11, rfl, by decide, inX11, tyX11_ok, nmX11, by decide +kernel, rfl, rfl, zin (wt2 _ (List.mem_of_getElem? (i := 160) rfl)) rfl⟩
theorem fpX11_20 : zFp RX11 20 11 2 (.object "DrawerNames$Reader") := ⟨TX11, 18, tyX11, rfl, by decide, inX11, tyX11_ok, nmX11, by decide +kernel, rfl, rfl, zin (wt2 _ (List.mem_of_getElem? (i := 162) rfl)) rfl⟩
theorem fpX11_27 : zFp RX11 27 11 4 (.object "DrawerNames$State") := ⟨TX11, 18, tyX11, rfl, by decide, inX11, tyX11_ok, nmX11, by decide +kernel, rfl, rfl, zin (wt2 _ (List.mem_of_getElem? (i := 164) rfl)) rfl⟩
theorem fpX11_31 : zFp RX11 31 11 5 (.object "DrawerNames$State") := ⟨TX11, 18, tyX11, rfl, by decide, inX11, tyX11_ok, nmX11, by decide +kernel, rfl, rfl, zin (wt2 _ (List.mem_of_getElem? (i := 165) rfl)) rfl⟩
theorem fpX11_34 : zFp RX11 34 11 6 (.object "DrawerNames$State") := ⟨TX11, 18, tyX11, rfl, by decide, inX11, tyX11_ok, nmX11, by decide +kernel, rfl, rfl, zin (wt2 _ (List.mem_of_getElem? (i := 166) rfl)) rfl⟩
theorem fpX11_37 : zFp RX11 37 11 7 (.array (.object "DrawerNames$State")) := ⟨TX11, 18, tyX11, rfl, by decide, inX11, tyX11_ok, nmX11, by decide +kernel, rfl, rfl, zin (wt2 _ (List.mem_of_getElem? (i := 167) rfl)) rfl⟩
theorem fpX11_49 : zFp RX11 49 11 10 (.array (.object "DrawerNames$Tray")) := ⟨TX11, 18, tyX11, rfl, by decide, inX11, tyX11_ok, nmX11, by decide +kernel, rfl, rfl, zin (wt2 _ (List.mem_of_getElem? (i := 170) rfl)) rfl⟩
theorem fpX11_55 : zFp RX11 55 11 11 (.array (.object "DrawerNames$Picture")) := ⟨TX11, 18, tyX11, rfl, by decide, inX11, tyX11_ok, nmX11, by decide +kernel, rfl, rfl, zin (wt2 _ (List.mem_of_getElem? (i := 171) rfl)) rfl⟩
theorem fpX11_62 : zFp RX11 62 11 12 (.object "DrawerNames$Rows") := ⟨TX11, 18, tyX11, rfl, by decide, inX11, tyX11_ok, nmX11, by decide +kernel, rfl, rfl, zin (wt2 _ (List.mem_of_getElem? (i := 172) rfl)) rfl⟩
theorem fpX11_71 : zFp RX11 71 11 13 (.object "DrawerNames$Visits") := ⟨TX11, 18, tyX11, rfl, by decide, inX11, tyX11_ok, nmX11, by decide +kernel, rfl, rfl, zin (wt2 _ (List.mem_of_getElem? (i := 173) rfl)) rfl⟩
theorem fpX11_80 : zFp RX11 80 11 14 (.object "DrawerNames$Ways") := ⟨TX11, 18, tyX11, rfl, by decide, inX11, tyX11_ok, nmX11, by decide +kernel, rfl, rfl, zin (wt2 _ (List.mem_of_getElem? (i := 174) rfl)) rfl⟩
theorem fpX11_87 : zFp RX11 87 11 15 (.object "DrawerNames$Spread") := ⟨TX11, 18, tyX11, rfl, by decide, inX11, tyX11_ok, nmX11, by decide +kernel, rfl, rfl, zin (wt2 _ (List.mem_of_getElem? (i := 175) rfl)) rfl⟩
theorem fpX11_91 : zFp RX11 91 11 16 (.array .int) := ⟨TX11, 18, tyX11, rfl, by decide, inX11, tyX11_ok, nmX11, by decide +kernel, rfl, rfl, zin (wt2 _ (List.mem_of_getElem? (i := 176) rfl)) rfl⟩
theorem fpX11_95 : zFp RX11 95 11 17 (.array .long) := ⟨TX11, 18, tyX11, rfl, by decide, inX11, tyX11_ok, nmX11, by decide +kernel, rfl, rfl, zin (wt2 _ (List.mem_of_getElem? (i := 177) rfl)) rfl⟩
theorem fpX12_13 : zFp RX12 13 12 1 (.array .int) := ⟨TX12, 41, tyX12, rfl, by decide, inX12, tyX12_ok, nmX12, by decide +kernel, rfl, rfl, zin (wt6 _ (List.mem_of_getElem? (i := 11) rfl)) rfl⟩
theorem fpX12_17 : zFp RX12 17 12 2 (.array .boolean) := ⟨TX12, 41, tyX12, rfl, by decide, inX12, tyX12_ok, nmX12, by decide +kernel, rfl, rfl, zin (wt6 _ (List.mem_of_getElem? (i := 12) rfl)) rfl⟩
theorem fpX12_21 : zFp RX12 21 12 3 (.array .int) := ⟨TX12, 41, tyX12, rfl, by decide, inX12, tyX12_ok, nmX12, by decide +kernel, rfl, rfl, zin (wt6 _ (List.mem_of_getElem? (i := 13) rfl)) rfl⟩
theorem fpX12_24 : zFp RX12 24 12 4 (.array .int) := ⟨TX12, 41, tyX12, rfl, by decide, inX12, tyX12_ok, nmX12, by decide +kernel, rfl, rfl, zin (wt6 _ (List.mem_of_getElem? (i := 14) rfl)) rfl⟩
theorem fpX12_30 : zFp RX12 30 12 15 (.array .int) := ⟨TX12, 41, tyX12, rfl, by decide, inX12, tyX12_ok, nmX12, by decide +kernel, rfl, rfl, zin (wt6 _ (List.mem_of_getElem? (i := 25) rfl)) rfl⟩
theorem fpX12_33 : zFp RX12 33 12 16 (.array .int) := ⟨TX12, 41, tyX12, rfl, by decide, inX12, tyX12_ok, nmX12, by decide +kernel, rfl, rfl, zin (wt6 _ (List.mem_of_getElem? (i := 26) rfl)) rfl⟩
theorem fpX12_36 : zFp RX12 36 12 18 (.array .int) := ⟨TX12, 41, tyX12, rfl, by decide, inX12, tyX12_ok, nmX12, by decide +kernel, rfl, rfl, zin (wt6 _ (List.mem_of_getElem? (i := 28) rfl)) rfl⟩
theorem fpX12_39 : zFp RX12 39 12 19 (.array .int) := ⟨TX12, 41, tyX12, rfl, by decide, inX12, tyX12_ok, nmX12, by decide +kernel, rfl, rfl, zin (wt6 _ (List.mem_of_getElem? (i := 29) rfl)) rfl⟩
theorem fpX12_42 : zFp RX12 42 12 20 (.array .int) := ⟨TX12, 41, tyX12, rfl, by decide, inX12, tyX12_ok, nmX12, by decide +kernel, rfl, rfl, zin (wt6 _ (List.mem_of_getElem? (i := 30) rfl)) rfl⟩
theorem fpX12_45 : zFp RX12 45 12 23 (.array .int) := ⟨TX12, 41, tyX12, rfl, by decide, inX12, tyX12_ok, nmX12, by decide +kernel, rfl, rfl, zin (wt6 _ (List.mem_of_getElem? (i := 33) rfl)) rfl⟩
theorem fpX12_48 : zFp RX12 48 12 26 (.array .long) := ⟨TX12, 41, tyX12, rfl, by decide, inX12, tyX12_ok, nmX12, by decide +kernel, rfl, rfl, zin (wt6 _ (List.mem_of_getElem? (i := 36) rfl)) rfl⟩
theorem fpX12_52 : zFp RX12 52 12 27 (.array .int) := ⟨TX12, 41, tyX12, rfl, by decide, inX12, tyX12_ok, nmX12, by decide +kernel, rfl, rfl, zin (wt6 _ (List.mem_of_getElem? (i := 37) rfl)) rfl⟩
theorem fpX12_55 : zFp RX12 55 12 28 (.array .int) := ⟨TX12, 41, tyX12, rfl, by decide, inX12, tyX12_ok, nmX12, by decide +kernel, rfl, rfl, zin (wt6 _ (List.mem_of_getElem? (i := 38) rfl)) rfl⟩
theorem fpX12_58 : zFp RX12 58 12 29 (.array .int) := ⟨TX12, 41, tyX12, rfl, by decide, inX12, tyX12_ok, nmX12, by decide +kernel, rfl, rfl, zin (wt6 _ (List.mem_of_getElem? (i := 39) rfl)) rfl⟩
theorem fpX12_61 : zFp RX12 61 12 30 (.array .int) := ⟨TX12, 41, tyX12, rfl, by decide, inX12, tyX12_ok, nmX12, by decide +kernel, rfl, rfl, zin (wt6 _ (List.mem_of_getElem? (i := 40) rfl)) rfl⟩
theorem fpX12_64 : zFp RX12 64 12 31 (.array .int) := ⟨TX12, 41, tyX12, rfl, by decide, inX12, tyX12_ok, nmX12, by decide +kernel, rfl, rfl, zin (wt6 _ (List.mem_of_getElem? (i := 41) rfl)) rfl⟩
theorem fpX12_67 : zFp RX12 67 12 33 (.array .long) := ⟨TX12, 41, tyX12, rfl, by decide, inX12, tyX12_ok, nmX12, by decide +kernel, rfl, rfl, zin (wt6 _ (List.mem_of_getElem? (i := 43) rfl)) rfl⟩
theorem fpX12_70 : zFp RX12 70 12 34 (.array .long) := ⟨TX12, 41, tyX12, rfl, by decide, inX12, tyX12_ok, nmX12, by decide +kernel, rfl, rfl, zin (wt6 _ (List.mem_of_getElem? (i := 44) rfl)) rfl⟩
theorem fpX12_73 : zFp RX12 73 12 35 (.array .int) := ⟨TX12, 41, tyX12, rfl, by decide, inX12, tyX12_ok, nmX12, by decide +kernel, rfl, rfl, zin (wt6 _ (List.mem_of_getElem? (i := 45) rfl)) rfl⟩
theorem fpX12_76 : zFp RX12 76 12 37 (.array .int) := ⟨TX12, 41, tyX12, rfl, by decide, inX12, tyX12_ok, nmX12, by decide +kernel, rfl, rfl, zin (wt6 _ (List.mem_of_getElem? (i := 47) rfl)) rfl⟩
theorem fpX12_79 : zFp RX12 79 12 38 (.array .int) := ⟨TX12, 41, tyX12, rfl, by decide, inX12, tyX12_ok, nmX12, by decide +kernel, rfl, rfl, zin (wt6 _ (List.mem_of_getElem? (i := 48) rfl)) rfl⟩
theorem fpX12_82 : zFp RX12 82 12 39 (.array .int) := ⟨TX12, 41, tyX12, rfl, by decide, inX12, tyX12_ok, nmX12, by decide +kernel, rfl, rfl, zin (wt6 _ (List.mem_of_getElem? (i := 49) rfl)) rfl⟩
theorem fpX12_85 : zFp RX12 85 12 40 (.array .long) := ⟨TX12, 41, tyX12, rfl, by decide, inX12, tyX12_ok, nmX12, by decide +kernel, rfl, rfl, zin (wt6 _ (List.mem_of_getElem? (i := 50) rfl)) rfl⟩
theorem knL : Cond.initialized RL ∈ zTb := zin (wt1 _ (List.mem_of_getElem? (i := 0) rfl)) rfl
theorem knX11 : Cond.initialized RX11 ∈ zTb := zin (wt1 _ (List.mem_of_getElem? (i := 1) rfl)) rfl
theorem knX4 : Cond.initialized RX4 ∈ zTb := zin (wt1 _ (List.mem_of_getElem? (i := 2) rfl)) rfl
theorem knX1 : Cond.initialized RX1 ∈ zTb := zin (wt1 _ (List.mem_of_getElem? (i := 3) rfl)) rfl
theorem knX7 : Cond.initialized RX7 ∈ zTb := zin (wt1 _ (List.mem_of_getElem? (i := 4) rfl)) rfl
theorem knX5 : Cond.initialized RX5 ∈ zTb := zin (wt1 _ (List.mem_of_getElem? (i := 5) rfl)) rfl
theorem knX9 : Cond.initialized RX9 ∈ zTb := zin (wt1 _ (List.mem_of_getElem? (i := 6) rfl)) rfl
theorem knX10 : Cond.initialized RX10 ∈ zTb := zin (wt1 _ (List.mem_of_getElem? (i := 7) rfl)) rfl
theorem knX6 : Cond.initialized RX6 ∈ zTb := zin (wt1 _ (List.mem_of_getElem? (i := 8) rfl)) rfl
theorem knX8 : Cond.initialized RX8 ∈ zTb := zin (wt1 _ (List.mem_of_getElem? (i := 9) rfl)) rfl
theorem knX3 : Cond.initialized RX3 ∈ zTb := zin (wt1 _ (List.mem_of_getElem? (i := 10) rfl)) rfl
theorem knX0 : Cond.initialized RX0 ∈ zTb := zin (wt1 _ (List.mem_of_getElem? (i := 11) rfl)) rfl
theorem knX2 : Cond.initialized RX2 ∈ zTb := zin (wt1 _ (List.mem_of_getElem? (i := 12) rfl)) rfl
theorem knJ7 : Cond.initialized RJ7 ∈ zTb := zin (wt1 _ (List.mem_of_getElem? (i := 13) rfl)) rfl
theorem knJ9 : Cond.initialized RJ9 ∈ zTb := zin (wt1 _ (List.mem_of_getElem? (i := 14) rfl)) rfl
theorem knJ10 : Cond.initialized RJ10 ∈ zTb := zin (wt1 _ (List.mem_of_getElem? (i := 15) rfl)) rfl
theorem knX12 : Cond.initialized RX12 ∈ zTb := zin (wt1 _ (List.mem_of_getElem? (i := 16) rfl)) rfl
theorem knJ0 : Cond.initialized RJ0 ∈ zTb := zin (wt1 _ (List.mem_of_getElem? (i := 17) rfl)) rfl
theorem knJ1 : Cond.initialized RJ1 ∈ zTb := zin (wt1 _ (List.mem_of_getElem? (i := 18) rfl)) rfl
theorem knJ3 : Cond.initialized RJ3 ∈ zTb := zin (wt1 _ (List.mem_of_getElem? (i := 19) rfl)) rfl
theorem knJ2 : Cond.initialized RJ2 ∈ zTb := zin (wt1 _ (List.mem_of_getElem? (i := 20) rfl)) rfl
theorem knJ11 : Cond.initialized RJ11 ∈ zTb := zin (wt1 _ (List.mem_of_getElem? (i := 21) rfl)) rfl
theorem knJ6 : Cond.initialized RJ6 ∈ zTb := zin (wt1 _ (List.mem_of_getElem? (i := 22) rfl)) rfl
theorem klL_7 : Cond.classLink RL 7 RX11 ∈ zTb := zin (wt1 _ (List.mem_of_getElem? (i := 23) rfl)) rfl
theorem kiX11 : Cond.instantiable RX11 18 ∈ zTb := zin (wt1 _ (List.mem_of_getElem? (i := 24) rfl)) rfl
theorem koX11_1 : Cond.methodLink RX11 1 Lib.objectInit ∈ zTb := zin (wt1 _ (List.mem_of_getElem? (i := 28) rfl)) rfl
theorem ks_obj : Cond.instanceMethod Lib.objectInit ∈ zTb := zin (wt1 _ (List.mem_of_getElem? (i := 29) rfl)) rfl
theorem kd_obj : Cond.code Lib.objectInit ⟨#[0xb1]⟩ 1 none ∈ zTb := zin (wt1 _ (List.mem_of_getElem? (i := 30) rfl)) rfl
theorem klX11_17 : Cond.classLink RX11 17 RX4 ∈ zTb := zin (wt1 _ (List.mem_of_getElem? (i := 31) rfl)) rfl
theorem kiX4 : Cond.instantiable RX4 18 ∈ zTb := zin (wt1 _ (List.mem_of_getElem? (i := 32) rfl)) rfl
theorem koX4_3 : Cond.methodLink RX4 3 Lib.objectInit ∈ zTb := zin (wt1 _ (List.mem_of_getElem? (i := 36) rfl)) rfl
theorem klX4_37 : Cond.classLink RX4 37 RX1 ∈ zTb := zin (wt1 _ (List.mem_of_getElem? (i := 37) rfl)) rfl
theorem kiX1 : Cond.instantiable RX1 4 ∈ zTb := zin (wt1 _ (List.mem_of_getElem? (i := 38) rfl)) rfl
theorem koX1_3 : Cond.methodLink RX1 3 Lib.objectInit ∈ zTb := zin (wt1 _ (List.mem_of_getElem? (i := 42) rfl)) rfl
theorem ka_byte : Cond.arrayClass .byte ∈ zTb := zin (wt1 _ (List.mem_of_getElem? (i := 56) rfl)) rfl
theorem ka_int : Cond.arrayClass .int ∈ zTb := zin (wt1 _ (List.mem_of_getElem? (i := 57) rfl)) rfl
theorem klX11_24 : Cond.classLink RX11 24 RX7 ∈ zTb := zin (wt1 _ (List.mem_of_getElem? (i := 123) rfl)) rfl
theorem kiX7 : Cond.instantiable RX7 3 ∈ zTb := zin (wt1 _ (List.mem_of_getElem? (i := 124) rfl)) rfl
theorem koX7_1 : Cond.methodLink RX7 1 Lib.objectInit ∈ zTb := zin (wt1 _ (List.mem_of_getElem? (i := 128) rfl)) rfl
theorem klX11_47 : Cond.classLink RX11 47 RX8 ∈ zTb := zin (wt1 _ (List.mem_of_getElem? (i := 143) rfl)) rfl
theorem klX11_53 : Cond.classLink RX11 53 RX3 ∈ zTb := zin (wt1 _ (List.mem_of_getElem? (i := 145) rfl)) rfl
theorem klX11_59 : Cond.classLink RX11 59 RX5 ∈ zTb := zin (wt1 _ (List.mem_of_getElem? (i := 147) rfl)) rfl
theorem kiX5 : Cond.instantiable RX5 8 ∈ zTb := zin (wt1 _ (List.mem_of_getElem? (i := 148) rfl)) rfl
theorem koX5_3 : Cond.methodLink RX5 3 Lib.objectInit ∈ zTb := zin (wt1 _ (List.mem_of_getElem? (i := 152) rfl)) rfl
theorem klX11_66 : Cond.classLink RX11 66 RX9 ∈ zTb := zin (wt1 _ (List.mem_of_getElem? (i := 187) rfl)) rfl
theorem kiX9 : Cond.instantiable RX9 10 ∈ zTb := zin (wt1 _ (List.mem_of_getElem? (i := 188) rfl)) rfl
theorem koX9_3 : Cond.methodLink RX9 3 Lib.objectInit ∈ zTb := zin (wt1 _ (List.mem_of_getElem? (i := 192) rfl)) rfl
theorem ka_boolean : Cond.arrayClass .boolean ∈ zTb := zin (wt1 _ (List.mem_of_getElem? (i := 226) rfl)) rfl
theorem klX11_75 : Cond.classLink RX11 75 RX10 ∈ zTb := zin (wt1 _ (List.mem_of_getElem? (i := 227) rfl)) rfl
theorem kiX10 : Cond.instantiable RX10 5 ∈ zTb := zin (wt1 _ (List.mem_of_getElem? (i := 228) rfl)) rfl
theorem koX10_3 : Cond.methodLink RX10 3 Lib.objectInit ∈ zTb := zin (wt1 _ (List.mem_of_getElem? (i := 232) rfl)) rfl
theorem klX11_84 : Cond.classLink RX11 84 RX6 ∈ zTb := zin (wt2 _ (List.mem_of_getElem? (i := 9) rfl)) rfl
theorem kiX6 : Cond.instantiable RX6 3 ∈ zTb := zin (wt2 _ (List.mem_of_getElem? (i := 10) rfl)) rfl
theorem koX6_3 : Cond.methodLink RX6 3 Lib.objectInit ∈ zTb := zin (wt2 _ (List.mem_of_getElem? (i := 14) rfl)) rfl
theorem ka_long : Cond.arrayClass .long ∈ zTb := zin (wt2 _ (List.mem_of_getElem? (i := 25) rfl)) rfl
theorem kiX8 : Cond.instantiable RX8 3 ∈ zTb := zin (wt2 _ (List.mem_of_getElem? (i := 26) rfl)) rfl
theorem koX8_3 : Cond.methodLink RX8 3 Lib.objectInit ∈ zTb := zin (wt2 _ (List.mem_of_getElem? (i := 30) rfl)) rfl
theorem kiX3 : Cond.instantiable RX3 2 ∈ zTb := zin (wt2 _ (List.mem_of_getElem? (i := 42) rfl)) rfl
theorem koX3_1 : Cond.methodLink RX3 1 Lib.objectInit ∈ zTb := zin (wt2 _ (List.mem_of_getElem? (i := 46) rfl)) rfl
theorem klX3_13 : Cond.classLink RX3 13 RX7 ∈ zTb := zin (wt2 _ (List.mem_of_getElem? (i := 47) rfl)) rfl
theorem klX11_101 : Cond.classLink RX11 101 RX0 ∈ zTb := zin (wt2 _ (List.mem_of_getElem? (i := 58) rfl)) rfl
theorem kiX0 : Cond.instantiable RX0 8 ∈ zTb := zin (wt2 _ (List.mem_of_getElem? (i := 59) rfl)) rfl
theorem koX0_1 : Cond.methodLink RX0 1 Lib.objectInit ∈ zTb := zin (wt2 _ (List.mem_of_getElem? (i := 63) rfl)) rfl
theorem klX1_35 : Cond.classLink RX1 35 RX2 ∈ zTb := zin (wt2 _ (List.mem_of_getElem? (i := 71) rfl)) rfl
theorem kiX2 : Cond.instantiable RX2 2 ∈ zTb := zin (wt2 _ (List.mem_of_getElem? (i := 72) rfl)) rfl
theorem kjJ7_304 : Cond.methodLink RJ7 304 ⟨"java/lang/Math", "min", "(II)I"⟩ ∈ zTb := zin (wt2 _ (List.mem_of_getElem? (i := 83) rfl)) rfl
theorem ks_static_min_I : Cond.static ⟨"java/lang/Math", "min", "(II)I"⟩ ∈ zTb := zin (wt2 _ (List.mem_of_getElem? (i := 84) rfl)) rfl
theorem kd_min : Cond.code Lib.Math.min.name Lib.Math.min.code 2 (Option.some Jvm.ClassFile.FieldType.int) ∈ zTb := zin (wt2 _ (List.mem_of_getElem? (i := 85) rfl)) rfl
theorem kjJ7_150 : Cond.methodLink RJ7 150 ⟨"java/lang/System", "arraycopy", "(Ljava/lang/Object;ILjava/lang/Object;II)V"⟩ ∈ zTb := zin (wt2 _ (List.mem_of_getElem? (i := 86) rfl)) rfl
theorem ks_static_arraycopy_L : Cond.static ⟨"java/lang/System", "arraycopy", "(Ljava/lang/Object;ILjava/lang/Object;II)V"⟩ ∈ zTb := zin (wt2 _ (List.mem_of_getElem? (i := 87) rfl)) rfl
theorem ks_native_arraycopy_L : Cond.native ⟨"java/lang/System", "arraycopy", "(Ljava/lang/Object;ILjava/lang/Object;II)V"⟩ ∈ zTb := zin (wt2 _ (List.mem_of_getElem? (i := 88) rfl)) rfl
theorem koX2_1 : Cond.methodLink RX2 1 Lib.objectInit ∈ zTb := zin (wt2 _ (List.mem_of_getElem? (i := 92) rfl)) rfl
theorem kjX2_13 : Cond.methodLink RX2 13 ⟨"java/lang/Math", "max", "(II)I"⟩ ∈ zTb := zin (wt2 _ (List.mem_of_getElem? (i := 93) rfl)) rfl
theorem ks_static_max_I : Cond.static ⟨"java/lang/Math", "max", "(II)I"⟩ ∈ zTb := zin (wt2 _ (List.mem_of_getElem? (i := 94) rfl)) rfl
theorem kd_max : Cond.code Lib.Math.max.name Lib.Math.max.code 2 (Option.some Jvm.ClassFile.FieldType.int) ∈ zTb := zin (wt2 _ (List.mem_of_getElem? (i := 95) rfl)) rfl
theorem kf_FACTORIALS : (Jvm.Cond.fieldLink "DrawerNames$Rows" (39 : Nat) "DrawerNames$Rows" "FACTORIALS" "[I") ∈ zTb := zin (wt2 _ (List.mem_of_getElem? (i := 146) rfl)) rfl
theorem kjX4_75 : Cond.methodLink RX4 75 ⟨"java/lang/Math", "min", "(II)I"⟩ ∈ zTb := zin (wt2 _ (List.mem_of_getElem? (i := 239) rfl)) rfl
theorem kf_COMPACT_STRINGS : (Jvm.Cond.fieldLink "java/lang/String" (38 : Nat) "java/lang/String" "COMPACT_STRINGS" "Z") ∈ zTb := zin (wt3 _ (List.mem_of_getElem? (i := 20) rfl)) rfl
theorem kf_SIOOBE_FORMATTER : (Jvm.Cond.fieldLink "java/lang/String" (1053 : Nat) "jdk/internal/util/Preconditions" "SIOOBE_FORMATTER" "Ljava/util/function/BiFunction;") ∈ zTb := zin (wt3 _ (List.mem_of_getElem? (i := 36) rfl)) rfl
theorem kjJ1_92 : Cond.methodLink RJ1 92 ⟨"java/lang/Math", "max", "(II)I"⟩ ∈ zTb := zin (wt3 _ (List.mem_of_getElem? (i := 87) rfl)) rfl
theorem kjJ1_38 : Cond.methodLink RJ1 38 ⟨"java/lang/Math", "min", "(II)I"⟩ ∈ zTb := zin (wt3 _ (List.mem_of_getElem? (i := 88) rfl)) rfl
theorem kjJ2_224 : Cond.methodLink RJ2 224 ⟨"java/lang/Math", "max", "(II)I"⟩ ∈ zTb := zin (wt3 _ (List.mem_of_getElem? (i := 95) rfl)) rfl
theorem kjJ2_183 : Cond.methodLink RJ2 183 ⟨"java/lang/Math", "min", "(II)I"⟩ ∈ zTb := zin (wt3 _ (List.mem_of_getElem? (i := 96) rfl)) rfl
theorem kcJ2_227 : Cond.constant RJ2 227 (65536) ∈ zTb := zin (wt3 _ (List.mem_of_getElem? (i := 97) rfl)) rfl
theorem kcJ11_110 : Cond.constant RJ11 110 (55232) ∈ zTb := zin (wt3 _ (List.mem_of_getElem? (i := 122) rfl)) rfl
theorem kcJ11_76 : Cond.constant RJ11 76 (56320) ∈ zTb := zin (wt3 _ (List.mem_of_getElem? (i := 126) rfl)) rfl
theorem kjX1_29 : Cond.methodLink RX1 29 ⟨"java/lang/Math", "max", "(II)I"⟩ ∈ zTb := zin (wt3 _ (List.mem_of_getElem? (i := 174) rfl)) rfl
theorem kcX2_30 : Cond.constantLong RX2 30 (1000000) ∈ zTb := zin (wt4 _ (List.mem_of_getElem? (i := 12) rfl)) rfl
theorem kcX2_32 : Cond.constant RX2 32 (1000000) ∈ zTb := zin (wt4 _ (List.mem_of_getElem? (i := 13) rfl)) rfl
theorem kcX2_33 : Cond.constantLong RX2 33 (-1000000) ∈ zTb := zin (wt4 _ (List.mem_of_getElem? (i := 14) rfl)) rfl
theorem kcX2_35 : Cond.constant RX2 35 (-1000000) ∈ zTb := zin (wt4 _ (List.mem_of_getElem? (i := 15) rfl)) rfl
theorem kjX9_91 : Cond.methodLink RX9 91 ⟨"java/lang/Math", "max", "(II)I"⟩ ∈ zTb := zin (wt4 _ (List.mem_of_getElem? (i := 16) rfl)) rfl
theorem kjX9_96 : Cond.methodLink RX9 96 ⟨"java/lang/Math", "floorMod", "(II)I"⟩ ∈ zTb := zin (wt4 _ (List.mem_of_getElem? (i := 17) rfl)) rfl
theorem ks_static_floorMod_I : Cond.static ⟨"java/lang/Math", "floorMod", "(II)I"⟩ ∈ zTb := zin (wt4 _ (List.mem_of_getElem? (i := 18) rfl)) rfl
theorem kd_fmod : Cond.code ⟨"java/lang/Math", "floorMod", "(II)I"⟩ prog_18_method_50_code 3 (Option.some Jvm.ClassFile.FieldType.int) ∈ zTb := zin (wt4 _ (List.mem_of_getElem? (i := 19) rfl)) rfl
theorem kcJ6_265 : Cond.constant RJ6 265 (1431655765) ∈ zTb := zin (wt4 _ (List.mem_of_getElem? (i := 71) rfl)) rfl
theorem kcJ6_266 : Cond.constant RJ6 266 (858993459) ∈ zTb := zin (wt4 _ (List.mem_of_getElem? (i := 72) rfl)) rfl
theorem kcJ6_267 : Cond.constant RJ6 267 (252645135) ∈ zTb := zin (wt4 _ (List.mem_of_getElem? (i := 73) rfl)) rfl
theorem kjX5_66 : Cond.methodLink RX5 66 ⟨"java/lang/Math", "max", "(II)I"⟩ ∈ zTb := zin (wt4 _ (List.mem_of_getElem? (i := 91) rfl)) rfl
theorem kcX11_242 : Cond.constantLong RX11 242 (10) ∈ zTb := zin (wt4 _ (List.mem_of_getElem? (i := 128) rfl)) rfl
theorem kcX11_244 : Cond.constantLong RX11 244 (20) ∈ zTb := zin (wt4 _ (List.mem_of_getElem? (i := 129) rfl)) rfl
theorem kcX11_246 : Cond.constantLong RX11 246 (100) ∈ zTb := zin (wt4 _ (List.mem_of_getElem? (i := 130) rfl)) rfl
theorem kcX11_248 : Cond.constantLong RX11 248 (200) ∈ zTb := zin (wt4 _ (List.mem_of_getElem? (i := 131) rfl)) rfl
theorem kcX11_260 : Cond.constant RX11 260 (1103515245) ∈ zTb := zin (wt4 _ (List.mem_of_getElem? (i := 152) rfl)) rfl
theorem kcJ6_264 : Cond.constant RJ6 264 (65536) ∈ zTb := zin (wt4 _ (List.mem_of_getElem? (i := 164) rfl)) rfl
theorem kcX11_279 : Cond.constantLong RX11 279 (1000000000000000) ∈ zTb := zin (wt4 _ (List.mem_of_getElem? (i := 191) rfl)) rfl
theorem kcX11_288 : Cond.constantLong RX11 288 (-3) ∈ zTb := zin (wt4 _ (List.mem_of_getElem? (i := 204) rfl)) rfl
theorem kcX11_313 : Cond.constantLong RX11 313 (-2) ∈ zTb := zin (wt5 _ (List.mem_of_getElem? (i := 28) rfl)) rfl
theorem kjX11_333 : Cond.methodLink RX11 333 ⟨"java/lang/Math", "max", "(II)I"⟩ ∈ zTb := zin (wt5 _ (List.mem_of_getElem? (i := 92) rfl)) rfl
theorem kcX11_368 : Cond.constantLong RX11 368 (-1) ∈ zTb := zin (wt5 _ (List.mem_of_getElem? (i := 119) rfl)) rfl
theorem kjX11_397 : Cond.methodLink RX11 397 ⟨"java/lang/Math", "max", "(JJ)J"⟩ ∈ zTb := zin (wt5 _ (List.mem_of_getElem? (i := 183) rfl)) rfl
theorem ks_static_max_J : Cond.static ⟨"java/lang/Math", "max", "(JJ)J"⟩ ∈ zTb := zin (wt5 _ (List.mem_of_getElem? (i := 184) rfl)) rfl
theorem kd_maxl : Cond.code Lib.MathLoose.max_long.x Lib.MathLoose.max_long.code 4 (Option.some Jvm.ClassFile.FieldType.long) ∈ zTb := zin (wt5 _ (List.mem_of_getElem? (i := 185) rfl)) rfl
theorem kcX11_402 : Cond.constantLong RX11 402 (-6) ∈ zTb := zin (wt5 _ (List.mem_of_getElem? (i := 203) rfl)) rfl
theorem kcX11_404 : Cond.constantLong RX11 404 (-7) ∈ zTb := zin (wt5 _ (List.mem_of_getElem? (i := 204) rfl)) rfl
theorem kjX11_410 : Cond.methodLink RX11 410 ⟨"java/lang/Math", "min", "(II)I"⟩ ∈ zTb := zin (wt5 _ (List.mem_of_getElem? (i := 217) rfl)) rfl
theorem klL_10 : Cond.classLink RL 10 RX12 ∈ zTb := zin (wt5 _ (List.mem_of_getElem? (i := 230) rfl)) rfl
theorem kiX12 : Cond.instantiable RX12 41 ∈ zTb := zin (wt5 _ (List.mem_of_getElem? (i := 231) rfl)) rfl
theorem koX12_7 : Cond.methodLink RX12 7 Lib.objectInit ∈ zTb := zin (wt5 _ (List.mem_of_getElem? (i := 235) rfl)) rfl
theorem kcX12_234 : Cond.constantLong RX12 234 (1000000) ∈ zTb := zin (wt7 _ (List.mem_of_getElem? (i := 42) rfl)) rfl
theorem kcX12_236 : Cond.constantLong RX12 236 (-1000000) ∈ zTb := zin (wt7 _ (List.mem_of_getElem? (i := 43) rfl)) rfl
theorem kcX12_287 : Cond.constantLong RX12 287 (99) ∈ zTb := zin (wt7 _ (List.mem_of_getElem? (i := 87) rfl)) rfl
theorem kcX12_292 : Cond.constantLong RX12 292 (9) ∈ zTb := zin (wt7 _ (List.mem_of_getElem? (i := 100) rfl)) rfl
theorem kcX12_294 : Cond.constantLong RX12 294 (10) ∈ zTb := zin (wt7 _ (List.mem_of_getElem? (i := 105) rfl)) rfl
theorem kcX12_312 : Cond.constantLong RX12 312 (3) ∈ zTb := zin (wt7 _ (List.mem_of_getElem? (i := 110) rfl)) rfl
theorem kcX12_296 : Cond.constantLong RX12 296 (19) ∈ zTb := zin (wt7 _ (List.mem_of_getElem? (i := 123) rfl)) rfl
theorem kcX12_298 : Cond.constantLong RX12 298 (100) ∈ zTb := zin (wt7 _ (List.mem_of_getElem? (i := 124) rfl)) rfl
theorem kcX12_300 : Cond.constantLong RX12 300 (199) ∈ zTb := zin (wt7 _ (List.mem_of_getElem? (i := 125) rfl)) rfl
theorem kcX12_330 : Cond.constantLong RX12 330 (40) ∈ zTb := zin (wt7 _ (List.mem_of_getElem? (i := 142) rfl)) rfl
theorem kcX12_323 : Cond.constant RX12 323 (1103515245) ∈ zTb := zin (wt7 _ (List.mem_of_getElem? (i := 151) rfl)) rfl
theorem kcX12_341 : Cond.constantLong RX12 341 (5) ∈ zTb := zin (wt7 _ (List.mem_of_getElem? (i := 156) rfl)) rfl
theorem kcX12_346 : Cond.constantLong RX12 346 (1000000000000000) ∈ zTb := zin (wt7 _ (List.mem_of_getElem? (i := 176) rfl)) rfl
theorem kcX12_351 : Cond.constantLong RX12 351 (20) ∈ zTb := zin (wt7 _ (List.mem_of_getElem? (i := 189) rfl)) rfl
theorem kcX12_353 : Cond.constantLong RX12 353 (-3) ∈ zTb := zin (wt7 _ (List.mem_of_getElem? (i := 190) rfl)) rfl
theorem kcX12_368 : Cond.constant RX12 368 (268435456) ∈ zTb := zin (wt7 _ (List.mem_of_getElem? (i := 214) rfl)) rfl
theorem kcX12_378 : Cond.constantLong RX12 378 (-2) ∈ zTb := zin (wt7 _ (List.mem_of_getElem? (i := 226) rfl)) rfl
theorem kcX12_380 : Cond.constantLong RX12 380 (7) ∈ zTb := zin (wt7 _ (List.mem_of_getElem? (i := 227) rfl)) rfl
theorem kcX12_394 : Cond.constantLong RX12 394 (8) ∈ zTb := zin (wt8 _ (List.mem_of_getElem? (i := 40) rfl)) rfl
theorem kcX12_396 : Cond.constantLong RX12 396 (-1) ∈ zTb := zin (wt8 _ (List.mem_of_getElem? (i := 41) rfl)) rfl
theorem kcX12_438 : Cond.constantLong RX12 438 (-7) ∈ zTb := zin (wt8 _ (List.mem_of_getElem? (i := 115) rfl)) rfl
theorem kcL_81 : Cond.constantLong RL 81 (4294967295) ∈ zTb := zin (wt8 _ (List.mem_of_getElem? (i := 135) rfl)) rfl
theorem kf_value : (Jvm.Cond.fieldLink "java/lang/String" (9 : Nat) "java/lang/String" "value" "[B") ∈ zTb := zin (wt8 _ (List.mem_of_getElem? (i := 136) rfl)) rfl
theorem kf_coder : (Jvm.Cond.fieldLink "java/lang/String" (15 : Nat) "java/lang/String" "coder" "B") ∈ zTb := zin (wt8 _ (List.mem_of_getElem? (i := 137) rfl)) rfl
