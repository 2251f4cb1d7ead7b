def zTb : List Cond := lw_tbl.filter goodWord
theorem zin {w : Cond} (h : w ∈ lw_tbl) (hg : goodWord w = true) : w ∈ zTb := List.mem_filter.mpr ⟨h, hg⟩
theorem wt1 : ∀ w ∈ tables_1_1, w ∈ lw_tbl := fun _ h => List.mem_append_right _ (List.mem_append_left _ h)
theorem wt2 : ∀ w ∈ tables_1_2, w ∈ lw_tbl := fun _ h => List.mem_append_right _ (List.mem_append_right _ (List.mem_append_left _ h))
theorem wt3 : ∀ w ∈ tables_1_3, w ∈ lw_tbl := fun _ h => List.mem_append_right _ (List.mem_append_right _ (List.mem_append_right _ (List.mem_append_left _ h)))
theorem wt4 : ∀ w ∈ tables_1_4, w ∈ lw_tbl := fun _ h => List.mem_append_right _ (List.mem_append_right _ (List.mem_append_right _ (List.mem_append_right _ (List.mem_append_left _ h))))
theorem wt5 : ∀ w ∈ tables_1_5, w ∈ lw_tbl := fun _ h => List.mem_append_right _ (List.mem_append_right _ (List.mem_append_right _ (List.mem_append_right _ (List.mem_append_right _ (List.mem_append_left _ h)))))
theorem wt6 : ∀ w ∈ tables_1_6, w ∈ lw_tbl := fun _ h => List.mem_append_right _ (List.mem_append_right _ (List.mem_append_right _ (List.mem_append_right _ (List.mem_append_right _ (List.mem_append_right _ (List.mem_append_left _ h))))))
theorem wt7 : ∀ w ∈ tables_1_7, w ∈ lw_tbl := fun _ h => List.mem_append_right _ (List.mem_append_right _ (List.mem_append_right _ (List.mem_append_right _ (List.mem_append_right _ (List.mem_append_right _ (List.mem_append_right _ (List.mem_append_left _ h)))))))
theorem wt8 : ∀ w ∈ tables_1_8, w ∈ lw_tbl := fun _ h => List.mem_append_right _ (List.mem_append_right _ (List.mem_append_right _ (List.mem_append_right _ (List.mem_append_right _ (List.mem_append_right _ (List.mem_append_right _ (List.mem_append_right _ (h))))))))
theorem wp1 : ∀ q ∈ lw_privs_1, Cond.selects q.1.cls q.1 q.1 ∈ lw_tbl := fun q h => List.mem_append_left _ (List.mem_map.mpr ⟨q, List.mem_append_left _ h, rfl⟩)
theorem wp2 : ∀ q ∈ lw_privs_2, Cond.selects q.1.cls q.1 q.1 ∈ lw_tbl := fun q h => List.mem_append_left _ (List.mem_map.mpr ⟨q, List.mem_append_right _ (List.mem_append_left _ h), rfl⟩)
theorem wp3 : ∀ q ∈ lw_privs_3, Cond.selects q.1.cls q.1 q.1 ∈ lw_tbl := fun q h => List.mem_append_left _ (List.mem_map.mpr ⟨q, List.mem_append_right _ (List.mem_append_right _ (List.mem_append_left _ h)), rfl⟩)
theorem wp4 : ∀ q ∈ lw_privs_4, Cond.selects q.1.cls q.1 q.1 ∈ lw_tbl := fun q h => List.mem_append_left _ (List.mem_map.mpr ⟨q, List.mem_append_right _ (List.mem_append_right _ (List.mem_append_right _ (List.mem_append_left _ h))), rfl⟩)
theorem wp5 : ∀ q ∈ lw_privs_5, Cond.selects q.1.cls q.1 q.1 ∈ lw_tbl := fun q h => List.mem_append_left _ (List.mem_map.mpr ⟨q, List.mem_append_right _ (List.mem_append_right _ (List.mem_append_right _ (List.mem_append_right _ (List.mem_append_left _ h)))), rfl⟩)
theorem wp6 : ∀ q ∈ lw_privs_6, Cond.selects q.1.cls q.1 q.1 ∈ lw_tbl := fun q h => List.mem_append_left _ (List.mem_map.mpr ⟨q, List.mem_append_right _ (List.mem_append_right _ (List.mem_append_right _ (List.mem_append_right _ (List.mem_append_right _ (List.mem_append_left _ h))))), rfl⟩)
theorem wp7 : ∀ q ∈ lw_privs_7, Cond.selects q.1.cls q.1 q.1 ∈ lw_tbl := fun q h => List.mem_append_left _ (List.mem_map.mpr ⟨q, List.mem_append_right _ (List.mem_append_right _ (List.mem_append_right _ (List.mem_append_right _ (List.mem_append_right _ (List.mem_append_right _ (List.mem_append_left _ h)))))), rfl⟩)
theorem wp8 : ∀ q ∈ lw_privs_8, Cond.selects q.1.cls q.1 q.1 ∈ lw_tbl := fun q h => List.mem_append_left _ (List.mem_map.mpr ⟨q, List.mem_append_right _ (List.mem_append_right _ (List.mem_append_right _ (List.mem_append_right _ (List.mem_append_right _ (List.mem_append_right _ (List.mem_append_right _ (List.mem_append_left _ h))))))), rfl⟩)
theorem wp9 : ∀ q ∈ lw_privs_9, Cond.selects q.1.cls q.1 q.1 ∈ lw_tbl := fun q h => List.mem_append_left _ (List.mem_map.mpr ⟨q, List.mem_append_right _ (List.mem_append_right _ (List.mem_append_right _ (List.mem_append_right _ (List.mem_append_right _ (List.mem_append_right _ (List.mem_append_right _ (List.mem_append_right _ (List.mem_append_left _ h)))))))), rfl⟩)
theorem wp10 : ∀ q ∈ lw_privs_10, Cond.selects q.1.cls q.1 q.1 ∈ lw_tbl := fun q h => List.mem_append_left _ (List.mem_map.mpr ⟨q, List.mem_append_right _ (List.mem_append_right _ (List.mem_append_right _ (List.mem_append_right _ (List.mem_append_right _ (List.mem_append_right _ (List.mem_append_right _ (List.mem_append_right _ (List.mem_append_right _ (List.mem_append_left _ h))))))))), rfl⟩)
theorem wp11 : ∀ q ∈ lw_privs_11, Cond.selects q.1.cls q.1 q.1 ∈ lw_tbl := fun q h => List.mem_append_left _ (List.mem_map.mpr ⟨q, List.mem_append_right _ (List.mem_append_right _ (List.mem_append_right _ (List.mem_append_right _ (List.mem_append_right _ (List.mem_append_right _ (List.mem_append_right _ (List.mem_append_right _ (List.mem_append_right _ (List.mem_append_right _ (h)))))))))), rfl⟩)
def zNw : List Cond := [(Jvm.Cond.methodLinkNest "DrawerNames" (19 : Nat) ({ cls := "DrawerNames$Reader", name := "<init>", desc := "()V" } : Jvm.MethodName) "DrawerNames"), (Jvm.Cond.methodLinkNest "DrawerNames$Reader" (39 : Nat) ({ cls := "DrawerNames$Draft", name := "<init>", desc := "()V" } : Jvm.MethodName) "DrawerNames"), (Jvm.Cond.fieldLinkNest "DrawerNames" (122 : Nat) "DrawerNames$Reader" "fault" "I" "DrawerNames"), (Jvm.Cond.fieldLinkNest "DrawerNames" (150 : Nat) "DrawerNames$Reader" "place" "I" "DrawerNames"), (Jvm.Cond.fieldLinkNest "DrawerNames$Desk" (7 : Nat) "DrawerNames$Reader" "drawers" "I" "DrawerNames"), (Jvm.Cond.fieldLinkNest "DrawerNames$Desk" (16 : Nat) "DrawerNames$Reader" "opens" "I" "DrawerNames"), (Jvm.Cond.fieldLinkNest "DrawerNames$Desk" (20 : Nat) "DrawerNames$Reader" "clue" "I" "DrawerNames"), (Jvm.Cond.fieldLinkNest "DrawerNames$Desk" (45 : Nat) "DrawerNames$Reader" "lines" "I" "DrawerNames"), (Jvm.Cond.fieldLinkNest "DrawerNames$Desk" (26 : Nat) "DrawerNames$Reader" "names" "[I" "DrawerNames"), (Jvm.Cond.fieldLinkNest "DrawerNames$Desk" (39 : Nat) "DrawerNames$Reader" "goes" "[I" "DrawerNames"), (Jvm.Cond.fieldLinkNest "DrawerNames$Desk" (49 : Nat) "DrawerNames$Reader" "next" "LDrawerNames$Draft;" "DrawerNames"), (Jvm.Cond.fieldLinkNest "DrawerNames$Desk" (62 : Nat) "DrawerNames$Reader" "stops" "LDrawerNames$Draft;" "DrawerNames"), (Jvm.Cond.methodLinkNest "DrawerNames" (26 : Nat) ({ cls := "DrawerNames$State", name := "<init>", desc := "()V" } : Jvm.MethodName) "DrawerNames"), (Jvm.Cond.fieldLinkNest "DrawerNames" (128 : Nat) "DrawerNames$State" "row" "I" "DrawerNames"), (Jvm.Cond.fieldLinkNest "DrawerNames" (134 : Nat) "DrawerNames$State" "clue" "I" "DrawerNames"), (Jvm.Cond.fieldLinkNest "DrawerNames" (137 : Nat) "DrawerNames$State" "nights" "I" "DrawerNames"), (Jvm.Cond.methodLinkNest "DrawerNames" (61 : Nat) ({ cls := "DrawerNames$Rows", name := "<init>", desc := "()V" } : Jvm.MethodName) "DrawerNames"), (Jvm.Cond.fieldLinkNest "DrawerNames$Visits" (63 : Nat) "DrawerNames$Rows" "drawers" "I" "DrawerNames"), (Jvm.Cond.fieldLinkNest "DrawerNames$Spread" (59 : Nat) "DrawerNames$Rows" "drawers" "I" "DrawerNames"), (Jvm.Cond.fieldLinkNest "DrawerNames$Ways" (35 : Nat) "DrawerNames$Rows" "count" "I" "DrawerNames"), (Jvm.Cond.fieldLinkNest "DrawerNames$Spread" (27 : Nat) "DrawerNames$Rows" "count" "I" "DrawerNames"), (Jvm.Cond.fieldLinkNest "DrawerNames$Visits" (58 : Nat) "DrawerNames$Rows" "count" "I" "DrawerNames"), (Jvm.Cond.fieldLinkNest "DrawerNames" (281 : Nat) "DrawerNames$Rows" "count" "I" "DrawerNames"), (Jvm.Cond.fieldLinkNest "DrawerNames$Ways" (59 : Nat) "DrawerNames$Rows" "pairs" "I" "DrawerNames"), (Jvm.Cond.fieldLinkNest "DrawerNames$Spread" (41 : Nat) "DrawerNames$Rows" "pairs" "I" "DrawerNames"), (Jvm.Cond.fieldLinkNest "DrawerNames" (380 : Nat) "DrawerNames$Rows" "pairs" "I" "DrawerNames"), (Jvm.Cond.methodLinkNest "DrawerNames" (68 : Nat) ({ cls := "DrawerNames$Visits", name := "<init>", desc := "(LDrawerNames$Rows;)V" } : Jvm.MethodName) "DrawerNames"), (Jvm.Cond.fieldLinkNest "DrawerNames" (172 : Nat) "DrawerNames$Visits" "length" "I" "DrawerNames"), (Jvm.Cond.fieldLinkNest "DrawerNames" (175 : Nat) "DrawerNames$Visits" "free" "Z" "DrawerNames"), (Jvm.Cond.methodLinkNest "DrawerNames" (77 : Nat) ({ cls := "DrawerNames$Ways", name := "<init>", desc := "(LDrawerNames$Rows;LDrawerNames$Visits;)V" } : Jvm.MethodName) "DrawerNames"), (Jvm.Cond.methodLinkNest "DrawerNames" (86 : Nat) ({ cls := "DrawerNames$Spread", name := "<init>", desc := "(LDrawerNames$Rows;)V" } : Jvm.MethodName) "DrawerNames"), (Jvm.Cond.methodLinkNest "DrawerNames" (99 : Nat) ({ cls := "DrawerNames$Tray", name := "<init>", desc := "()V" } : Jvm.MethodName) "DrawerNames"), (Jvm.Cond.fieldLinkNest "DrawerNames" (231 : Nat) "DrawerNames$Tray" "size" "I" "DrawerNames"), (Jvm.Cond.methodLinkNest "DrawerNames" (100 : Nat) ({ cls := "DrawerNames$Picture", name := "<init>", desc := "()V" } : Jvm.MethodName) "DrawerNames"), (Jvm.Cond.methodLinkNest "DrawerNames$Picture" (15 : Nat) ({ cls := "DrawerNames$State", name := "<init>", desc := "()V" } : Jvm.MethodName) "DrawerNames"), (Jvm.Cond.fieldLinkNest "DrawerNames" (413 : Nat) "DrawerNames$Picture" "table" "LDrawerNames$Desk;" "DrawerNames"), (Jvm.Cond.fieldLinkNest "DrawerNames" (414 : Nat) "DrawerNames$Picture" "state" "LDrawerNames$State;" "DrawerNames"), (Jvm.Cond.methodLinkNest "DrawerNames" (103 : Nat) ({ cls := "DrawerNames$Desk", name := "<init>", desc := "(LDrawerNames$Reader;)V" } : Jvm.MethodName) "DrawerNames"), (Jvm.Cond.methodLinkNest "DrawerNames$Desk" (30 : Nat) ({ cls := "DrawerNames$Rows", name := "numberOf", desc := "([II)I" } : Jvm.MethodName) "DrawerNames"), (Jvm.Cond.methodLinkNest "DrawerNames$Desk" (53 : Nat) ({ cls := "DrawerNames$Draft", name := "asLaw", desc := "()LDrawerNames$Law;" } : Jvm.MethodName) "DrawerNames"), (Jvm.Cond.methodLinkNest "DrawerNames$Draft" (43 : Nat) ({ cls := "DrawerNames$Law", name := "<init>", desc := "([II)V" } : Jvm.MethodName) "DrawerNames"), (Jvm.Cond.fieldLinkNest "DrawerNames$Visits" (50 : Nat) "DrawerNames$Desk" "drawers" "I" "DrawerNames"), (Jvm.Cond.fieldLinkNest "DrawerNames" (143 : Nat) "DrawerNames$Desk" "drawers" "I" "DrawerNames"), (Jvm.Cond.fieldLinkNest "DrawerNames$Visits" (55 : Nat) "DrawerNames$Desk" "opens" "I" "DrawerNames"), (Jvm.Cond.fieldLinkNest "DrawerNames" (417 : Nat) "DrawerNames$Desk" "opens" "I" "DrawerNames"), (Jvm.Cond.fieldLinkNest "DrawerNames" (131 : Nat) "DrawerNames$Desk" "firstClue" "I" "DrawerNames"), (Jvm.Cond.fieldLinkNest "DrawerNames" (125 : Nat) "DrawerNames$Desk" "firstRow" "I" "DrawerNames"), (Jvm.Cond.fieldLinkNest "DrawerNames" (161 : Nat) "DrawerNames$Desk" "nightRow" "I" "DrawerNames"), (Jvm.Cond.fieldLinkNest "DrawerNames" (140 : Nat) "DrawerNames$Desk" "lines" "I" "DrawerNames"), (Jvm.Cond.fieldLinkNest "DrawerNames$Visits" (88 : Nat) "DrawerNames$Desk" "next" "LDrawerNames$Law;" "DrawerNames"), (Jvm.Cond.fieldLinkNest "DrawerNames$Visits" (80 : Nat) "DrawerNames$Desk" "stops" "LDrawerNames$Law;" "DrawerNames"), (Jvm.Cond.methodLinkNest "DrawerNames" (146 : Nat) ({ cls := "DrawerNames$Rows", name := "hold", desc := "(I)V" } : Jvm.MethodName) "DrawerNames"), (Jvm.Cond.methodLinkNest "DrawerNames" (149 : Nat) ({ cls := "DrawerNames$Visits", name := "sitAt", desc := "(LDrawerNames$Desk;)V" } : Jvm.MethodName) "DrawerNames"), (Jvm.Cond.methodLinkNest "DrawerNames" (118 : Nat) ({ cls := "DrawerNames$Reader", name := "read", desc := "([BI)V" } : Jvm.MethodName) "DrawerNames"), (Jvm.Cond.methodLinkNest "DrawerNames$Reader" (101 : Nat) ({ cls := "DrawerNames$Draft", name := "clear", desc := "()V" } : Jvm.MethodName) "DrawerNames"), (Jvm.Cond.methodLinkNest "DrawerNames$Reader" (124 : Nat) ({ cls := "DrawerNames$Draft", name := "add", desc := "(I)V" } : Jvm.MethodName) "DrawerNames"), (Jvm.Cond.methodLinkNest "DrawerNames" (164 : Nat) ({ cls := "DrawerNames$Rows", name := "nameIn", desc := "(II)I" } : Jvm.MethodName) "DrawerNames"), (Jvm.Cond.methodLinkNest "DrawerNames" (168 : Nat) ({ cls := "DrawerNames$Visits", name := "go", desc := "(III)V" } : Jvm.MethodName) "DrawerNames"), (Jvm.Cond.methodLinkNest "DrawerNames$Visits" (84 : Nat) ({ cls := "DrawerNames$Law", name := "tell", desc := "([I)I" } : Jvm.MethodName) "DrawerNames"), (Jvm.Cond.methodLinkNest "DrawerNames$Visits" (76 : Nat) ({ cls := "DrawerNames$Rows", name := "nameIn", desc := "(II)I" } : Jvm.MethodName) "DrawerNames"), (Jvm.Cond.methodLinkNest "DrawerNames" (179 : Nat) ({ cls := "DrawerNames$Visits", name := "openedAt", desc := "(I)I" } : Jvm.MethodName) "DrawerNames"), (Jvm.Cond.methodLinkNest "DrawerNames" (183 : Nat) ({ cls := "DrawerNames$Visits", name := "maskOf", desc := "(II)I" } : Jvm.MethodName) "DrawerNames"), (Jvm.Cond.methodLinkNest "DrawerNames" (217 : Nat) ({ cls := "DrawerNames$State", name := "become", desc := "(LDrawerNames$State;)V" } : Jvm.MethodName) "DrawerNames"), (Jvm.Cond.methodLinkNest "DrawerNames" (198 : Nat) ({ cls := "DrawerNames$Rows", name := "swappedRow", desc := "(III)I" } : Jvm.MethodName) "DrawerNames"), (Jvm.Cond.methodLinkNest "DrawerNames" (210 : Nat) ({ cls := "DrawerNames$Rows", name := "powerOf", desc := "(IJ)I" } : Jvm.MethodName) "DrawerNames"), (Jvm.Cond.methodLinkNest "DrawerNames" (214 : Nat) ({ cls := "DrawerNames$Rows", name := "movedRow", desc := "(II)I" } : Jvm.MethodName) "DrawerNames"), (Jvm.Cond.methodLinkNest "DrawerNames" (223 : Nat) ({ cls := "DrawerNames$Tray", name := "isMissing", desc := "()Z" } : Jvm.MethodName) "DrawerNames"), (Jvm.Cond.methodLinkNest "DrawerNames" (234 : Nat) ({ cls := "DrawerNames$Tray", name := "valueAt", desc := "(I)J" } : Jvm.MethodName) "DrawerNames"), (Jvm.Cond.methodLinkNest "DrawerNames" (261 : Nat) ({ cls := "DrawerNames$Rows", name := "roundsOf", desc := "(I)I" } : Jvm.MethodName) "DrawerNames"), (Jvm.Cond.methodLinkNest "DrawerNames" (264 : Nat) ({ cls := "DrawerNames$Rows", name := "longestOf", desc := "(I)I" } : Jvm.MethodName) "DrawerNames"), (Jvm.Cond.methodLinkNest "DrawerNames" (267 : Nat) ({ cls := "DrawerNames$Rows", name := "fixedOf", desc := "(I)I" } : Jvm.MethodName) "DrawerNames"), (Jvm.Cond.methodLinkNest "DrawerNames" (270 : Nat) ({ cls := "DrawerNames$Rows", name := "orderOf", desc := "(I)I" } : Jvm.MethodName) "DrawerNames"), (Jvm.Cond.methodLinkNest "DrawerNames" (273 : Nat) ({ cls := "DrawerNames$Rows", name := "inversionsOf", desc := "(I)I" } : Jvm.MethodName) "DrawerNames"), (Jvm.Cond.methodLinkNest "DrawerNames" (276 : Nat) ({ cls := "DrawerNames$Rows", name := "roundBits", desc := "(II)I" } : Jvm.MethodName) "DrawerNames"), (Jvm.Cond.methodLinkNest "DrawerNames" (284 : Nat) ({ cls := "DrawerNames$Rows", name := "isRoot", desc := "(III)Z" } : Jvm.MethodName) "DrawerNames"), (Jvm.Cond.methodLinkNest "DrawerNames" (297 : Nat) ({ cls := "DrawerNames$Ways", name := "measure", desc := "(II)V" } : Jvm.MethodName) "DrawerNames"), (Jvm.Cond.methodLinkNest "DrawerNames$Ways" (30 : Nat) ({ cls := "DrawerNames$Rows", name := "prepareSwaps", desc := "()V" } : Jvm.MethodName) "DrawerNames"), (Jvm.Cond.methodLinkNest "DrawerNames$Ways" (38 : Nat) ({ cls := "DrawerNames$Visits", name := "goalOf", desc := "(I)I" } : Jvm.MethodName) "DrawerNames"), (Jvm.Cond.methodLinkNest "DrawerNames$Ways" (44 : Nat) ({ cls := "DrawerNames$Visits", name := "maskOf", desc := "(II)I" } : Jvm.MethodName) "DrawerNames"), (Jvm.Cond.methodLinkNest "DrawerNames$Ways" (62 : Nat) ({ cls := "DrawerNames$Rows", name := "bySwap", desc := "(II)I" } : Jvm.MethodName) "DrawerNames"), (Jvm.Cond.methodLinkNest "DrawerNames" (301 : Nat) ({ cls := "DrawerNames$Ways", name := "stepsFrom", desc := "(I)I" } : Jvm.MethodName) "DrawerNames"), (Jvm.Cond.methodLinkNest "DrawerNames" (304 : Nat) ({ cls := "DrawerNames$Ways", name := "pairFrom", desc := "(I)I" } : Jvm.MethodName) "DrawerNames"), (Jvm.Cond.methodLinkNest "DrawerNames" (307 : Nat) ({ cls := "DrawerNames$Rows", name := "bySwap", desc := "(II)I" } : Jvm.MethodName) "DrawerNames"), (Jvm.Cond.methodLinkNest "DrawerNames" (310 : Nat) ({ cls := "DrawerNames$Rows", name := "codeOf", desc := "(I)I" } : Jvm.MethodName) "DrawerNames"), (Jvm.Cond.methodLinkNest "DrawerNames" (315 : Nat) ({ cls := "DrawerNames$Spread", name := "begin", desc := "(I)V" } : Jvm.MethodName) "DrawerNames"), (Jvm.Cond.methodLinkNest "DrawerNames$Spread" (22 : Nat) ({ cls := "DrawerNames$Rows", name := "prepareSwaps", desc := "()V" } : Jvm.MethodName) "DrawerNames"), (Jvm.Cond.methodLinkNest "DrawerNames" (318 : Nat) ({ cls := "DrawerNames$Spread", name := "bySwaps", desc := "()V" } : Jvm.MethodName) "DrawerNames"), (Jvm.Cond.methodLinkNest "DrawerNames$Spread" (44 : Nat) ({ cls := "DrawerNames$Rows", name := "bySwap", desc := "(II)I" } : Jvm.MethodName) "DrawerNames"), (Jvm.Cond.methodLinkNest "DrawerNames" (324 : Nat) ({ cls := "DrawerNames$Visits", name := "goalOf", desc := "(I)I" } : Jvm.MethodName) "DrawerNames"), (Jvm.Cond.methodLinkNest "DrawerNames" (327 : Nat) ({ cls := "DrawerNames$Spread", name := "weightAt", desc := "(I)J" } : Jvm.MethodName) "DrawerNames"), (Jvm.Cond.methodLinkNest "DrawerNames" (377 : Nat) ({ cls := "DrawerNames$Rows", name := "prepareSwaps", desc := "()V" } : Jvm.MethodName) "DrawerNames"), (Jvm.Cond.methodLinkNest "DrawerNames" (390 : Nat) ({ cls := "DrawerNames$Spread", name := "byLots", desc := "()V" } : Jvm.MethodName) "DrawerNames"), (Jvm.Cond.methodLinkNest "DrawerNames$Spread" (62 : Nat) ({ cls := "DrawerNames$Rows", name := "codeOf", desc := "(I)I" } : Jvm.MethodName) "DrawerNames"), (Jvm.Cond.methodLinkNest "DrawerNames" (399 : Nat) ({ cls := "DrawerNames$Tray", name := "empty", desc := "(II)V" } : Jvm.MethodName) "DrawerNames"), (Jvm.Cond.methodLinkNest "DrawerNames" (406 : Nat) ({ cls := "DrawerNames$Tray", name := "put", desc := "(IJ)J" } : Jvm.MethodName) "DrawerNames")]
theorem nw0 : (Jvm.Cond.methodLinkNest "DrawerNames" (19 : Nat) ({ cls := "DrawerNames$Reader", name := "<init>", desc := "()V" } : Jvm.MethodName) "DrawerNames") ∈ lw_tbl := wt1 _ (List.mem_of_getElem? (i := 33) rfl)
theorem nw1 : (Jvm.Cond.methodLinkNest "DrawerNames$Reader" (39 : Nat) ({ cls := "DrawerNames$Draft", name := "<init>", desc := "()V" } : Jvm.MethodName) "DrawerNames") ∈ lw_tbl := wt1 _ (List.mem_of_getElem? (i := 39) rfl)
theorem nw2 : (Jvm.Cond.fieldLinkNest "DrawerNames" (122 : Nat) "DrawerNames$Reader" "fault" "I" "DrawerNames") ∈ lw_tbl := wt1 _ (List.mem_of_getElem? (i := 59) rfl)
theorem nw3 : (Jvm.Cond.fieldLinkNest "DrawerNames" (150 : Nat) "DrawerNames$Reader" "place" "I" "DrawerNames") ∈ lw_tbl := wt1 _ (List.mem_of_getElem? (i := 61) rfl)
theorem nw4 : (Jvm.Cond.fieldLinkNest "DrawerNames$Desk" (7 : Nat) "DrawerNames$Reader" "drawers" "I" "DrawerNames") ∈ lw_tbl := wt1 _ (List.mem_of_getElem? (i := 62) rfl)
theorem nw5 : (Jvm.Cond.fieldLinkNest "DrawerNames$Desk" (16 : Nat) "DrawerNames$Reader" "opens" "I" "DrawerNames") ∈ lw_tbl := wt1 _ (List.mem_of_getElem? (i := 64) rfl)
theorem nw6 : (Jvm.Cond.fieldLinkNest "DrawerNames$Desk" (20 : Nat) "DrawerNames$Reader" "clue" "I" "DrawerNames") ∈ lw_tbl := wt1 _ (List.mem_of_getElem? (i := 66) rfl)
theorem nw7 : (Jvm.Cond.fieldLinkNest "DrawerNames$Desk" (45 : Nat) "DrawerNames$Reader" "lines" "I" "DrawerNames") ∈ lw_tbl := wt1 _ (List.mem_of_getElem? (i := 69) rfl)
theorem nw8 : (Jvm.Cond.fieldLinkNest "DrawerNames$Desk" (26 : Nat) "DrawerNames$Reader" "names" "[I" "DrawerNames") ∈ lw_tbl := wt1 _ (List.mem_of_getElem? (i := 70) rfl)
theorem nw9 : (Jvm.Cond.fieldLinkNest "DrawerNames$Desk" (39 : Nat) "DrawerNames$Reader" "goes" "[I" "DrawerNames") ∈ lw_tbl := wt1 _ (List.mem_of_getElem? (i := 72) rfl)
theorem nw10 : (Jvm.Cond.fieldLinkNest "DrawerNames$Desk" (49 : Nat) "DrawerNames$Reader" "next" "LDrawerNames$Draft;" "DrawerNames") ∈ lw_tbl := wt1 _ (List.mem_of_getElem? (i := 75) rfl)
theorem nw11 : (Jvm.Cond.fieldLinkNest "DrawerNames$Desk" (62 : Nat) "DrawerNames$Reader" "stops" "LDrawerNames$Draft;" "DrawerNames") ∈ lw_tbl := wt1 _ (List.mem_of_getElem? (i := 77) rfl)
theorem nw12 : (Jvm.Cond.methodLinkNest "DrawerNames" (26 : Nat) ({ cls := "DrawerNames$State", name := "<init>", desc := "()V" } : Jvm.MethodName) "DrawerNames") ∈ lw_tbl := wt1 _ (List.mem_of_getElem? (i := 125) rfl)
theorem nw13 : (Jvm.Cond.fieldLinkNest "DrawerNames" (128 : Nat) "DrawerNames$State" "row" "I" "DrawerNames") ∈ lw_tbl := wt1 _ (List.mem_of_getElem? (i := 130) rfl)
theorem nw14 : (Jvm.Cond.fieldLinkNest "DrawerNames" (134 : Nat) "DrawerNames$State" "clue" "I" "DrawerNames") ∈ lw_tbl := wt1 _ (List.mem_of_getElem? (i := 132) rfl)
theorem nw15 : (Jvm.Cond.fieldLinkNest "DrawerNames" (137 : Nat) "DrawerNames$State" "nights" "I" "DrawerNames") ∈ lw_tbl := wt1 _ (List.mem_of_getElem? (i := 134) rfl)
theorem nw16 : (Jvm.Cond.methodLinkNest "DrawerNames" (61 : Nat) ({ cls := "DrawerNames$Rows", name := "<init>", desc := "()V" } : Jvm.MethodName) "DrawerNames") ∈ lw_tbl := wt1 _ (List.mem_of_getElem? (i := 149) rfl)
theorem nw17 : (Jvm.Cond.fieldLinkNest "DrawerNames$Visits" (63 : Nat) "DrawerNames$Rows" "drawers" "I" "DrawerNames") ∈ lw_tbl := wt1 _ (List.mem_of_getElem? (i := 154) rfl)
theorem nw18 : (Jvm.Cond.fieldLinkNest "DrawerNames$Spread" (59 : Nat) "DrawerNames$Rows" "drawers" "I" "DrawerNames") ∈ lw_tbl := wt1 _ (List.mem_of_getElem? (i := 155) rfl)
theorem nw19 : (Jvm.Cond.fieldLinkNest "DrawerNames$Ways" (35 : Nat) "DrawerNames$Rows" "count" "I" "DrawerNames") ∈ lw_tbl := wt1 _ (List.mem_of_getElem? (i := 157) rfl)
theorem nw20 : (Jvm.Cond.fieldLinkNest "DrawerNames$Spread" (27 : Nat) "DrawerNames$Rows" "count" "I" "DrawerNames") ∈ lw_tbl := wt1 _ (List.mem_of_getElem? (i := 158) rfl)
theorem nw21 : (Jvm.Cond.fieldLinkNest "DrawerNames$Visits" (58 : Nat) "DrawerNames$Rows" "count" "I" "DrawerNames") ∈ lw_tbl := wt1 _ (List.mem_of_getElem? (i := 159) rfl)
theorem nw22 : (Jvm.Cond.fieldLinkNest "DrawerNames" (281 : Nat) "DrawerNames$Rows" "count" "I" "DrawerNames") ∈ lw_tbl := wt1 _ (List.mem_of_getElem? (i := 160) rfl)
theorem nw23 : (Jvm.Cond.fieldLinkNest "DrawerNames$Ways" (59 : Nat) "DrawerNames$Rows" "pairs" "I" "DrawerNames") ∈ lw_tbl := wt1 _ (List.mem_of_getElem? (i := 162) rfl)
theorem nw24 : (Jvm.Cond.fieldLinkNest "DrawerNames$Spread" (41 : Nat) "DrawerNames$Rows" "pairs" "I" "DrawerNames") ∈ lw_tbl := wt1 _ (List.mem_of_getElem? (i := 163) rfl)
theorem nw25 : (Jvm.Cond.fieldLinkNest "DrawerNames" (380 : Nat) "DrawerNames$Rows" "pairs" "I" "DrawerNames") ∈ lw_tbl := wt1 _ (List.mem_of_getElem? (i := 164) rfl)
theorem nw26 : (Jvm.Cond.methodLinkNest "DrawerNames" (68 : Nat) ({ cls := "DrawerNames$Visits", name := "<init>", desc := "(LDrawerNames$Rows;)V" } : Jvm.MethodName) "DrawerNames") ∈ lw_tbl := wt1 _ (List.mem_of_getElem? (i := 189) rfl)
theorem nw27 : (Jvm.Cond.fieldLinkNest "DrawerNames" (172 : Nat) "DrawerNames$Visits" "length" "I" "DrawerNames") ∈ lw_tbl := wt1 _ (List.mem_of_getElem? (i := 202) rfl)
theorem nw28 : (Jvm.Cond.fieldLinkNest "DrawerNames" (175 : Nat) "DrawerNames$Visits" "free" "Z" "DrawerNames") ∈ lw_tbl := wt1 _ (List.mem_of_getElem? (i := 204) rfl)
theorem nw29 : (Jvm.Cond.methodLinkNest "DrawerNames" (77 : Nat) ({ cls := "DrawerNames$Ways", name := "<init>", desc := "(LDrawerNames$Rows;LDrawerNames$Visits;)V" } : Jvm.MethodName) "DrawerNames") ∈ lw_tbl := wt1 _ (List.mem_of_getElem? (i := 229) rfl)
theorem nw30 : (Jvm.Cond.methodLinkNest "DrawerNames" (86 : Nat) ({ cls := "DrawerNames$Spread", name := "<init>", desc := "(LDrawerNames$Rows;)V" } : Jvm.MethodName) "DrawerNames") ∈ lw_tbl := wt2 _ (List.mem_of_getElem? (i := 11) rfl)
theorem nw31 : (Jvm.Cond.methodLinkNest "DrawerNames" (99 : Nat) ({ cls := "DrawerNames$Tray", name := "<init>", desc := "()V" } : Jvm.MethodName) "DrawerNames") ∈ lw_tbl := wt2 _ (List.mem_of_getElem? (i := 27) rfl)
theorem nw32 : (Jvm.Cond.fieldLinkNest "DrawerNames" (231 : Nat) "DrawerNames$Tray" "size" "I" "DrawerNames") ∈ lw_tbl := wt2 _ (List.mem_of_getElem? (i := 33) rfl)
theorem nw33 : (Jvm.Cond.methodLinkNest "DrawerNames" (100 : Nat) ({ cls := "DrawerNames$Picture", name := "<init>", desc := "()V" } : Jvm.MethodName) "DrawerNames") ∈ lw_tbl := wt2 _ (List.mem_of_getElem? (i := 43) rfl)
theorem nw34 : (Jvm.Cond.methodLinkNest "DrawerNames$Picture" (15 : Nat) ({ cls := "DrawerNames$State", name := "<init>", desc := "()V" } : Jvm.MethodName) "DrawerNames") ∈ lw_tbl := wt2 _ (List.mem_of_getElem? (i := 48) rfl)
theorem nw35 : (Jvm.Cond.fieldLinkNest "DrawerNames" (413 : Nat) "DrawerNames$Picture" "table" "LDrawerNames$Desk;" "DrawerNames") ∈ lw_tbl := wt2 _ (List.mem_of_getElem? (i := 50) rfl)
theorem nw36 : (Jvm.Cond.fieldLinkNest "DrawerNames" (414 : Nat) "DrawerNames$Picture" "state" "LDrawerNames$State;" "DrawerNames") ∈ lw_tbl := wt2 _ (List.mem_of_getElem? (i := 52) rfl)
theorem nw37 : (Jvm.Cond.methodLinkNest "DrawerNames" (103 : Nat) ({ cls := "DrawerNames$Desk", name := "<init>", desc := "(LDrawerNames$Reader;)V" } : Jvm.MethodName) "DrawerNames") ∈ lw_tbl := wt2 _ (List.mem_of_getElem? (i := 60) rfl)
theorem nw38 : (Jvm.Cond.methodLinkNest "DrawerNames$Desk" (30 : Nat) ({ cls := "DrawerNames$Rows", name := "numberOf", desc := "([II)I" } : Jvm.MethodName) "DrawerNames") ∈ lw_tbl := wt2 _ (List.mem_of_getElem? (i := 64) rfl)
theorem nw39 : (Jvm.Cond.methodLinkNest "DrawerNames$Desk" (53 : Nat) ({ cls := "DrawerNames$Draft", name := "asLaw", desc := "()LDrawerNames$Law;" } : Jvm.MethodName) "DrawerNames") ∈ lw_tbl := wt2 _ (List.mem_of_getElem? (i := 67) rfl)
theorem nw40 : (Jvm.Cond.methodLinkNest "DrawerNames$Draft" (43 : Nat) ({ cls := "DrawerNames$Law", name := "<init>", desc := "([II)V" } : Jvm.MethodName) "DrawerNames") ∈ lw_tbl := wt2 _ (List.mem_of_getElem? (i := 89) rfl)
theorem nw41 : (Jvm.Cond.fieldLinkNest "DrawerNames$Visits" (50 : Nat) "DrawerNames$Desk" "drawers" "I" "DrawerNames") ∈ lw_tbl := wt2 _ (List.mem_of_getElem? (i := 104) rfl)
theorem nw42 : (Jvm.Cond.fieldLinkNest "DrawerNames" (143 : Nat) "DrawerNames$Desk" "drawers" "I" "DrawerNames") ∈ lw_tbl := wt2 _ (List.mem_of_getElem? (i := 105) rfl)
theorem nw43 : (Jvm.Cond.fieldLinkNest "DrawerNames$Visits" (55 : Nat) "DrawerNames$Desk" "opens" "I" "DrawerNames") ∈ lw_tbl := wt2 _ (List.mem_of_getElem? (i := 107) rfl)
theorem nw44 : (Jvm.Cond.fieldLinkNest "DrawerNames" (417 : Nat) "DrawerNames$Desk" "opens" "I" "DrawerNames") ∈ lw_tbl := wt2 _ (List.mem_of_getElem? (i := 108) rfl)
theorem nw45 : (Jvm.Cond.fieldLinkNest "DrawerNames" (131 : Nat) "DrawerNames$Desk" "firstClue" "I" "DrawerNames") ∈ lw_tbl := wt2 _ (List.mem_of_getElem? (i := 110) rfl)
theorem nw46 : (Jvm.Cond.fieldLinkNest "DrawerNames" (125 : Nat) "DrawerNames$Desk" "firstRow" "I" "DrawerNames") ∈ lw_tbl := wt2 _ (List.mem_of_getElem? (i := 112) rfl)
theorem nw47 : (Jvm.Cond.fieldLinkNest "DrawerNames" (161 : Nat) "DrawerNames$Desk" "nightRow" "I" "DrawerNames") ∈ lw_tbl := wt2 _ (List.mem_of_getElem? (i := 114) rfl)
theorem nw48 : (Jvm.Cond.fieldLinkNest "DrawerNames" (140 : Nat) "DrawerNames$Desk" "lines" "I" "DrawerNames") ∈ lw_tbl := wt2 _ (List.mem_of_getElem? (i := 116) rfl)
theorem nw49 : (Jvm.Cond.fieldLinkNest "DrawerNames$Visits" (88 : Nat) "DrawerNames$Desk" "next" "LDrawerNames$Law;" "DrawerNames") ∈ lw_tbl := wt2 _ (List.mem_of_getElem? (i := 118) rfl)
theorem nw50 : (Jvm.Cond.fieldLinkNest "DrawerNames$Visits" (80 : Nat) "DrawerNames$Desk" "stops" "LDrawerNames$Law;" "DrawerNames") ∈ lw_tbl := wt2 _ (List.mem_of_getElem? (i := 120) rfl)
theorem nw51 : (Jvm.Cond.methodLinkNest "DrawerNames" (146 : Nat) ({ cls := "DrawerNames$Rows", name := "hold", desc := "(I)V" } : Jvm.MethodName) "DrawerNames") ∈ lw_tbl := wt2 _ (List.mem_of_getElem? (i := 142) rfl)
theorem nw52 : (Jvm.Cond.methodLinkNest "DrawerNames" (149 : Nat) ({ cls := "DrawerNames$Visits", name := "sitAt", desc := "(LDrawerNames$Desk;)V" } : Jvm.MethodName) "DrawerNames") ∈ lw_tbl := wt2 _ (List.mem_of_getElem? (i := 156) rfl)
theorem nw53 : (Jvm.Cond.methodLinkNest "DrawerNames" (118 : Nat) ({ cls := "DrawerNames$Reader", name := "read", desc := "([BI)V" } : Jvm.MethodName) "DrawerNames") ∈ lw_tbl := wt2 _ (List.mem_of_getElem? (i := 227) rfl)
theorem nw54 : (Jvm.Cond.methodLinkNest "DrawerNames$Reader" (101 : Nat) ({ cls := "DrawerNames$Draft", name := "clear", desc := "()V" } : Jvm.MethodName) "DrawerNames") ∈ lw_tbl := wt2 _ (List.mem_of_getElem? (i := 235) rfl)
theorem nw55 : (Jvm.Cond.methodLinkNest "DrawerNames$Reader" (124 : Nat) ({ cls := "DrawerNames$Draft", name := "add", desc := "(I)V" } : Jvm.MethodName) "DrawerNames") ∈ lw_tbl := wt3 _ (List.mem_of_getElem? (i := 167) rfl)
theorem nw56 : (Jvm.Cond.methodLinkNest "DrawerNames" (164 : Nat) ({ cls := "DrawerNames$Rows", name := "nameIn", desc := "(II)I" } : Jvm.MethodName) "DrawerNames") ∈ lw_tbl := wt3 _ (List.mem_of_getElem? (i := 222) rfl)
theorem nw57 : (Jvm.Cond.methodLinkNest "DrawerNames" (168 : Nat) ({ cls := "DrawerNames$Visits", name := "go", desc := "(III)V" } : Jvm.MethodName) "DrawerNames") ∈ lw_tbl := wt3 _ (List.mem_of_getElem? (i := 230) rfl)
theorem nw58 : (Jvm.Cond.methodLinkNest "DrawerNames$Visits" (84 : Nat) ({ cls := "DrawerNames$Law", name := "tell", desc := "([I)I" } : Jvm.MethodName) "DrawerNames") ∈ lw_tbl := wt4 _ (List.mem_of_getElem? (i := 2) rfl)
theorem nw59 : (Jvm.Cond.methodLinkNest "DrawerNames$Visits" (76 : Nat) ({ cls := "DrawerNames$Rows", name := "nameIn", desc := "(II)I" } : Jvm.MethodName) "DrawerNames") ∈ lw_tbl := wt4 _ (List.mem_of_getElem? (i := 20) rfl)
theorem nw60 : (Jvm.Cond.methodLinkNest "DrawerNames" (179 : Nat) ({ cls := "DrawerNames$Visits", name := "openedAt", desc := "(I)I" } : Jvm.MethodName) "DrawerNames") ∈ lw_tbl := wt4 _ (List.mem_of_getElem? (i := 25) rfl)
theorem nw61 : (Jvm.Cond.methodLinkNest "DrawerNames" (183 : Nat) ({ cls := "DrawerNames$Visits", name := "maskOf", desc := "(II)I" } : Jvm.MethodName) "DrawerNames") ∈ lw_tbl := wt4 _ (List.mem_of_getElem? (i := 33) rfl)
theorem nw62 : (Jvm.Cond.methodLinkNest "DrawerNames" (217 : Nat) ({ cls := "DrawerNames$State", name := "become", desc := "(LDrawerNames$State;)V" } : Jvm.MethodName) "DrawerNames") ∈ lw_tbl := wt4 _ (List.mem_of_getElem? (i := 54) rfl)
theorem nw63 : (Jvm.Cond.methodLinkNest "DrawerNames" (198 : Nat) ({ cls := "DrawerNames$Rows", name := "swappedRow", desc := "(III)I" } : Jvm.MethodName) "DrawerNames") ∈ lw_tbl := wt4 _ (List.mem_of_getElem? (i := 58) rfl)
theorem nw64 : (Jvm.Cond.methodLinkNest "DrawerNames" (210 : Nat) ({ cls := "DrawerNames$Rows", name := "powerOf", desc := "(IJ)I" } : Jvm.MethodName) "DrawerNames") ∈ lw_tbl := wt4 _ (List.mem_of_getElem? (i := 82) rfl)
theorem nw65 : (Jvm.Cond.methodLinkNest "DrawerNames" (214 : Nat) ({ cls := "DrawerNames$Rows", name := "movedRow", desc := "(II)I" } : Jvm.MethodName) "DrawerNames") ∈ lw_tbl := wt4 _ (List.mem_of_getElem? (i := 96) rfl)
theorem nw66 : (Jvm.Cond.methodLinkNest "DrawerNames" (223 : Nat) ({ cls := "DrawerNames$Tray", name := "isMissing", desc := "()Z" } : Jvm.MethodName) "DrawerNames") ∈ lw_tbl := wt4 _ (List.mem_of_getElem? (i := 112) rfl)
theorem nw67 : (Jvm.Cond.methodLinkNest "DrawerNames" (234 : Nat) ({ cls := "DrawerNames$Tray", name := "valueAt", desc := "(I)J" } : Jvm.MethodName) "DrawerNames") ∈ lw_tbl := wt4 _ (List.mem_of_getElem? (i := 120) rfl)
theorem nw68 : (Jvm.Cond.methodLinkNest "DrawerNames" (261 : Nat) ({ cls := "DrawerNames$Rows", name := "roundsOf", desc := "(I)I" } : Jvm.MethodName) "DrawerNames") ∈ lw_tbl := wt4 _ (List.mem_of_getElem? (i := 157) rfl)
theorem nw69 : (Jvm.Cond.methodLinkNest "DrawerNames" (264 : Nat) ({ cls := "DrawerNames$Rows", name := "longestOf", desc := "(I)I" } : Jvm.MethodName) "DrawerNames") ∈ lw_tbl := wt4 _ (List.mem_of_getElem? (i := 165) rfl)
theorem nw70 : (Jvm.Cond.methodLinkNest "DrawerNames" (267 : Nat) ({ cls := "DrawerNames$Rows", name := "fixedOf", desc := "(I)I" } : Jvm.MethodName) "DrawerNames") ∈ lw_tbl := wt4 _ (List.mem_of_getElem? (i := 169) rfl)
theorem nw71 : (Jvm.Cond.methodLinkNest "DrawerNames" (270 : Nat) ({ cls := "DrawerNames$Rows", name := "orderOf", desc := "(I)I" } : Jvm.MethodName) "DrawerNames") ∈ lw_tbl := wt4 _ (List.mem_of_getElem? (i := 173) rfl)
theorem nw72 : (Jvm.Cond.methodLinkNest "DrawerNames" (273 : Nat) ({ cls := "DrawerNames$Rows", name := "inversionsOf", desc := "(I)I" } : Jvm.MethodName) "DrawerNames") ∈ lw_tbl := wt4 _ (List.mem_of_getElem? (i := 178) rfl)
theorem nw73 : (Jvm.Cond.methodLinkNest "DrawerNames" (276 : Nat) ({ cls := "DrawerNames$Rows", name := "roundBits", desc := "(II)I" } : Jvm.MethodName) "DrawerNames") ∈ lw_tbl := wt4 _ (List.mem_of_getElem? (i := 186) rfl)
theorem nw74 : (Jvm.Cond.methodLinkNest "DrawerNames" (284 : Nat) ({ cls := "DrawerNames$Rows", name := "isRoot", desc := "(III)Z" } : Jvm.MethodName) "DrawerNames") ∈ lw_tbl := wt4 _ (List.mem_of_getElem? (i := 196) rfl)
theorem nw75 : (Jvm.Cond.methodLinkNest "DrawerNames" (297 : Nat) ({ cls := "DrawerNames$Ways", name := "measure", desc := "(II)V" } : Jvm.MethodName) "DrawerNames") ∈ lw_tbl := wt4 _ (List.mem_of_getElem? (i := 216) rfl)
theorem nw76 : (Jvm.Cond.methodLinkNest "DrawerNames$Ways" (30 : Nat) ({ cls := "DrawerNames$Rows", name := "prepareSwaps", desc := "()V" } : Jvm.MethodName) "DrawerNames") ∈ lw_tbl := wt4 _ (List.mem_of_getElem? (i := 220) rfl)
theorem nw77 : (Jvm.Cond.methodLinkNest "DrawerNames$Ways" (38 : Nat) ({ cls := "DrawerNames$Visits", name := "goalOf", desc := "(I)I" } : Jvm.MethodName) "DrawerNames") ∈ lw_tbl := wt4 _ (List.mem_of_getElem? (i := 229) rfl)
theorem nw78 : (Jvm.Cond.methodLinkNest "DrawerNames$Ways" (44 : Nat) ({ cls := "DrawerNames$Visits", name := "maskOf", desc := "(II)I" } : Jvm.MethodName) "DrawerNames") ∈ lw_tbl := wt4 _ (List.mem_of_getElem? (i := 233) rfl)
theorem nw79 : (Jvm.Cond.methodLinkNest "DrawerNames$Ways" (62 : Nat) ({ cls := "DrawerNames$Rows", name := "bySwap", desc := "(II)I" } : Jvm.MethodName) "DrawerNames") ∈ lw_tbl := wt5 _ (List.mem_of_getElem? (i := 6) rfl)
theorem nw80 : (Jvm.Cond.methodLinkNest "DrawerNames" (301 : Nat) ({ cls := "DrawerNames$Ways", name := "stepsFrom", desc := "(I)I" } : Jvm.MethodName) "DrawerNames") ∈ lw_tbl := wt5 _ (List.mem_of_getElem? (i := 10) rfl)
theorem nw81 : (Jvm.Cond.methodLinkNest "DrawerNames" (304 : Nat) ({ cls := "DrawerNames$Ways", name := "pairFrom", desc := "(I)I" } : Jvm.MethodName) "DrawerNames") ∈ lw_tbl := wt5 _ (List.mem_of_getElem? (i := 15) rfl)
theorem nw82 : (Jvm.Cond.methodLinkNest "DrawerNames" (307 : Nat) ({ cls := "DrawerNames$Rows", name := "bySwap", desc := "(II)I" } : Jvm.MethodName) "DrawerNames") ∈ lw_tbl := wt5 _ (List.mem_of_getElem? (i := 19) rfl)
theorem nw83 : (Jvm.Cond.methodLinkNest "DrawerNames" (310 : Nat) ({ cls := "DrawerNames$Rows", name := "codeOf", desc := "(I)I" } : Jvm.MethodName) "DrawerNames") ∈ lw_tbl := wt5 _ (List.mem_of_getElem? (i := 20) rfl)
theorem nw84 : (Jvm.Cond.methodLinkNest "DrawerNames" (315 : Nat) ({ cls := "DrawerNames$Spread", name := "begin", desc := "(I)V" } : Jvm.MethodName) "DrawerNames") ∈ lw_tbl := wt5 _ (List.mem_of_getElem? (i := 29) rfl)
theorem nw85 : (Jvm.Cond.methodLinkNest "DrawerNames$Spread" (22 : Nat) ({ cls := "DrawerNames$Rows", name := "prepareSwaps", desc := "()V" } : Jvm.MethodName) "DrawerNames") ∈ lw_tbl := wt5 _ (List.mem_of_getElem? (i := 33) rfl)
theorem nw86 : (Jvm.Cond.methodLinkNest "DrawerNames" (318 : Nat) ({ cls := "DrawerNames$Spread", name := "bySwaps", desc := "()V" } : Jvm.MethodName) "DrawerNames") ∈ lw_tbl := wt5 _ (List.mem_of_getElem? (i := 37) rfl)
theorem nw87 : (Jvm.Cond.methodLinkNest "DrawerNames$Spread" (44 : Nat) ({ cls := "DrawerNames$Rows", name := "bySwap", desc := "(II)I" } : Jvm.MethodName) "DrawerNames") ∈ lw_tbl := wt5 _ (List.mem_of_getElem? (i := 45) rfl)
theorem nw88 : (Jvm.Cond.methodLinkNest "DrawerNames" (324 : Nat) ({ cls := "DrawerNames$Visits", name := "goalOf", desc := "(I)I" } : Jvm.MethodName) "DrawerNames") ∈ lw_tbl := wt5 _ (List.mem_of_getElem? (i := 58) rfl)
theorem nw89 : (Jvm.Cond.methodLinkNest "DrawerNames" (327 : Nat) ({ cls := "DrawerNames$Spread", name := "weightAt", desc := "(I)J" } : Jvm.MethodName) "DrawerNames") ∈ lw_tbl := wt5 _ (List.mem_of_getElem? (i := 59) rfl)
theorem nw90 : (Jvm.Cond.methodLinkNest "DrawerNames" (377 : Nat) ({ cls := "DrawerNames$Rows", name := "prepareSwaps", desc := "()V" } : Jvm.MethodName) "DrawerNames") ∈ lw_tbl := wt5 _ (List.mem_of_getElem? (i := 152) rfl)
theorem nw91 : (Jvm.Cond.methodLinkNest "DrawerNames" (390 : Nat) ({ cls := "DrawerNames$Spread", name := "byLots", desc := "()V" } : Jvm.MethodName) "DrawerNames") ∈ lw_tbl := wt5 _ (List.mem_of_getElem? (i := 165) rfl)
theorem nw92 : (Jvm.Cond.methodLinkNest "DrawerNames$Spread" (62 : Nat) ({ cls := "DrawerNames$Rows", name := "codeOf", desc := "(I)I" } : Jvm.MethodName) "DrawerNames") ∈ lw_tbl := wt5 _ (List.mem_of_getElem? (i := 173) rfl)
theorem nw93 : (Jvm.Cond.methodLinkNest "DrawerNames" (399 : Nat) ({ cls := "DrawerNames$Tray", name := "empty", desc := "(II)V" } : Jvm.MethodName) "DrawerNames") ∈ lw_tbl := wt5 _ (List.mem_of_getElem? (i := 194) rfl)
theorem nw94 : (Jvm.Cond.methodLinkNest "DrawerNames" (406 : Nat) ({ cls := "DrawerNames$Tray", name := "put", desc := "(IJ)J" } : Jvm.MethodName) "DrawerNames") ∈ lw_tbl := wt5 _ (List.mem_of_getElem? (i := 205) rfl)
set_option maxRecDepth 20000 in
theorem zNw_in : ∀ w ∈ zNw, w ∈ lw_tbl := List.forall_mem_cons.mpr ⟨nw0, List.forall_mem_cons.mpr ⟨nw1, List.forall_mem_cons.mpr ⟨nw2, List.forall_mem_cons.mpr ⟨nw3, List.forall_mem_cons.mpr ⟨nw4, List.forall_mem_cons.mpr ⟨nw5, List.forall_mem_cons.mpr ⟨nw6, List.forall_mem_cons.mpr ⟨nw7, List.forall_mem_cons.mpr ⟨nw8, List.forall_mem_cons.mpr ⟨nw9, List.forall_mem_cons.mpr ⟨nw10, List.forall_mem_cons.mpr ⟨nw11, List.forall_mem_cons.mpr ⟨nw12, List.forall_mem_cons.mpr ⟨nw13, List.forall_mem_cons.mpr ⟨nw14, List.forall_mem_cons.mpr ⟨nw15, List.forall_mem_cons.mpr ⟨nw16, List.forall_mem_cons.mpr ⟨nw17, List.forall_mem_cons.mpr ⟨nw18, List.forall_mem_cons.mpr ⟨nw19, List.forall_mem_cons.mpr ⟨nw20, List.forall_mem_cons.mpr ⟨nw21, List.forall_mem_cons.mpr ⟨nw22, List.forall_mem_cons.mpr ⟨nw23, List.forall_mem_cons.mpr ⟨nw24, List.forall_mem_cons.mpr ⟨nw25, List.forall_mem_cons.mpr ⟨nw26, List.forall_mem_cons.mpr ⟨nw27, List.forall_mem_cons.mpr ⟨nw28, List.forall_mem_cons.mpr ⟨nw29, List.forall_mem_cons.mpr ⟨nw30, List.forall_mem_cons.mpr ⟨nw31, List.forall_mem_cons.mpr ⟨nw32, List.forall_mem_cons.mpr ⟨nw33, List.forall_mem_cons.mpr ⟨nw34, List.forall_mem_cons.mpr ⟨nw35, List.forall_mem_cons.mpr ⟨nw36, List.forall_mem_cons.mpr ⟨nw37, List.forall_mem_cons.mpr ⟨nw38, List.forall_mem_cons.mpr ⟨nw39, List.forall_mem_cons.mpr ⟨nw40, List.forall_mem_cons.mpr ⟨nw41, List.forall_mem_cons.mpr ⟨nw42, List.forall_mem_cons.mpr ⟨nw43, List.forall_mem_cons.mpr ⟨nw44, List.forall_mem_cons.mpr ⟨nw45, List.forall_mem_cons.mpr ⟨nw46, List.forall_mem_cons.mpr ⟨nw47, List.forall_mem_cons.mpr ⟨nw48, List.forall_mem_cons.mpr ⟨nw49, List.forall_mem_cons.mpr ⟨nw50, List.forall_mem_cons.mpr ⟨nw51, List.forall_mem_cons.mpr ⟨nw52, List.forall_mem_cons.mpr ⟨nw53, List.forall_mem_cons.mpr ⟨nw54, List.forall_mem_cons.mpr ⟨nw55, List.forall_mem_cons.mpr ⟨nw56, List.forall_mem_cons.mpr ⟨nw57, List.forall_mem_cons.mpr ⟨nw58, List.forall_mem_cons.mpr ⟨nw59, List.forall_mem_cons.mpr ⟨nw60, List.forall_mem_cons.mpr ⟨nw61, List.forall_mem_cons.mpr ⟨nw62, List.forall_mem_cons.mpr ⟨nw63, List.forall_mem_cons.mpr ⟨nw64, List.forall_mem_cons.mpr ⟨nw65, List.forall_mem_cons.mpr ⟨nw66, List.forall_mem_cons.mpr ⟨nw67, List.forall_mem_cons.mpr ⟨nw68, List.forall_mem_cons.mpr ⟨nw69, List.forall_mem_cons.mpr ⟨nw70, List.forall_mem_cons.mpr ⟨nw71, List.forall_mem_cons.mpr ⟨nw72, List.forall_mem_cons.mpr ⟨nw73, List.forall_mem_cons.mpr ⟨nw74, List.forall_mem_cons.mpr ⟨nw75, List.forall_mem_cons.mpr ⟨nw76, List.forall_mem_cons.mpr ⟨nw77, List.forall_mem_cons.mpr ⟨nw78, List.forall_mem_cons.mpr ⟨nw79, List.forall_mem_cons.mpr ⟨nw80, List.forall_mem_cons.mpr ⟨nw81, List.forall_mem_cons.mpr ⟨nw82, List.forall_mem_cons.mpr ⟨nw83, List.forall_mem_cons.mpr ⟨nw84, List.forall_mem_cons.mpr ⟨nw85, List.forall_mem_cons.mpr ⟨nw86, List.forall_mem_cons.mpr ⟨nw87, List.forall_mem_cons.mpr ⟨nw88, List.forall_mem_cons.mpr ⟨nw89, List.forall_mem_cons.mpr ⟨nw90, List.forall_mem_cons.mpr ⟨nw91, List.forall_mem_cons.mpr ⟨nw92, List.forall_mem_cons.mpr ⟨nw93, List.forall_mem_cons.mpr ⟨nw94, fun _ h => absurd h List.not_mem_nil⟩⟩⟩⟩⟩⟩⟩⟩⟩⟩⟩⟩⟩⟩⟩⟩⟩⟩⟩⟩⟩⟩⟩⟩⟩⟩⟩⟩⟩⟩⟩⟩⟩⟩⟩⟩⟩⟩⟩⟩⟩⟩⟩⟩⟩⟩⟩⟩⟩⟩⟩⟩⟩⟩⟩⟩⟩⟩⟩⟩⟩⟩⟩⟩⟩⟩⟩⟩⟩⟩⟩⟩⟩⟩⟩⟩⟩⟩⟩⟩⟩⟩⟩⟩⟩⟩⟩⟩⟩⟩⟩⟩⟩⟩⟩
theorem laX0_0 : u_lay RX0 TX0 0 ∈ zTb := zin (wt2 _ (List.mem_of_getElem? (i := 121) rfl)) rfl
theorem laX0_1 : u_lay RX0 TX0 1 ∈ zTb := zin (wt2 _ (List.mem_of_getElem? (i := 123) rfl)) rfl
theorem laX0_2 : u_lay RX0 TX0 2 ∈ zTb := zin (wt2 _ (List.mem_of_getElem? (i := 125) rfl)) rfl
theorem laX0_3 : u_lay RX0 TX0 3 ∈ zTb := zin (wt2 _ (List.mem_of_getElem? (i := 127) rfl)) rfl
theorem laX0_4 : u_lay RX0 TX0 4 ∈ zTb := zin (wt2 _ (List.mem_of_getElem? (i := 129) rfl)) rfl
theorem laX0_5 : u_lay RX0 TX0 5 ∈ zTb := zin (wt2 _ (List.mem_of_getElem? (i := 131) rfl)) rfl
theorem laX0_6 : u_lay RX0 TX0 6 ∈ zTb := zin (wt2 _ (List.mem_of_getElem? (i := 133) rfl)) rfl
theorem laX0_7 : u_lay RX0 TX0 7 ∈ zTb := zin (wt2 _ (List.mem_of_getElem? (i := 135) rfl)) rfl
theorem inX0 : ∀ w ∈ u_ws RX0 TX0 8, w ∈ zTb := by
  intro w hw
  obtain ⟨k, hk, rfl⟩ := List.mem_map.mp hw
  have hk := List.mem_range.mp hk
  match k, hk with
  | 0, _ => exact laX0_0
  | 1, _ => exact laX0_1
  | 2, _ => exact laX0_2
  | 3, _ => exact laX0_3
  | 4, _ => exact laX0_4
  | 5, _ => exact laX0_5
  | 6, _ => exact laX0_6
  | 7, _ => exact laX0_7
  | k + 8, h => exact absurd h (by omega)
theorem laX1_0 : u_lay RX1 TX1 0 ∈ zTb := zin (wt1 _ (List.mem_of_getElem? (i := 47) rfl)) rfl
theorem laX1_1 : u_lay RX1 TX1 1 ∈ zTb := zin (wt1 _ (List.mem_of_getElem? (i := 49) rfl)) rfl
theorem laX1_2 : u_lay RX1 TX1 2 ∈ zTb := zin (wt1 _ (List.mem_of_getElem? (i := 51) rfl)) rfl
theorem laX1_3 : u_lay RX1 TX1 3 ∈ zTb := zin (wt1 _ (List.mem_of_getElem? (i := 53) rfl)) rfl
theorem inX1 : ∀ w ∈ u_ws RX1 TX1 4, w ∈ zTb := by
  intro w hw
  obtain ⟨k, hk, rfl⟩ := List.mem_map.mp hw
  have hk := List.mem_range.mp hk
  match k, hk with
  | 0, _ => exact laX1_0
  | 1, _ => exact laX1_1
  | 2, _ => exact laX1_2
  | 3, _ => exact laX1_3
  | k + 4, h => exact absurd h (by omega)
theorem laX2_0 : u_lay RX2 TX2 0 ∈ zTb := zin (wt2 _ (List.mem_of_getElem? (i := 98) rfl)) rfl
theorem laX2_1 : u_lay RX2 TX2 1 ∈ zTb := zin (wt2 _ (List.mem_of_getElem? (i := 100) rfl)) rfl
theorem inX2 : ∀ w ∈ u_ws RX2 TX2 2, w ∈ zTb := by
  intro w hw
  obtain ⟨k, hk, rfl⟩ := List.mem_map.mp hw
  have hk := List.mem_range.mp hk
  match k, hk with
  | 0, _ => exact laX2_0
  | 1, _ => exact laX2_1
  | k + 2, h => exact absurd h (by omega)
theorem laX3_0 : u_lay RX3 TX3 0 ∈ zTb := zin (wt2 _ (List.mem_of_getElem? (i := 53) rfl)) rfl
theorem laX3_1 : u_lay RX3 TX3 1 ∈ zTb := zin (wt2 _ (List.mem_of_getElem? (i := 55) rfl)) rfl
theorem inX3 : ∀ w ∈ u_ws RX3 TX3 2, w ∈ zTb := by
  intro w hw
  obtain ⟨k, hk, rfl⟩ := List.mem_map.mp hw
  have hk := List.mem_range.mp hk
  match k, hk with
  | 0, _ => exact laX3_0
  | 1, _ => exact laX3_1
  | k + 2, h => exact absurd h (by omega)
theorem laX4_0 : u_lay RX4 TX4 0 ∈ zTb := zin (wt1 _ (List.mem_of_getElem? (i := 86) rfl)) rfl
theorem laX4_1 : u_lay RX4 TX4 1 ∈ zTb := zin (wt1 _ (List.mem_of_getElem? (i := 88) rfl)) rfl
theorem laX4_2 : u_lay RX4 TX4 2 ∈ zTb := zin (wt1 _ (List.mem_of_getElem? (i := 90) rfl)) rfl
theorem laX4_3 : u_lay RX4 TX4 3 ∈ zTb := zin (wt1 _ (List.mem_of_getElem? (i := 92) rfl)) rfl
theorem laX4_4 : u_lay RX4 TX4 4 ∈ zTb := zin (wt1 _ (List.mem_of_getElem? (i := 94) rfl)) rfl
theorem laX4_5 : u_lay RX4 TX4 5 ∈ zTb := zin (wt1 _ (List.mem_of_getElem? (i := 96) rfl)) rfl
theorem laX4_6 : u_lay RX4 TX4 6 ∈ zTb := zin (wt1 _ (List.mem_of_getElem? (i := 98) rfl)) rfl
theorem laX4_7 : u_lay RX4 TX4 7 ∈ zTb := zin (wt1 _ (List.mem_of_getElem? (i := 100) rfl)) rfl
theorem laX4_8 : u_lay RX4 TX4 8 ∈ zTb := zin (wt1 _ (List.mem_of_getElem? (i := 102) rfl)) rfl
theorem laX4_9 : u_lay RX4 TX4 9 ∈ zTb := zin (wt1 _ (List.mem_of_getElem? (i := 104) rfl)) rfl
theorem laX4_10 : u_lay RX4 TX4 10 ∈ zTb := zin (wt1 _ (List.mem_of_getElem? (i := 106) rfl)) rfl
theorem laX4_11 : u_lay RX4 TX4 11 ∈ zTb := zin (wt1 _ (List.mem_of_getElem? (i := 108) rfl)) rfl
theorem laX4_12 : u_lay RX4 TX4 12 ∈ zTb := zin (wt1 _ (List.mem_of_getElem? (i := 110) rfl)) rfl
theorem laX4_13 : u_lay RX4 TX4 13 ∈ zTb := zin (wt1 _ (List.mem_of_getElem? (i := 112) rfl)) rfl
theorem laX4_14 : u_lay RX4 TX4 14 ∈ zTb := zin (wt1 _ (List.mem_of_getElem? (i := 114) rfl)) rfl
theorem laX4_15 : u_lay RX4 TX4 15 ∈ zTb := zin (wt1 _ (List.mem_of_getElem? (i := 116) rfl)) rfl
theorem laX4_16 : u_lay RX4 TX4 16 ∈ zTb := zin (wt1 _ (List.mem_of_getElem? (i := 118) rfl)) rfl
theorem laX4_17 : u_lay RX4 TX4 17 ∈ zTb := zin (wt1 _ (List.mem_of_getElem? (i := 120) rfl)) rfl
theorem inX4 : ∀ w ∈ u_ws RX4 TX4 18, w ∈ zTb := by
  intro w hw
  obtain ⟨k, hk, rfl⟩ := List.mem_map.mp hw
  have hk := List.mem_range.mp hk
  match k, hk with
  | 0, _ => exact laX4_0
  | 1, _ => exact laX4_1
  | 2, _ => exact laX4_2
  | 3, _ => exact laX4_3
  | 4, _ => exact laX4_4
  | 5, _ => exact laX4_5
  | 6, _ => exact laX4_6
  | 7, _ => exact laX4_7
  | 8, _ => exact laX4_8
  | 9, _ => exact laX4_9
  | 10, _ => exact laX4_10
  | 11, _ => exact laX4_11
  | 12, _ => exact laX4_12
  | 13, _ => exact laX4_13
  | 14, _ => exact laX4_14
  | 15, _ => exact laX4_15
  | 16, _ => exact laX4_16
  | 17, _ => exact laX4_17
  | k + 18, h => exact absurd h (by omega)
theorem laX5_0 : u_lay RX5 TX5 0 ∈ zTb := zin (wt1 _ (List.mem_of_getElem? (i := 170) rfl)) rfl
theorem laX5_1 : u_lay RX5 TX5 1 ∈ zTb := zin (wt1 _ (List.mem_of_getElem? (i := 172) rfl)) rfl
theorem laX5_2 : u_lay RX5 TX5 2 ∈ zTb := zin (wt1 _ (List.mem_of_getElem? (i := 174) rfl)) rfl
theorem laX5_3 : u_lay RX5 TX5 3 ∈ zTb := zin (wt1 _ (List.mem_of_getElem? (i := 176) rfl)) rfl
theorem laX5_4 : u_lay RX5 TX5 4 ∈ zTb := zin (wt1 _ (List.mem_of_getElem? (i := 178) rfl)) rfl
theorem laX5_5 : u_lay RX5 TX5 5 ∈ zTb := zin (wt1 _ (List.mem_of_getElem? (i := 180) rfl)) rfl
theorem laX5_6 : u_lay RX5 TX5 6 ∈ zTb := zin (wt1 _ (List.mem_of_getElem? (i := 182) rfl)) rfl
theorem laX5_7 : u_lay RX5 TX5 7 ∈ zTb := zin (wt1 _ (List.mem_of_getElem? (i := 184) rfl)) rfl
theorem inX5 : ∀ w ∈ u_ws RX5 TX5 8, w ∈ zTb := by
  intro w hw
  obtain ⟨k, hk, rfl⟩ := List.mem_map.mp hw
  have hk := List.mem_range.mp hk
  match k, hk with
  | 0, _ => exact laX5_0
  | 1, _ => exact laX5_1
  | 2, _ => exact laX5_2
  | 3, _ => exact laX5_3
  | 4, _ => exact laX5_4
  | 5, _ => exact laX5_5
  | 6, _ => exact laX5_6
  | 7, _ => exact laX5_7
  | k + 8, h => exact absurd h (by omega)
theorem laX6_0 : u_lay RX6 TX6 0 ∈ zTb := zin (wt2 _ (List.mem_of_getElem? (i := 18) rfl)) rfl
theorem laX6_1 : u_lay RX6 TX6 1 ∈ zTb := zin (wt2 _ (List.mem_of_getElem? (i := 20) rfl)) rfl
theorem laX6_2 : u_lay RX6 TX6 2 ∈ zTb := zin (wt2 _ (List.mem_of_getElem? (i := 22) rfl)) rfl
theorem inX6 : ∀ w ∈ u_ws RX6 TX6 3, w ∈ zTb := by
  intro w hw
  obtain ⟨k, hk, rfl⟩ := List.mem_map.mp hw
  have hk := List.mem_range.mp hk
  match k, hk with
  | 0, _ => exact laX6_0
  | 1, _ => exact laX6_1
  | 2, _ => exact laX6_2
  | k + 3, h => exact absurd h (by omega)
theorem laX7_0 : u_lay RX7 TX7 0 ∈ zTb := zin (wt1 _ (List.mem_of_getElem? (i := 135) rfl)) rfl
theorem laX7_1 : u_lay RX7 TX7 1 ∈ zTb := zin (wt1 _ (List.mem_of_getElem? (i := 137) rfl)) rfl
theorem laX7_2 : u_lay RX7 TX7 2 ∈ zTb := zin (wt1 _ (List.mem_of_getElem? (i := 139) rfl)) rfl
theorem inX7 : ∀ w ∈ u_ws RX7 TX7 3, w ∈ zTb := by
  intro w hw
  obtain ⟨k, hk, rfl⟩ := List.mem_map.mp hw
  have hk := List.mem_range.mp hk
  match k, hk with
  | 0, _ => exact laX7_0
  | 1, _ => exact laX7_1
  | 2, _ => exact laX7_2
  | k + 3, h => exact absurd h (by omega)
theorem laX8_0 : u_lay RX8 TX8 0 ∈ zTb := zin (wt2 _ (List.mem_of_getElem? (i := 35) rfl)) rfl
theorem laX8_1 : u_lay RX8 TX8 1 ∈ zTb := zin (wt2 _ (List.mem_of_getElem? (i := 37) rfl)) rfl
theorem laX8_2 : u_lay RX8 TX8 2 ∈ zTb := zin (wt2 _ (List.mem_of_getElem? (i := 39) rfl)) rfl
theorem inX8 : ∀ w ∈ u_ws RX8 TX8 3, w ∈ zTb := by
  intro w hw
  obtain ⟨k, hk, rfl⟩ := List.mem_map.mp hw
  have hk := List.mem_range.mp hk
  match k, hk with
  | 0, _ => exact laX8_0
  | 1, _ => exact laX8_1
  | 2, _ => exact laX8_2
  | k + 3, h => exact absurd h (by omega)
theorem laX9_0 : u_lay RX9 TX9 0 ∈ zTb := zin (wt1 _ (List.mem_of_getElem? (i := 205) rfl)) rfl
theorem laX9_1 : u_lay RX9 TX9 1 ∈ zTb := zin (wt1 _ (List.mem_of_getElem? (i := 207) rfl)) rfl
theorem laX9_2 : u_lay RX9 TX9 2 ∈ zTb := zin (wt1 _ (List.mem_of_getElem? (i := 209) rfl)) rfl
theorem laX9_3 : u_lay RX9 TX9 3 ∈ zTb := zin (wt1 _ (List.mem_of_getElem? (i := 211) rfl)) rfl
theorem laX9_4 : u_lay RX9 TX9 4 ∈ zTb := zin (wt1 _ (List.mem_of_getElem? (i := 213) rfl)) rfl
theorem laX9_5 : u_lay RX9 TX9 5 ∈ zTb := zin (wt1 _ (List.mem_of_getElem? (i := 215) rfl)) rfl
theorem laX9_6 : u_lay RX9 TX9 6 ∈ zTb := zin (wt1 _ (List.mem_of_getElem? (i := 217) rfl)) rfl
theorem laX9_7 : u_lay RX9 TX9 7 ∈ zTb := zin (wt1 _ (List.mem_of_getElem? (i := 219) rfl)) rfl
theorem laX9_8 : u_lay RX9 TX9 8 ∈ zTb := zin (wt1 _ (List.mem_of_getElem? (i := 221) rfl)) rfl
theorem laX9_9 : u_lay RX9 TX9 9 ∈ zTb := zin (wt1 _ (List.mem_of_getElem? (i := 223) rfl)) rfl
theorem inX9 : ∀ w ∈ u_ws RX9 TX9 10, w ∈ zTb := by
  intro w hw
  obtain ⟨k, hk, rfl⟩ := List.mem_map.mp hw
  have hk := List.mem_range.mp hk
  match k, hk with
  | 0, _ => exact laX9_0
  | 1, _ => exact laX9_1
  | 2, _ => exact laX9_2
  | 3, _ => exact laX9_3
  | 4, _ => exact laX9_4
  | 5, _ => exact laX9_5
  | 6, _ => exact laX9_6
  | 7, _ => exact laX9_7
  | 8, _ => exact laX9_8
  | 9, _ => exact laX9_9
  | k + 10, h => exact absurd h (by omega)
theorem laX10_0 : u_lay RX10 TX10 0 ∈ zTb := zin (wt1 _ (List.mem_of_getElem? (i := 238) rfl)) rfl
theorem laX10_1 : u_lay RX10 TX10 1 ∈ zTb := zin (wt2 _ (List.mem_of_getElem? (i := 0) rfl)) rfl
theorem laX10_2 : u_lay RX10 TX10 2 ∈ zTb := zin (wt2 _ (List.mem_of_getElem? (i := 2) rfl)) rfl
theorem laX10_3 : u_lay RX10 TX10 3 ∈ zTb := zin (wt2 _ (List.mem_of_getElem? (i := 4) rfl)) rfl
theorem laX10_4 : u_lay RX10 TX10 4 ∈ zTb := zin (wt2 _ (List.mem_of_getElem? (i := 6) rfl)) rfl
theorem inX10 : ∀ w ∈ u_ws RX10 TX10 5, w ∈ zTb := by
  intro w hw
  obtain ⟨k, hk, rfl⟩ := List.mem_map.mp hw
  have hk := List.mem_range.mp hk
  match k, hk with
  | 0, _ => exact laX10_0
  | 1, _ => exact laX10_1
  | 2, _ => exact laX10_2
  | 3, _ => exact laX10_3
  | 4, _ => exact laX10_4
  | k + 5, h => exact absurd h (by omega)
theorem laX11_0 : u_lay RX11 TX11 0 ∈ zTb := zin (wt2 _ (List.mem_of_getElem? (i := 178) rfl)) rfl
theorem laX11_1 : u_lay RX11 TX11 1 ∈ zTb := zin (wt2 _ (List.mem_of_getElem? (i := 180) rfl)) rfl
theorem laX11_2 : u_lay RX11 TX11 2 ∈ zTb := zin (wt2 _ (List.mem_of_getElem? (i := 182) rfl)) rfl
theorem laX11_3 : u_lay RX11 TX11 3 ∈ zTb := zin (wt2 _ (List.mem_of_getElem? (i := 184) rfl)) rfl
theorem laX11_4 : u_lay RX11 TX11 4 ∈ zTb := zin (wt2 _ (List.mem_of_getElem? (i := 186) rfl)) rfl
theorem laX11_5 : u_lay RX11 TX11 5 ∈ zTb := zin (wt2 _ (List.mem_of_getElem? (i := 188) rfl)) rfl
theorem laX11_6 : u_lay RX11 TX11 6 ∈ zTb := zin (wt2 _ (List.mem_of_getElem? (i := 190) rfl)) rfl
theorem laX11_7 : u_lay RX11 TX11 7 ∈ zTb := zin (wt2 _ (List.mem_of_getElem? (i := 192) rfl)) rfl
theorem laX11_8 : u_lay RX11 TX11 8 ∈ zTb := zin (wt2 _ (List.mem_of_getElem? (i := 194) rfl)) rfl
theorem laX11_9 : u_lay RX11 TX11 9 ∈ zTb := zin (wt2 _ (List.mem_of_getElem? (i := 196) rfl)) rfl
theorem laX11_10 : u_lay RX11 TX11 10 ∈ zTb := zin (wt2 _ (List.mem_of_getElem? (i := 198) rfl)) rfl
theorem laX11_11 : u_lay RX11 TX11 11 ∈ zTb := zin (wt2 _ (List.mem_of_getElem? (i := 200) rfl)) rfl
theorem laX11_12 : u_lay RX11 TX11 12 ∈ zTb := zin (wt2 _ (List.mem_of_getElem? (i := 202) rfl)) rfl
theorem laX11_13 : u_lay RX11 TX11 13 ∈ zTb := zin (wt2 _ (List.mem_of_getElem? (i := 204) rfl)) rfl
theorem laX11_14 : u_lay RX11 TX11 14 ∈ zTb := zin (wt2 _ (List.mem_of_getElem? (i := 206) rfl)) rfl
theorem laX11_15 : u_lay RX11 TX11 15 ∈ zTb := zin (wt2 _ (List.mem_of_getElem? (i := 208) rfl)) rfl
theorem laX11_16 : u_lay RX11 TX11 16 ∈ zTb := zin (wt2 _ (List.mem_of_getElem? (i := 210) rfl)) rfl
theorem laX11_17 : u_lay RX11 TX11 17 ∈ zTb := zin (wt2 _ (List.mem_of_getElem? (i := 212) rfl)) rfl
theorem inX11 : ∀ w ∈ u_ws RX11 TX11 18, w ∈ zTb := by
  intro w hw
  obtain ⟨k, hk, rfl⟩ := List.mem_map.mp hw
  have hk := List.mem_range.mp hk
  match k, hk with
  | 0, _ => exact laX11_0
  | 1, _ => exact laX11_1
  | 2, _ => exact laX11_2
  | 3, _ => exact laX11_3
  | 4, _ => exact laX11_4
  | 5, _ => exact laX11_5
  | 6, _ => exact laX11_6
  | 7, _ => exact laX11_7
  | 8, _ => exact laX11_8
  | 9, _ => exact laX11_9
  | 10, _ => exact laX11_10
  | 11, _ => exact laX11_11
  | 12, _ => exact laX11_12
  | 13, _ => exact laX11_13
  | 14, _ => exact laX11_14
  | 15, _ => exact laX11_15
  | 16, _ => exact laX11_16
  | 17, _ => exact laX11_17
  | k + 18, h => exact absurd h (by omega)
theorem laX12_0 : u_lay RX12 TX12 0 ∈ zTb := zin (wt6 _ (List.mem_of_getElem? (i := 51) rfl)) rfl
theorem laX12_1 : u_lay RX12 TX12 1 ∈ zTb := zin (wt6 _ (List.mem_of_getElem? (i := 53) rfl)) rfl
theorem laX12_2 : u_lay RX12 TX12 2 ∈ zTb := zin (wt6 _ (List.mem_of_getElem? (i := 55) rfl)) rfl
theorem laX12_3 : u_lay RX12 TX12 3 ∈ zTb := zin (wt6 _ (List.mem_of_getElem? (i := 57) rfl)) rfl
theorem laX12_4 : u_lay RX12 TX12 4 ∈ zTb := zin (wt6 _ (List.mem_of_getElem? (i := 59) rfl)) rfl
theorem laX12_5 : u_lay RX12 TX12 5 ∈ zTb := zin (wt6 _ (List.mem_of_getElem? (i := 61) rfl)) rfl
theorem laX12_6 : u_lay RX12 TX12 6 ∈ zTb := zin (wt6 _ (List.mem_of_getElem? (i := 63) rfl)) rfl
theorem laX12_7 : u_lay RX12 TX12 7 ∈ zTb := zin (wt6 _ (List.mem_of_getElem? (i := 65) rfl)) rfl
theorem laX12_8 : u_lay RX12 TX12 8 ∈ zTb := zin (wt6 _ (List.mem_of_getElem? (i := 67) rfl)) rfl
theorem laX12_9 : u_lay RX12 TX12 9 ∈ zTb := zin (wt6 _ (List.mem_of_getElem? (i := 69) rfl)) rfl
theorem laX12_10 : u_lay RX12 TX12 10 ∈ zTb := zin (wt6 _ (List.mem_of_getElem? (i := 71) rfl)) rfl
theorem laX12_11 : u_lay RX12 TX12 11 ∈ zTb := zin (wt6 _ (List.mem_of_getElem? (i := 73) rfl)) rfl
theorem laX12_12 : u_lay RX12 TX12 12 ∈ zTb := zin (wt6 _ (List.mem_of_getElem? (i := 75) rfl)) rfl
theorem laX12_13 : u_lay RX12 TX12 13 ∈ zTb := zin (wt6 _ (List.mem_of_getElem? (i := 77) rfl)) rfl
theorem laX12_14 : u_lay RX12 TX12 14 ∈ zTb := zin (wt6 _ (List.mem_of_getElem? (i := 79) rfl)) rfl
theorem laX12_15 : u_lay RX12 TX12 15 ∈ zTb := zin (wt6 _ (List.mem_of_getElem? (i := 81) rfl)) rfl
theorem laX12_16 : u_lay RX12 TX12 16 ∈ zTb := zin (wt6 _ (List.mem_of_getElem? (i := 83) rfl)) rfl
theorem laX12_17 : u_lay RX12 TX12 17 ∈ zTb := zin (wt6 _ (List.mem_of_getElem? (i := 85) rfl)) rfl
theorem laX12_18 : u_lay RX12 TX12 18 ∈ zTb := zin (wt6 _ (List.mem_of_getElem? (i := 87) rfl)) rfl
theorem laX12_19 : u_lay RX12 TX12 19 ∈ zTb := zin (wt6 _ (List.mem_of_getElem? (i := 89) rfl)) rfl
theorem laX12_20 : u_lay RX12 TX12 20 ∈ zTb := zin (wt6 _ (List.mem_of_getElem? (i := 91) rfl)) rfl
theorem laX12_21 : u_lay RX12 TX12 21 ∈ zTb := zin (wt6 _ (List.mem_of_getElem? (i := 93) rfl)) rfl
theorem laX12_22 : u_lay RX12 TX12 22 ∈ zTb := zin (wt6 _ (List.mem_of_getElem? (i := 95) rfl)) rfl
theorem laX12_23 : u_lay RX12 TX12 23 ∈ zTb := zin (wt6 _ (List.mem_of_getElem? (i := 97) rfl)) rfl
theorem laX12_24 : u_lay RX12 TX12 24 ∈ zTb := zin (wt6 _ (List.mem_of_getElem? (i := 99) rfl)) rfl
theorem laX12_25 : u_lay RX12 TX12 25 ∈ zTb := zin (wt6 _ (List.mem_of_getElem? (i := 101) rfl)) rfl
theorem laX12_26 : u_lay RX12 TX12 26 ∈ zTb := zin (wt6 _ (List.mem_of_getElem? (i := 103) rfl)) rfl
theorem laX12_27 : u_lay RX12 TX12 27 ∈ zTb := zin (wt6 _ (List.mem_of_getElem? (i := 105) rfl)) rfl
theorem laX12_28 : u_lay RX12 TX12 28 ∈ zTb := zin (wt6 _ (List.mem_of_getElem? (i := 107) rfl)) rfl
theorem laX12_29 : u_lay RX12 TX12 29 ∈ zTb := zin (wt6 _ (List.mem_of_getElem? (i := 109) rfl)) rfl
theorem laX12_30 : u_lay RX12 TX12 30 ∈ zTb := zin (wt6 _ (List.mem_of_getElem? (i := 111) rfl)) rfl
theorem laX12_31 : u_lay RX12 TX12 31 ∈ zTb := zin (wt6 _ (List.mem_of_getElem? (i := 113) rfl)) rfl
theorem laX12_32 : u_lay RX12 TX12 32 ∈ zTb := zin (wt6 _ (List.mem_of_getElem? (i := 115) rfl)) rfl
theorem laX12_33 : u_lay RX12 TX12 33 ∈ zTb := zin (wt6 _ (List.mem_of_getElem? (i := 117) rfl)) rfl
theorem laX12_34 : u_lay RX12 TX12 34 ∈ zTb := zin (wt6 _ (List.mem_of_getElem? (i := 119) rfl)) rfl
theorem laX12_35 : u_lay RX12 TX12 35 ∈ zTb := zin (wt6 _ (List.mem_of_getElem? (i := 121) rfl)) rfl
theorem laX12_36 : u_lay RX12 TX12 36 ∈ zTb := zin (wt6 _ (List.mem_of_getElem? (i := 123) rfl)) rfl
theorem laX12_37 : u_lay RX12 TX12 37 ∈ zTb := zin (wt6 _ (List.mem_of_getElem? (i := 125) rfl)) rfl
theorem laX12_38 : u_lay RX12 TX12 38 ∈ zTb := zin (wt6 _ (List.mem_of_getElem? (i := 127) rfl)) rfl
theorem laX12_39 : u_lay RX12 TX12 39 ∈ zTb := zin (wt6 _ (List.mem_of_getElem? (i := 129) rfl)) rfl
theorem laX12_40 : u_lay RX12 TX12 40 ∈ zTb := zin (wt6 _ (List.mem_of_getElem? (i := 131) rfl)) rfl
theorem inX12 : ∀ w ∈ u_ws RX12 TX12 41, w ∈ zTb := by
  intro w hw
  obtain ⟨k, hk, rfl⟩ := List.mem_map.mp hw
  have hk := List.mem_range.mp hk
  match k, hk with
  | 0, _ => exact laX12_0
  | 1, _ => exact laX12_1
  | 2, _ => exact laX12_2
  | 3, _ => exact laX12_3
  | 4, _ => exact laX12_4
  | 5, _ => exact laX12_5
  | 6, _ => exact laX12_6
  | 7, _ => exact laX12_7
  | 8, _ => exact laX12_8
  | 9, _ => exact laX12_9
  | 10, _ => exact laX12_10
  | 11, _ => exact laX12_11
  | 12, _ => exact laX12_12
  | 13, _ => exact laX12_13
  | 14, _ => exact laX12_14
  | 15, _ => exact laX12_15
  | 16, _ => exact laX12_16
  | 17, _ => exact laX12_17
  | 18, _ => exact laX12_18
  | 19, _ => exact laX12_19
  | 20, _ => exact laX12_20
  | 21, _ => exact laX12_21
  | 22, _ => exact laX12_22
  | 23, _ => exact laX12_23
  | 24, _ => exact laX12_24
  | 25, _ => exact laX12_25
  | 26, _ => exact laX12_26
  | 27, _ => exact laX12_27
  | 28, _ => exact laX12_28
  | 29, _ => exact laX12_29
  | 30, _ => exact laX12_30
  | 31, _ => exact laX12_31
  | 32, _ => exact laX12_32
  | 33, _ => exact laX12_33
  | 34, _ => exact laX12_34
  | 35, _ => exact laX12_35
  | 36, _ => exact laX12_36
  | 37, _ => exact laX12_37
  | 38, _ => exact laX12_38
  | 39, _ => exact laX12_39
  | 40, _ => exact laX12_40
  | k + 41, h => exact absurd h (by omega)
