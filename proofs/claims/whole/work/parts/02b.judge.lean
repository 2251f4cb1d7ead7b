/-! what is foreign: statics, the literals, the script; the contexts; the judgement -/
def zFac (k : Nat) : Int32 := [1, 1, 2, 6, 24, 120, 720].getD k 0
def zB0 : List Int32 := [100, 101, 115, 107, 32, 100, 114, 97, 119, 101, 114, 115, 32, 111, 112, 101, 110, 115, 32, 110, 97, 109, 101, 32, 110, 105, 103, 104, 116, 32, 99, 108, 117, 101, 32, 110, 101, 120, 116, 32, 115, 116, 111, 112, 115, 32, 105, 102, 32, 116, 104, 101, 110, 32, 101, 108, 115, 101, 32, 101, 110, 100, 32, 109, 101, 32, 102, 111, 117, 110, 100, 32, 108, 97, 115, 116, 32, 116, 114, 105, 101, 115, 32, 111, 114, 32, 97, 110, 100, 32, 110, 111, 116, 32]
def zB1 : List Int32 := [59, 58, 43, 45, 42, 40, 41, 91, 93, 61, 60, 62]
def zB2 : List Int32 := [32, 100, 101, 115, 107, 32, 100, 114, 97, 119, 101, 114, 115, 32, 111, 112, 101, 110, 115, 32, 110, 97, 109, 101, 32, 110, 105, 103, 104, 116, 32, 99, 108, 117, 101, 32, 110, 101, 120, 116, 32, 115, 116, 111, 112, 115, 32, 105, 102, 32, 116, 104, 101, 110, 32, 101, 108, 115, 101, 32, 101, 110, 100, 32, 109, 101, 32, 102, 111, 117, 110, 100, 32, 108, 97, 115, 116, 32, 116, 114, 105, 101, 115, 32, 97, 110, 100, 32, 111, 114, 32, 110, 111, 116, 32]
def zByt : List (List Int32) := [zB0, zB1, zB2, zB1]
def zStr (g : zG) (A : Nat → Prop) (U : State) (H : Heap) : Prop := ∀ i : Nat, i < 4 → va_O "java/lang/String" (g.2.2.2.1 (10 + i)) A U H ∧ va_OF "java/lang/String" "coder" "B" (.int 0) (g.2.2.2.1 (10 + i)) A U H ∧ va_OF "java/lang/String" "value" "[B" (.ref (g.2.2.2.1 (20 + i))) (g.2.2.2.1 (10 + i)) A U H ∧ va_T .byte (g.2.2.2.1 (20 + i)) (zByt.getD i []).length (fun j => .int ((zByt.getD i []).getD j 0)) A U H
def zFor (g : zG) (A : Nat → Prop) (U : State) (H : Heap) : Prop :=
  va_Z RX5 "FACTORIALS" "[I" (.ref (g.2.2.2.1 0)) A U H ∧ va_T .int (g.2.2.2.1 0) 7 (fun k => .int (zFac k)) A U H ∧
  va_T .int (g.2.2.2.1 1) g.2.2.2.2.1 (fun j => .int (g.2.2.2.2.2 j)) A U H ∧ zStr g A U H ∧
  va_Z "java/lang/String" "COMPACT_STRINGS" "Z" (.int 1) A U H ∧
  (va_Z "jdk/internal/util/Preconditions" "SIOOBE_FORMATTER" "Ljava/util/function/BiFunction;" .null A U H ∨ va_Z "jdk/internal/util/Preconditions" "SIOOBE_FORMATTER" "Ljava/util/function/BiFunction;" (.ref (g.2.2.2.1 2)) A U H)
theorem zFor.moved {g : zG} {A : Nat → Prop} {u U : State} {H : Heap} (hvm : u.vm.Alike U.vm) (h : zFor g A u H) : zFor g A U H := by
  obtain ⟨h1, h2, h3, h4, h5, h6⟩ := h
  exact ⟨va_Z.moved hvm h1, va_T.moved hvm h2, va_T.moved hvm h3, fun i hi => ⟨va_O.moved hvm (h4 i hi).1, va_OF.moved hvm (h4 i hi).2.1, va_OF.moved hvm (h4 i hi).2.2.1, va_T.moved hvm (h4 i hi).2.2.2⟩, va_Z.moved hvm h5, h6.imp (va_Z.moved hvm) (va_Z.moved hvm)⟩
theorem zFor.kept {g : zG} {A : Nat → Prop} {U : State} {H H1 : Heap} (h : zFor g A U H) (hq : ∀ a : Nat, a < H.size → ¬ A a → H1[a]? = H[a]?) : zFor g A U H1 := by
  obtain ⟨h1, h2, h3, h4, h5, h6⟩ := h
  exact ⟨h1.kept hq, h2.kept hq, h3.kept hq, fun i hi => ⟨(h4 i hi).1.kept hq, (h4 i hi).2.1.kept hq, (h4 i hi).2.2.1.kept hq, (h4 i hi).2.2.2.kept hq⟩, h5.kept hq, h6.imp (fun z => z.kept hq) (fun z => z.kept hq)⟩
theorem zFor.narrow {g : zG} {A B : Nat → Prop} {U : State} {H : Heap} (h : zFor g A U H) (hAB : ∀ q, B q → A q) : zFor g B U H := by
  obtain ⟨h1, h2, h3, h4, h5, h6⟩ := h
  exact ⟨h1.narrow hAB, h2.narrow hAB, h3.narrow hAB, fun i hi => ⟨(h4 i hi).1.narrow hAB, (h4 i hi).2.1.narrow hAB, (h4 i hi).2.2.1.narrow hAB, (h4 i hi).2.2.2.narrow hAB⟩, h5.narrow hAB, h6.imp (fun z => z.narrow hAB) (fun z => z.narrow hAB)⟩
/-- the literals, by class and place in its pool -/
def zLit (g : zG) (U : State) : Prop := vk_R RX4 173 "desk drawers opens name night clue next stops if then else end me found last tries or and not " (g.2.2.2.1 10) U ∧ vk_R RX4 165 ";:+-*()[]=<>" (g.2.2.2.1 11) U ∧ vk_R RX12 101 " desk drawers opens name night clue next stops if then else end me found last tries and or not " (g.2.2.2.1 12) U ∧ vk_R RX12 139 ";:+-*()[]=<>" (g.2.2.2.1 13) U
/-- what holds of a state by its tables alone -/
def zTab (g : zG) (U : State) : Prop := (∀ w ∈ zNw, va_Nw w U) ∧ va_K g.2.1 vwCl (z_tys g) U ∧ va_AO RX7 U ∧ va_AO RX8 U ∧ va_AO RX3 U ∧ zLit g U
theorem nest_on : ∀ w ∈ zNw, w.onTables = true := by decide +kernel
theorem zTab.warm {g : zG} {s U : State} (hW : s.WarmedH U.vm) (h : zTab g s) : zTab g U := by
  obtain ⟨h1, h2, h3, h4, h5, h6, h7, h8, h9⟩ := h
  refine ⟨fun w hw => ?_, va_K.moved hW.alike h2, va_AO.moved hW.alike h3, va_AO.moved hW.alike h4, va_AO.moved hW.alike h5, h6.warm hW, h7.warm hW, h8.warm hW, h9.warm hW⟩
  have hn := h1 w hw
  have hk : (∃ a i b n d h, w = .fieldLinkNest a i b n d h) ∨ ∃ a i x h, w = .methodLinkNest a i x h := by
    have hb : zNw.all (fun w => match w with | .fieldLinkNest .. => true | .methodLinkNest .. => true | _ => false) = true := by decide +kernel
    have := List.all_eq_true.mp hb w hw
    cases w <;> first | exact Or.inl ⟨_, _, _, _, _, _, rfl⟩ | exact Or.inr ⟨_, _, _, _, rfl⟩ | cases this
  rcases hk with ⟨a, i, b, n, d, h, rfl⟩ | ⟨a, i, x, h, rfl⟩
  · exact va_Nw.warmF hW hn
  · exact va_Nw.warmM hW hn
theorem zTab.same {g : zG} {u U : State} (hv : U.vm = u.vm) (h : zTab g u) : zTab g U := by
  obtain ⟨h1, h2, h3, h4, h5, h6, h7, h8, h9⟩ := h
  have ha : u.vm.Alike U.vm := by rw [hv]; exact Vm.Alike.refl _
  exact ⟨fun w hw => (h1 w hw).same (nest_on w hw) hv.symm, va_K.moved ha h2, va_AO.moved ha h3, va_AO.moved ha h4, va_AO.moved ha h5, h6.same hv, h7.same hv, h8.same hv, h9.same hv⟩
/-- a frame's fixed context -/
def zOk (g : zG) (m : zMe) (p : Program) (s : State) (mid : MethodId) (args : Array Value) (meth : Method) (c : Code) (A : Nat → Prop) : Prop :=
  p.tables.exec = Jvm.exec ∧ c.code = m.2.1 ∧ c.maxLocals = m.2.2.1 ∧ s.vm.findClass m.1.cls = some mid.cls ∧ (∀ w ∈ zTb, w.before args s = true) ∧ zTab g s ∧ zFor g A s s.heap ∧ (∀ q : Nat, s.heap.size ≤ q → A q) ∧ meth.sig.returnType = m.2.2.2 ∧ meth.locks = false ∧ meth.name = m.1.name
/-- its world now -/
def zAt (g : zG) (A : Nat → Prop) (s : State) (ad : Nat → Nat) (h : zH) (H : Heap) (locs : List Loc) : Prop :=
  z_wh h ∧ va_P g.2.1 vwCl (z_w g ad h) H ∧ va_D A (z_w g ad h) ∧ va_S A s.heap H locs
def zLs (g : zG) (ad : Nat → Nat) (nL n : Nat) (ls : zL) (lsC : Array Slot) : Prop :=
  lv_has lsC nL [] ∧ (∀ (i : Nat) (v : Value), ls[i]? = some (some v) → lsC[i]? = some (.val (z_v g ad v)) ∧ z_wv n v) ∧ ls.length ≤ nL
/-- a return stands at pc, and fits the method's type -/
def zRt (m : zMe) (pc : Nat) (v : Option Value) : Prop := match v with
  | none => decode m.2.1 pc = .ok (.return_, 1) ∧ m.2.2.2 = none
  | some (.int x) => decode m.2.1 pc = .ok (.ireturn, 1) ∧ ∃ ty, m.2.2.2 = some ty ∧ narrow ty (.int x) = .int x
  | some (.long _) => decode m.2.1 pc = .ok (.lreturn, 1) ∧ m.2.2.2 = some .long
  | some (.ref _) => decode m.2.1 pc = .ok (.areturn, 1) ∧ ∃ ty, m.2.2.2 = some ty ∧ ((∃ n, ty = .object n) ∨ ∃ t, ty = .array t)
  | some .null => decode m.2.1 pc = .ok (.areturn, 1) ∧ ∃ ty, m.2.2.2 = some ty ∧ ((∃ n, ty = .object n) ∨ ∃ t, ty = .array t)
  | _ => False
/-- what waits behind the frame -/
def zKo (g : zG) (m : zMe) (p : Program) (e : Env) (R : Room) (s : State) (mid : MethodId) (args : Array Value) (below : List Frame) (meth : Method) (c : Code) (mc ms : Nat) (Z : State → Prop) (A : Nat → Prop) (ad : Nat → Nat) (n : Nat) (Q : Option Value → zH → Prop) : Prop :=
  ∀ (v : Option Value) (h' : zH) (ad' : Nat → Nat) (H' : Heap) (locs' : List Loc) (cells' slots' pc' : Nat) (ls' : Array Slot),
    Q v h' → zAt g A s ad' h' H' locs' → (∀ w, v = some w → z_wv h'.length w) → n ≤ h'.length → (∀ i, i < n → ad' i = ad i) → zRt m pc' v → cells' ≤ mc → slots' ≤ ms →
    W p g.1 e R s mid args below meth c H' locs' cells' slots' Z (F0 mid pc' ls' (v.toList.map (z_v g ad')))
theorem zKo.mono {g : zG} {m : zMe} {p : Program} {e : Env} {R : Room} {s : State} {mid : MethodId} {args : Array Value} {below : List Frame} {meth : Method} {c : Code} {mc ms : Nat} {Z : State → Prop} {A : Nat → Prop} {ad ad1 : Nat → Nat} {n n1 : Nat} {Q : Option Value → zH → Prop}
    (h : zKo g m p e R s mid args below meth c mc ms Z A ad n Q) (hn : n ≤ n1) (ha : ∀ i, i < n → ad1 i = ad i) : zKo g m p e R s mid args below meth c mc ms Z A ad1 n1 Q :=
  fun v h' ad' H' locs' cells' slots' pc' ls' q1 q2 q3 q4 q5 q6 q7 q8 => h v h' ad' H' locs' cells' slots' pc' ls' q1 q2 q3 (Nat.le_trans hn q4) (fun i hi => (q5 i (Nat.lt_of_lt_of_le hi hn)).trans (ha i hi)) q6 q7 q8
/-- the judgement: from pc, with these locals, this stack and these cells, depth d and room κ, σ: the frame returns, with Q of the answer and the cells -/
def Zw (g : zG) (d κ σ : Nat) (m : zMe) (pc : Nat) (ls : zL) (st : List Value) (h : zH) (Q : Option Value → zH → Prop) : Prop :=
  ∀ (p : Program) (e : Env) (R : Room) (s : State) (mid : MethodId) (args : Array Value) (below : List Frame) (meth : Method) (c : Code) (H : Heap) (locs : List Loc) (cells slots mc ms : Nat) (Z : State → Prop) (A : Nat → Prop) (ad : Nat → Nat) (lsC : Array Slot),
    zOk g m p s mid args meth c A → zAt g A s ad h H locs → zLs g ad m.2.2.1 h.length ls lsC → (∀ v ∈ st, z_wv h.length v) →
    d ≤ R.frames → 64 * d ≤ R.locals → cells + κ ≤ mc → slots + σ ≤ ms → mc ≤ R.cells → ms ≤ R.slots → zKo g m p e R s mid args below meth c mc ms Z A ad h.length Q →
    W p g.1 e R s mid args below meth c H locs cells slots Z (F0 mid pc lsC (st.map (z_v g ad)))
