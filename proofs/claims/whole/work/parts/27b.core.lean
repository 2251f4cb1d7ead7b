/-! the law's frame: the walk out of the judgement -/
theorem law_core {p : Program} {e : Env} {s : State} {m : MethodId} {below : List Frame} {meth : Method} {c : Code} {g : zG} {b : Nat} (hb : g.2.2.2.1 1 = b) (hL : g.2.2.2.2.1 ≤ 3072) (O : zOk g mL_law p s m #[Value.ref b] meth c (fun q => s.heap.size ≤ q)) : W p g.1 e room_1 s m #[Value.ref b] below meth c s.heap [] 0 0 (lw_Z below #[Value.ref b] s) (entryFrame m ([Value.ref b] : List Value).toArray 4) := by
  subst hb
  have hls := z_ent_ls (g := g) (ad := fun i => i) (n := 4) (N := 0) (as := [.retAddr 1]) (Nat.le_of_ble_eq_true rfl) (fun v hv => by rw [List.mem_singleton.mp hv]; exact z_wf)
  refine z_law (g := g) (d := 0) (by omega) p e room_1 s m _ below meth c s.heap [] 0 0 600000 7302250 _ (fun q => s.heap.size ≤ q) (fun i => i) _ O ⟨fun i e h => by simp at h, fun k q h => by simp [z_w] at h, ⟨fun i j p q h => by simp [z_w] at h, fun k q h => by simp [z_w] at h⟩, va_S.rf⟩ hls (fun v hv => by cases hv) (by decide) (by decide) (by decide) (by decide) (Nat.le_refl _) (Nat.le_refl _) ?_
  intro v h' ad' H' locs' cells' slots' pc' ls' q1 q2 q3 q4 q5 q6 q7 q8
  have q1 : v = some (.int 1) := q1
  subst q1
  refine va_forget (fun q hq => q2.2.2.2.2.2 q hq) ?_
  refine W.widen (k := 600000) (n := 7302250) q7 q8 ?_
  exact lw_ret O.1 O.2.1 O.2.2.2.2.2.2.2.2.1 O.2.2.2.2.2.2.2.2.2.1 q6.1

