/-! the entry's words -/
section ZEn
variable {s : State} {args : Array Value}
theorem e_tb (hts : ∀ w ∈ lw_tbl, w.before args s = true) : ∀ w ∈ zTb, w.before args s = true := fun w hw => hts w (List.mem_filter.mp hw).1
theorem e_kn {C : String} {T : u_T} {N n : Nat} (hts : ∀ w ∈ lw_tbl, w.before args s = true) (hin : ∀ w ∈ u_ws C T N, w ∈ zTb) (hi : Cond.instantiable C n ∈ zTb) : ∃ (cC : ClassId) (iS : Nat → Nat), u_Kn s C T N cC iS := u_known (e_tb hts) hin (e_tb hts _ hi)
end ZEn

