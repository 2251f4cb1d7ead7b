/-! a desk more in the class's world -/
def lwR (b0 : Nat) (c : Option (List Nat)) : Nat := match c with
  | none => 20
  | some _ => b0 + 2
def lwS (b0 : Nat) (c : Option (List Nat)) : List Nat := match c with
  | none => []
  | some _ => [b0 + 2]
section ZAf
variable {h h' l : zH} {n op ng li rt rn rs rmv rmk rkn rks wst wqu wwe wla : Nat} {sw : Int32} {nx sp : Option (List Nat)} {ds : List (Nat × zDk)} {ln : zLn} {av stk : List Nat} {D : zDd} {b0 : Nat} {c : Option (List Nat)} {fs f1 f2 : Nat → Int32} {b : Bool}
theorem LawC.new (hc : ∀ cs, c = some cs → h'[b0]? = some (.inr (2, [.ref (b0 + 1), .ref (b0 + 2)])) ∧ h'[b0 + 1]? = some (inA cs.length fs) ∧ h'[b0 + 2]? = some (inA (hgt cs) (fun _ => 0))) (hk : LwK b c) (hf : lwF c fs) (h83 : 83 ≤ b0) (hav : ∀ cs, c = some cs → b0 + 1 ∉ av) : LawC h' (lwV b0 c) b (lwR b0 c) av c := by
  cases c with
  | none => rfl
  | some cs =>
    obtain ⟨c1, c2, c3⟩ := hc cs rfl
    have db := dft_b (cs := cs)
    refine ⟨b0, b0 + 1, hgt cs, fs, fun _ => 0, rfl, c1, c2, c3, ?_, ?_, ?_, hf cs rfl, hav cs rfl, Nat.le_succ_of_le h83, hk.1, hok_of cs [] b (0, 0) hk.1 rfl ?_⟩
    · have := hk.2; unfold hgt; omega
    · have := hk.2; omega
    · unfold hgt; omega
    · have e : (cs.foldl dfs (0, 0)).2 = (dft cs).2 := rfl
      rw [e]
      unfold hgt
      omega
theorem dk_get {B : Nat} (hB : B = h.length) : (h ++ dkC B D li f1 f2)[B]? = some (deskE D.1 D.2.1 (nI D.2.2.2.2.1) (nI (rnk D.1 D.2.2.1)) (nI (rnk D.1 D.2.2.2.1)) (nI li) (lwV (B + 1) D.2.2.2.2.2.1) (lwV (B + 1 + lwK D.2.2.2.2.2.1) D.2.2.2.2.2.2)) := by
  subst hB
  exact hm_get
theorem dk_g1 {cs : List Nat} (hc : D.2.2.2.2.2.1 = some cs) : (h ++ dkC h.length D li f1 f2)[h.length + 1]? = some (.inr (2, [.ref (h.length + 1 + 1), .ref (h.length + 1 + 2)])) ∧ (h ++ dkC h.length D li f1 f2)[h.length + 1 + 1]? = some (inA cs.length f1) ∧ (h ++ dkC h.length D li f1 f2)[h.length + 1 + 2]? = some (inA (hgt cs) (fun _ => 0)) := by
  unfold dkC
  rw [hc]
  refine ⟨?_, ?_, ?_⟩
  · rw [List.getElem?_append_right (by omega), show h.length + 1 - h.length = 1 by omega]; rfl
  · rw [List.getElem?_append_right (by omega), show h.length + 1 + 1 - h.length = 2 by omega]; rfl
  · rw [List.getElem?_append_right (by omega), show h.length + 1 + 2 - h.length = 3 by omega]; rfl
theorem dk_g2 {cs : List Nat} (hc : D.2.2.2.2.2.2 = some cs) : (h ++ dkC h.length D li f1 f2)[h.length + 1 + lwK D.2.2.2.2.2.1]? = some (.inr (2, [.ref (h.length + 1 + lwK D.2.2.2.2.2.1 + 1), .ref (h.length + 1 + lwK D.2.2.2.2.2.1 + 2)])) ∧ (h ++ dkC h.length D li f1 f2)[h.length + 1 + lwK D.2.2.2.2.2.1 + 1]? = some (inA cs.length f2) ∧ (h ++ dkC h.length D li f1 f2)[h.length + 1 + lwK D.2.2.2.2.2.1 + 2]? = some (inA (hgt cs) (fun _ => 0)) := by
  unfold dkC
  rw [hc]
  cases D.2.2.2.2.2.1 with
  | none =>
    refine ⟨?_, ?_, ?_⟩
    · rw [List.getElem?_append_right (by omega), show h.length + 1 + lwK none - h.length = 1 by show h.length + 1 + 0 - h.length = 1; omega]; rfl
    · rw [List.getElem?_append_right (by omega), show h.length + 1 + lwK none + 1 - h.length = 2 by show h.length + 1 + 0 + 1 - h.length = 2; omega]; rfl
    · rw [List.getElem?_append_right (by omega), show h.length + 1 + lwK none + 2 - h.length = 3 by show h.length + 1 + 0 + 2 - h.length = 3; omega]; rfl
  | some cs' =>
    refine ⟨?_, ?_, ?_⟩
    · rw [List.getElem?_append_right (by omega), show h.length + 1 + lwK (some cs') - h.length = 4 by show h.length + 1 + 3 - h.length = 4; omega]; rfl
    · rw [List.getElem?_append_right (by omega), show h.length + 1 + lwK (some cs') + 1 - h.length = 5 by show h.length + 1 + 3 + 1 - h.length = 5; omega]; rfl
    · rw [List.getElem?_append_right (by omega), show h.length + 1 + lwK (some cs') + 2 - h.length = 6 by show h.length + 1 + 3 + 2 - h.length = 6; omega]; rfl
theorem VC.ext (hV : VC h n rn rs sw rt rmv rmk rkn rks op nx sp) : VC (h ++ l) n rn rs sw rt rmv rmk rkn rks op nx sp := by
  obtain ⟨a1, ⟨fc, fr, nr, li', vn, vs, a2, a3, a4⟩, ⟨len, fr', a5⟩, a6, a7, ⟨lm, fm, lk, fk, kp, b1, b2, b3, b4⟩, ⟨w, a9⟩, ⟨pa, a10⟩, a11, a12, a13, a14, a15⟩ := hV
  obtain ⟨r1, r2, r3, r4, r5, ⟨len', f0, r6, r7⟩, fm', r8⟩ := a1
  exact ⟨⟨r1, r2, r3, r4, he_old r5, ⟨len', f0, he_old r6, r7⟩, fm', he_old r8⟩, ⟨fc, fr, nr, li', vn, vs, he_old a2, a3.keep (fun i e t q => he_old q) (fun i e _ _ _ q => he_old q) (fun H sk q => ⟨sk, he_old q⟩), a4.keep (fun i e t q => he_old q) (fun i e _ _ _ q => he_old q) (fun H sk q => ⟨sk, he_old q⟩)⟩, ⟨len, fr', he_old a5⟩, a6, a7, ⟨lm, fm, lk, fk, kp, he_old b1, he_old b2, he_old b3, b4⟩, ⟨w, he_old a9⟩, ⟨pa, he_old a10⟩, a11, a12, a13, a14, a15⟩
theorem EW.add (W : EW h n op ng li nx sp rt ds ln) (h83 : 83 ≤ h.length) {li' : Nat} (hD : zDok D) (hl : li' < 2 ^ 31) (hr : rnk D.1 D.2.2.2.1 < fct D.1) (hf1 : lwF D.2.2.2.2.2.1 f1) (hf2 : lwF D.2.2.2.2.2.2 f2) : EW (h ++ dkC h.length D li' f1 f2) n op ng li nx sp rt (ds ++ [(h.length, D.1, D.2.1, rnk D.1 D.2.2.2.1, li', D.2.2.2.2.2.1, D.2.2.2.2.2.2)]) ln := by
  obtain ⟨av, stk, rn, rs, sw, rmv, rmk, rkn, rks, wst, wqu, wwe, wla, hV, E⟩ := W
  obtain ⟨d1, d2, d3, d4, d5, d6, d7, d8, d9⟩ := id hD
  obtain ⟨e1, e2, ⟨f3, e3⟩, ⟨f4, e4⟩, ⟨f5, e5⟩, e6, ⟨f7, e7⟩, ⟨f8, e8⟩, ⟨q9, e9⟩, ⟨f10, e10⟩, ⟨f11, e11⟩, e12, ⟨f13, e13⟩, ⟨f14, e14⟩, e15, e16, e17, e18, e19⟩ := E
  have l4 := hp_lt e4
  have l10 := hp_lt e10
  have l11 := hp_lt e11
  have ns : ∀ i, i ∈ lwS (h.length + 1) D.2.2.2.2.2.1 ++ lwS (h.length + 1 + lwK D.2.2.2.2.2.1) D.2.2.2.2.2.2 → (i = h.length + 1 + 2 ∧ ∃ cs, D.2.2.2.2.2.1 = some cs) ∨ (i = h.length + 1 + lwK D.2.2.2.2.2.1 + 2 ∧ ∃ cs, D.2.2.2.2.2.2 = some cs) := fun i hi => by
    rcases List.mem_append.mp hi with z | z
    · cases hc : D.2.2.2.2.2.1 with
      | none => rw [hc] at z; cases z
      | some cs => rw [hc] at z; exact Or.inl ⟨List.mem_singleton.mp z, cs, rfl⟩
    · cases hc : D.2.2.2.2.2.2 with
      | none => rw [hc] at z; cases z
      | some cs => rw [hc] at z; exact Or.inr ⟨List.mem_singleton.mp z, cs, rfl⟩
  generalize hS : lwS (h.length + 1) D.2.2.2.2.2.1 ++ lwS (h.length + 1 + lwK D.2.2.2.2.2.1) D.2.2.2.2.2.2 = S at ns
  have m1 : ∀ cs, D.2.2.2.2.2.1 = some cs → h.length + 1 + 2 ∈ S := fun cs z => by rw [← hS, z]; exact List.mem_append.mpr (Or.inl (List.mem_singleton.mpr rfl))
  have m2 : ∀ cs, D.2.2.2.2.2.2 = some cs → h.length + 1 + lwK D.2.2.2.2.2.1 + 2 ∈ S := fun cs z => by rw [← hS, z]; exact List.mem_append.mpr (Or.inr (List.mem_singleton.mpr rfl))
  have sub : ∀ i ∈ av.filter (fun i => decide (i < h.length)) ++ S, i ∈ av ∨ h.length ≤ i ∨ i < 83 := fun i hi => by
    rcases List.mem_append.mp hi with z | z
    · exact Or.inl (List.mem_filter.mp z).1
    · rcases ns i z with ⟨rfl, -⟩ | ⟨rfl, -⟩
      · exact Or.inr (Or.inl (by omega))
      · exact Or.inr (Or.inl (by omega))
  have inF : ∀ i, i ∈ av → i < h.length → i ∈ av.filter (fun i => decide (i < h.length)) ++ S := fun i h1 h2 => List.mem_append.mpr (Or.inl (List.mem_filter.mpr ⟨h1, decide_eq_true h2⟩))
  have kd : KD (av.filter (fun i => decide (i < h.length)) ++ S) (stk ++ S) h (h ++ dkC h.length D li' f1 f2) := ⟨by simp, fun i e t q => he_old q, fun i e _ _ _ q => he_old q, fun r hr H sk q => ⟨sk, he_old q⟩⟩
  have dk : ∀ {rt a b : Nat} {q : zDk}, DkP h av stk rt q a b → DkP (h ++ dkC h.length D li' f1 f2) (av.filter (fun i => decide (i < h.length)) ++ S) (stk ++ S) rt q a b := fun z => (z.sub sub (fun i hi => List.mem_append.mpr (Or.inl hi))).kd kd
  have nav : ∀ k, h.length ≤ k → (∀ i ∈ S, i ≠ k) → k ∉ av.filter (fun i => decide (i < h.length)) ++ S := fun k h1 h2 z => by
    rcases List.mem_append.mp z with y | y
    · have := of_decide_eq_true (List.mem_filter.mp y).2
      omega
    · exact h2 k y rfl
  refine ⟨av.filter (fun i => decide (i < h.length)) ++ S, stk ++ S, rn, rs, sw, rmv, rmk, rkn, rks, wst, wqu, wwe, wla, hV.ext, dk e1, fun q hq => ?_, ⟨f3, he_old e3⟩, ⟨f4, he_old e4⟩, ⟨f5, he_old e5⟩, ?_, ⟨f7, he_old e7⟩, ⟨f8, he_old e8⟩, ⟨q9, he_old e9⟩, ⟨f10, he_old e10⟩, ⟨f11, he_old e11⟩, he_old e12, ⟨f13, he_old e13⟩, ⟨f14, he_old e14⟩, e15, e16, fun r hr => ?_, fun r hr => ?_, e19⟩
  · rcases List.mem_append.mp hq with z | z
    · obtain ⟨a, b, z⟩ := e2 q z
      exact ⟨a, b, dk z⟩
    · obtain rfl := List.mem_singleton.mp z
      refine ⟨lwR (h.length + 1) D.2.2.2.2.2.1, lwR (h.length + 1 + lwK D.2.2.2.2.2.1) D.2.2.2.2.2.2, ⟨_, _, _, _, dk_get rfl, LawC.new (fun cs z => dk_g1 z) d8 hf1 (by omega) (fun cs z => ?_), LawC.new (fun cs z => dk_g2 z) d9 hf2 (by omega) (fun cs z => ?_)⟩, ?_, ?_, d1, d2, d3, d4, hr, hl⟩
      · refine nav _ (by omega) (fun i hi y => ?_)
        rcases ns i hi with ⟨w, -⟩ | ⟨w, -⟩
        · omega
        · rw [z] at w
          have : lwK (some cs) = 3 := rfl
          omega
      · refine nav _ (by omega) (fun i hi y => ?_)
        rcases ns i hi with ⟨w, cs', w2⟩ | ⟨w, -⟩
        · rw [w2] at y
          have : lwK (some cs') = 3 := rfl
          omega
        · omega
      · cases hc : D.2.2.2.2.2.1 with
        | none => exact Or.inr ⟨rfl, rfl⟩
        | some cs => exact Or.inl (List.mem_append.mpr (Or.inr (m1 cs hc)))
      · cases hc : D.2.2.2.2.2.2 with
        | none => exact Or.inr ⟨rfl, rfl⟩
        | some cs => exact Or.inl (List.mem_append.mpr (Or.inr (m2 cs hc)))
  · rcases e6 with z | ⟨z1, z2, z3⟩
    · exact Or.inl z
    · refine Or.inr ⟨z1, ?_, z3⟩
      unfold SwO
      rw [List.getElem?_append_left l4, List.getElem?_append_left (hp_lt e5)]
      exact z2
  · rcases List.mem_append.mp hr with z | z
    · obtain ⟨t1, t2, t3, t4, t5, H, sk, t6⟩ := e17 r z
      exact ⟨t1, inF r t2 (hp_lt t6), t3, t4, t5, H, sk, he_old t6⟩
    · rcases ns r z with ⟨rfl, cs, hc⟩ | ⟨rfl, cs, hc⟩
      · exact ⟨by omega, List.mem_append.mpr (Or.inr z), by omega, by omega, by omega, _, _, (dk_g1 hc).2.2⟩
      · exact ⟨by omega, List.mem_append.mpr (Or.inr z), by omega, by omega, by omega, _, _, (dk_g2 hc).2.2⟩
  · rcases e18 r hr with z | z
    · exact Or.inl z
    · refine Or.inr (inF r z ?_)
      simp only [List.mem_cons, List.mem_nil_iff, or_false] at hr
      rcases hr with rfl | rfl | rfl
      · exact l4
      · exact l10
      · exact l11
end ZAf

