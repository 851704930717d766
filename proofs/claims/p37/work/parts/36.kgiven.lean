def nmE : List String := ["UNMADE", "FRESH", "FROZEN", "THAWED", "KEPT", "EXPIRED"]
abbrev gvT : Cond := Jvm.Cond.and given_1 narrow_1
theorem st_lay : ∀ i, i < 6 → Cond.laysStatic RX2 (nmE.getD i "") enD ∈ lw_tbl := by decide +kernel
theorem st_ex : ∀ i, i < 6 → Cond.exactly (.static RX2 (nmE.getD i "") enD) RX2 ∈ flatC gvT := by decide +kernel
theorem st_ne : ∀ i, i < 6 → ∀ j, j < 6 → i ≠ j → (Cond.not (.eq (.static RX2 (nmE.getD i "") enD) (.static RX2 (nmE.getD j "") enD)) ∈ flatC gvT ∨ Cond.not (.eq (.static RX2 (nmE.getD j "") enD) (.static RX2 (nmE.getD i "") enD)) ∈ flatC gvT) := by decide +kernel
theorem st_str : ∀ q ∈ strs, Cond.exactly (.string RX3 q.1) "java/lang/String" ∈ flatC gvT := by decide +kernel
theorem st_strt : ∀ q ∈ strs, Cond.stringRef RX3 q.1 q.2 ∈ lw_tbl := by decide +kernel
theorem st_t1 : Cond.laysStatic Bundle.tN "UNASSIGNED_STACK" Bundle.steD ∈ lw_tbl := by decide +kernel
theorem st_t2 : Cond.laysStatic Bundle.tN "SUPPRESSED_SENTINEL" Bundle.listD ∈ lw_tbl := by decide +kernel
theorem st_t3 : Cond.isRef (.static Bundle.tN "UNASSIGNED_STACK" Bundle.steD) ∈ flatC gvT := by decide +kernel
theorem st_t4 : Cond.isRef (.static Bundle.tN "SUPPRESSED_SENTINEL" Bundle.listD) ∈ flatC gvT := by decide +kernel
theorem st_t5 : Cond.initialized Bundle.tN ∈ lw_tbl := by decide +kernel
theorem st_i2 : Cond.initialized RX2 ∈ lw_tbl := by decide +kernel
theorem st_o1 : Cond.arrayOver (.object "PromiseShelves$Shelf") ∈ lw_tbl := by decide +kernel
theorem st_o2 : Cond.arrayOver (.object "PromiseShelves$Promise") ∈ lw_tbl := by decide +kernel
theorem nw_all {args : Array Value} {s : State} (hts : ∀ w ∈ lw_tbl, w.before args s = true) : ∀ w ∈ NW, va_Nw w s := fun w h => by
  have h2 := (List.mem_filter.mp h).2
  have h1 := hts w (List.mem_filter.mp h).1
  cases w with
  | fieldLinkNest => exact va_Nw.of rfl h1
  | methodLinkNest => exact va_Nw.of rfl h1
  | castable => exact va_Nw.of rfl h1
  | declares => exact va_Nw.of rfl h1
  | _ => cases h2
/-- what the Statement gives of the start: the stages, two statics of Throwable, the texts -/
theorem st_all {args : Array Value} {s : State} {A : Nat → Prop} (hts : ∀ w ∈ lw_tbl, w.before args s = true) (hgv : gvT.before args s = true) (hA : ∀ a : Nat, a < s.heap.size → ¬ A a) :
    ∃ ge : Nat → Nat, (∀ i j : Nat, i < 6 → j < 6 → ge i = ge j → i = j) ∧ (∀ k, k < 6 → va_Z RX2 (enName k) enD (.ref (ge k)) A s s.heap) ∧ vx_Zq Bundle.tN "UNASSIGNED_STACK" Bundle.steD A s s.heap ∧ vx_Zq Bundle.tN "SUPPRESSED_SENTINEL" Bundle.listD A s s.heap ∧
      (∀ q ∈ strs, ∃ a, vk_R RX3 q.1 q.2 a s) ∧ ∀ w ∈ NW, va_Nw w s := by
  have hs := flat_of_before _ hgv
  obtain ⟨ad, h1, h2⟩ := va_Enof (F := []) (E := RX2) (d := enD) (nm := nmE) (A := A) (fun i hi => hts _ (st_lay i hi)) (hts _ st_i2) (fun i hi => hs _ (st_ex i hi)) (fun q hq => absurd hq List.not_mem_nil) (fun i j hi hj hne => (st_ne i hi j hj hne).elim (fun h => Or.inl (hs _ h)) (fun h => Or.inr (hs _ h))) hA
  refine ⟨ad, h2, fun k hk => ?_, vx_Zqof (hts _ st_t1) (hts _ st_t5) (hs _ st_t3) hA, vx_Zqof (hts _ st_t2) (hts _ st_t5) (hs _ st_t4) hA, fun q hq => ?_, nw_all hts⟩
  · have h := (h1 k hk).1
    rcases (show k = 0 ∨ k = 1 ∨ k = 2 ∨ k = 3 ∨ k = 4 ∨ k = 5 by omega) with rfl | rfl | rfl | rfl | rfl | rfl <;> exact h
  · obtain ⟨a, c9, cell, k9, q9, -⟩ := Cond.exactly_spec (hs _ (st_str q hq))
    exact ⟨a, vk_R.of (hts _ (st_strt q hq)) q9⟩
theorem st_oI : Cond.arrayOver (.array .int) ∈ lw_tbl := by decide +kernel
theorem st_cI : Cond.arrayClass .int ∈ lw_tbl := by decide +kernel
theorem st_cZ : Cond.arrayClass .boolean ∈ lw_tbl := by decide +kernel
theorem arrT_of {s : State} {cA : ClassId} {kA : Class} {comp : ClassId} {ty : FieldType} (h1 : s.vm.classes[cA]? = some kA) (h2 : kA.kind = .array comp ty) : ArrOfT s cA ty := fun n z => ⟨(fun k h => by cases h), kA, h1, comp, h2⟩
/-- the classes of int[], int[][] and boolean[] -/
theorem st_arr {args : Array Value} {s : State} (D : va_G) (hK : va_K D vwCl [] s) (hts : ∀ w ∈ lw_tbl, w.before args s = true) : ∃ cI cG cZ : ClassId, va_K D vwCl [(cI, .int), (cG, .array .int), (cZ, .boolean)] s ∧ gK cG cI s := by
  obtain ⟨cI, kI, compI, a1, a2, a3⟩ := Cond.arrayClass_spec (hts _ st_cI)
  obtain ⟨cZ, kZ, compZ, b1, b2, b3⟩ := Cond.arrayClass_spec (hts _ st_cZ)
  have hO := hts _ st_oI
  obtain ⟨comp, cG, kG, d1, -, d3, d4, d5⟩ := arrayOverA_spec (t := .int) (show (Cond.arrayOver (.array .int)).holds args s none s [] = true from hO)
  have e1 : s.vm.findClass (FieldType.array .int).toString = some cI := a1
  obtain rfl : comp = cI := Option.some.inj (d1.symm.trans e1)
  refine ⟨comp, cG, cZ, ⟨hK.1, fun k q hk => ?_⟩, hO, kG, kI, d3, d4, a2⟩
  match k, hk with
  | 0, hk => cases hk; exact ⟨arrT_of a2 a3, a1⟩
  | 1, hk => cases hk; exact ⟨arrT_of d3 d4, d5⟩
  | 2, hk => cases hk; exact ⟨arrT_of b2 b3, b1⟩
  | k + 3, hk => simp at hk
