theorem g_SW {idx : Nat} {y : MethodName} {cc : ByteArray} {maxL : Nat} {hh : List (Nat × Nat × Nat × Nat)} (h1 : Cond.methodLink RL idx y ∈ AL) (h2 : Cond.static y ∈ AL) (h4 : Cond.initialized y.cls ∈ AL) (h5 : Cond.codeWith y cc maxL (some .int) hh ∈ AL) : GoodIn AL (va_wsS RL idx y (.codeWith y cc maxL (some .int) hh :: AL)) := by
  intro w hw
  unfold va_wsS at hw
  rcases List.mem_append.mp hw with h | h
  · simp only [List.mem_cons, List.not_mem_nil, or_false] at h
    rcases h with rfl | rfl | rfl
    · exact ⟨h1, al_good h1⟩
    · exact ⟨h2, al_good h2⟩
    · exact ⟨h4, al_good h4⟩
  · rcases List.mem_cons.mp h with rfl | h
    · exact ⟨h5, al_good h5⟩
    · exact ⟨h, al_good h⟩
set_option maxRecDepth 100000 in
theorem cwl_make {R : Room} {s : State} {args : Array Value} (ht : ∀ w ∈ AL, w.before args s = true) (hR : 9 + 1 ≤ R.frames ∧ 8 + (6 + 11) + 36 * 9 ≤ R.locals) : vx_CSW R s args RL 92 yL_make cL_make 6 (some .int) [(0, 12, 15, 13), (0, 12, 19, 15), (0, 12, 23, 17)] (.codeWith yL_make cL_make 6 (some .int) [(0, 12, 15, 13), (0, 12, 19, 15), (0, 12, 23, 17)] :: AL) (rm 9 1 6) 1 6 5 :=
  vx_cwSW 5 ht (g_SW (al (List.mem_of_getElem? (i := 437) rfl) rfl) (al (List.mem_of_getElem? (i := 438) rfl) rfl) (al (List.mem_of_getElem? (i := 50) rfl) rfl) (al (List.mem_of_getElem? (i := 439) rfl) rfl)) rfl rfl rfl (by decide +kernel) hR
set_option maxRecDepth 100000 in
theorem cwl_move {R : Room} {s : State} {args : Array Value} (ht : ∀ w ∈ AL, w.before args s = true) (hR : 9 + 1 ≤ R.frames ∧ 8 + (5 + 11) + 36 * 9 ≤ R.locals) : vx_CSW R s args RL 102 yL_move cL_move 5 (some .int) [(0, 10, 13, 13), (0, 10, 17, 17)] (.codeWith yL_move cL_move 5 (some .int) [(0, 10, 13, 13), (0, 10, 17, 17)] :: AL) (rm 9 1 6) 1 6 4 :=
  vx_cwSW 4 ht (g_SW (al (List.mem_of_getElem? (i := 479) rfl) rfl) (al (List.mem_of_getElem? (i := 480) rfl) rfl) (al (List.mem_of_getElem? (i := 50) rfl) rfl) (al (List.mem_of_getElem? (i := 481) rfl) rfl)) rfl rfl rfl (by decide +kernel) hR
set_option maxRecDepth 100000 in
theorem cwl_keep {R : Room} {s : State} {args : Array Value} (ht : ∀ w ∈ AL, w.before args s = true) (hR : 9 + 1 ≤ R.frames ∧ 8 + (4 + 11) + 36 * 9 ≤ R.locals) : vx_CSW R s args RL 106 yL_keep cL_keep 4 (some .int) [(0, 9, 12, 13), (0, 9, 15, 17)] (.codeWith yL_keep cL_keep 4 (some .int) [(0, 9, 12, 13), (0, 9, 15, 17)] :: AL) (rm 9 1 6) 1 6 3 :=
  vx_cwSW 3 ht (g_SW (al (List.mem_of_getElem? (i := 489) rfl) rfl) (al (List.mem_of_getElem? (i := 490) rfl) rfl) (al (List.mem_of_getElem? (i := 50) rfl) rfl) (al (List.mem_of_getElem? (i := 491) rfl) rfl)) rfl rfl rfl (by decide +kernel) hR
set_option maxRecDepth 100000 in
theorem cwl_set {R : Room} {s : State} {args : Array Value} (ht : ∀ w ∈ AL, w.before args s = true) (hR : 9 + 1 ≤ R.frames ∧ 8 + (5 + 11) + 36 * 9 ≤ R.locals) : vx_CSW R s args RL 110 yL_set cL_set 5 (some .int) [(0, 10, 13, 13), (0, 10, 17, 15)] (.codeWith yL_set cL_set 5 (some .int) [(0, 10, 13, 13), (0, 10, 17, 15)] :: AL) (rm 9 1 6) 1 6 4 :=
  vx_cwSW 4 ht (g_SW (al (List.mem_of_getElem? (i := 497) rfl) rfl) (al (List.mem_of_getElem? (i := 498) rfl) rfl) (al (List.mem_of_getElem? (i := 50) rfl) rfl) (al (List.mem_of_getElem? (i := 499) rfl) rfl)) rfl rfl rfl (by decide +kernel) hR
set_option maxRecDepth 100000 in
theorem cwl_pass {R : Room} {s : State} {args : Array Value} (ht : ∀ w ∈ AL, w.before args s = true) (hR : 9 + 1 ≤ R.frames ∧ 8 + (4 + 11) + 36 * 9 ≤ R.locals) : vx_CSW R s args RL 118 yL_pass cL_pass 4 (some .int) [(0, 9, 12, 15)] (.codeWith yL_pass cL_pass 4 (some .int) [(0, 9, 12, 15)] :: AL) (rm 9 1 6) 1 6 3 :=
  vx_cwSW 3 ht (g_SW (al (List.mem_of_getElem? (i := 505) rfl) rfl) (al (List.mem_of_getElem? (i := 506) rfl) rfl) (al (List.mem_of_getElem? (i := 50) rfl) rfl) (al (List.mem_of_getElem? (i := 507) rfl) rfl)) rfl rfl rfl (by decide +kernel) hR
set_option maxRecDepth 100000 in
theorem cwl_settingOf {R : Room} {s : State} {args : Array Value} (ht : ∀ w ∈ AL, w.before args s = true) (hR : 9 + 1 ≤ R.frames ∧ 8 + (4 + 11) + 36 * 9 ≤ R.locals) : vx_CSW R s args RL 129 yL_settingOf cL_settingOf 4 (some .int) [(0, 9, 12, 13)] (.codeWith yL_settingOf cL_settingOf 4 (some .int) [(0, 9, 12, 13)] :: AL) (rm 9 1 6) 1 6 3 :=
  vx_cwSW 3 ht (g_SW (al (List.mem_of_getElem? (i := 520) rfl) rfl) (al (List.mem_of_getElem? (i := 521) rfl) rfl) (al (List.mem_of_getElem? (i := 50) rfl) rfl) (al (List.mem_of_getElem? (i := 522) rfl) rfl)) rfl rfl rfl (by decide +kernel) hR
set_option maxRecDepth 100000 in
theorem cwl_heatOn {R : Room} {s : State} {args : Array Value} (ht : ∀ w ∈ AL, w.before args s = true) (hR : 9 + 1 ≤ R.frames ∧ 8 + (4 + 11) + 36 * 9 ≤ R.locals) : vx_CSW R s args RL 132 yL_heatOn cL_heatOn 4 (some .int) [(0, 9, 12, 13)] (.codeWith yL_heatOn cL_heatOn 4 (some .int) [(0, 9, 12, 13)] :: AL) (rm 9 1 6) 1 6 3 :=
  vx_cwSW 3 ht (g_SW (al (List.mem_of_getElem? (i := 524) rfl) rfl) (al (List.mem_of_getElem? (i := 525) rfl) rfl) (al (List.mem_of_getElem? (i := 50) rfl) rfl) (al (List.mem_of_getElem? (i := 526) rfl) rfl)) rfl rfl rfl (by decide +kernel) hR
set_option maxRecDepth 100000 in
theorem cwl_promisesOn {R : Room} {s : State} {args : Array Value} (ht : ∀ w ∈ AL, w.before args s = true) (hR : 9 + 1 ≤ R.frames ∧ 8 + (4 + 11) + 36 * 9 ≤ R.locals) : vx_CSW R s args RL 135 yL_promisesOn cL_promisesOn 4 (some .int) [(0, 9, 12, 13)] (.codeWith yL_promisesOn cL_promisesOn 4 (some .int) [(0, 9, 12, 13)] :: AL) (rm 9 1 6) 1 6 3 :=
  vx_cwSW 3 ht (g_SW (al (List.mem_of_getElem? (i := 528) rfl) rfl) (al (List.mem_of_getElem? (i := 529) rfl) rfl) (al (List.mem_of_getElem? (i := 50) rfl) rfl) (al (List.mem_of_getElem? (i := 530) rfl) rfl)) rfl rfl rfl (by decide +kernel) hR
set_option maxRecDepth 100000 in
theorem cwl_makerOf {R : Room} {s : State} {args : Array Value} (ht : ∀ w ∈ AL, w.before args s = true) (hR : 9 + 1 ≤ R.frames ∧ 8 + (4 + 11) + 36 * 9 ≤ R.locals) : vx_CSW R s args RL 150 yL_makerOf cL_makerOf 4 (some .int) [(0, 9, 12, 13)] (.codeWith yL_makerOf cL_makerOf 4 (some .int) [(0, 9, 12, 13)] :: AL) (rm 9 1 6) 1 6 3 :=
  vx_cwSW 3 ht (g_SW (al (List.mem_of_getElem? (i := 532) rfl) rfl) (al (List.mem_of_getElem? (i := 533) rfl) rfl) (al (List.mem_of_getElem? (i := 50) rfl) rfl) (al (List.mem_of_getElem? (i := 534) rfl) rfl)) rfl rfl rfl (by decide +kernel) hR
set_option maxRecDepth 100000 in
theorem cwl_shelfOf {R : Room} {s : State} {args : Array Value} (ht : ∀ w ∈ AL, w.before args s = true) (hR : 9 + 1 ≤ R.frames ∧ 8 + (4 + 11) + 36 * 9 ≤ R.locals) : vx_CSW R s args RL 153 yL_shelfOf cL_shelfOf 4 (some .int) [(0, 9, 12, 13)] (.codeWith yL_shelfOf cL_shelfOf 4 (some .int) [(0, 9, 12, 13)] :: AL) (rm 9 1 6) 1 6 3 :=
  vx_cwSW 3 ht (g_SW (al (List.mem_of_getElem? (i := 536) rfl) rfl) (al (List.mem_of_getElem? (i := 537) rfl) rfl) (al (List.mem_of_getElem? (i := 50) rfl) rfl) (al (List.mem_of_getElem? (i := 538) rfl) rfl)) rfl rfl rfl (by decide +kernel) hR
set_option maxRecDepth 100000 in
theorem cwl_heatOf {R : Room} {s : State} {args : Array Value} (ht : ∀ w ∈ AL, w.before args s = true) (hR : 9 + 1 ≤ R.frames ∧ 8 + (4 + 11) + 36 * 9 ≤ R.locals) : vx_CSW R s args RL 156 yL_heatOf cL_heatOf 4 (some .int) [(0, 9, 12, 13)] (.codeWith yL_heatOf cL_heatOf 4 (some .int) [(0, 9, 12, 13)] :: AL) (rm 9 1 6) 1 6 3 :=
  vx_cwSW 3 ht (g_SW (al (List.mem_of_getElem? (i := 540) rfl) rfl) (al (List.mem_of_getElem? (i := 541) rfl) rfl) (al (List.mem_of_getElem? (i := 50) rfl) rfl) (al (List.mem_of_getElem? (i := 542) rfl) rfl)) rfl rfl rfl (by decide +kernel) hR
set_option maxRecDepth 100000 in
theorem cwl_ageOf {R : Room} {s : State} {args : Array Value} (ht : ∀ w ∈ AL, w.before args s = true) (hR : 9 + 1 ≤ R.frames ∧ 8 + (4 + 11) + 36 * 9 ≤ R.locals) : vx_CSW R s args RL 159 yL_ageOf cL_ageOf 4 (some .int) [(0, 9, 12, 13)] (.codeWith yL_ageOf cL_ageOf 4 (some .int) [(0, 9, 12, 13)] :: AL) (rm 9 1 6) 1 6 3 :=
  vx_cwSW 3 ht (g_SW (al (List.mem_of_getElem? (i := 544) rfl) rfl) (al (List.mem_of_getElem? (i := 545) rfl) rfl) (al (List.mem_of_getElem? (i := 50) rfl) rfl) (al (List.mem_of_getElem? (i := 546) rfl) rfl)) rfl rfl rfl (by decide +kernel) hR
set_option maxRecDepth 100000 in
theorem cwl_hoursLeft {R : Room} {s : State} {args : Array Value} (ht : ∀ w ∈ AL, w.before args s = true) (hR : 9 + 1 ≤ R.frames ∧ 8 + (4 + 11) + 36 * 9 ≤ R.locals) : vx_CSW R s args RL 162 yL_hoursLeft cL_hoursLeft 4 (some .int) [(0, 9, 12, 13)] (.codeWith yL_hoursLeft cL_hoursLeft 4 (some .int) [(0, 9, 12, 13)] :: AL) (rm 9 1 6) 1 6 3 :=
  vx_cwSW 3 ht (g_SW (al (List.mem_of_getElem? (i := 548) rfl) rfl) (al (List.mem_of_getElem? (i := 549) rfl) rfl) (al (List.mem_of_getElem? (i := 50) rfl) rfl) (al (List.mem_of_getElem? (i := 550) rfl) rfl)) rfl rfl rfl (by decide +kernel) hR
set_option maxRecDepth 100000 in
theorem cwl_isFrozen {R : Room} {s : State} {args : Array Value} (ht : ∀ w ∈ AL, w.before args s = true) (hR : 9 + 1 ≤ R.frames ∧ 8 + (4 + 11) + 36 * 9 ≤ R.locals) : vx_CSW R s args RL 165 yL_isFrozen cL_isFrozen 4 (some .int) [(0, 16, 19, 13)] (.codeWith yL_isFrozen cL_isFrozen 4 (some .int) [(0, 16, 19, 13)] :: AL) (rm 9 1 6) 1 6 3 :=
  vx_cwSW 3 ht (g_SW (al (List.mem_of_getElem? (i := 552) rfl) rfl) (al (List.mem_of_getElem? (i := 553) rfl) rfl) (al (List.mem_of_getElem? (i := 50) rfl) rfl) (al (List.mem_of_getElem? (i := 554) rfl) rfl)) rfl rfl rfl (by decide +kernel) hR
set_option maxRecDepth 100000 in
theorem cwl_isThawed {R : Room} {s : State} {args : Array Value} (ht : ∀ w ∈ AL, w.before args s = true) (hR : 9 + 1 ≤ R.frames ∧ 8 + (4 + 11) + 36 * 9 ≤ R.locals) : vx_CSW R s args RL 168 yL_isThawed cL_isThawed 4 (some .int) [(0, 16, 19, 13)] (.codeWith yL_isThawed cL_isThawed 4 (some .int) [(0, 16, 19, 13)] :: AL) (rm 9 1 6) 1 6 3 :=
  vx_cwSW 3 ht (g_SW (al (List.mem_of_getElem? (i := 556) rfl) rfl) (al (List.mem_of_getElem? (i := 557) rfl) rfl) (al (List.mem_of_getElem? (i := 50) rfl) rfl) (al (List.mem_of_getElem? (i := 558) rfl) rfl)) rfl rfl rfl (by decide +kernel) hR
set_option maxRecDepth 100000 in
theorem cwl_isKept {R : Room} {s : State} {args : Array Value} (ht : ∀ w ∈ AL, w.before args s = true) (hR : 9 + 1 ≤ R.frames ∧ 8 + (4 + 11) + 36 * 9 ≤ R.locals) : vx_CSW R s args RL 171 yL_isKept cL_isKept 4 (some .int) [(0, 16, 19, 13)] (.codeWith yL_isKept cL_isKept 4 (some .int) [(0, 16, 19, 13)] :: AL) (rm 9 1 6) 1 6 3 :=
  vx_cwSW 3 ht (g_SW (al (List.mem_of_getElem? (i := 560) rfl) rfl) (al (List.mem_of_getElem? (i := 561) rfl) rfl) (al (List.mem_of_getElem? (i := 50) rfl) rfl) (al (List.mem_of_getElem? (i := 562) rfl) rfl)) rfl rfl rfl (by decide +kernel) hR
set_option maxRecDepth 100000 in
theorem cwl_isExpired {R : Room} {s : State} {args : Array Value} (ht : ∀ w ∈ AL, w.before args s = true) (hR : 9 + 1 ≤ R.frames ∧ 8 + (4 + 11) + 36 * 9 ≤ R.locals) : vx_CSW R s args RL 174 yL_isExpired cL_isExpired 4 (some .int) [(0, 16, 19, 13)] (.codeWith yL_isExpired cL_isExpired 4 (some .int) [(0, 16, 19, 13)] :: AL) (rm 9 1 6) 1 6 3 :=
  vx_cwSW 3 ht (g_SW (al (List.mem_of_getElem? (i := 564) rfl) rfl) (al (List.mem_of_getElem? (i := 565) rfl) rfl) (al (List.mem_of_getElem? (i := 50) rfl) rfl) (al (List.mem_of_getElem? (i := 566) rfl) rfl)) rfl rfl rfl (by decide +kernel) hR
set_option maxRecDepth 100000 in
theorem cwl_owedBy {R : Room} {s : State} {args : Array Value} (ht : ∀ w ∈ AL, w.before args s = true) (hR : 9 + 1 ≤ R.frames ∧ 8 + (4 + 11) + 36 * 9 ≤ R.locals) : vx_CSW R s args RL 177 yL_owedBy cL_owedBy 4 (some .int) [(0, 9, 12, 13)] (.codeWith yL_owedBy cL_owedBy 4 (some .int) [(0, 9, 12, 13)] :: AL) (rm 9 1 6) 1 6 3 :=
  vx_cwSW 3 ht (g_SW (al (List.mem_of_getElem? (i := 568) rfl) rfl) (al (List.mem_of_getElem? (i := 569) rfl) rfl) (al (List.mem_of_getElem? (i := 50) rfl) rfl) (al (List.mem_of_getElem? (i := 570) rfl) rfl)) rfl rfl rfl (by decide +kernel) hR
set_option maxRecDepth 100000 in
theorem cwl_honourOf {R : Room} {s : State} {args : Array Value} (ht : ∀ w ∈ AL, w.before args s = true) (hR : 9 + 1 ≤ R.frames ∧ 8 + (4 + 11) + 36 * 9 ≤ R.locals) : vx_CSW R s args RL 180 yL_honourOf cL_honourOf 4 (some .int) [(0, 9, 12, 13)] (.codeWith yL_honourOf cL_honourOf 4 (some .int) [(0, 9, 12, 13)] :: AL) (rm 9 1 6) 1 6 3 :=
  vx_cwSW 3 ht (g_SW (al (List.mem_of_getElem? (i := 572) rfl) rfl) (al (List.mem_of_getElem? (i := 573) rfl) rfl) (al (List.mem_of_getElem? (i := 50) rfl) rfl) (al (List.mem_of_getElem? (i := 574) rfl) rfl)) rfl rfl rfl (by decide +kernel) hR
set_option maxRecDepth 100000 in
theorem cwl_hoursUntilFrozen {R : Room} {s : State} {args : Array Value} (ht : ∀ w ∈ AL, w.before args s = true) (hR : 9 + 1 ≤ R.frames ∧ 8 + (4 + 11) + 36 * 9 ≤ R.locals) : vx_CSW R s args RL 187 yL_hoursUntilFrozen cL_hoursUntilFrozen 4 (some .int) [(0, 9, 12, 13)] (.codeWith yL_hoursUntilFrozen cL_hoursUntilFrozen 4 (some .int) [(0, 9, 12, 13)] :: AL) (rm 9 1 6) 1 6 3 :=
  vx_cwSW 3 ht (g_SW (al (List.mem_of_getElem? (i := 576) rfl) rfl) (al (List.mem_of_getElem? (i := 577) rfl) rfl) (al (List.mem_of_getElem? (i := 50) rfl) rfl) (al (List.mem_of_getElem? (i := 578) rfl) rfl)) rfl rfl rfl (by decide +kernel) hR
set_option maxRecDepth 100000 in
theorem cwl_hoursUntilThawed {R : Room} {s : State} {args : Array Value} (ht : ∀ w ∈ AL, w.before args s = true) (hR : 9 + 1 ≤ R.frames ∧ 8 + (4 + 11) + 36 * 9 ≤ R.locals) : vx_CSW R s args RL 190 yL_hoursUntilThawed cL_hoursUntilThawed 4 (some .int) [(0, 9, 12, 13)] (.codeWith yL_hoursUntilThawed cL_hoursUntilThawed 4 (some .int) [(0, 9, 12, 13)] :: AL) (rm 9 1 6) 1 6 3 :=
  vx_cwSW 3 ht (g_SW (al (List.mem_of_getElem? (i := 587) rfl) rfl) (al (List.mem_of_getElem? (i := 588) rfl) rfl) (al (List.mem_of_getElem? (i := 50) rfl) rfl) (al (List.mem_of_getElem? (i := 589) rfl) rfl)) rfl rfl rfl (by decide +kernel) hR
set_option maxRecDepth 100000 in
theorem cwl_hoursUntilExpired {R : Room} {s : State} {args : Array Value} (ht : ∀ w ∈ AL, w.before args s = true) (hR : 9 + 1 ≤ R.frames ∧ 8 + (4 + 11) + 36 * 9 ≤ R.locals) : vx_CSW R s args RL 193 yL_hoursUntilExpired cL_hoursUntilExpired 4 (some .int) [(0, 9, 12, 13)] (.codeWith yL_hoursUntilExpired cL_hoursUntilExpired 4 (some .int) [(0, 9, 12, 13)] :: AL) (rm 9 1 6) 1 6 3 :=
  vx_cwSW 3 ht (g_SW (al (List.mem_of_getElem? (i := 594) rfl) rfl) (al (List.mem_of_getElem? (i := 595) rfl) rfl) (al (List.mem_of_getElem? (i := 50) rfl) rfl) (al (List.mem_of_getElem? (i := 596) rfl) rfl)) rfl rfl rfl (by decide +kernel) hR
set_option maxRecDepth 100000 in
theorem cwl_leftIn {R : Room} {s : State} {args : Array Value} (ht : ∀ w ∈ AL, w.before args s = true) (hR : 9 + 1 ≤ R.frames ∧ 8 + (4 + 11) + 36 * 9 ≤ R.locals) : vx_CSW R s args RL 196 yL_leftIn cL_leftIn 4 (some .int) [(0, 9, 12, 15)] (.codeWith yL_leftIn cL_leftIn 4 (some .int) [(0, 9, 12, 15)] :: AL) (rm 9 1 6) 1 6 3 :=
  vx_cwSW 3 ht (g_SW (al (List.mem_of_getElem? (i := 601) rfl) rfl) (al (List.mem_of_getElem? (i := 602) rfl) rfl) (al (List.mem_of_getElem? (i := 50) rfl) rfl) (al (List.mem_of_getElem? (i := 603) rfl) rfl)) rfl rfl rfl (by decide +kernel) hR
