theorem h_case (v : Int32) : (∃ k, 1 ≤ k ∧ k ≤ 100 ∧ v = nI k) ∨ (v < 1 ∨ 100 < v) := by
  by_cases h0 : v < 1
  · exact Or.inr (Or.inl h0)
  by_cases h1 : 100 < v
  · exact Or.inr (Or.inr h1)
  rcases nI_case v (n := 101) (by decide) with ⟨k, hk, rfl⟩ | h | h
  · refine Or.inl ⟨k, ?_, by omega, rfl⟩
    rcases Nat.eq_zero_or_pos k with rfl | h
    · exact absurd (by decide) h0
    · exact h
  · exact absurd (Int32.lt_trans h (by decide)) h0
  · exact absurd (Int32.lt_of_lt_of_le (by decide) h) h1
set_option maxRecDepth 100000 in
set_option maxHeartbeats 4000000 in
theorem pr_heatOn (l : Launch) (hst9 : l.stackTraces = false) (G : Gt) (σ : St) (hR : Rel σ) (v : Int32) : Pair l G yL_heatOn cL_heatOn 4 [(0, 9, 12, 13)] yX4_heatOn cX4_heatOn 2 (some .int) [.int v] σ := by
  obtain ⟨n, th, mk, lf, nw, kp, hX, hM, hpic⟩ := hR
  have hX4 : gX σ = (nI n, (gX σ).2.1, (gX σ).2.2.1, (gX σ).2.2.2) := by rw [← hX]
  rcases nI_case v (n := 5) (by decide) with ⟨k, hk, rfl⟩ | hb
  · refine ⟨0, fun σ1 => ∃ (x : Int32) (σ0 : St), (x = (gS σ k).2 ∧ Tr σ σ0) ∧ σ1 = setO σ0 x.toInt64, (w_heatOn (P := fun x σ0 => x = (gS σ k).2 ∧ Tr σ σ0) l G σ _ (by decide) ((c_heatOn l G σ hk).post (fun r σ' h => ⟨h.1, by rw [h.2]; exact Tr.rf σ⟩))).post (fun r σ' h => ⟨h.1, h.2⟩), ?_⟩
    rintro σ1 ⟨x, σ0, ⟨rfl, ht9⟩, rfl⟩
    refine ⟨4, by decide, (m_heatOn l G (setO σ0 _) (show gM (setO σ0 _) = _ from (congrArg (fun z => z.1) ht9.M).trans hM) hpic hk).post ?_⟩
    rintro r σ2 ⟨rfl, mk2, lf2, nw2, kp2, rfl, hp2⟩
    exact ⟨rfl, fun _ => rfl, n, 0, mk2, lf2, nw2, kp2, (congrArg (fun z => z.1) ht9.X).trans hX, rfl, hp2.cong (fun k hk => ht9.S hk) (fun q hq => ht9.P hq) (congrArg (fun z => z.2) ht9.X)⟩
  · refine ⟨1, fun σ1 => σ1 = σ, wx_heatOn_1 l G σ v (by decide) (x_heatOn l hst9 G σ hb), ?_⟩
    rintro σ1 rfl
    refine ⟨4, by decide, (m_heatOn_b l G _ hM hpic v hb).post ?_⟩
    rintro r σ2 ⟨mk2, lf2, nw2, kp2, rfl, hp2⟩
    exact ⟨rfl, fun h => absurd h (by decide), n, 1, mk2, lf2, nw2, kp2, hX, rfl, hp2.cong (fun _ _ => rfl) (fun _ _ => rfl) rfl⟩
set_option maxRecDepth 100000 in
set_option maxHeartbeats 4000000 in
theorem pr_promisesOn (l : Launch) (hst9 : l.stackTraces = false) (G : Gt) (σ : St) (hR : Rel σ) (v : Int32) : Pair l G yL_promisesOn cL_promisesOn 4 [(0, 9, 12, 13)] yX4_promisesOn cX4_promisesOn 2 (some .int) [.int v] σ := by
  obtain ⟨n, th, mk, lf, nw, kp, hX, hM, hpic⟩ := hR
  have hX4 : gX σ = (nI n, (gX σ).2.1, (gX σ).2.2.1, (gX σ).2.2.2) := by rw [← hX]
  rcases nI_case v (n := 5) (by decide) with ⟨k, hk, rfl⟩ | hb
  · refine ⟨0, fun σ1 => ∃ (x : Int32) (σ0 : St), (x = onF σ k ∧ Tr σ σ0) ∧ σ1 = setO σ0 x.toInt64, (w_promisesOn (P := fun x σ0 => x = onF σ k ∧ Tr σ σ0) l G σ _ (by decide) ((c_promisesOn l G σ hk).post (fun r σ' h => ⟨h.1, by rw [h.2]; exact Tr.rf σ⟩))).post (fun r σ' h => ⟨h.1, h.2⟩), ?_⟩
    rintro σ1 ⟨x, σ0, ⟨rfl, ht9⟩, rfl⟩
    refine ⟨4, by decide, (m_promisesOn l G (setO σ0 _) (show gM (setO σ0 _) = _ from (congrArg (fun z => z.1) ht9.M).trans hM) hpic hk).post ?_⟩
    rintro r σ2 ⟨rfl, mk2, lf2, nw2, kp2, rfl, hp2⟩
    exact ⟨rfl, fun _ => rfl, n, 0, mk2, lf2, nw2, kp2, (congrArg (fun z => z.1) ht9.X).trans hX, rfl, hp2.cong (fun k hk => ht9.S hk) (fun q hq => ht9.P hq) (congrArg (fun z => z.2) ht9.X)⟩
  · refine ⟨1, fun σ1 => σ1 = σ, wx_promisesOn_1 l G σ v (by decide) (x_promisesOn l hst9 G σ hb), ?_⟩
    rintro σ1 rfl
    refine ⟨4, by decide, (m_promisesOn_b l G _ hM hpic v hb).post ?_⟩
    rintro r σ2 ⟨mk2, lf2, nw2, kp2, rfl, hp2⟩
    exact ⟨rfl, fun h => absurd h (by decide), n, 1, mk2, lf2, nw2, kp2, hX, rfl, hp2.cong (fun _ _ => rfl) (fun _ _ => rfl) rfl⟩
set_option maxRecDepth 100000 in
set_option maxHeartbeats 4000000 in
theorem pr_makerOf (l : Launch) (hst9 : l.stackTraces = false) (G : Gt) (σ : St) (hR : Rel σ) (v : Int32) : Pair l G yL_makerOf cL_makerOf 4 [(0, 9, 12, 13)] yX4_makerOf cX4_makerOf 2 (some .int) [.int v] σ := by
  obtain ⟨n, th, mk, lf, nw, kp, hX, hM, hpic⟩ := hR
  have hX4 : gX σ = (nI n, (gX σ).2.1, (gX σ).2.2.1, (gX σ).2.2.2) := by rw [← hX]
  rcases nI_case v (n := n) (by have := hpic.1; omega) with ⟨k, hk, rfl⟩ | hb
  · refine ⟨0, fun σ1 => ∃ (x : Int32) (σ0 : St), (x = (gP σ k).2.2.1 ∧ Tr σ σ0) ∧ σ1 = setO σ0 x.toInt64, (w_makerOf (P := fun x σ0 => x = (gP σ k).2.2.1 ∧ Tr σ σ0) l G σ _ (by decide) ((c_makerOf l G σ hk hpic.1 hX4).post (fun r σ' h => ⟨h.1, by rw [h.2]; exact Tr.rf σ⟩))).post (fun r σ' h => ⟨h.1, h.2⟩), ?_⟩
    rintro σ1 ⟨x, σ0, ⟨rfl, ht9⟩, rfl⟩
    refine ⟨4, by decide, (m_makerOf l G (setO σ0 _) (show gM (setO σ0 _) = _ from (congrArg (fun z => z.1) ht9.M).trans hM) hpic hk).post ?_⟩
    rintro r σ2 ⟨rfl, mk2, lf2, nw2, kp2, rfl, hp2⟩
    exact ⟨rfl, fun _ => rfl, n, 0, mk2, lf2, nw2, kp2, (congrArg (fun z => z.1) ht9.X).trans hX, rfl, hp2.cong (fun k hk => ht9.S hk) (fun q hq => ht9.P hq) (congrArg (fun z => z.2) ht9.X)⟩
  · refine ⟨1, fun σ1 => σ1 = σ, wx_makerOf_1 l G σ v (by decide) (x_makerOf l hst9 G σ hX4 hb), ?_⟩
    rintro σ1 rfl
    refine ⟨4, by decide, (m_makerOf_b l G _ hM hpic v hb).post ?_⟩
    rintro r σ2 ⟨mk2, lf2, nw2, kp2, rfl, hp2⟩
    exact ⟨rfl, fun h => absurd h (by decide), n, 1, mk2, lf2, nw2, kp2, hX, rfl, hp2.cong (fun _ _ => rfl) (fun _ _ => rfl) rfl⟩
set_option maxRecDepth 100000 in
set_option maxHeartbeats 4000000 in
theorem pr_shelfOf (l : Launch) (hst9 : l.stackTraces = false) (G : Gt) (σ : St) (hR : Rel σ) (v : Int32) : Pair l G yL_shelfOf cL_shelfOf 4 [(0, 9, 12, 13)] yX4_shelfOf cX4_shelfOf 2 (some .int) [.int v] σ := by
  obtain ⟨n, th, mk, lf, nw, kp, hX, hM, hpic⟩ := hR
  have hX4 : gX σ = (nI n, (gX σ).2.1, (gX σ).2.2.1, (gX σ).2.2.2) := by rw [← hX]
  rcases nI_case v (n := n) (by have := hpic.1; omega) with ⟨k, hk, rfl⟩ | hb
  · refine ⟨0, fun σ1 => ∃ (x : Int32) (σ0 : St), (x = (if (gP σ k).2.1 < 5 then nI (gP σ k).2.1 else -1) ∧ Tr σ σ0) ∧ σ1 = setO σ0 x.toInt64, (w_shelfOf (P := fun x σ0 => x = (if (gP σ k).2.1 < 5 then nI (gP σ k).2.1 else -1) ∧ Tr σ σ0) l G σ _ (by decide) ((c_shelfOf l G σ hpic.ok hk hpic.1 hX4).post (fun r σ' h => ⟨h.1, by rw [h.2]; exact Tr.rf σ⟩))).post (fun r σ' h => ⟨h.1, h.2⟩), ?_⟩
    rintro σ1 ⟨x, σ0, ⟨rfl, ht9⟩, rfl⟩
    refine ⟨4, by decide, (m_shelfOf l G (setO σ0 _) (show gM (setO σ0 _) = _ from (congrArg (fun z => z.1) ht9.M).trans hM) hpic hk).post ?_⟩
    rintro r σ2 ⟨rfl, mk2, lf2, nw2, kp2, rfl, hp2⟩
    exact ⟨rfl, fun _ => rfl, n, 0, mk2, lf2, nw2, kp2, (congrArg (fun z => z.1) ht9.X).trans hX, rfl, hp2.cong (fun k hk => ht9.S hk) (fun q hq => ht9.P hq) (congrArg (fun z => z.2) ht9.X)⟩
  · refine ⟨1, fun σ1 => σ1 = σ, wx_shelfOf_1 l G σ v (by decide) (x_shelfOf l hst9 G σ hX4 hb), ?_⟩
    rintro σ1 rfl
    refine ⟨4, by decide, (m_shelfOf_b l G _ hM hpic v hb).post ?_⟩
    rintro r σ2 ⟨mk2, lf2, nw2, kp2, rfl, hp2⟩
    exact ⟨rfl, fun h => absurd h (by decide), n, 1, mk2, lf2, nw2, kp2, hX, rfl, hp2.cong (fun _ _ => rfl) (fun _ _ => rfl) rfl⟩
set_option maxRecDepth 100000 in
set_option maxHeartbeats 4000000 in
theorem pr_heatOf (l : Launch) (hst9 : l.stackTraces = false) (G : Gt) (σ : St) (hR : Rel σ) (v : Int32) : Pair l G yL_heatOf cL_heatOf 4 [(0, 9, 12, 13)] yX4_heatOf cX4_heatOf 2 (some .int) [.int v] σ := by
  obtain ⟨n, th, mk, lf, nw, kp, hX, hM, hpic⟩ := hR
  have hX4 : gX σ = (nI n, (gX σ).2.1, (gX σ).2.2.1, (gX σ).2.2.2) := by rw [← hX]
  rcases nI_case v (n := n) (by have := hpic.1; omega) with ⟨k, hk, rfl⟩ | hb
  · refine ⟨0, fun σ1 => ∃ (x : Int32) (σ0 : St), (x = (gP σ k).2.2.2.2.2 ∧ Tr σ σ0) ∧ σ1 = setO σ0 x.toInt64, (w_heatOf (P := fun x σ0 => x = (gP σ k).2.2.2.2.2 ∧ Tr σ σ0) l G σ _ (by decide) ((c_heatOf l G σ hk hpic.1 hX4).post (fun r σ' h => ⟨h.1, by rw [h.2]; exact Tr.rf σ⟩))).post (fun r σ' h => ⟨h.1, h.2⟩), ?_⟩
    rintro σ1 ⟨x, σ0, ⟨rfl, ht9⟩, rfl⟩
    refine ⟨4, by decide, (m_heatOf l G (setO σ0 _) (show gM (setO σ0 _) = _ from (congrArg (fun z => z.1) ht9.M).trans hM) hpic hk).post ?_⟩
    rintro r σ2 ⟨rfl, mk2, lf2, nw2, kp2, rfl, hp2⟩
    exact ⟨rfl, fun _ => rfl, n, 0, mk2, lf2, nw2, kp2, (congrArg (fun z => z.1) ht9.X).trans hX, rfl, hp2.cong (fun k hk => ht9.S hk) (fun q hq => ht9.P hq) (congrArg (fun z => z.2) ht9.X)⟩
  · refine ⟨1, fun σ1 => σ1 = σ, wx_heatOf_1 l G σ v (by decide) (x_heatOf l hst9 G σ hX4 hb), ?_⟩
    rintro σ1 rfl
    refine ⟨4, by decide, (m_heatOf_b l G _ hM hpic v hb).post ?_⟩
    rintro r σ2 ⟨mk2, lf2, nw2, kp2, rfl, hp2⟩
    exact ⟨rfl, fun h => absurd h (by decide), n, 1, mk2, lf2, nw2, kp2, hX, rfl, hp2.cong (fun _ _ => rfl) (fun _ _ => rfl) rfl⟩
set_option maxRecDepth 100000 in
set_option maxHeartbeats 4000000 in
theorem pr_ageOf (l : Launch) (hst9 : l.stackTraces = false) (G : Gt) (σ : St) (hR : Rel σ) (v : Int32) : Pair l G yL_ageOf cL_ageOf 4 [(0, 9, 12, 13)] yX4_ageOf cX4_ageOf 2 (some .int) [.int v] σ := by
  obtain ⟨n, th, mk, lf, nw, kp, hX, hM, hpic⟩ := hR
  have hX4 : gX σ = (nI n, (gX σ).2.1, (gX σ).2.2.1, (gX σ).2.2.2) := by rw [← hX]
  rcases nI_case v (n := n) (by have := hpic.1; omega) with ⟨k, hk, rfl⟩ | hb
  · refine ⟨0, fun σ1 => ∃ (x : Int32) (σ0 : St), (x = (gP σ k).2.2.2.2.1 ∧ Tr σ σ0) ∧ σ1 = setO σ0 x.toInt64, (w_ageOf (P := fun x σ0 => x = (gP σ k).2.2.2.2.1 ∧ Tr σ σ0) l G σ _ (by decide) ((c_ageOf l G σ hk hpic.1 hX4).post (fun r σ' h => ⟨h.1, by rw [h.2]; exact Tr.rf σ⟩))).post (fun r σ' h => ⟨h.1, h.2⟩), ?_⟩
    rintro σ1 ⟨x, σ0, ⟨rfl, ht9⟩, rfl⟩
    refine ⟨4, by decide, (m_ageOf l G (setO σ0 _) (show gM (setO σ0 _) = _ from (congrArg (fun z => z.1) ht9.M).trans hM) hpic hk).post ?_⟩
    rintro r σ2 ⟨rfl, mk2, lf2, nw2, kp2, rfl, hp2⟩
    exact ⟨rfl, fun _ => rfl, n, 0, mk2, lf2, nw2, kp2, (congrArg (fun z => z.1) ht9.X).trans hX, rfl, hp2.cong (fun k hk => ht9.S hk) (fun q hq => ht9.P hq) (congrArg (fun z => z.2) ht9.X)⟩
  · refine ⟨1, fun σ1 => σ1 = σ, wx_ageOf_1 l G σ v (by decide) (x_ageOf l hst9 G σ hX4 hb), ?_⟩
    rintro σ1 rfl
    refine ⟨4, by decide, (m_ageOf_b l G _ hM hpic v hb).post ?_⟩
    rintro r σ2 ⟨mk2, lf2, nw2, kp2, rfl, hp2⟩
    exact ⟨rfl, fun h => absurd h (by decide), n, 1, mk2, lf2, nw2, kp2, hX, rfl, hp2.cong (fun _ _ => rfl) (fun _ _ => rfl) rfl⟩
set_option maxRecDepth 100000 in
set_option maxHeartbeats 4000000 in
theorem pr_hoursLeft (l : Launch) (hst9 : l.stackTraces = false) (G : Gt) (σ : St) (hR : Rel σ) (v : Int32) : Pair l G yL_hoursLeft cL_hoursLeft 4 [(0, 9, 12, 13)] yX4_hoursLeft cX4_hoursLeft 2 (some .int) [.int v] σ := by
  obtain ⟨n, th, mk, lf, nw, kp, hX, hM, hpic⟩ := hR
  have hX4 : gX σ = (nI n, (gX σ).2.1, (gX σ).2.2.1, (gX σ).2.2.2) := by rw [← hX]
  rcases nI_case v (n := n) (by have := hpic.1; omega) with ⟨k, hk, rfl⟩ | hb
  · refine ⟨0, fun σ1 => ∃ (x : Int32) (σ0 : St), (x = (gP σ k).2.2.2.1 - (gP σ k).2.2.2.2.1 ∧ Tr σ σ0) ∧ σ1 = setO σ0 x.toInt64, (w_hoursLeft (P := fun x σ0 => x = (gP σ k).2.2.2.1 - (gP σ k).2.2.2.2.1 ∧ Tr σ σ0) l G σ _ (by decide) ((c_hoursLeft l G σ hk hpic.1 hX4).post (fun r σ' h => ⟨h.1, by rw [h.2]; exact Tr.rf σ⟩))).post (fun r σ' h => ⟨h.1, h.2⟩), ?_⟩
    rintro σ1 ⟨x, σ0, ⟨rfl, ht9⟩, rfl⟩
    refine ⟨4, by decide, (m_hoursLeft l G (setO σ0 _) (show gM (setO σ0 _) = _ from (congrArg (fun z => z.1) ht9.M).trans hM) hpic hk).post ?_⟩
    rintro r σ2 ⟨rfl, mk2, lf2, nw2, kp2, rfl, hp2⟩
    exact ⟨rfl, fun _ => rfl, n, 0, mk2, lf2, nw2, kp2, (congrArg (fun z => z.1) ht9.X).trans hX, rfl, hp2.cong (fun k hk => ht9.S hk) (fun q hq => ht9.P hq) (congrArg (fun z => z.2) ht9.X)⟩
  · refine ⟨1, fun σ1 => σ1 = σ, wx_hoursLeft_1 l G σ v (by decide) (x_hoursLeft l hst9 G σ hX4 hb), ?_⟩
    rintro σ1 rfl
    refine ⟨4, by decide, (m_hoursLeft_b l G _ hM hpic v hb).post ?_⟩
    rintro r σ2 ⟨mk2, lf2, nw2, kp2, rfl, hp2⟩
    exact ⟨rfl, fun h => absurd h (by decide), n, 1, mk2, lf2, nw2, kp2, hX, rfl, hp2.cong (fun _ _ => rfl) (fun _ _ => rfl) rfl⟩
set_option maxRecDepth 100000 in
set_option maxHeartbeats 4000000 in
theorem pr_isFrozen (l : Launch) (hst9 : l.stackTraces = false) (G : Gt) (σ : St) (hR : Rel σ) (v : Int32) : Pair l G yL_isFrozen cL_isFrozen 4 [(0, 16, 19, 13)] yX4_isFrozen cX4_isFrozen 2 (some .boolean) [.int v] σ := by
  obtain ⟨n, th, mk, lf, nw, kp, hX, hM, hpic⟩ := hR
  have hX4 : gX σ = (nI n, (gX σ).2.1, (gX σ).2.2.1, (gX σ).2.2.2) := by rw [← hX]
  rcases nI_case v (n := n) (by have := hpic.1; omega) with ⟨k, hk, rfl⟩ | hb
  · refine ⟨0, fun σ1 => ∃ (x : Int32) (σ0 : St), (x = (if (gP σ k).1 = 2 then 1 else 0) ∧ Tr σ σ0) ∧ σ1 = setO σ0 x.toInt64, (w_isFrozen (P := fun x σ0 => x = (if (gP σ k).1 = 2 then 1 else 0) ∧ Tr σ σ0) l G σ _ (by decide) ((c_isFrozen l G σ hpic.ok hk hpic.1 hX4).post (fun r σ' h => ⟨h.1, by rw [h.2]; exact Tr.rf σ⟩)) (fun v σ1 h => by rw [h.1]; split; exact Or.inr rfl; exact Or.inl rfl)).post (fun r σ' h => ⟨h.1, h.2⟩), ?_⟩
    rintro σ1 ⟨x, σ0, ⟨rfl, ht9⟩, rfl⟩
    refine ⟨5, by decide, (m_isFrozen l G (setO σ0 _) (show gM (setO σ0 _) = _ from (congrArg (fun z => z.1) ht9.M).trans hM) hpic hk).post ?_⟩
    rintro r σ2 ⟨rfl, mk2, lf2, nw2, kp2, rfl, hp2⟩
    exact ⟨rfl, fun _ => rfl, n, 0, mk2, lf2, nw2, kp2, (congrArg (fun z => z.1) ht9.X).trans hX, rfl, hp2.cong (fun k hk => ht9.S hk) (fun q hq => ht9.P hq) (congrArg (fun z => z.2) ht9.X)⟩
  · refine ⟨1, fun σ1 => σ1 = σ, wx_isFrozen_1 l G σ v (by decide) (x_isFrozen l hst9 G σ hX4 hb), ?_⟩
    rintro σ1 rfl
    refine ⟨5, by decide, (m_isFrozen_b l G _ hM hpic v hb).post ?_⟩
    rintro r σ2 ⟨mk2, lf2, nw2, kp2, rfl, hp2⟩
    exact ⟨rfl, fun h => absurd h (by decide), n, 1, mk2, lf2, nw2, kp2, hX, rfl, hp2.cong (fun _ _ => rfl) (fun _ _ => rfl) rfl⟩
set_option maxRecDepth 100000 in
set_option maxHeartbeats 4000000 in
theorem pr_isThawed (l : Launch) (hst9 : l.stackTraces = false) (G : Gt) (σ : St) (hR : Rel σ) (v : Int32) : Pair l G yL_isThawed cL_isThawed 4 [(0, 16, 19, 13)] yX4_isThawed cX4_isThawed 2 (some .boolean) [.int v] σ := by
  obtain ⟨n, th, mk, lf, nw, kp, hX, hM, hpic⟩ := hR
  have hX4 : gX σ = (nI n, (gX σ).2.1, (gX σ).2.2.1, (gX σ).2.2.2) := by rw [← hX]
  rcases nI_case v (n := n) (by have := hpic.1; omega) with ⟨k, hk, rfl⟩ | hb
  · refine ⟨0, fun σ1 => ∃ (x : Int32) (σ0 : St), (x = (if (gP σ k).1 = 3 then 1 else 0) ∧ Tr σ σ0) ∧ σ1 = setO σ0 x.toInt64, (w_isThawed (P := fun x σ0 => x = (if (gP σ k).1 = 3 then 1 else 0) ∧ Tr σ σ0) l G σ _ (by decide) ((c_isThawed l G σ hpic.ok hk hpic.1 hX4).post (fun r σ' h => ⟨h.1, by rw [h.2]; exact Tr.rf σ⟩)) (fun v σ1 h => by rw [h.1]; split; exact Or.inr rfl; exact Or.inl rfl)).post (fun r σ' h => ⟨h.1, h.2⟩), ?_⟩
    rintro σ1 ⟨x, σ0, ⟨rfl, ht9⟩, rfl⟩
    refine ⟨5, by decide, (m_isThawed l G (setO σ0 _) (show gM (setO σ0 _) = _ from (congrArg (fun z => z.1) ht9.M).trans hM) hpic hk).post ?_⟩
    rintro r σ2 ⟨rfl, mk2, lf2, nw2, kp2, rfl, hp2⟩
    exact ⟨rfl, fun _ => rfl, n, 0, mk2, lf2, nw2, kp2, (congrArg (fun z => z.1) ht9.X).trans hX, rfl, hp2.cong (fun k hk => ht9.S hk) (fun q hq => ht9.P hq) (congrArg (fun z => z.2) ht9.X)⟩
  · refine ⟨1, fun σ1 => σ1 = σ, wx_isThawed_1 l G σ v (by decide) (x_isThawed l hst9 G σ hX4 hb), ?_⟩
    rintro σ1 rfl
    refine ⟨5, by decide, (m_isThawed_b l G _ hM hpic v hb).post ?_⟩
    rintro r σ2 ⟨mk2, lf2, nw2, kp2, rfl, hp2⟩
    exact ⟨rfl, fun h => absurd h (by decide), n, 1, mk2, lf2, nw2, kp2, hX, rfl, hp2.cong (fun _ _ => rfl) (fun _ _ => rfl) rfl⟩
set_option maxRecDepth 100000 in
set_option maxHeartbeats 4000000 in
theorem pr_isKept (l : Launch) (hst9 : l.stackTraces = false) (G : Gt) (σ : St) (hR : Rel σ) (v : Int32) : Pair l G yL_isKept cL_isKept 4 [(0, 16, 19, 13)] yX4_isKept cX4_isKept 2 (some .boolean) [.int v] σ := by
  obtain ⟨n, th, mk, lf, nw, kp, hX, hM, hpic⟩ := hR
  have hX4 : gX σ = (nI n, (gX σ).2.1, (gX σ).2.2.1, (gX σ).2.2.2) := by rw [← hX]
  rcases nI_case v (n := n) (by have := hpic.1; omega) with ⟨k, hk, rfl⟩ | hb
  · refine ⟨0, fun σ1 => ∃ (x : Int32) (σ0 : St), (x = (if (gP σ k).1 = 4 then 1 else 0) ∧ Tr σ σ0) ∧ σ1 = setO σ0 x.toInt64, (w_isKept (P := fun x σ0 => x = (if (gP σ k).1 = 4 then 1 else 0) ∧ Tr σ σ0) l G σ _ (by decide) ((c_isKept l G σ hpic.ok hk hpic.1 hX4).post (fun r σ' h => ⟨h.1, by rw [h.2]; exact Tr.rf σ⟩)) (fun v σ1 h => by rw [h.1]; split; exact Or.inr rfl; exact Or.inl rfl)).post (fun r σ' h => ⟨h.1, h.2⟩), ?_⟩
    rintro σ1 ⟨x, σ0, ⟨rfl, ht9⟩, rfl⟩
    refine ⟨4, by decide, (m_isKept l G (setO σ0 _) (show gM (setO σ0 _) = _ from (congrArg (fun z => z.1) ht9.M).trans hM) hpic hk).post ?_⟩
    rintro r σ2 ⟨rfl, mk2, lf2, nw2, kp2, rfl, hp2⟩
    exact ⟨rfl, fun _ => rfl, n, 0, mk2, lf2, nw2, kp2, (congrArg (fun z => z.1) ht9.X).trans hX, rfl, hp2.cong (fun k hk => ht9.S hk) (fun q hq => ht9.P hq) (congrArg (fun z => z.2) ht9.X)⟩
  · refine ⟨1, fun σ1 => σ1 = σ, wx_isKept_1 l G σ v (by decide) (x_isKept l hst9 G σ hX4 hb), ?_⟩
    rintro σ1 rfl
    refine ⟨4, by decide, (m_isKept_b l G _ hM hpic v hb).post ?_⟩
    rintro r σ2 ⟨mk2, lf2, nw2, kp2, rfl, hp2⟩
    exact ⟨rfl, fun h => absurd h (by decide), n, 1, mk2, lf2, nw2, kp2, hX, rfl, hp2.cong (fun _ _ => rfl) (fun _ _ => rfl) rfl⟩
set_option maxRecDepth 100000 in
set_option maxHeartbeats 4000000 in
theorem pr_isExpired (l : Launch) (hst9 : l.stackTraces = false) (G : Gt) (σ : St) (hR : Rel σ) (v : Int32) : Pair l G yL_isExpired cL_isExpired 4 [(0, 16, 19, 13)] yX4_isExpired cX4_isExpired 2 (some .boolean) [.int v] σ := by
  obtain ⟨n, th, mk, lf, nw, kp, hX, hM, hpic⟩ := hR
  have hX4 : gX σ = (nI n, (gX σ).2.1, (gX σ).2.2.1, (gX σ).2.2.2) := by rw [← hX]
  rcases nI_case v (n := n) (by have := hpic.1; omega) with ⟨k, hk, rfl⟩ | hb
  · refine ⟨0, fun σ1 => ∃ (x : Int32) (σ0 : St), (x = (if (gP σ k).1 = 5 then 1 else 0) ∧ Tr σ σ0) ∧ σ1 = setO σ0 x.toInt64, (w_isExpired (P := fun x σ0 => x = (if (gP σ k).1 = 5 then 1 else 0) ∧ Tr σ σ0) l G σ _ (by decide) ((c_isExpired l G σ hpic.ok hk hpic.1 hX4).post (fun r σ' h => ⟨h.1, by rw [h.2]; exact Tr.rf σ⟩)) (fun v σ1 h => by rw [h.1]; split; exact Or.inr rfl; exact Or.inl rfl)).post (fun r σ' h => ⟨h.1, h.2⟩), ?_⟩
    rintro σ1 ⟨x, σ0, ⟨rfl, ht9⟩, rfl⟩
    refine ⟨4, by decide, (m_isExpired l G (setO σ0 _) (show gM (setO σ0 _) = _ from (congrArg (fun z => z.1) ht9.M).trans hM) hpic hk).post ?_⟩
    rintro r σ2 ⟨rfl, mk2, lf2, nw2, kp2, rfl, hp2⟩
    exact ⟨rfl, fun _ => rfl, n, 0, mk2, lf2, nw2, kp2, (congrArg (fun z => z.1) ht9.X).trans hX, rfl, hp2.cong (fun k hk => ht9.S hk) (fun q hq => ht9.P hq) (congrArg (fun z => z.2) ht9.X)⟩
  · refine ⟨1, fun σ1 => σ1 = σ, wx_isExpired_1 l G σ v (by decide) (x_isExpired l hst9 G σ hX4 hb), ?_⟩
    rintro σ1 rfl
    refine ⟨4, by decide, (m_isExpired_b l G _ hM hpic v hb).post ?_⟩
    rintro r σ2 ⟨mk2, lf2, nw2, kp2, rfl, hp2⟩
    exact ⟨rfl, fun h => absurd h (by decide), n, 1, mk2, lf2, nw2, kp2, hX, rfl, hp2.cong (fun _ _ => rfl) (fun _ _ => rfl) rfl⟩
set_option maxRecDepth 100000 in
set_option maxHeartbeats 4000000 in
theorem pr_owedBy (l : Launch) (hst9 : l.stackTraces = false) (G : Gt) (σ : St) (hR : Rel σ) (v : Int32) : Pair l G yL_owedBy cL_owedBy 4 [(0, 9, 12, 13)] yX4_owedBy cX4_owedBy 2 (some .int) [.int v] σ := by
  obtain ⟨n, th, mk, lf, nw, kp, hX, hM, hpic⟩ := hR
  have hX4 : gX σ = (nI n, (gX σ).2.1, (gX σ).2.2.1, (gX σ).2.2.2) := by rw [← hX]
  rcases nI_case v (n := 6) (by decide) with ⟨k, hk, rfl⟩ | hb
  · refine ⟨0, fun σ1 => ∃ (x : Int32) (σ0 : St), (x = owF σ (nI k) ∧ Tr σ σ0) ∧ σ1 = setO σ0 x.toInt64, (w_owedBy (P := fun x σ0 => x = owF σ (nI k) ∧ Tr σ σ0) l G σ _ (by decide) ((c_owedBy l G σ hk).post (fun r σ' h => ⟨h.1, by rw [h.2]; exact Tr.rf σ⟩))).post (fun r σ' h => ⟨h.1, h.2⟩), ?_⟩
    rintro σ1 ⟨x, σ0, ⟨rfl, ht9⟩, rfl⟩
    refine ⟨4, by decide, (m_owedBy l G (setO σ0 _) (show gM (setO σ0 _) = _ from (congrArg (fun z => z.1) ht9.M).trans hM) hpic hk).post ?_⟩
    rintro r σ2 ⟨rfl, mk2, lf2, nw2, kp2, rfl, hp2⟩
    exact ⟨rfl, fun _ => rfl, n, 0, mk2, lf2, nw2, kp2, (congrArg (fun z => z.1) ht9.X).trans hX, rfl, hp2.cong (fun k hk => ht9.S hk) (fun q hq => ht9.P hq) (congrArg (fun z => z.2) ht9.X)⟩
  · refine ⟨1, fun σ1 => σ1 = σ, wx_owedBy_1 l G σ v (by decide) (x_owedBy l hst9 G σ hb), ?_⟩
    rintro σ1 rfl
    refine ⟨4, by decide, (m_owedBy_b l G _ hM hpic v hb).post ?_⟩
    rintro r σ2 ⟨mk2, lf2, nw2, kp2, rfl, hp2⟩
    exact ⟨rfl, fun h => absurd h (by decide), n, 1, mk2, lf2, nw2, kp2, hX, rfl, hp2.cong (fun _ _ => rfl) (fun _ _ => rfl) rfl⟩
set_option maxRecDepth 100000 in
set_option maxHeartbeats 4000000 in
theorem pr_honourOf (l : Launch) (hst9 : l.stackTraces = false) (G : Gt) (σ : St) (hR : Rel σ) (v : Int32) : Pair l G yL_honourOf cL_honourOf 4 [(0, 9, 12, 13)] yX4_honourOf cX4_honourOf 2 (some .int) [.int v] σ := by
  obtain ⟨n, th, mk, lf, nw, kp, hX, hM, hpic⟩ := hR
  have hX4 : gX σ = (nI n, (gX σ).2.1, (gX σ).2.2.1, (gX σ).2.2.2) := by rw [← hX]
  rcases nI_case v (n := 6) (by decide) with ⟨k, hk, rfl⟩ | hb
  · refine ⟨0, fun σ1 => ∃ (x : Int32) (σ0 : St), (x = honF σ k ∧ Tr σ σ0) ∧ σ1 = setO σ0 x.toInt64, (w_honourOf (P := fun x σ0 => x = honF σ k ∧ Tr σ σ0) l G σ _ (by decide) ((c_honourOf l G σ hpic.ok hk).post (fun r σ' h => ⟨h.1, by rw [h.2]; exact Tr.rf σ⟩))).post (fun r σ' h => ⟨h.1, h.2⟩), ?_⟩
    rintro σ1 ⟨x, σ0, ⟨rfl, ht9⟩, rfl⟩
    refine ⟨4, by decide, (m_honourOf l G (setO σ0 _) (show gM (setO σ0 _) = _ from (congrArg (fun z => z.1) ht9.M).trans hM) hpic hk).post ?_⟩
    rintro r σ2 ⟨rfl, mk2, lf2, nw2, kp2, rfl, hp2⟩
    exact ⟨rfl, fun _ => rfl, n, 0, mk2, lf2, nw2, kp2, (congrArg (fun z => z.1) ht9.X).trans hX, rfl, hp2.cong (fun k hk => ht9.S hk) (fun q hq => ht9.P hq) (congrArg (fun z => z.2) ht9.X)⟩
  · refine ⟨1, fun σ1 => σ1 = σ, wx_honourOf_1 l G σ v (by decide) (x_honourOf l hst9 G σ hb), ?_⟩
    rintro σ1 rfl
    refine ⟨4, by decide, (m_honourOf_b l G _ hM hpic v hb).post ?_⟩
    rintro r σ2 ⟨mk2, lf2, nw2, kp2, rfl, hp2⟩
    exact ⟨rfl, fun h => absurd h (by decide), n, 1, mk2, lf2, nw2, kp2, hX, rfl, hp2.cong (fun _ _ => rfl) (fun _ _ => rfl) rfl⟩
set_option maxRecDepth 100000 in
set_option maxHeartbeats 4000000 in
theorem pr_hoursUntilFrozen (l : Launch) (hst9 : l.stackTraces = false) (G : Gt) (σ : St) (hR : Rel σ) (v : Int32) : Pair l G yL_hoursUntilFrozen cL_hoursUntilFrozen 4 [(0, 9, 12, 13)] yX4_hoursUntilFrozen cX4_hoursUntilFrozen 2 (some .int) [.int v] σ := by
  obtain ⟨n, th, mk, lf, nw, kp, hX, hM, hpic⟩ := hR
  have hX4 : gX σ = (nI n, (gX σ).2.1, (gX σ).2.2.1, (gX σ).2.2.2) := by rw [← hX]
  rcases nI_case v (n := n) (by have := hpic.1; omega) with ⟨k, hk, rfl⟩ | hb
  · refine ⟨0, fun σ1 => ∃ (x : Int32) (σ0 : St), (x = hUntil (gX σ).2.2.2 (gS σ (gP σ k).2.1) (gP σ k) 2 ∧ Tr σ σ0) ∧ σ1 = setO σ0 x.toInt64, (w_hoursUntilFrozen (P := fun x σ0 => x = hUntil (gX σ).2.2.2 (gS σ (gP σ k).2.1) (gP σ k) 2 ∧ Tr σ σ0) l G σ _ (by decide) (c_hoursUntilFrozen l G σ hpic.ok hk hpic.1 hX4)).post (fun r σ' h => ⟨h.1, h.2⟩), ?_⟩
    rintro σ1 ⟨x, σ0, ⟨rfl, ht9⟩, rfl⟩
    refine ⟨6, by decide, (m_hoursUntilFrozen l G (setO σ0 _) (show gM (setO σ0 _) = _ from (congrArg (fun z => z.1) ht9.M).trans hM) hpic hk).post ?_⟩
    rintro r σ2 ⟨rfl, mk2, lf2, nw2, kp2, rfl, hp2⟩
    exact ⟨rfl, fun _ => rfl, n, 0, mk2, lf2, nw2, kp2, (congrArg (fun z => z.1) ht9.X).trans hX, rfl, hp2.cong (fun k hk => ht9.S hk) (fun q hq => ht9.P hq) (congrArg (fun z => z.2) ht9.X)⟩
  · refine ⟨1, fun σ1 => σ1 = σ, wx_hoursUntilFrozen_1 l G σ v (by decide) (x_hoursUntilFrozen l hst9 G σ hX4 hb), ?_⟩
    rintro σ1 rfl
    refine ⟨6, by decide, (m_hoursUntilFrozen_b l G _ hM hpic v hb).post ?_⟩
    rintro r σ2 ⟨mk2, lf2, nw2, kp2, rfl, hp2⟩
    exact ⟨rfl, fun h => absurd h (by decide), n, 1, mk2, lf2, nw2, kp2, hX, rfl, hp2.cong (fun _ _ => rfl) (fun _ _ => rfl) rfl⟩
set_option maxRecDepth 100000 in
set_option maxHeartbeats 4000000 in
theorem pr_hoursUntilThawed (l : Launch) (hst9 : l.stackTraces = false) (G : Gt) (σ : St) (hR : Rel σ) (v : Int32) : Pair l G yL_hoursUntilThawed cL_hoursUntilThawed 4 [(0, 9, 12, 13)] yX4_hoursUntilThawed cX4_hoursUntilThawed 2 (some .int) [.int v] σ := by
  obtain ⟨n, th, mk, lf, nw, kp, hX, hM, hpic⟩ := hR
  have hX4 : gX σ = (nI n, (gX σ).2.1, (gX σ).2.2.1, (gX σ).2.2.2) := by rw [← hX]
  rcases nI_case v (n := n) (by have := hpic.1; omega) with ⟨k, hk, rfl⟩ | hb
  · refine ⟨0, fun σ1 => ∃ (x : Int32) (σ0 : St), (x = hUntil (gX σ).2.2.2 (gS σ (gP σ k).2.1) (gP σ k) 3 ∧ Tr σ σ0) ∧ σ1 = setO σ0 x.toInt64, (w_hoursUntilThawed (P := fun x σ0 => x = hUntil (gX σ).2.2.2 (gS σ (gP σ k).2.1) (gP σ k) 3 ∧ Tr σ σ0) l G σ _ (by decide) (c_hoursUntilThawed l G σ hpic.ok hk hpic.1 hX4)).post (fun r σ' h => ⟨h.1, h.2⟩), ?_⟩
    rintro σ1 ⟨x, σ0, ⟨rfl, ht9⟩, rfl⟩
    refine ⟨6, by decide, (m_hoursUntilThawed l G (setO σ0 _) (show gM (setO σ0 _) = _ from (congrArg (fun z => z.1) ht9.M).trans hM) hpic hk).post ?_⟩
    rintro r σ2 ⟨rfl, mk2, lf2, nw2, kp2, rfl, hp2⟩
    exact ⟨rfl, fun _ => rfl, n, 0, mk2, lf2, nw2, kp2, (congrArg (fun z => z.1) ht9.X).trans hX, rfl, hp2.cong (fun k hk => ht9.S hk) (fun q hq => ht9.P hq) (congrArg (fun z => z.2) ht9.X)⟩
  · refine ⟨1, fun σ1 => σ1 = σ, wx_hoursUntilThawed_1 l G σ v (by decide) (x_hoursUntilThawed l hst9 G σ hX4 hb), ?_⟩
    rintro σ1 rfl
    refine ⟨6, by decide, (m_hoursUntilThawed_b l G _ hM hpic v hb).post ?_⟩
    rintro r σ2 ⟨mk2, lf2, nw2, kp2, rfl, hp2⟩
    exact ⟨rfl, fun h => absurd h (by decide), n, 1, mk2, lf2, nw2, kp2, hX, rfl, hp2.cong (fun _ _ => rfl) (fun _ _ => rfl) rfl⟩
set_option maxRecDepth 100000 in
set_option maxHeartbeats 4000000 in
theorem pr_hoursUntilExpired (l : Launch) (hst9 : l.stackTraces = false) (G : Gt) (σ : St) (hR : Rel σ) (v : Int32) : Pair l G yL_hoursUntilExpired cL_hoursUntilExpired 4 [(0, 9, 12, 13)] yX4_hoursUntilExpired cX4_hoursUntilExpired 2 (some .int) [.int v] σ := by
  obtain ⟨n, th, mk, lf, nw, kp, hX, hM, hpic⟩ := hR
  have hX4 : gX σ = (nI n, (gX σ).2.1, (gX σ).2.2.1, (gX σ).2.2.2) := by rw [← hX]
  rcases nI_case v (n := n) (by have := hpic.1; omega) with ⟨k, hk, rfl⟩ | hb
  · refine ⟨0, fun σ1 => ∃ (x : Int32) (σ0 : St), (x = hUntil (gX σ).2.2.2 (gS σ (gP σ k).2.1) (gP σ k) 5 ∧ Tr σ σ0) ∧ σ1 = setO σ0 x.toInt64, (w_hoursUntilExpired (P := fun x σ0 => x = hUntil (gX σ).2.2.2 (gS σ (gP σ k).2.1) (gP σ k) 5 ∧ Tr σ σ0) l G σ _ (by decide) (c_hoursUntilExpired l G σ hpic.ok hk hpic.1 hX4)).post (fun r σ' h => ⟨h.1, h.2⟩), ?_⟩
    rintro σ1 ⟨x, σ0, ⟨rfl, ht9⟩, rfl⟩
    refine ⟨6, by decide, (m_hoursUntilExpired l G (setO σ0 _) (show gM (setO σ0 _) = _ from (congrArg (fun z => z.1) ht9.M).trans hM) hpic hk).post ?_⟩
    rintro r σ2 ⟨rfl, mk2, lf2, nw2, kp2, rfl, hp2⟩
    exact ⟨rfl, fun _ => rfl, n, 0, mk2, lf2, nw2, kp2, (congrArg (fun z => z.1) ht9.X).trans hX, rfl, hp2.cong (fun k hk => ht9.S hk) (fun q hq => ht9.P hq) (congrArg (fun z => z.2) ht9.X)⟩
  · refine ⟨1, fun σ1 => σ1 = σ, wx_hoursUntilExpired_1 l G σ v (by decide) (x_hoursUntilExpired l hst9 G σ hX4 hb), ?_⟩
    rintro σ1 rfl
    refine ⟨6, by decide, (m_hoursUntilExpired_b l G _ hM hpic v hb).post ?_⟩
    rintro r σ2 ⟨mk2, lf2, nw2, kp2, rfl, hp2⟩
    exact ⟨rfl, fun h => absurd h (by decide), n, 1, mk2, lf2, nw2, kp2, hX, rfl, hp2.cong (fun _ _ => rfl) (fun _ _ => rfl) rfl⟩
set_option maxRecDepth 100000 in
set_option maxHeartbeats 4000000 in
theorem pr_leftIn (l : Launch) (hst9 : l.stackTraces = false) (G : Gt) (σ : St) (hR : Rel σ) (v : Int32) : Pair l G yL_leftIn cL_leftIn 4 [(0, 9, 12, 15)] yX4_leftIn cX4_leftIn 4 (some .int) [.int v] σ := by
  obtain ⟨n, th, mk, lf, nw, kp, hX, hM, hpic⟩ := hR
  have hX4 : gX σ = (nI n, (gX σ).2.1, (gX σ).2.2.1, (gX σ).2.2.2) := by rw [← hX]
  rcases h_case v with ⟨k, hk1, hk, rfl⟩ | hb
  · refine ⟨0, fun σ1 => ∃ (x : Int32) (σ0 : St), (x = sumN (leftF σ k) 20 ∧ Tr σ σ0) ∧ σ1 = setO σ0 x.toInt64, (w_leftIn (P := fun x σ0 => x = sumN (leftF σ k) 20 ∧ Tr σ σ0) l G σ _ (by decide) (c_leftIn l G σ hpic.ok hk1 hk)).post (fun r σ' h => ⟨h.1, h.2⟩), ?_⟩
    rintro σ1 ⟨x, σ0, ⟨rfl, ht9⟩, rfl⟩
    refine ⟨6, by decide, (m_leftIn l G (setO σ0 _) (show gM (setO σ0 _) = _ from (congrArg (fun z => z.1) ht9.M).trans hM) hpic hk1 hk).post ?_⟩
    rintro r σ2 ⟨rfl, mk2, lf2, nw2, kp2, rfl, hp2⟩
    exact ⟨rfl, fun _ => rfl, n, 0, mk2, lf2, nw2, kp2, (congrArg (fun z => z.1) ht9.X).trans hX, rfl, hp2.cong (fun k hk => ht9.S hk) (fun q hq => ht9.P hq) (congrArg (fun z => z.2) ht9.X)⟩
  · refine ⟨1, fun σ1 => σ1 = σ, wx_leftIn_1 l G σ v (by decide) (x_leftIn l hst9 G σ hb), ?_⟩
    rintro σ1 rfl
    refine ⟨6, by decide, (m_leftIn_b l G _ hM hpic v hb).post ?_⟩
    rintro r σ2 ⟨mk2, lf2, nw2, kp2, rfl, hp2⟩
    exact ⟨rfl, fun h => absurd h (by decide), n, 1, mk2, lf2, nw2, kp2, hX, rfl, hp2.cong (fun _ _ => rfl) (fun _ _ => rfl) rfl⟩
