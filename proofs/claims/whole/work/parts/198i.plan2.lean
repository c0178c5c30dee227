theorem sim_plan : Sim_plan II := by
  intro MC TC MM TM hI a1 a2 a3 a4
  obtain ⟨rfl, A, hW, hC, hM⟩ := hI
  obtain ⟨σ, hs, ht⟩ := id hC.2.2.1
  have hWB := hW.2.2.1.2.1
  have hpe := hW.2.1.1
  have hlg := hW.2.1.2.2.1
  have bad : ∀ (x y : Option (Int32 × Mem)), x = some (-1, MC) → y = some (-1, MM) → ∃ (u v : Int32 × Mem), x = some u ∧ y = some v ∧ u.1 = v.1 ∧ II u.2 TC v.2 TC := fun x y hx hy => ⟨_, _, hx, hy, rfl, rfl, A, hW, hC, hM⟩
  rcases isOn a1 (by omega) hC.2.1.1 hM.2.1.1 with ⟨p, hp, rfl, k1, k2⟩ | ⟨k1, k2⟩
  · have hsz := hWB.2.2.1 p hp
    rcases wi3 a2 1 20 (by decide) (by decide) with ⟨n, hn1, hn2, rfl, k3, k4⟩ | ⟨k3, k4⟩
    · replace k3 : gX7_within (nI n) 1 20 = some 1 := k3
      replace k4 : gX8_in (nI n) 1 20 = some 1 := k4
      rcases wi3 a3 1 12 (by decide) (by decide) with ⟨w, hw1, hw2, rfl, k5, k6⟩ | ⟨k5, k6⟩
      · replace k5 : gX7_within (nI w) 1 12 = some 1 := k5
        replace k6 : gX8_in (nI w) 1 12 = some 1 := k6
        rcases wi a4 1 (by decide) with ⟨x, hx, rfl, k7, k8⟩ | ⟨k7, k8⟩
        · replace k7 : gX7_within (nI x) 0 1 = some 1 := k7
          replace k8 : gX8_in (nI x) 0 1 = some 1 := k8
          obtain ⟨N1, a1, a2, a3, a4, a5, a6, a7, a8⟩ := c_gr hW.2.1 hWB hp hn2 hC.2.1 ht.2.1
          have hSr : ∃ Fc Lc, FL Fc Lc ∧ N1 185 3 = nI Fc ∧ N1 185 4 = nI Lc := by
            rw [a5, a6]
            rcases hC.2.2.2.2.2.2 with ⟨q1, q2⟩ | ⟨q1, q2⟩
            · exact ⟨189, 190, Or.inl ⟨rfl, rfl⟩, q1, q2⟩
            · exact ⟨190, 189, Or.inr ⟨rfl, rfl⟩, q1, q2⟩
          obtain ⟨Fc, Lc, hFL, c3, c4⟩ := hSr
          obtain ⟨N2, b1, b2, b3, b4⟩ := c_fill (o := Fc) (n0 := 13) (x := 1000) (by decide) N1
          obtain ⟨P1, d1, d2, d3, d4, d5, d6⟩ := m_as hpe hlg hWB hp hM.2.2.1.2.1
          have g192 : ldA 5 (N1 192) (nI p) = some (nI (tS (aW A) p)) := by rw [a8 _ (by decide) (by decide), ldA_n _ (by omega) (by decide), hC.2.1.2.2.1 p hp]
          obtain ⟨fr, MC', rr, MM', r1, r2, r3, r4, r5, r6, r7⟩ := both_plan (x4 := nI x) (n := n) (w := w) hW.2.1 hWB hp hn2 hw2 n 0 (bS (mB (aT A)) p) 0 (fun l => if l = bS (mB (aT A)) p then 0 else 1000) Fc Lc FU FU (us N2 Fc (bS (mB (aT A)) p) 0) P1 (by omega) (by omega) (by unfold FU; omega) (by unfold FU; omega) hFL (PI_0 hsz) (fun l _ => by split <;> omega) (by rw [us_ne _ _ _ (by omega), b2 _ (by omega)]; exact c3) (by rw [us_ne _ _ _ (by omega), b2 _ (by omega)]; exact c4) (by rw [us_ne _ _ _ (by omega), b2 _ (by omega)]; exact a2) (by rw [us_ne _ _ _ (by omega), b2 _ (by omega)]; exact a4) (fun i hi => by rw [us_ne _ _ _ (by omega), b2 _ (by omega)]; exact a7 i hi) (fun l hl => by
            rw [us_app]
            by_cases q : l = bS (mB (aT A)) p
            · rw [if_pos ⟨rfl, q⟩, if_pos q]; rfl
            · rw [if_neg (fun z => q z.2), if_neg q, b4 l hl]; rfl) (hM.2.1.cg (d5 _ (by decide) (by decide)) (d5 _ (by decide) (by decide)) (fun a z1 z2 => d6 a (by omega) (by omega))) (by rw [d6 _ (by decide) (by decide)]; exact hM.2.2.1.2.1) (by rw [d2]; congr 1; omega) d3 (fun i hi => by
            have hi : i < bS (mB (aT A)) p := hi
            rw [d4 i hi]; unfold hrw; rw [if_pos hi])
          have hff : gX3_firstFailingEvening (nI (tS (aW A) p)) (nI n) (nI w) N1 = some (fr, MC') := by
            rw [gX3_firstFailingEvening, c3, gA_n (c := Fc) (by omega), obs, cl_n (c := Fc) (by omega), b1, obs, show N2 185 3 = nI Fc by rw [b2 _ (by omega)]; exact c3, gA_n (c := Fc) (by omega), obs, cl_n (c := Fc) (by omega), show N2 185 5 = nI (bS (mB (aT A)) p) by rw [b2 _ (by omega)]; exact a2, stA_n _ _ _ (by omega) (by decide), obs]
            exact r1
          have hCN : RC A MC' := by
            have q : ∀ a, a ≠ 185 → a ≠ 188 → a ≠ 189 → a ≠ 190 → MC' a = MC a := fun a z1 z2 z3 z4 => by rw [r5 a z1 z3 z4, us_ne _ _ _ (by omega), b2 a (by omega), a8 a z1 z2]
            obtain ⟨c1, c2, c3, c4, c5, c6, c7⟩ := hC
            exact ⟨c1.cg (q _ (by decide) (by decide) (by decide) (by decide)) (q _ (by decide) (by decide) (by decide) (by decide)), c2.cg (fun a z1 z2 => q a (by omega) (by omega) (by omega) (by omega)), TmC8 hW.2.2.1 c3 (fun a z1 z2 => q a (by omega) (by omega) (by omega) (by omega)), c4.cg hW.2.2.2.1 (q _ (by decide) (by decide) (by decide) (by decide)) (q _ (by decide) (by decide) (by decide) (by decide)) (fun a z1 z2 => q a (by omega) (by omega) (by omega) (by omega)), c5.cg (by rw [q 181 (by decide) (by decide) (by decide) (by decide)]) (q _ (by decide) (by decide) (by decide) (by decide)), c6.cg (by rw [q 181 (by decide) (by decide) (by decide) (by decide)]) (q _ (by decide) (by decide) (by decide) (by decide)) (q _ (by decide) (by decide) (by decide) (by decide)), r4⟩
          have hMN : RM A MM' := hM.cg (fun i hi => by rw [r6 i (by omega) (by omega), d5 i (by omega) (by omega)]) (fun a z1 z2 => by rw [r7 a (by omega) (by omega), d6 a (by omega) (by omega)])
          have hm : gX8_plan (nI p) (nI n) (nI w) (nI x) MM = some (rr, MM') := by
            rw [gX8_plan, k2, obs, if_neg (by decide), k4, obs, if_neg (by decide), k6, obs, if_neg (by decide), k8, obs, if_neg (by decide), d1, obs]
            exact r2
          have hc : gX7_plan (nI p) (nI n) (nI w) (nI x) MC = some (rr, MC') := by
            rw [gX7_plan, k1, obs, if_neg (by decide), k3, obs, if_neg (by decide), k5, obs, if_neg (by decide), k7, obs, if_neg (by decide), a1, obs, g192, obs, hff, obs]
            rcases (show x = 0 ∨ x = 1 by omega) with rfl | rfl
            · rw [if_neg (show ¬ nI 0 = 1 by decide)]
              rcases r3 with ⟨q1, cc, q2, q3⟩ | ⟨q1, q3⟩
              · rw [if_pos (show (fr, MC').1 = -9 from q1), q2, obs, gX7_plan_108, q3]; rfl
              · rw [if_neg (show ¬ (fr, MC').1 = -9 from q1), gX7_plan_108, q3]; rfl
            · rw [if_pos (show nI 1 = 1 from rfl)]
              rcases r3 with ⟨q1, cc, q2, q3⟩ | ⟨q1, q3⟩
              · rw [q3, if_neg (by decide)]
                show some (fr, MC') = _
                rw [q1]
              · rw [q3, if_neg (by decide)]
          exact ⟨_, _, hc, hm, rfl, rfl, A, hW, hCN, hMN⟩
        · replace k7 : gX7_within a4 0 1 = some 0 := k7
          replace k8 : gX8_in a4 0 1 = some 0 := k8
          refine bad _ _ ?_ ?_
          · rw [gX7_plan, k1, obs, if_neg (by decide), k3, obs, if_neg (by decide), k5, obs, if_neg (by decide), k7, obs, if_pos rfl]
          · rw [gX8_plan, k2, obs, if_neg (by decide), k4, obs, if_neg (by decide), k6, obs, if_neg (by decide), k8, obs, if_pos rfl]
      · replace k5 : gX7_within a3 1 12 = some 0 := k5
        replace k6 : gX8_in a3 1 12 = some 0 := k6
        refine bad _ _ ?_ ?_
        · rw [gX7_plan, k1, obs, if_neg (by decide), k3, obs, if_neg (by decide), k5, obs, if_pos rfl]
        · rw [gX8_plan, k2, obs, if_neg (by decide), k4, obs, if_neg (by decide), k6, obs, if_pos rfl]
    · replace k3 : gX7_within a2 1 20 = some 0 := k3
      replace k4 : gX8_in a2 1 20 = some 0 := k4
      refine bad _ _ ?_ ?_
      · rw [gX7_plan, k1, obs, if_neg (by decide), k3, obs, if_pos rfl]
      · rw [gX8_plan, k2, obs, if_neg (by decide), k4, obs, if_pos rfl]
  · refine bad _ _ ?_ ?_
    · rw [gX7_plan, k1, obs, if_pos rfl]
    · rw [gX8_plan, k2, obs, if_pos rfl]
