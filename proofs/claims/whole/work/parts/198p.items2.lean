theorem item_fin {x : Nat × (Nat → Nat)} (hX : WfX x) {MC MM MC1 MM1 : Mem} {st st1 kind1 val1 nx1 : Nat} {W : Twn} {j : Nat} {lt jt : Bool} (hC : TxC MC x) (hM : TxM MM x) (eC : gX2_tellItem MC = some (1, MC1)) (eM : gX8_readItem MM = gX8_readItem_74 MM1) (hT : TR x MC1 MM1 st1 kind1 val1 nx1) (hst : st + 1 ≤ st1) (h19 : MM1 197 19 = 0) (dC : DC MC1 W j lt jt) (dM : DM MM1 W j lt jt) (hW : WfD W j lt jt) (sC : ScC MC MC1) (sM : ScM MM MM1) (h20 : MM1 197 20 = MM 197 20) : OkI x MC MM st ∨ FaI x MC MM := by
  rcases both_end hX (hC.sc sC) (hM.sc sM) hT h19 with ⟨MC2, MM2, st2, kind2, val2, nx2, e1, e2, e3, e4, e5, e6, e7⟩ | ⟨e1, e2⟩
  · left
    refine ⟨MC1, MC2, MM2, st2, kind2, val2, nx2, W, j, lt, jt, eC, e1, e2, eM.trans e3, e4, dC.fr e6, (dM.u19 0).fr e7, hW, ?_, by omega, sC.tr e6.sc, sM.tr ((us_scM MM1 (i := 19) 0 (by decide)).tr e7.sc), ?_⟩
    · rw [e7.1 19 (by decide), us_app, if_pos ⟨rfl, rfl⟩]
    · rw [e7.1 20 (by decide), us_app, if_neg (by decide)]; exact h20
  · right
    refine ⟨1, MC1, us MM1 197 19 1, st1, eC, Or.inr ⟨rfl, e1⟩, hT.1, hT.2.2.2.1, eM.trans e2, ?_, ?_, sC, sM.tr (us_scM _ _ (by decide))⟩
    · rw [us_app, if_pos ⟨rfl, rfl⟩]
    · rw [us_app, if_neg (by decide)]; exact hT.2.2.1
theorem both_item {x : Nat × (Nat → Nat)} (hX : WfX x) {MC MM : Mem} {st kind val nx : Nat} (hC : TxC MC x) (hM : TxM MM x) (hT : TR x MC MM st kind val nx) (hk0 : kind ≠ 0) (h19 : MM 197 19 = 0) {W : Twn} {j : Nat} {lt jt : Bool} (dC : DC MC W j lt jt) (dM : DM MM W j lt jt) (hW : WfD W j lt jt) : OkI x MC MM st ∨ FaI x MC MM := by
  have hk5 := hT.2.2.2.2.1
  have refuse : gX2_tellItem MC = some (0, MC) → gX8_readItem MM = some (us MM 197 19 1) → FaI x MC MM := fun e1 e2 => ⟨0, MC, us MM 197 19 1, st, e1, Or.inl rfl, hT.1, hT.2.2.2.1, e2, by rw [us_app, if_pos ⟨rfl, rfl⟩], by rw [us_app, if_neg (by decide)]; exact hT.2.2.1, fun a _ => rfl, us_scM MM _ (by decide)⟩
  by_cases hk : kind = 1
  · subst hk
    obtain ⟨p1, p2, p3, p4⟩ := hT.2.2.2.2.2.1 (Or.inl rfl)
    obtain ⟨v1, v2, v3⟩ := hT.2.2.2.2.2.2.1 (Or.inl rfl)
    have t17 := hT.2.2.2.2.2.2.2.1 (by decide)
    by_cases hm : mbP W lt jt val
    · obtain ⟨C1, M1, st1, kind1, val1, nx1, a1, a2, a3, a4, a5, a6⟩ := both_adv hX p2 hC hM p3 p4
      have dC1 := dC.fr a5
      have dM1 := dM.fr a6
      have g19 : M1 197 19 = 0 := by rw [a6.1 19 (by decide)]; exact h19
      have g20 : M1 197 20 = MM 197 20 := a6.1 20 (by decide)
      have hC1 := hC.sc a5.sc
      have hM1 := hM.sc a6.sc
      have eC0 : gX2_tellItem MC = if nI val = 109 then ((gX2_tellLongest C1).bind fun u38 => (zr u38.1).bind fun v40 => some (v40, u38.2)) else (if nI val = 112 then ((gX2_tellOne (C1 4 3) C1).bind fun u43 => (zr u43.1).bind fun v45 => some (v45, u43.2)) else ((gX2_tellChair C1).bind fun u47 => (zr u47.1).bind fun v49 => some (v49, u47.2))) := by
        rw [gX2_tellItem, v1, obs, hT.2.1, if_pos (show nI 1 = 1 from rfl), c_may dC hW v3, obs, if_pos hm, if_neg (show ¬ (1 : Int32) = 0 by decide), a1, obs]
      have eM0 : gX8_readItem MM = if nI val = 112 then ((gX8_readOne M1).bind fun u117 => gX8_readItem_74 u117) else (if nI val = 109 then ((gX8_takesNumber 1 12 M1).bind fun u114 => (some (us u114.2 197 25 u114.1)).bind fun M116 => gX8_readItem_74 M116) else ((gX8_takesNumber 0 3 M1).bind fun u105 => (some (us u105.2 197 26 u105.1)).bind fun M107 => gX8_readItem_74 M107)) := by
        rw [gX8_readItem, v2, obs, t17, if_pos (show nI 1 = 1 from rfl), m_may dM hW v3, obs, if_pos hm, if_neg (show ¬ (1 : Int32) = 0 by decide), a2, obs]
      rcases hm with ⟨q1, q2⟩ | ⟨q1, q2⟩ | ⟨q1, q2⟩
      · subst q1
        rw [if_neg (show ¬ nI 106 = 109 by decide), if_neg (show ¬ nI 106 = 112 by decide)] at eC0
        rw [if_neg (show ¬ nI 106 = 112 by decide), if_neg (show ¬ nI 106 = 109 by decide)] at eM0
        rcases item_j hX hC1 hM1 a3 g19 dC1 dM1 hW with ⟨C2, M2, st2, kind2, val2, nx2, j2, r1, r2, r3, r4, r5, r6, r7, r8, r9, r10, r11⟩ | ⟨M2, r1, r2, r3, r4, r5⟩
        · exact item_fin hX hC hM (by rw [eC0, r1, obs, zr_1, obs]) (eM0.trans r2) r3 (by omega) r5 r6 r7 r8 (a5.sc.tr r9) (a6.sc.tr r10) (r11.trans g20)
        · right
          exact ⟨0, C1, M2, st1, by rw [eC0, r1, obs, zr_0, obs], Or.inl rfl, a3.1, a3.2.2.2.1, eM0.trans r2, r3, r4, a5.sc, a6.sc.tr r5⟩
      · subst q1
        rw [if_pos (show nI 109 = 109 from rfl)] at eC0
        rw [if_neg (show ¬ nI 109 = 112 by decide), if_pos (show nI 109 = 109 from rfl)] at eM0
        rcases item_m hX hC1 hM1 a3 g19 dC1 dM1 hW with ⟨C2, M2, st2, kind2, val2, nx2, W2, r1, r2, r3, r4, r5, r6, r7, r8, r9, r10, r11⟩ | ⟨M2, r1, r2, r3, r4, r5⟩
        · exact item_fin hX hC hM (by rw [eC0, r1, obs, zr_1, obs]) (eM0.trans r2) r3 (by omega) r5 r6 r7 r8 (a5.sc.tr r9) (a6.sc.tr r10) (r11.trans g20)
        · right
          exact ⟨0, C1, M2, st1, by rw [eC0, r1, obs, zr_0, obs], Or.inl rfl, a3.1, a3.2.2.2.1, eM0.trans r2, r3, r4, a5.sc, a6.sc.tr r5⟩
      · subst q1
        rw [if_neg (show ¬ nI 112 = 109 by decide), if_pos (show nI 112 = 112 from rfl)] at eC0
        rw [if_pos (show nI 112 = 112 from rfl)] at eM0
        rcases item_p hX hC1 hM1 a3 g19 dC1 dM1 hW q2 with ⟨C2, M2, st2, kind2, val2, nx2, W2, r1, r2, r3, r4, r5, r6, r7, r8, r9, r10, r11⟩ | ⟨r, C2, M2, st2, r1, r2, r3, r4, r5, r6, r7, r8, r9⟩
        · exact item_fin hX hC hM (by rw [eC0, r1, obs, zr_1, obs]) (by rw [eM0, r2, obs]) r3 (by omega) r5 r6 r7 r8 (a5.sc.tr r9) (a6.sc.tr r10) (r11.trans g20)
        · right
          refine ⟨r, C2, us M2 197 19 1, st2, ?_, r2, r3, r4, ?_, ?_, ?_, a5.sc.tr r8, (a6.sc.tr r9).tr (us_scM _ _ (by decide))⟩
          · rcases r2 with q | ⟨q, _⟩
            · subst q; rw [eC0, r1, obs, zr_0, obs]
            · subst q; rw [eC0, r1, obs, zr_1, obs]
          · rw [eM0, r5, obs, m_end1 (by rw [r6]; decide)]
          · rw [us_app, if_pos ⟨rfl, rfl⟩]
          · rw [us_app, if_neg (by decide)]; exact r7
    · right
      refine refuse ?_ ?_
      · rw [gX2_tellItem, v1, obs, hT.2.1, if_pos (show nI 1 = 1 from rfl), c_may dC hW v3, obs, if_neg hm, if_pos (show (0 : Int32) = 0 from rfl)]
      · rw [gX8_readItem, v2, obs, t17, if_pos (show nI 1 = 1 from rfl), m_may dM hW v3, obs, if_neg hm, if_pos (show (0 : Int32) = 0 from rfl), gX8_readItem_21, obs]
  · right
    refine refuse ?_ ?_
    · rw [gX2_tellItem, obs, hT.2.1, if_neg (show ¬ nI kind = 1 from nI_ne (b := 1) (by omega) (by omega) hk)]
    · by_cases h4k : kind = 4
      · rcases hT.2.2.2.2.2.2.2.2 h4k with q | ⟨q, q2⟩
        · rw [gX8_readItem, obs, q, if_neg (show ¬ nI 4 = 1 by decide), gX8_readItem_21, obs]
        · rw [gX8_readItem, q2, obs, q, if_pos (show nI 1 = 1 from rfl), m_may dM hW (by omega), obs, if_neg (show ¬ mbP W lt jt 0 by rintro (z | z | z) <;> omega), if_pos (show (0 : Int32) = 0 from rfl), gX8_readItem_21, obs]
      · rw [gX8_readItem, obs, hT.2.2.2.2.2.2.2.1 h4k, if_neg (show ¬ nI kind = 1 from nI_ne (b := 1) (by omega) (by omega) hk), gX8_readItem_21, obs]
theorem both_items {x : Nat × (Nat → Nat)} (hX : WfX x) : ∀ (m items st kind val nx fu1 fu2 : Nat) (MC MM : Mem) (W : Twn) (j : Nat) (lt jt : Bool), x.1 + 1 - st ≤ m → m < fu1 → m < fu2 → 2 * items ≤ st → TxC MC x → TxM MM x → TR x MC MM st kind val nx → MM 197 19 = 0 → MM 197 20 = nI items → DC MC W j lt jt → DM MM W j lt jt → WfD W j lt jt → (∃ (MC' MM' : Mem) (st' : Nat), st' ≤ x.1 ∧ gX2_tellAll_28 fu1 (nI items) MC = some (-10 - nI st', MC') ∧ gX8_shop_34 fu2 MM = some (-10 - nI st', MM') ∧ ScC MC MC' ∧ ScM MM MM') ∨ (∃ (MC' MM' : Mem) (items' : Nat) (W' : Twn) (j' : Nat) (lt' jt' : Bool), items' ≤ 60 ∧ gX2_tellAll_28 fu1 (nI items) MC = some (nI items', MC') ∧ gX8_shop_34 fu2 MM = gX8_shop_65 MM' ∧ MM' 197 19 = 0 ∧ MM' 197 20 = nI items' ∧ DC MC' W' j' lt' jt' ∧ DM MM' W' j' lt' jt' ∧ WfD W' j' lt' jt' ∧ ScC MC MC' ∧ ScM MM MM') := by
  have hN := hX.1
  intro m
  induction m with
  | zero =>
    intro items st kind val nx fu1 fu2 MC MM W j lt jt h1 hf1 hf2 hi hC hM hT h19 h20 dC dM hW
    have := hT.2.2.2.1
    omega
  | succ m ih =>
    intro items st kind val nx fu1 fu2 MC MM W j lt jt h1 hf1 hf2 hi hC hM hT h19 h20 dC dM hW
    obtain ⟨fu1, rfl⟩ : ∃ z, fu1 = z + 1 := ⟨fu1 - 1, by omega⟩
    obtain ⟨fu2, rfl⟩ : ∃ z, fu2 = z + 1 := ⟨fu2 - 1, by omega⟩
    have hst := hT.2.2.2.1
    have hk5 := hT.2.2.2.2.1
    have h120 : ¬ (120 : Int32) ≤ nI items := nI_ge (b := 120) (by omega) (by omega)
    by_cases hk : kind = 0
    · subst hk
      right
      refine ⟨MC, MM, items, W, j, lt, jt, by omega, ?_, ?_, h19, h20, dC, dM, hW, fun a _ => rfl, ⟨fun i _ => rfl, fun a _ _ => rfl⟩⟩
      · rw [gX2_tellAll_28, if_neg h120, hT.2.1, if_pos (show nI 0 = 0 from rfl), gX2_tellAll_74]
      · rw [gX8_shop_34, hT.2.2.2.2.2.2.2.1 (by decide), if_pos (show nI 0 = 0 from rfl)]
    · have hnC : ¬ MC 1 4 = 0 := by rw [hT.2.1]; exact nI_ne (b := 0) (by omega) (by omega) hk
      have hnM : ¬ MM 197 17 = 0 := by
        by_cases h4k : kind = 4
        · rcases hT.2.2.2.2.2.2.2.2 h4k with q | ⟨q, _⟩
          · rw [q]; decide
          · rw [q]; decide
        · rw [hT.2.2.2.2.2.2.2.1 h4k]; exact nI_ne (b := 0) (by omega) (by omega) hk
      rcases both_item hX hC hM hT hk h19 dC dM hW with ⟨MC1, MC2, MM2, st2, kind2, val2, nx2, W2, j2, lt2, jt2, e1, e2, e3, e4, e5, e6, e7, e8, e9, e10, e11, e12, e13⟩ | ⟨r, MC1, MM1, st1, e1, e2, e3, e4, e5, e6, e7, e8, e9⟩
      · have g20 : MM2 197 20 + 1 = nI (items + 1) := by rw [e13, h20, nI_1]
        have sM2 : ScM MM2 (us MM2 197 20 (nI (items + 1))) := us_scM MM2 _ (by decide)
        have eC : gX2_tellAll_28 (fu1 + 1) (nI items) MC = gX2_tellAll_28 fu1 (nI (items + 1)) MC2 := by
          rw [gX2_tellAll_28, if_neg h120, if_neg hnC, e1, obs, if_neg (show ¬ (1, MC1).1 = (0 : Int32) from show ¬ (1 : Int32) = 0 by decide), if_pos (show (1, MC1).2 1 4 = 3 from e2), show gX2_advance (1, MC1).2 = some MC2 from e3, obs, nI_1, obs]
        have eM : gX8_shop_34 (fu2 + 1) MM = gX8_shop_34 fu2 (us MM2 197 20 (nI (items + 1))) := by
          rw [gX8_shop_34, if_neg hnM, if_pos h19, e4, obs, g20, obs]
        rw [eC, eM]
        have hst2 := e5.2.2.2.1
        have := ih (items + 1) st2 kind2 val2 nx2 fu1 fu2 MC2 (us MM2 197 20 (nI (items + 1))) W2 j2 lt2 jt2 (by omega) (by omega) (by omega) (by omega) (hC.sc e11) (hM.sc (e12.tr sM2)) (e5.cgM (fun i z1 z2 => by rw [us_app, if_neg (fun z => by omega)])) (by rw [us_app, if_neg (by decide)]; exact e9) (by rw [us_app, if_pos ⟨rfl, rfl⟩]) e6 (by
          obtain ⟨h1, h2, h3, h4, h5, h6⟩ := e7
          exact ⟨by rw [us_app, if_neg (by decide)]; exact h1, by rw [us_app, if_neg (by decide)]; exact h2, by rw [us_app, if_neg (by decide)]; exact h3, fun p hp => by rw [us_ne _ _ _ (by decide)]; exact h4 p hp, fun p hp => by rw [us_ne _ _ _ (by decide)]; exact h5 p hp, fun p hp k hk => by rw [us_ne _ _ _ (by decide)]; exact h6 p hp k hk⟩) e8
        rcases this with ⟨MC', MM', st', q1, q2, q3, q4, q5⟩ | ⟨MC', MM', items', W', j', lt', jt', q1, q2, q3, q4, q5, q6, q7, q8, q9, q10⟩
        · exact Or.inl ⟨MC', MM', st', q1, q2, q3, e11.tr q4, (e12.tr sM2).tr q5⟩
        · exact Or.inr ⟨MC', MM', items', W', j', lt', jt', q1, q2, q3, q4, q5, q6, q7, q8, e11.tr q9, (e12.tr sM2).tr q10⟩
      · left
        have sM2 : ScM MM1 (us MM1 197 20 (MM1 197 20 + 1)) := us_scM MM1 _ (by decide)
        refine ⟨MC1, us MM1 197 20 (MM1 197 20 + 1), st1, e4, ?_, ?_, e8, e9.tr sM2⟩
        · rw [gX2_tellAll_28, if_neg h120, if_neg hnC, e1, obs]
          rcases e2 with q | ⟨q, q2⟩
          · rw [if_pos (show (r, MC1).1 = 0 from q), gX2_tellAll_56]
            show some (-10 - MC1 1 3, MC1) = _
            rw [e3]
          · rw [if_neg (show ¬ (r, MC1).1 = 0 from show ¬ r = 0 by rw [q]; decide), if_neg (show ¬ (r, MC1).2 1 4 = 3 from q2), gX2_tellAll_56]
            show some (-10 - MC1 1 3, MC1) = _
            rw [e3]
        · have g19 : ¬ us MM1 197 20 (MM1 197 20 + 1) 197 19 = 0 := by rw [us_app, if_neg (by decide), e6]; decide
          have g16 : us MM1 197 20 (MM1 197 20 + 1) 197 16 = nI st1 := by rw [us_app, if_neg (by decide)]; exact e7
          obtain ⟨fu3, rfl⟩ : ∃ z, fu2 = z + 1 := ⟨fu2 - 1, by omega⟩
          rw [gX8_shop_34, if_neg hnM, if_pos h19, e5, obs, obs, gX8_shop_34, if_neg g19, ite_self, gX8_shop_65, if_neg g19, g16]
