/-! node and run, with what they throw -/
section FD
variable {l : Launch} {d : Nat} {h : ab_H}
/-- what node wants of the class's rows -/
def c_wf (h : ab_H) : Prop := ∀ w, w < 8 → ∃ z oN, z ≤ 60 ∧ h (8 * w + 14) 8 = nI z ∧ h (8 * w + 14) 7 = nI oN ∧ oN ≤ 10 ∧ ∀ j, j < oN → vp_in (h (8 * w + 20) j) 60 ∧ vp_in (h (8 * w + 21) j) 60
theorem c_wf_of {g : ab_H} (Y : s_Y h g) : c_wf h := fun w hw => by
  obtain ⟨z, oN, -, hz, h8, h7, -, ho, -, hj⟩ := s_Y_w Y hw
  exact ⟨z, oN, hz, h8, h7, ho, hj⟩
theorem c_nodeX_1 {w s a b : Int32} (q : ¬ (m_within w 7 = true ∧ c_rng s a b = true)) : c_nodeX h w s a b = 1 := by
  unfold c_nodeX
  rw [if_neg q]
set_option maxRecDepth 100000 in
set_option maxHeartbeats 1000000 in
theorem kX3_node (hl9 : l.stackTraces = false) {w s a b : Int32} (hY : c_wf h) : ag_C l layC (d + 9) 4 24 mX3_node [ab_R 0, ab_I w, ab_I s, ab_I a, ab_I b] h (ab_qi fun r h' => c_nodeX h w s a b = 0 ∧ r = c_nodeH h w s a b (8 * w.toNatClampNeg + 14) 8 ∧ h' = c_nodeH h w s a b) (fun E h' => h' = h ∧ ((E = xI ∧ c_nodeX h w s a b = 1) ∨ (E = xS ∧ c_nodeX h w s a b = 2))) := by
  refine ag_enter (by decide) (Nat.le_of_ble_eq_true rfl) ?_
  refine ag_iload_n (pc := 0) dX3_node_0 rfl rfl ?_
  refine ag_bipush (pc := 1) (v := 8) dX3_node_1 (by decide) ?_
  refine ag_X2 (pc := 3) (d := d + 8) (k := 1) (v := 6) (ag_fits rfl rfl) rfl rfl dX3_node_3 msX3_30 rfl (kX3_demandRange hl9) (fun E h' q => ⟨q.2.2, Or.inl ⟨q.1, c_nodeX_1 fun z => by rw [c_dr8] at q; rw [q.2.1] at z; cases z.1⟩⟩) (ag_kv fun h' q => ?_)
  obtain ⟨q1, rfl⟩ := q
  rw [c_dr8] at q1
  refine ag_iload_n (pc := 6) dX3_node_6 rfl rfl ?_
  refine ag_bipush (pc := 7) (v := 24) dX3_node_7 (by decide) ?_
  refine ag_X2 (pc := 9) (d := d + 8) (k := 1) (v := 6) (ag_fits rfl rfl) rfl rfl dX3_node_9 msX3_30 rfl (kX3_demandRange hl9) (fun E h' q => ⟨q.2.2, Or.inl ⟨q.1, c_nodeX_1 fun z => by have z2 := z.2; unfold c_rng at z2; rw [c_dr24] at q; rw [q.2.1] at z2; cases z2⟩⟩) (ag_kv fun h' q => ?_)
  obtain ⟨q2, rfl⟩ := q
  rw [c_dr24] at q2
  have hs24 : vp_in s 24 := m_within_in (n := 23) (by decide) (by decide) q2
  have eA : ag_fA s.toNatClampNeg = c_BA s := by
    obtain ⟨j, hj, rfl⟩ := m_within_of (n := 23) (by decide) q2
    rw [nI_clamp (by omega)]
    rfl
  have eB : ag_fB s.toNatClampNeg = c_BB s := by
    obtain ⟨j, hj, rfl⟩ := m_within_of (n := 23) (by decide) q2
    rw [nI_clamp (by omega)]
    rfl
  obtain ⟨W, hW, rfl⟩ := m_within_of (n := 7) (by decide) q1
  have hW8 : W < 8 := by omega
  have cW : (nI W).toNatClampNeg = W := nI_clamp (by omega)
  obtain ⟨z, oN, hz, h8, h7, ho, hj⟩ := hY W hW8
  have tail : ∀ y : Bool, c_rng s a b = y → ag_J l layC mX3_node (ag_rm (d + 9) 4 24) 4 24 (ab_qi fun r h'' => c_nodeX h' (nI W) s a b = 0 ∧ r = c_nodeH h' (nI W) s a b (8 * (nI W).toNatClampNeg + 14) 8 ∧ h'' = c_nodeH h' (nI W) s a b) (fun E h'' => h'' = h' ∧ ((E = xI ∧ c_nodeX h' (nI W) s a b = 1) ∨ (E = xS ∧ c_nodeX h' (nI W) s a b = 2))) 2 12 42 [(0, ab_R 0), (1, ab_I (nI W)), (2, ab_I s), (3, ab_I a), (4, ab_I b)] [ab_I (b2i y)] h' := fun y hy => by
    refine ag_X1 (pc := 42) (d := d + 8) (k := 1) (v := 6) (ag_fits rfl rfl) rfl rfl dX3_node_42 msX3_45 rfl (kX3_demand hl9) (fun E h'' q => ⟨q.2.2, Or.inl ⟨q.1, c_nodeX_1 fun z => by rw [hy, q.2.1] at z; cases z.2⟩⟩) (ag_kv fun h'' q => ?_)
    obtain ⟨q3, rfl⟩ := q
    have hr : c_rng s a b = true := hy.trans q3
    have cn : m_cnt (c_heads h'' W) oN = m_cnt (c_heads h'' W) (h'' (8 * W + 14) 7).toNatClampNeg := by rw [h7, nI_clamp (by omega)]
    have p1 : ¬ h'' (8 * W + 14) 7 ≤ 0 → vp_in (h'' (8 * W + 14) 7 - 1) 10 ∧ vp_in (h'' (8 * W + 21) (h'' (8 * W + 14) 7 - 1).toNatClampNeg) 60 ∧ vp_in (h'' (8 * W + 20) (h'' (8 * W + 14) 7 - 1).toNatClampNeg) 60 := fun q => by
      rw [h7] at q ⊢
      cases oN with
      | zero => exact absurd (by decide) q
      | succ o =>
        rw [nI_pred, nI_clamp (by omega)]
        exact ⟨vp_in_nI (by omega) (by omega), (hj o (by omega)).2, (hj o (by omega)).1⟩
    refine ag_aload_n (pc := 45) dX3_node_45 rfl rfl ?_
    refine ag_getr (pc := 46) dX3_node_46 fX3_11 rfl rfl ?_
    refine ag_iload_n (pc := 49) dX3_node_49 rfl rfl ?_
    refine ag_aald (pc := 50) dX3_node_50 rfl (c_js rfl hW8) (nI_pos (by omega)) ?_
    refine ag_astore (pc := 51) dX3_node_51 rfl ?_
    refine ag_aload (pc := 53) dX3_node_53 rfl ?_
    refine ag_iload_n (pc := 55) dX3_node_55 rfl rfl ?_
    refine ag_iload (pc := 56) dX3_node_56 rfl ?_
    refine ag_V2 (pc := 58) (d := d + 8) (ag_fits rfl rfl) dX3_node_58 mvX3_49 (layC_o W hW8) rfl (kX2_canTake hW8 (fun q => (p1 q).1) (fun q => (p1 q).2.1) h7 ho (fun j q => (hj j q).1)) (ag_ki fun r58 h58 e58 => ?_)
    obtain ⟨rfl, rfl⟩ := And.intro e58.1.symm e58.2.symm
    refine ag_if_ne (pc := 61) 74 dX3_node_61 (by decide) (fun c => ?_) (fun c => ?_)
    · replace c := b2i_1.mp c
      have hz2 : vp_in (h'' (8 * W + 14) 8) 60 := by
        rw [h8]
        refine vp_in_nI (Nat.lt_of_not_le fun q => ?_) (by omega)
        unfold c_can at c
        rw [h8, if_neg (show ¬ nI z < 60 from nI_nlt (b := 60) q (by omega))] at c
        cases c
      have cX : c_nodeX h'' (nI W) s a b = 0 := by
        unfold c_nodeX c_canN
        rw [if_pos ⟨q1, hr⟩, cW, ← cn, if_pos c]
      have cH : c_nodeH h'' (nI W) s a b = c_app h'' W s a b := by
        unfold c_nodeH c_canN
        rw [if_pos ⟨q1, hr⟩, cW, ← cn, if_pos c]
      refine ag_aload (pc := 74) dX3_node_74 rfl ?_
      refine ag_iload_n (pc := 76) dX3_node_76 rfl rfl ?_
      refine ag_iload_n (pc := 77) dX3_node_77 rfl rfl ?_
      refine ag_iload (pc := 78) dX3_node_78 rfl ?_
      refine ag_V3 (pc := 80) (d := d + 8) (ag_fits rfl rfl) dX3_node_80 mvX3_59 (layC_o W hW8) rfl (kX2_append hW8 (fun q => (p1 q).1) (fun q => (p1 q).2.1) hz2 (fun q => ?_) (fun q => (p1 q).2.2)) (ag_kv fun h80 e80 => ?_)
      · rw [h7] at q ⊢
        exact vp_in_nI (Nat.lt_of_not_le fun q2 => q (nI_le (a := 10) q2 (by omega))) (by omega)
      subst e80
      refine ag_aload (pc := 83) dX3_node_83 rfl ?_
      refine ag_geti (pc := 85) dX3_node_85 fX3_63 (layC_o W hW8) rfl ?_
      exact ag_reti (pc := 88) rfl rfl dX3_node_88 rfl ⟨_, rfl, cX, by rw [cH, cW], cH.symm⟩
    · replace c := b2i_0.mp c
      have cX : c_nodeX h'' (nI W) s a b = 2 := by
        unfold c_nodeX c_canN
        rw [if_pos ⟨q1, hr⟩, cW, ← cn, if_neg (by rw [c]; decide)]
      exact ag_throw (pc := 64) (names := ag_sup) hl9 xS_fit ag_sup_fit xS_k xS_i (fun s t => t.2.1) xS_at dX3_node_64 dX3_node_67 dX3_node_68 dX3_node_70 dX3_node_73 (show 2 + 3 < d + 9 by omega) (show 0 + (13 * (2 + 1) + 43) ≤ 40 * (d + 9) by omega) (Nat.le_refl 4) (Nat.le_refl 24) (Nat.le_refl 4) (Nat.le_refl 24) ⟨rfl, Or.inr ⟨rfl, cX⟩⟩
  refine ag_iload_n (pc := 12) dX3_node_12 rfl rfl ?_
  refine ag_getrow (pc := 13) (n := "BELOW_A") (f := ag_fA) (fun A s H q => q.2.2.2.1) xA_l dX3_node_13 dX3_node_16 dX3_node_17 rfl rfl hs24 ?_
  rw [eA]
  refine ag_S2 (pc := 18) (d := d + 8) (ag_fits rfl rfl) dX3_node_18 msX3_38 rfl kX3_isBelow (ag_ki fun r18 h18 e18 => ?_)
  obtain ⟨rfl, rfl⟩ := And.intro e18.1.symm e18.2.symm
  refine ag_if_eq (pc := 21) 41 dX3_node_21 (by decide) (fun c => ?_) (fun c => ?_)
  · replace c := b2i_0.mp c
    refine ag_iconst (pc := 41) (v := 0) dX3_node_41 (by decide) ?_
    exact tail false (by unfold c_rng; rw [q2, c]; rfl)
  · replace c := b2i_1.mp c
    refine ag_iload (pc := 24) dX3_node_24 rfl ?_
    refine ag_getrow (pc := 26) (n := "BELOW_B") (f := ag_fB) (fun A s H q => q.2.2.2.2.1) xB_l dX3_node_26 dX3_node_29 dX3_node_30 rfl rfl hs24 ?_
    rw [eB]
    refine ag_S2 (pc := 31) (d := d + 8) (ag_fits rfl rfl) dX3_node_31 msX3_38 rfl kX3_isBelow (ag_ki fun r31 h31 e31 => ?_)
    obtain ⟨rfl, rfl⟩ := And.intro e31.1.symm e31.2.symm
    refine ag_if_eq (pc := 34) 41 dX3_node_34 (by decide) (fun c2 => ?_) (fun c2 => ?_)
    · replace c2 := b2i_0.mp c2
      refine ag_iconst (pc := 41) (v := 0) dX3_node_41 (by decide) ?_
      exact tail false (by unfold c_rng; rw [q2, c, c2]; rfl)
    · replace c2 := b2i_1.mp c2
      refine ag_iconst (pc := 37) (v := 1) dX3_node_37 (by decide) ?_
      refine ag_goto (pc := 38) 42 dX3_node_38 (by decide) ?_
      exact tail true (by unfold c_rng; rw [q2, c, c2]; rfl)
set_option maxRecDepth 100000 in
set_option maxHeartbeats 1000000 in
theorem kX3_run (hl9 : l.stackTraces = false) {w : Int32} (hI : c_inv h) : ag_C l layC 190 2 12 mX3_run [ab_R 0, ab_I w] h (ab_qi fun r h' => c_runX h w = 0 ∧ r = c_ans (c_runE h w).1 (c_runE h w).2.1 ∧ h' = c_runH h w) (fun E h' => h' = h ∧ ((E = xI ∧ c_runX h w = 1) ∨ (E = xS ∧ c_runX h w = 2))) := by
  refine ag_enter (by decide) (Nat.le_of_ble_eq_true rfl) ?_
  refine ag_iload_n (pc := 0) dX3_run_0 rfl rfl ?_
  refine ag_bipush (pc := 1) (v := 8) dX3_run_1 (by decide) ?_
  refine ag_X2 (pc := 3) (d := 189) (k := 1) (v := 6) (ag_fits rfl rfl) rfl rfl dX3_run_3 msX3_30 rfl (kX3_demandRange (d := 182) hl9) (fun E h' q => ⟨q.2.2, Or.inl ⟨q.1, by unfold c_runX; rw [← c_dr8, q.2.1]; rfl⟩⟩) (ag_kv fun h' q => ?_)
  obtain ⟨q1, rfl⟩ := q
  rw [c_dr8] at q1
  obtain ⟨W, hW, rfl⟩ := m_within_of (n := 7) (by decide) q1
  have hW8 : W < 8 := by omega
  have cW : (nI W).toNatClampNeg = W := nI_clamp (by omega)
  have hinv := c_inv_run0 hI
  have hco : c_cost 60 (c_run0 h') := ⟨0, by omega, rfl, by omega⟩
  have hpre : c_pre 60 (c_run0 h') W (-1) := ⟨hinv, hW8, Or.inl rfl, hco⟩
  have post := cP_post 60 (c_run0 h') W (-1) 1 hpre
  have met := cP_met (l := l) 60 (c_run0 h') W (-1) 1 hpre
  refine ag_aload_n (pc := 6) dX3_run_6 rfl rfl ?_
  refine ag_getr (pc := 7) dX3_run_7 fX3_11 rfl rfl ?_
  refine ag_iload_n (pc := 10) dX3_run_10 rfl rfl ?_
  refine ag_aald (pc := 11) dX3_run_11 rfl (c_js rfl hW8) (nI_pos (by omega)) ?_
  refine ag_astore_n (pc := 12) dX3_run_12 rfl rfl ?_
  refine ag_aload_n (pc := 13) dX3_run_13 rfl rfl ?_
  refine ag_V0 (pc := 14) (d := 189) (ag_fits rfl rfl) dX3_run_14 mvX3_70 (layC_o W hW8) rfl (kX2_isWhole hW8) (ag_ki fun r14 h14 e14 => ?_)
  obtain ⟨rfl, rfl⟩ := And.intro e14.1.symm e14.2.symm
  refine ag_if_ne (pc := 17) 30 dX3_run_17 (by decide) (fun c => ?_) (fun c => ?_)
  · replace c := b2i_1.mp c
    have cX : c_runX h' (nI W) = 0 := by
      unfold c_runX
      rw [if_pos q1, cW, if_pos c]
    have cH : c_runH h' (nI W) = c_runF h' (nI W) := by
      unfold c_runH
      rw [if_pos q1, cW, if_pos c]
    have eE : c_runE h' (nI W) = cP 60 (c_run0 h') W (-1) 1 := by
      unfold c_runE
      rw [cW]
    refine ag_aload_n (pc := 30) dX3_run_30 rfl rfl ?_
    refine ag_dup (pc := 31) dX3_run_31 rfl ?_
    refine ag_geti (pc := 32) dX3_run_32 fX3_76 rfl rfl ?_
    refine ag_iconst (pc := 35) (v := 1) dX3_run_35 (by decide) ?_
    refine ag_iadd (pc := 36) dX3_run_36 ?_
    refine ag_puti (pc := 37) dX3_run_37 fwX3_76 rfl rfl ?_
    refine ag_aload_n (pc := 40) dX3_run_40 rfl rfl ?_
    refine ag_iconst (pc := 41) (v := 0) dX3_run_41 (by decide) ?_
    refine ag_puti (pc := 42) dX3_run_42 fwX3_79 rfl rfl ?_
    refine ag_aload_n (pc := 45) dX3_run_45 rfl rfl ?_
    refine ag_getr (pc := 46) dX3_run_46 fX3_19 rfl rfl ?_
    refine ag_iconst (pc := 49) (v := 0) dX3_run_49 (by decide) ?_
    refine ag_puti (pc := 50) dX3_run_50 fwX3_82 rfl rfl ?_
    refine ag_aload_n (pc := 53) dX3_run_53 rfl rfl ?_
    refine ag_aload_n (pc := 54) dX3_run_54 rfl rfl ?_
    refine ag_iconst (pc := 55) (v := (-1)) dX3_run_55 (by decide) ?_
    refine ag_iconst (pc := 56) (v := 1) dX3_run_56 (by decide) ?_
    refine ag_V3 (pc := 57) (d := 189) (ag_fits rfl rfl) dX3_run_57 mvX3_85 rfl rfl met (ag_kl fun r57 h57 e57 => ?_)
    obtain ⟨rfl, rfl⟩ := And.intro e57.1.symm e57.2.symm
    have hk := post.2.1
    generalize hx : cP 60 (c_run0 h') W (-1) 1 = x at *
    refine ag_lstore_n (pc := 60) dX3_run_60 rfl rfl ?_
    have tail : ∀ g : Int32, g = (if x.1 = 3 then x.2.1 else 0) → ag_J l layC mX3_run (ag_rm 190 2 12) 2 12 (ab_qi fun r h'' => c_runX h' (nI W) = 0 ∧ r = c_ans (c_runE h' (nI W)).1 (c_runE h' (nI W)).2.1 ∧ h'' = c_runH h' (nI W)) (fun E h'' => h'' = h' ∧ ((E = xI ∧ c_runX h' (nI W) = 1) ∨ (E = xS ∧ c_runX h' (nI W) = 2))) 1 6 78 [(3, ab_L (c_way x.1 x.2.1))] [ab_I g, ab_R 0] x.2.2 := fun g hg => by
      refine ag_puti (pc := 78) dX3_run_78 fwX3_96 rfl rfl ?_
      refine ag_lload_n (pc := 81) dX3_run_81 rfl rfl ?_
      refine ag_S1 (pc := 82) (d := 189) (ag_fits rfl rfl) dX3_run_82 msX3_99 rfl (kX3_answerOf (d := 188) hk) (ag_ki fun r82 h82 e82 => ?_)
      obtain ⟨rfl, rfl⟩ := And.intro e82.1.symm e82.2.symm
      refine ag_reti (pc := 85) rfl rfl dX3_run_85 rfl ⟨_, rfl, cX, by rw [eE], ?_⟩
      rw [cH]
      unfold c_runF
      rw [eE, ← hg]
    refine ag_aload_n (pc := 61) dX3_run_61 rfl rfl ?_
    refine ag_lload_n (pc := 62) dX3_run_62 rfl rfl ?_
    refine ag_S1 (pc := 63) (d := 189) (ag_fits rfl rfl) dX3_run_63 msX3_89 rfl (kX3_howOf hk) (ag_ki fun r63 h63 e63 => ?_)
    obtain ⟨rfl, rfl⟩ := And.intro e63.1.symm e63.2.symm
    refine ag_iconst (pc := 66) (v := 3) dX3_run_66 (by decide) ?_
    refine ag_icmp_ne (pc := 67) 77 dX3_run_67 (by decide) (fun c3 => ?_) (fun c3 => ?_)
    · refine ag_iconst (pc := 77) (v := 0) dX3_run_77 (by decide) ?_
      refine ag_weak [(3, ab_L (c_way x.1 x.2.1))] ⟨rfl, trivial⟩ ?_
      exact tail 0 (by rw [if_neg c3])
    · refine ag_lload_n (pc := 70) dX3_run_70 rfl rfl ?_
      refine ag_S1 (pc := 71) (d := 189) (ag_fits rfl rfl) dX3_run_71 msX3_93 rfl (kX3_numberOf hk) (ag_ki fun r71 h71 e71 => ?_)
      obtain ⟨rfl, rfl⟩ := And.intro e71.1.symm e71.2.symm
      refine ag_goto (pc := 74) 78 dX3_run_74 (by decide) ?_
      refine ag_weak [(3, ab_L (c_way x.1 x.2.1))] ⟨rfl, trivial⟩ ?_
      exact tail _ (by rw [if_pos c3])
  · replace c := b2i_0.mp c
    have cX : c_runX h' (nI W) = 2 := by
      unfold c_runX
      rw [if_pos q1, cW, c]
      rfl
    exact ag_throw (pc := 20) (names := ag_sup) hl9 xS_fit ag_sup_fit xS_k xS_i (fun s t => t.2.2) xS_at dX3_run_20 dX3_run_23 dX3_run_24 dX3_run_26 dX3_run_29 (show 2 + 3 < 190 by omega) (show 0 + (13 * (2 + 1) + 43) ≤ 40 * 190 by omega) (Nat.le_refl 2) (Nat.le_refl 12) (Nat.le_refl 2) (Nat.le_refl 12) ⟨rfl, Or.inr ⟨rfl, cX⟩⟩
end FD
