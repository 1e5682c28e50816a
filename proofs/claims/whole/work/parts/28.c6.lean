set_option maxRecDepth 100000 in
set_option maxHeartbeats 300000 in
theorem kX3_doCall {l : Launch} {d : Nat} {h : ab_H} {n : Nat} {P : c_PT} {wb : Nat} {a deep : Int32} (hP : c_KP l (d + 6) n P) (hI : c_IP n P) (hpre : c_pre n h wb (-1)) (ha : vp_in a 8) : ab_C l layC (d + 7) mX3_doCall [ab_R 0, ab_I a, ab_I (nI wb), ab_I deep] h (ab_ql fun z h' => z = c_way (c_call P h a (nI wb) deep).1 (c_call P h a (nI wb) deep).2.1 ∧ h' = (c_call P h a (nI wb) deep).2.2) := by
  refine ab_enter (by decide) (Nat.le_of_ble_eq_true rfl) ?_
  have hwb := hpre.2.1
  have hbt : (nI wb).toNatClampNeg = wb := nI_clamp (by omega)
  obtain ⟨i1, k1, z1, st1, sc1, co1⟩ := hI h wb (-1) (deep + 1) hpre
  refine ab_aload_n (pc := 0) dX3_doCall_0 rfl rfl ?_
  refine ab_getr (pc := 1) dX3_doCall_1 fX3_11 rfl rfl ?_
  refine ab_iload_n (pc := 4) dX3_doCall_4 rfl rfl ?_
  refine ab_aald (pc := 5) dX3_doCall_5 rfl (c_js rfl hwb) (nI_pos (by omega)) ?_
  refine ab_astore (pc := 6) dX3_doCall_6 rfl ?_
  refine ab_aload (pc := 8) dX3_doCall_8 rfl ?_
  refine ab_V0 (pc := 10) dX3_doCall_10 mvX3_70 (layC_o wb hwb) rfl (kX2_isWhole hwb) (ab_ki fun r10 h10 e10 => ?_)
  obtain ⟨rfl, rfl⟩ := And.intro e10.1.symm e10.2.symm
  refine ab_if_eq (pc := 13) 22 dX3_doCall_13 (by decide) (fun zc13 => ?_) (fun zc13 => ?_)
  · replace zc13 := b2i_0.mp zc13
    refine ab_bipush (pc := 22) (v := 7) dX3_doCall_22 (by decide) ?_
    refine ab_S1 (pc := 24) dX3_doCall_24 msX3_184 rfl (kX3_failing) (ab_kl fun r24 h24 e24 => ?_)
    obtain ⟨rfl, rfl⟩ := And.intro e24.1.symm e24.2.symm
    exact ab_retl (pc := 27) dX3_doCall_27 rfl ⟨_, rfl, (by constructor <;> first | rw [c_call, hbt, if_neg (ne_true_of_eq_false zc13)] | rw [c_call, hbt, if_pos zc13, if_neg zc19])⟩
  · replace zc13 := b2i_1.mp zc13
    refine ab_iload_n (pc := 16) dX3_doCall_16 rfl rfl ?_
    refine ab_bipush (pc := 17) (v := 6) dX3_doCall_17 (by decide) ?_
    refine ab_icmp_lt (pc := 19) 28 dX3_doCall_19 (by decide) (fun zc19 => ?_) (fun zc19 => ?_)
    · refine ab_aload_n (pc := 28) dX3_doCall_28 rfl rfl ?_
      refine ab_aload (pc := 29) dX3_doCall_29 rfl ?_
      refine ab_iconst (pc := 31) (v := (-1)) dX3_doCall_31 (by decide) ?_
      refine ab_iload_n (pc := 32) dX3_doCall_32 rfl rfl ?_
      refine ab_iconst (pc := 33) (v := 1) dX3_doCall_33 (by decide) ?_
      refine ab_iadd (pc := 34) dX3_doCall_34 ?_
      refine ab_V3 (pc := 35) dX3_doCall_35 mvX3_85 rfl rfl (hP _ _ _ _ hpre) (ab_kl fun r35 h35 e35 => ?_)
      obtain ⟨rfl, rfl⟩ := And.intro e35.1.symm e35.2.symm
      refine ab_lstore (pc := 38) dX3_doCall_38 rfl ?_
      refine ab_lload (pc := 40) dX3_doCall_40 rfl ?_
      refine ab_S1 (pc := 42) dX3_doCall_42 msX3_89 rfl (kX3_howOf k1) (ab_ki fun r42 h42 e42 => ?_)
      obtain ⟨rfl, rfl⟩ := And.intro e42.1.symm e42.2.symm
      refine ab_istore (pc := 45) dX3_doCall_45 rfl ?_
      refine ab_iload (pc := 47) dX3_doCall_47 rfl ?_
      refine ab_iconst (pc := 49) (v := 4) dX3_doCall_49 (by decide) ?_
      refine ab_icmp_eq (pc := 50) 59 dX3_doCall_50 (by decide) (fun zc50 => ?_) (fun zc50 => ?_)
      · refine ab_lload (pc := 59) dX3_doCall_59 rfl ?_
        exact ab_retl (pc := 61) dX3_doCall_61 rfl ⟨_, rfl, (by constructor <;> first | rw [c_call, hbt, if_pos zc13, if_pos zc19, if_pos (Or.inl zc50)] | rw [c_call, hbt, if_pos zc13, if_pos zc19, if_pos (Or.inr zc56)])⟩
      · refine ab_iload (pc := 53) dX3_doCall_53 rfl ?_
        refine ab_iconst (pc := 55) (v := 5) dX3_doCall_55 (by decide) ?_
        refine ab_icmp_ne (pc := 56) 62 dX3_doCall_56 (by decide) (fun zc56 => ?_) (fun zc56 => ?_)
        · refine ab_aload_n (pc := 62) dX3_doCall_62 rfl rfl ?_
          refine ab_getr (pc := 63) dX3_doCall_63 fX3_19 rfl rfl ?_
          refine ab_getr (pc := 66) dX3_doCall_66 fX3_102 rfl rfl ?_
          refine ab_iload_n (pc := 69) dX3_doCall_69 rfl rfl ?_
          refine ab_iload (pc := 70) dX3_doCall_70 rfl ?_
          refine ab_iconst (pc := 72) (v := 3) dX3_doCall_72 (by decide) ?_
          refine ab_icmp_ne (pc := 73) 84 dX3_doCall_73 (by decide) (fun zc73 => ?_) (fun zc73 => ?_)
          · refine ab_iconst (pc := 84) (v := 0) dX3_doCall_84 (by decide) ?_
            refine ab_iast (pc := 85) dX3_doCall_85 rfl ha ?_
            refine ab_lconst (pc := 86) (v := 0) dX3_doCall_86 (by decide) ?_
            exact ab_retl (pc := 87) dX3_doCall_87 rfl ⟨_, rfl, (by constructor <;> first | (rw [c_call, hbt, if_pos zc13, if_pos zc19, if_neg (fun q => q.elim zc50 zc56)]; exact c_way0.symm) | rw [c_call, hbt, if_pos zc13, if_pos zc19, if_neg (fun q => q.elim zc50 zc56), if_pos zc73] | rw [c_call, hbt, if_pos zc13, if_pos zc19, if_neg (fun q => q.elim zc50 zc56), if_neg zc73])⟩
          · refine ab_lload (pc := 76) dX3_doCall_76 rfl ?_
            refine ab_S1 (pc := 78) dX3_doCall_78 msX3_93 rfl (kX3_numberOf k1) (ab_ki fun r78 h78 e78 => ?_)
            obtain ⟨rfl, rfl⟩ := And.intro e78.1.symm e78.2.symm
            refine ab_goto (pc := 81) 85 dX3_doCall_81 (by decide) ?_
            refine ab_iast (pc := 85) dX3_doCall_85 rfl ha ?_
            refine ab_lconst (pc := 86) (v := 0) dX3_doCall_86 (by decide) ?_
            exact ab_retl (pc := 87) dX3_doCall_87 rfl ⟨_, rfl, (by constructor <;> first | (rw [c_call, hbt, if_pos zc13, if_pos zc19, if_neg (fun q => q.elim zc50 zc56)]; exact c_way0.symm) | rw [c_call, hbt, if_pos zc13, if_pos zc19, if_neg (fun q => q.elim zc50 zc56), if_pos zc73] | rw [c_call, hbt, if_pos zc13, if_pos zc19, if_neg (fun q => q.elim zc50 zc56), if_neg zc73])⟩
        · refine ab_lload (pc := 59) dX3_doCall_59 rfl ?_
          exact ab_retl (pc := 61) dX3_doCall_61 rfl ⟨_, rfl, (by constructor <;> first | rw [c_call, hbt, if_pos zc13, if_pos zc19, if_pos (Or.inl zc50)] | rw [c_call, hbt, if_pos zc13, if_pos zc19, if_pos (Or.inr zc56)])⟩
    · refine ab_bipush (pc := 22) (v := 7) dX3_doCall_22 (by decide) ?_
      refine ab_S1 (pc := 24) dX3_doCall_24 msX3_184 rfl (kX3_failing) (ab_kl fun r24 h24 e24 => ?_)
      obtain ⟨rfl, rfl⟩ := And.intro e24.1.symm e24.2.symm
      exact ab_retl (pc := 27) dX3_doCall_27 rfl ⟨_, rfl, (by constructor <;> first | rw [c_call, hbt, if_neg (ne_true_of_eq_false zc13)] | rw [c_call, hbt, if_pos zc13, if_neg zc19])⟩

theorem c_inv_enter {h : ab_H} (H : c_inv h) : c_inv (ab_up h 3 6 (h 3 5)) := by
  refine ⟨fun w hw => ?_, ?_⟩
  · have := H.1 w hw
    rw [ab_up_ne (by omega), ab_up_ne (by omega), ab_up_ne (by omega), ab_up_ne (by omega), ab_up_ne (by omega), ab_up_ne (by omega)]
    exact this
  · obtain ⟨h1, h2, u, h3, h4, h5, h6⟩ := H.2
    exact ⟨h1, h2, u, h3, h4, h5, Or.inr ⟨u, Nat.le_refl u, h4⟩⟩
theorem c_undoS_eq {h : ab_H} {mk u : Nat} (h1 : h 3 6 = nI mk) (h2 : h 3 5 = nI (mk + u)) (h3 : mk + u ≤ 60) : ab_up (c_ua mk u h) 3 5 (nI mk) = c_undoS h := by
  rw [c_undoS, h1, h2, nI_clamp (by omega), nI_clamp (by omega), Nat.add_sub_cancel_left]
theorem c_scope_at {n : Nat} {h : ab_H} {x : c_R} {u : Nat} (hu : h 3 5 = nI u) (hu2 : u ≤ 60) (H : c_post n (ab_up h 3 6 (h 3 5)) x) : ∃ k, x.2.2 3 6 = nI u ∧ x.2.2 3 5 = nI (u + k) ∧ u + k ≤ 60 ∧ c_uok x.2.2 (u + k) ∧ c_pok x.2.2 := by
  obtain ⟨i1, -, -, -, sc, -⟩ := H
  obtain ⟨-, hp, v, h3, h4, h5, h6⟩ := i1.2
  have e : x.2.2 3 6 = nI u := by
    rw [sc, ab_rd, if_pos rfl, if_pos rfl]
    exact hu
  rcases h6 with ⟨h7, -⟩ | ⟨mk, h7, h8⟩
  · rw [e] at h7
    exact absurd h7 (nI_m u (by omega))
  · rw [e] at h8
    have := (nI_eq (by omega) (by omega)).mp h8
    subst this
    refine ⟨v - u, e, ?_, by omega, ?_, hp⟩
    · rw [show u + (v - u) = v by omega]
      exact h4
    · rw [show u + (v - u) = v by omega]
      exact h5
set_option maxRecDepth 100000 in
set_option maxHeartbeats 300000 in
theorem kX3_doScope {l : Launch} {d : Nat} {h : ab_H} {n : Nat} {P : c_PT} {w : Nat} {x deep : Int32} (hP : c_KP l (d + 6) n P) (hI : c_IP n P) (hpre : c_pre n h w x) (hx : vp_in x 60) : ab_C l layC (d + 7) mX3_doScope [ab_R 0, ab_R (8 * w + 14), ab_I x, ab_I deep] h (ab_ql fun z h' => z = c_way (c_scope P h w x deep).1 (c_scope P h w x deep).2.1 ∧ h' = (c_scope P h w x deep).2.2) := by
  refine ab_enter (by decide) (Nat.le_of_ble_eq_true rfl) ?_
  have hw := hpre.2.1
  obtain ⟨u, hu2, hu, -⟩ := hpre.1.2.2.2
  have hpre2 : c_pre n (ab_up h 3 6 (h 3 5)) w x := ⟨c_inv_enter hpre.1, hw, hpre.2.2.1, c_cost_up (by omega) hpre.2.2.2⟩
  have hpost := hI _ w x deep hpre2
  obtain ⟨k, g1, g2, g3, g4, g5⟩ := c_scope_at hu hu2 hpost
  obtain ⟨i1, k1, z1, st1, sc1, co1⟩ := hpost
  refine ab_aload_n (pc := 0) dX3_doScope_0 rfl rfl ?_
  refine ab_getr (pc := 1) dX3_doScope_1 fX3_26 rfl rfl ?_
  refine ab_V0 (pc := 4) dX3_doScope_4 mvX3_191 rfl rfl (kX1_enterScope) (ab_ki fun r4 h4 e4 => ?_)
  obtain ⟨rfl, rfl⟩ := And.intro e4.1.symm e4.2.symm
  refine ab_istore (pc := 7) dX3_doScope_7 rfl ?_
  refine ab_aload_n (pc := 9) dX3_doScope_9 rfl rfl ?_
  refine ab_aload_n (pc := 10) dX3_doScope_10 rfl rfl ?_
  refine ab_iload_n (pc := 11) dX3_doScope_11 rfl rfl ?_
  refine ab_iload_n (pc := 12) dX3_doScope_12 rfl rfl ?_
  refine ab_V3 (pc := 13) dX3_doScope_13 mvX3_85 rfl rfl (hP _ _ _ _ hpre2) (ab_kl fun r13 h13 e13 => ?_)
  obtain ⟨rfl, rfl⟩ := And.intro e13.1.symm e13.2.symm
  refine ab_lstore (pc := 16) dX3_doScope_16 rfl ?_
  refine ab_lload (pc := 18) dX3_doScope_18 rfl ?_
  refine ab_S1 (pc := 20) dX3_doScope_20 msX3_89 rfl (kX3_howOf k1) (ab_ki fun r20 h20 e20 => ?_)
  obtain ⟨rfl, rfl⟩ := And.intro e20.1.symm e20.2.symm
  refine ab_iconst (pc := 23) (v := 4) dX3_doScope_23 (by decide) ?_
  refine ab_icmp_ne (pc := 24) 38 dX3_doScope_24 (by decide) (fun zc24 => ?_) (fun zc24 => ?_)
  · first
      | rw [c_undoS_eq g1 g2 g3, show c_undoS (P (ab_up h 3 6 (h 3 5)) w x deep).2.2 = (if (P (ab_up h 3 6 (h 3 5)) w x deep).1 = 4 then c_undoS (P (ab_up h 3 6 (h 3 5)) w x deep).2.2 else (P (ab_up h 3 6 (h 3 5)) w x deep).2.2) by rw [if_pos zc24]]
      | refine ab_heq (show (P (ab_up h 3 6 (h 3 5)) w x deep).2.2 = (if (P (ab_up h 3 6 (h 3 5)) w x deep).1 = 4 then c_undoS (P (ab_up h 3 6 (h 3 5)) w x deep).2.2 else (P (ab_up h 3 6 (h 3 5)) w x deep).2.2) by rw [if_neg zc24]) ?_
    refine ab_aload_n (pc := 38) dX3_doScope_38 rfl rfl ?_
    refine ab_getr (pc := 39) dX3_doScope_39 fX3_26 rfl rfl ?_
    refine ab_iload (pc := 42) dX3_doScope_42 rfl ?_
    refine ab_V1 (pc := 44) dX3_doScope_44 mvX3_198 rfl rfl (kX1_leaveScope) (ab_kv fun h44 e44 => ?_)
    obtain rfl := e44.symm
    refine ab_lload (pc := 47) dX3_doScope_47 rfl ?_
    exact ab_retl (pc := 49) dX3_doScope_49 rfl ⟨_, rfl, ⟨rfl, rfl⟩⟩
  · refine ab_aload_n (pc := 27) dX3_doScope_27 rfl rfl ?_
    refine ab_getr (pc := 28) dX3_doScope_28 fX3_26 rfl rfl ?_
    refine ab_aload_n (pc := 31) dX3_doScope_31 rfl rfl ?_
    refine ab_getr (pc := 32) dX3_doScope_32 fX3_19 rfl rfl ?_
    refine ab_V1 (pc := 35) dX3_doScope_35 mvX3_194 rfl rfl (kX1_undoScope g1 g2 g3 g4 g5) (ab_kv fun h35 e35 => ?_)
    obtain rfl := e35.symm
    first
      | rw [c_undoS_eq g1 g2 g3, show c_undoS (P (ab_up h 3 6 (h 3 5)) w x deep).2.2 = (if (P (ab_up h 3 6 (h 3 5)) w x deep).1 = 4 then c_undoS (P (ab_up h 3 6 (h 3 5)) w x deep).2.2 else (P (ab_up h 3 6 (h 3 5)) w x deep).2.2) by rw [if_pos zc24]]
      | refine ab_heq (show (P (ab_up h 3 6 (h 3 5)) w x deep).2.2 = (if (P (ab_up h 3 6 (h 3 5)) w x deep).1 = 4 then c_undoS (P (ab_up h 3 6 (h 3 5)) w x deep).2.2 else (P (ab_up h 3 6 (h 3 5)) w x deep).2.2) by rw [if_neg zc24]) ?_
    refine ab_aload_n (pc := 38) dX3_doScope_38 rfl rfl ?_
    refine ab_getr (pc := 39) dX3_doScope_39 fX3_26 rfl rfl ?_
    refine ab_iload (pc := 42) dX3_doScope_42 rfl ?_
    refine ab_V1 (pc := 44) dX3_doScope_44 mvX3_198 rfl rfl (kX1_leaveScope) (ab_kv fun h44 e44 => ?_)
    obtain rfl := e44.symm
    refine ab_lload (pc := 47) dX3_doScope_47 rfl ?_
    exact ab_retl (pc := 49) dX3_doScope_49 rfl ⟨_, rfl, ⟨rfl, rfl⟩⟩

theorem i_succ {r : Int32} (h0 : 0 ≤ r.toInt) (h1 : r.toInt < 1000) : (r + 1).toInt = r.toInt + 1 := by
  obtain ⟨k, hk, rfl⟩ := nI_of (x := r) (by rw [Int32.lt_iff_toInt_lt, Int32.toInt_zero]; omega)
  rw [nI_toInt hk] at h1 ⊢
  rw [nI_1, nI_toInt (by omega)]
  omega
theorem c_pre_mono {n : Nat} {h : ab_H} {w : Nat} {part : Int32} (H : c_pre n h w part) (c : h 0 3 < 60) : c_pre n (c_pay h) w part := by
  obtain ⟨h1, h2, h3, cc, h4, h5, h6⟩ := H
  obtain ⟨g1, g2, g3, cc2, g4, g5, g6⟩ := c_pre_pay (n := n) (part := part) (w := w) ⟨h1, h2, h3, cc, h4, h5, by omega⟩ c
  refine ⟨g1, g2, g3, cc2, g4, g5, ?_⟩
  have e : c_pay h 0 3 = nI (cc + 1) := by
    show ab_up h 0 3 (h 0 3 + 1) 0 3 = _
    rw [ab_rd, if_pos rfl, if_pos rfl, h5, nI_1]
  rw [g5] at e
  have := (nI_eq (by omega) (by omega)).mp e
  omega
set_option maxRecDepth 100000 in
set_option maxHeartbeats 300000 in
theorem lpX3_doLoop {l : Launch} {d n : Nat} {P : c_PT} (hP : c_KP l (d + 6) n P) (hI : c_IP n P) {w : Nat} {x deep : Int32} (hw : w < 8) (hx : vp_in x 60) : ∀ (m : Nat) (r : Int32) (h : ab_H), c_pre n h w x → (h (8 * w + 17) x.toNatClampNeg).toInt < r.toInt + m → 0 ≤ r.toInt → r.toInt + m < 1000 → ab_J l layC mX3_doLoop (d + 7) (ab_ql fun z h' => z = c_way (c_loop P w x deep m r h).1 (c_loop P w x deep m r h).2.1 ∧ h' = (c_loop P w x deep m r h).2.2) 3 [(0, ab_R 0), (1, ab_R (8 * w + 14)), (2, ab_I x), (3, ab_I deep), (4, ab_I r)] [] h := by
  intro m
  induction m with
  | zero =>
    intro r h hpre hm hr hr2
    refine ab_iload (pc := 3) dX3_doLoop_3 rfl ?_
    refine ab_aload_n (pc := 5) dX3_doLoop_5 rfl rfl ?_
    refine ab_getr (pc := 6) dX3_doLoop_6 fX3_159 (layC_o w hw) rfl ?_
    refine ab_iload_n (pc := 9) dX3_doLoop_9 rfl rfl ?_
    refine ab_iald (pc := 10) dX3_doLoop_10 (layC_3 w hw) hx ?_
    refine ab_icmp_ge (pc := 11) 100 dX3_doLoop_11 (by decide) (fun zc11 => ?_) (fun zc11 => ?_)
    · refine ab_lconst (pc := 100) (v := 0) dX3_doLoop_100 (by decide) ?_
      exact ab_retl (pc := 101) dX3_doLoop_101 rfl ⟨_, rfl, ⟨c_way0.symm, rfl⟩⟩
    · exact absurd (Int32.le_iff_toInt_le.mpr (by omega)) zc11
  | succ m ih =>
    intro r h hpre hm hr hr2
    refine ab_iload (pc := 3) dX3_doLoop_3 rfl ?_
    refine ab_aload_n (pc := 5) dX3_doLoop_5 rfl rfl ?_
    refine ab_getr (pc := 6) dX3_doLoop_6 fX3_159 (layC_o w hw) rfl ?_
    refine ab_iload_n (pc := 9) dX3_doLoop_9 rfl rfl ?_
    refine ab_iald (pc := 10) dX3_doLoop_10 (layC_3 w hw) hx ?_
    refine ab_icmp_ge (pc := 11) 100 dX3_doLoop_11 (by decide) (fun zc11 => ?_) (fun zc11 => ?_)
    · refine ab_lconst (pc := 100) (v := 0) dX3_doLoop_100 (by decide) ?_
      exact ab_retl (pc := 101) dX3_doLoop_101 rfl ⟨_, rfl, (by constructor <;> rw [c_loop, if_pos zc11]; exact c_way0.symm)⟩
    · refine ab_aload_n (pc := 14) dX3_doLoop_14 rfl rfl ?_
      refine ab_V0 (pc := 15) dX3_doLoop_15 mvX3_153 rfl rfl kX3_canPay (ab_ki fun r15 h15 e15 => ?_)
      rcases e15 with ⟨q3, rfl, rfl⟩ | ⟨q3, rfl, rfl⟩
      · refine ab_if_ne (pc := 18) 27 dX3_doLoop_18 (by decide) (fun zc18 => ?_) (fun zc18 => absurd zc18 (by decide))
        refine ab_heq (show ab_up h 0 3 (h 0 3 + 1) = c_pay h from rfl) ?_
        have hpre2 : c_pre n (c_pay h) w x := c_pre_mono hpre q3
        obtain ⟨i1, k1, z1, st1, sc1, co1⟩ := hI (c_pay h) w x deep hpre2
        have hpre3 : c_pre n (P (c_pay h) w x deep).2.2 w x := ⟨i1, hw, hpre.2.2.1, co1⟩
        have hb3 : (P (c_pay h) w x deep).2.2 (8 * w + 17) x.toNatClampNeg = h (8 * w + 17) x.toNatClampNeg := by rw [st1 _ (by omega), c_pay, ab_up_ne (by omega)]
        have hr1 : (r + 1).toInt = r.toInt + 1 := i_succ hr (by omega)
        refine ab_aload_n (pc := 27) dX3_doLoop_27 rfl rfl ?_
        refine ab_aload_n (pc := 28) dX3_doLoop_28 rfl rfl ?_
        refine ab_iload_n (pc := 29) dX3_doLoop_29 rfl rfl ?_
        refine ab_iload_n (pc := 30) dX3_doLoop_30 rfl rfl ?_
        refine ab_V3 (pc := 31) dX3_doLoop_31 mvX3_85 rfl rfl (hP _ _ _ _ hpre2) (ab_kl fun r31 h31 e31 => ?_)
        obtain ⟨rfl, rfl⟩ := And.intro e31.1.symm e31.2.symm
        refine ab_lstore (pc := 34) dX3_doLoop_34 rfl ?_
        refine ab_lload (pc := 36) dX3_doLoop_36 rfl ?_
        refine ab_S1 (pc := 38) dX3_doLoop_38 msX3_89 rfl (kX3_howOf k1) (ab_ki fun r38 h38 e38 => ?_)
        obtain ⟨rfl, rfl⟩ := And.intro e38.1.symm e38.2.symm
        refine ab_istore (pc := 41) dX3_doLoop_41 rfl ?_
        refine ab_iload (pc := 43) dX3_doLoop_43 rfl ?_
        refine ab_iconst (pc := 45) (v := 1) dX3_doLoop_45 (by decide) ?_
        refine ab_icmp_eq (pc := 46) 55 dX3_doLoop_46 (by decide) (fun zc46 => ?_) (fun zc46 => ?_)
        · have zzo : (P (c_pay h) w x deep).1 = 1 ∨ (P (c_pay h) w x deep).1 = 2 := by first | exact Or.inl zc46 | exact Or.inr zc52
          refine ab_lload (pc := 55) dX3_doLoop_55 rfl ?_
          refine ab_S1 (pc := 57) dX3_doLoop_57 msX3_93 rfl (kX3_numberOf k1) (ab_ki fun r57 h57 e57 => ?_)
          obtain ⟨rfl, rfl⟩ := And.intro e57.1.symm e57.2.symm
          refine ab_if_le (pc := 60) 76 dX3_doLoop_60 (by decide) (fun zc60 => ?_) (fun zc60 => ?_)
          · refine ab_iload (pc := 76) dX3_doLoop_76 rfl ?_
            refine ab_iconst (pc := 78) (v := 1) dX3_doLoop_78 (by decide) ?_
            refine ab_icmp_ne (pc := 79) 94 dX3_doLoop_79 (by decide) (fun zc79 => ?_) (fun zc79 => ?_)
            · refine ab_iinc (pc := 94) (v := 1) dX3_doLoop_94 rfl (by decide) rfl ?_
              refine ab_goto (pc := 97) 3 dX3_doLoop_97 (by decide) ?_
              refine ab_weak [(0, ab_R 0), (1, ab_R (8 * w + 14)), (2, ab_I x), (3, ab_I deep), (4, ab_I (r + 1))] ⟨rfl, rfl, rfl, rfl, rfl, trivial⟩ ?_
              first
                | (rw [c_loop, if_neg zc11, if_pos q3, if_pos zzo, if_pos zc60, if_neg zc79]
                   exact ih (r + 1) _ hpre3 (by rw [hb3, hr1]; omega) (by omega) (by omega))
                | (rw [c_loop, if_neg zc11, if_pos q3, if_neg zzn, if_pos ((c_cmp k1 z1).mp zc88)]
                   exact ih (r + 1) _ hpre3 (by rw [hb3, hr1]; omega) (by omega) (by omega))
            · refine ab_lconst (pc := 82) (v := 0) dX3_doLoop_82 (by decide) ?_
              exact ab_retl (pc := 83) dX3_doLoop_83 rfl ⟨_, rfl, (by constructor <;> rw [c_loop, if_neg zc11, if_pos q3, if_pos zzo, if_pos zc60, if_pos zc79]; exact c_way0.symm)⟩
          · refine ab_iload (pc := 63) dX3_doLoop_63 rfl ?_
            refine ab_lload (pc := 65) dX3_doLoop_65 rfl ?_
            refine ab_S1 (pc := 67) dX3_doLoop_67 msX3_93 rfl (kX3_numberOf k1) (ab_ki fun r67 h67 e67 => ?_)
            obtain ⟨rfl, rfl⟩ := And.intro e67.1.symm e67.2.symm
            refine ab_iconst (pc := 70) (v := 1) dX3_doLoop_70 (by decide) ?_
            refine ab_isub (pc := 71) dX3_doLoop_71 ?_
            refine ab_S2 (pc := 72) dX3_doLoop_72 msX3_134 rfl (kX3_wayOf) (ab_kl fun r72 h72 e72 => ?_)
            obtain ⟨rfl, rfl⟩ := And.intro e72.1.symm e72.2.symm
            exact ab_retl (pc := 75) dX3_doLoop_75 rfl ⟨_, rfl, (by constructor <;> rw [c_loop, if_neg zc11, if_pos q3, if_pos zzo, if_neg zc60])⟩
        · refine ab_iload (pc := 49) dX3_doLoop_49 rfl ?_
          refine ab_iconst (pc := 51) (v := 2) dX3_doLoop_51 (by decide) ?_
          refine ab_icmp_ne (pc := 52) 84 dX3_doLoop_52 (by decide) (fun zc52 => ?_) (fun zc52 => ?_)
          · have zzn : ¬ ((P (c_pay h) w x deep).1 = 1 ∨ (P (c_pay h) w x deep).1 = 2) := fun q => q.elim zc46 zc52
            refine ab_lload (pc := 84) dX3_doLoop_84 rfl ?_
            refine ab_lconst (pc := 86) (v := 0) dX3_doLoop_86 (by decide) ?_
            refine ab_lcmp (pc := 87) dX3_doLoop_87 ?_
            refine ab_if_eq (pc := 88) 94 dX3_doLoop_88 (by decide) (fun zc88 => ?_) (fun zc88 => ?_)
            · refine ab_iinc (pc := 94) (v := 1) dX3_doLoop_94 rfl (by decide) rfl ?_
              refine ab_goto (pc := 97) 3 dX3_doLoop_97 (by decide) ?_
              refine ab_weak [(0, ab_R 0), (1, ab_R (8 * w + 14)), (2, ab_I x), (3, ab_I deep), (4, ab_I (r + 1))] ⟨rfl, rfl, rfl, rfl, rfl, trivial⟩ ?_
              first
                | (rw [c_loop, if_neg zc11, if_pos q3, if_pos zzo, if_pos zc60, if_neg zc79]
                   exact ih (r + 1) _ hpre3 (by rw [hb3, hr1]; omega) (by omega) (by omega))
                | (rw [c_loop, if_neg zc11, if_pos q3, if_neg zzn, if_pos ((c_cmp k1 z1).mp zc88)]
                   exact ih (r + 1) _ hpre3 (by rw [hb3, hr1]; omega) (by omega) (by omega))
            · refine ab_lload (pc := 91) dX3_doLoop_91 rfl ?_
              exact ab_retl (pc := 93) dX3_doLoop_93 rfl ⟨_, rfl, (by constructor <;> rw [c_loop, if_neg zc11, if_pos q3, if_neg zzn, if_neg (fun q => zc88 ((c_cmp k1 z1).mpr q))])⟩
          · have zzo : (P (c_pay h) w x deep).1 = 1 ∨ (P (c_pay h) w x deep).1 = 2 := by first | exact Or.inl zc46 | exact Or.inr zc52
            refine ab_lload (pc := 55) dX3_doLoop_55 rfl ?_
            refine ab_S1 (pc := 57) dX3_doLoop_57 msX3_93 rfl (kX3_numberOf k1) (ab_ki fun r57 h57 e57 => ?_)
            obtain ⟨rfl, rfl⟩ := And.intro e57.1.symm e57.2.symm
            refine ab_if_le (pc := 60) 76 dX3_doLoop_60 (by decide) (fun zc60 => ?_) (fun zc60 => ?_)
            · refine ab_iload (pc := 76) dX3_doLoop_76 rfl ?_
              refine ab_iconst (pc := 78) (v := 1) dX3_doLoop_78 (by decide) ?_
              refine ab_icmp_ne (pc := 79) 94 dX3_doLoop_79 (by decide) (fun zc79 => ?_) (fun zc79 => ?_)
              · refine ab_iinc (pc := 94) (v := 1) dX3_doLoop_94 rfl (by decide) rfl ?_
                refine ab_goto (pc := 97) 3 dX3_doLoop_97 (by decide) ?_
                refine ab_weak [(0, ab_R 0), (1, ab_R (8 * w + 14)), (2, ab_I x), (3, ab_I deep), (4, ab_I (r + 1))] ⟨rfl, rfl, rfl, rfl, rfl, trivial⟩ ?_
                first
                  | (rw [c_loop, if_neg zc11, if_pos q3, if_pos zzo, if_pos zc60, if_neg zc79]
                     exact ih (r + 1) _ hpre3 (by rw [hb3, hr1]; omega) (by omega) (by omega))
                  | (rw [c_loop, if_neg zc11, if_pos q3, if_neg zzn, if_pos ((c_cmp k1 z1).mp zc88)]
                     exact ih (r + 1) _ hpre3 (by rw [hb3, hr1]; omega) (by omega) (by omega))
              · refine ab_lconst (pc := 82) (v := 0) dX3_doLoop_82 (by decide) ?_
                exact ab_retl (pc := 83) dX3_doLoop_83 rfl ⟨_, rfl, (by constructor <;> rw [c_loop, if_neg zc11, if_pos q3, if_pos zzo, if_pos zc60, if_pos zc79]; exact c_way0.symm)⟩
            · refine ab_iload (pc := 63) dX3_doLoop_63 rfl ?_
              refine ab_lload (pc := 65) dX3_doLoop_65 rfl ?_
              refine ab_S1 (pc := 67) dX3_doLoop_67 msX3_93 rfl (kX3_numberOf k1) (ab_ki fun r67 h67 e67 => ?_)
              obtain ⟨rfl, rfl⟩ := And.intro e67.1.symm e67.2.symm
              refine ab_iconst (pc := 70) (v := 1) dX3_doLoop_70 (by decide) ?_
              refine ab_isub (pc := 71) dX3_doLoop_71 ?_
              refine ab_S2 (pc := 72) dX3_doLoop_72 msX3_134 rfl (kX3_wayOf) (ab_kl fun r72 h72 e72 => ?_)
              obtain ⟨rfl, rfl⟩ := And.intro e72.1.symm e72.2.symm
              exact ab_retl (pc := 75) dX3_doLoop_75 rfl ⟨_, rfl, (by constructor <;> rw [c_loop, if_neg zc11, if_pos q3, if_pos zzo, if_neg zc60])⟩
      · refine ab_if_ne (pc := 18) 27 dX3_doLoop_18 (by decide) (fun zc18 => absurd zc18 (by decide)) (fun zc18 => ?_)
        refine ab_iconst (pc := 21) (v := 5) dX3_doLoop_21 (by decide) ?_
        refine ab_iconst (pc := 22) (v := 0) dX3_doLoop_22 (by decide) ?_
        refine ab_S2 (pc := 23) dX3_doLoop_23 msX3_134 rfl (kX3_wayOf) (ab_kl fun r23 h23 e23 => ?_)
        obtain ⟨rfl, rfl⟩ := And.intro e23.1.symm e23.2.symm
        exact ab_retl (pc := 26) dX3_doLoop_26 rfl ⟨_, rfl, (by constructor <;> rw [c_loop, if_neg zc11, if_neg q3])⟩
set_option maxRecDepth 100000 in
set_option maxHeartbeats 300000 in
theorem kX3_doLoop {l : Launch} {d : Nat} {h : ab_H} {n : Nat} {P : c_PT} {w : Nat} {x deep : Int32} (hP : c_KP l (d + 6) n P) (hI : c_IP n P) (hpre : c_pre n h w x) (hx : vp_in x 60) (hb : ¬ h (8 * w + 17) x.toNatClampNeg < 0 ∧ ¬ 9 < h (8 * w + 17) x.toNatClampNeg) : ab_C l layC (d + 7) mX3_doLoop [ab_R 0, ab_R (8 * w + 14), ab_I x, ab_I deep] h (ab_ql fun z h' => z = c_way (c_loop P w x deep 11 0 h).1 (c_loop P w x deep 11 0 h).2.1 ∧ h' = (c_loop P w x deep 11 0 h).2.2) := by
  refine ab_enter (by decide) (Nat.le_of_ble_eq_true rfl) ?_
  refine ab_iconst (pc := 0) (v := 0) dX3_doLoop_0 (by decide) ?_
  refine ab_istore (pc := 1) dX3_doLoop_1 rfl ?_
  refine ab_weak [(0, ab_R 0), (1, ab_R (8 * w + 14)), (2, ab_I x), (3, ab_I deep), (4, ab_I 0)] ⟨rfl, rfl, rfl, rfl, rfl, trivial⟩ ?_
  refine lpX3_doLoop hP hI hpre.2.1 hx 11 0 h hpre ?_ (by decide) (by decide)
  have h9 := hb.2
  rw [Int32.lt_iff_toInt_lt, show (9 : Int32).toInt = 9 from rfl] at h9
  rw [show (0 : Int32).toInt = 0 from rfl]
  omega
