/-! the class's blocks over the machine, given doPart's contract -/
theorem c_inv_of {h h' : ab_H} (e1 : ∀ i, 14 ≤ i → h' i = h i) (e2 : h' 2 = h 2) (e3 : h' 3 = h 3) (e9 : h' 9 = h 9) (e10 : h' 10 = h 10) (e11 : h' 11 = h 11) (H : c_inv h) : c_inv h' := by
  refine ⟨fun w hw => ?_, ?_⟩
  · have := H.1 w hw
    rw [e1 (8 * w + 14) (by omega), e1 (8 * w + 15) (by omega), e1 (8 * w + 16) (by omega), e1 (8 * w + 17) (by omega), e1 (8 * w + 18) (by omega), e1 (8 * w + 19) (by omega)]
    exact this
  · have := H.2
    unfold c_dyn c_pok c_undoI c_uok at *
    rw [e2, e3, e9, e10, e11]
    exact this
theorem ab_up_ne {h : ab_H} {i k : Nat} {v : Int32} {j : Nat} (e : j ≠ i) : ab_up h i k v j = h j := by
  simp [ab_up, e]
theorem c_inv_4 {h : ab_H} {k : Nat} {v : Int32} (H : c_inv h) : c_inv (ab_up h 4 k v) :=
  c_inv_of (fun i hi => ab_up_ne (by omega)) (ab_up_ne (by omega)) (ab_up_ne (by omega)) (ab_up_ne (by omega)) (ab_up_ne (by omega)) (ab_up_ne (by omega)) H
theorem c_inv_0 {h : ab_H} {k : Nat} {v : Int32} (H : c_inv h) : c_inv (ab_up h 0 k v) :=
  c_inv_of (fun i hi => ab_up_ne (by omega)) (ab_up_ne (by omega)) (ab_up_ne (by omega)) (ab_up_ne (by omega)) (ab_up_ne (by omega)) (ab_up_ne (by omega)) H
theorem c_cost_up {n : Nat} {h : ab_H} {i k : Nat} {v : Int32} (hi : i ≠ 0) (H : c_cost n h) : c_cost n (ab_up h i k v) := by
  unfold c_cost at *
  rw [ab_up_ne (Ne.symm hi)]
  exact H
theorem vp_lt {x : Int32} {n : Nat} (h : vp_in x n) : x.toNatClampNeg < n := Nat.not_le.mp fun q => h (Or.inr q)
theorem c_pe {h : ab_H} {w : Nat} {x : Int32} (H : c_inv h) (hw : w < 8) (hx : vp_in x 60) : vp_in (h (8 * w + 18) x.toNatClampNeg) 60 := ((H.1 w hw).2 _ (vp_lt hx)).2.1
theorem c_ok {h : ab_H} {w : Nat} {x : Int32} (H : c_inv h) (hw : w < 8) (hx : vp_in x 60) : c_nok (h (8 * w + 15) x.toNatClampNeg) (h (8 * w + 16) x.toNatClampNeg) (h (8 * w + 17) x.toNatClampNeg) := ((H.1 w hw).2 _ (vp_lt hx)).1
theorem c_pre_pay {n : Nat} {h : ab_H} {w : Nat} {part : Int32} (H : c_pre (n + 1) h w part) (c : h 0 3 < 60) : c_pre n (c_pay h) w part := by
  obtain ⟨h1, h2, h3, cc, h4, h5, h6⟩ := H
  refine ⟨c_inv_0 h1, h2, h3, cc + 1, ?_, ?_, ?_⟩
  · have : nI cc < nI 60 := by rw [← h5]; exact c
    rw [nI_ltI (by omega) (by omega)] at this
    omega
  · show ab_up h 0 3 (h 0 3 + 1) 0 3 = _
    rw [ab_rd, if_pos rfl, if_pos rfl, h5, nI_1]
  · omega
set_option maxRecDepth 100000 in
set_option maxHeartbeats 300000 in
theorem tlX3_doTry {l : Launch} {d n : Nat} {P : c_PT} (hP : c_KP l (d + 6) n P) (hI : c_IP n P) {w : Nat} {p deep : Int32} {r : c_R} (hw : w < 8) (hp : vp_in p 60) (i1 : c_inv r.2.2) (k1 : c_kw r.1) (co : c_cost n r.2.2) : ab_J l layC mX3_doTry (d + 7) (ab_ql fun z h' => z = c_way (c_tryF P r w p deep).1 (c_tryF P r w p deep).2.1 ∧ h' = (c_tryF P r w p deep).2.2) 90 [(0, ab_R 0), (1, ab_R (8 * w + 14)), (3, ab_I deep), (4, ab_L (c_way r.1 r.2.1)), (6, ab_I p)] [] r.2.2 := by
  refine ab_aload_n (pc := 90) dX3_doTry_90 rfl rfl ?_
  refine ab_getr (pc := 91) dX3_doTry_91 fX3_162 (layC_o w hw) rfl ?_
  refine ab_iload (pc := 94) dX3_doTry_94 rfl ?_
  refine ab_iald (pc := 96) dX3_doTry_96 (layC_1 w hw) hp ?_
  refine ab_bipush (pc := 97) (v := 12) dX3_doTry_97 (by decide) ?_
  refine ab_icmp_ne (pc := 99) 136 dX3_doTry_99 (by decide) (fun c99 => ?_) (fun c99 => ?_)
  · refine ab_lload (pc := 136) dX3_doTry_136 rfl ?_
    exact ab_retl (pc := 138) dX3_doTry_138 rfl ⟨_, rfl, ⟨by first | rw [c_tryF, if_neg c99] | rw [c_tryF, if_pos c99, if_pos c108], by first | rw [c_tryF, if_neg c99] | rw [c_tryF, if_pos c99, if_pos c108]⟩⟩
  · refine ab_lload (pc := 102) dX3_doTry_102 rfl ?_
    refine ab_S1 (pc := 104) dX3_doTry_104 msX3_89 rfl (kX3_howOf k1) (ab_ki fun r104 h104 e104 => ?_)
    obtain ⟨rfl, rfl⟩ := And.intro e104.1.symm e104.2.symm
    refine ab_iconst (pc := 107) (v := 5) dX3_doTry_107 (by decide) ?_
    refine ab_icmp_eq (pc := 108) 136 dX3_doTry_108 (by decide) (fun c108 => ?_) (fun c108 => ?_)
    · refine ab_lload (pc := 136) dX3_doTry_136 rfl ?_
      exact ab_retl (pc := 138) dX3_doTry_138 rfl ⟨_, rfl, ⟨by first | rw [c_tryF, if_neg c99] | rw [c_tryF, if_pos c99, if_pos c108], by first | rw [c_tryF, if_neg c99] | rw [c_tryF, if_pos c99, if_pos c108]⟩⟩
    · refine ab_aload_n (pc := 111) dX3_doTry_111 rfl rfl ?_
      refine ab_aload_n (pc := 112) dX3_doTry_112 rfl rfl ?_
      refine ab_iload (pc := 113) dX3_doTry_113 rfl ?_
      refine ab_iload_n (pc := 115) dX3_doTry_115 rfl rfl ?_
      refine ab_V3 (pc := 116) dX3_doTry_116 mvX3_85 rfl rfl (hP _ _ _ _ ⟨i1, hw, Or.inr hp, co⟩) (ab_kl fun r116 h116 e116 => ?_)
      obtain ⟨rfl, rfl⟩ := And.intro e116.1.symm e116.2.symm
      refine ab_lstore (pc := 119) dX3_doTry_119 rfl ?_
      obtain ⟨i2, k2, z2, -, -, -⟩ := hI r.2.2 w p deep ⟨i1, hw, Or.inr hp, co⟩
      refine ab_lload (pc := 121) dX3_doTry_121 rfl ?_
      refine ab_lconst (pc := 123) (v := 0) dX3_doTry_123 (by decide) ?_
      refine ab_lcmp (pc := 124) dX3_doTry_124 ?_
      refine ab_if_ne (pc := 125) 133 dX3_doTry_125 (by decide) (fun c125 => ?_) (fun c125 => ?_)
      · refine ab_lload (pc := 133) dX3_doTry_133 rfl ?_
        exact ab_retl (pc := 135) dX3_doTry_135 rfl ⟨_, rfl, ⟨by first | rw [c_tryF, if_pos c99, if_neg c108, if_pos ((c_cmp k2 z2).mp c125)] | rw [c_tryF, if_pos c99, if_neg c108, if_neg (fun q => c125 ((c_cmp k2 z2).mpr q))], by first | rw [c_tryF, if_pos c99, if_neg c108, if_pos ((c_cmp k2 z2).mp c125)] | rw [c_tryF, if_pos c99, if_neg c108, if_neg (fun q => c125 ((c_cmp k2 z2).mpr q))]⟩⟩
      · refine ab_lload (pc := 128) dX3_doTry_128 rfl ?_
        refine ab_goto (pc := 130) 135 dX3_doTry_130 (by decide) ?_
        exact ab_retl (pc := 135) dX3_doTry_135 rfl ⟨_, rfl, ⟨by first | rw [c_tryF, if_pos c99, if_neg c108, if_pos ((c_cmp k2 z2).mp c125)] | rw [c_tryF, if_pos c99, if_neg c108, if_neg (fun q => c125 ((c_cmp k2 z2).mpr q))], by first | rw [c_tryF, if_pos c99, if_neg c108, if_pos ((c_cmp k2 z2).mp c125)] | rw [c_tryF, if_pos c99, if_neg c108, if_neg (fun q => c125 ((c_cmp k2 z2).mpr q))]⟩⟩
set_option maxRecDepth 100000 in
set_option maxHeartbeats 300000 in
theorem tmX3_doTry {l : Launch} {d n : Nat} {P : c_PT} (hP : c_KP l (d + 6) n P) (hI : c_IP n P) {w : Nat} {p deep : Int32} {r : c_R} (hw : w < 8) (hp : vp_in p 60) (i1 : c_inv r.2.2) (k1 : c_kw r.1) (co : c_cost n r.2.2) : ab_J l layC mX3_doTry (d + 7) (ab_ql fun z h' => z = c_way (c_tryF P r w (r.2.2 (8 * w + 18) p.toNatClampNeg) deep).1 (c_tryF P r w (r.2.2 (8 * w + 18) p.toNatClampNeg) deep).2.1 ∧ h' = (c_tryF P r w (r.2.2 (8 * w + 18) p.toNatClampNeg) deep).2.2) 81 [(0, ab_R 0), (1, ab_R (8 * w + 14)), (3, ab_I deep), (4, ab_L (c_way r.1 r.2.1)), (6, ab_I p)] [] r.2.2 := by
  refine ab_aload_n (pc := 81) dX3_doTry_81 rfl rfl ?_
  refine ab_getr (pc := 82) dX3_doTry_82 fX3_138 (layC_o w hw) rfl ?_
  refine ab_iload (pc := 85) dX3_doTry_85 rfl ?_
  refine ab_iald (pc := 87) dX3_doTry_87 (layC_4 w hw) hp ?_
  refine ab_istore (pc := 88) dX3_doTry_88 rfl ?_
  refine ab_weak [(0, ab_R 0), (1, ab_R (8 * w + 14)), (3, ab_I deep), (4, ab_L _), (6, ab_I _)] ⟨rfl, rfl, rfl, rfl, rfl, trivial⟩ ?_
  exact tlX3_doTry hP hI hw (c_pe i1 hw hp) i1 k1 co
set_option maxRecDepth 100000 in
set_option maxHeartbeats 300000 in
theorem kX3_doTry {l : Launch} {d : Nat} {h : ab_H} {n : Nat} {P : c_PT} {w : Nat} {x deep : Int32} (hP : c_KP l (d + 6) n P) (hI : c_IP n P) (hpre : c_pre n h w x) (hx : vp_in x 60) : ab_C l layC (d + 7) mX3_doTry [ab_R 0, ab_R (8 * w + 14), ab_I x, ab_I deep] h (ab_ql fun z h' => z = c_way (c_try P h w x deep).1 (c_try P h w x deep).2.1 ∧ h' = (c_try P h w x deep).2.2) := by
  refine ab_enter (by decide) (Nat.le_of_ble_eq_true rfl) ?_
  have hw := hpre.2.1
  obtain ⟨i1, k1, z1, st1, sc1, co1⟩ := hI h w x deep hpre
  have hp1 := c_pe i1 hw hx
  have i4 : c_inv (ab_up (P h w x deep).2.2 4 7 (P h w x deep).2.1) := c_inv_4 i1
  have co4 : c_cost n (ab_up (P h w x deep).2.2 4 7 (P h w x deep).2.1) := c_cost_up (by omega) co1
  obtain ⟨i2, k2, z2, st2, sc2, co2⟩ := hI (ab_up (P h w x deep).2.2 4 7 (P h w x deep).2.1) w ((P h w x deep).2.2 (8 * w + 18) x.toNatClampNeg) deep ⟨i4, hw, Or.inr hp1, co4⟩
  refine ab_aload_n (pc := 0) dX3_doTry_0 rfl rfl ?_
  refine ab_aload_n (pc := 1) dX3_doTry_1 rfl rfl ?_
  refine ab_iload_n (pc := 2) dX3_doTry_2 rfl rfl ?_
  refine ab_iload_n (pc := 3) dX3_doTry_3 rfl rfl ?_
  refine ab_V3 (pc := 4) dX3_doTry_4 mvX3_85 rfl rfl (hP _ _ _ _ hpre) (ab_kl fun r4 h4 e4 => ?_)
  obtain ⟨rfl, rfl⟩ := And.intro e4.1.symm e4.2.symm
  refine ab_lstore (pc := 7) dX3_doTry_7 rfl ?_
  refine ab_aload_n (pc := 9) dX3_doTry_9 rfl rfl ?_
  refine ab_getr (pc := 10) dX3_doTry_10 fX3_138 (layC_o w hw) rfl ?_
  refine ab_iload_n (pc := 13) dX3_doTry_13 rfl rfl ?_
  refine ab_iald (pc := 14) dX3_doTry_14 (layC_4 w hw) hx ?_
  refine ab_istore (pc := 15) dX3_doTry_15 rfl ?_
  refine ab_aload_n (pc := 17) dX3_doTry_17 rfl rfl ?_
  refine ab_getr (pc := 18) dX3_doTry_18 fX3_162 (layC_o w hw) rfl ?_
  refine ab_iload (pc := 21) dX3_doTry_21 rfl ?_
  refine ab_iald (pc := 23) dX3_doTry_23 (layC_1 w hw) hp1 ?_
  refine ab_bipush (pc := 24) (v := 11) dX3_doTry_24 (by decide) ?_
  refine ab_icmp_ne (pc := 26) 90 dX3_doTry_26 (by decide) (fun c26 => ?_) (fun c26 => ?_)
  · refine ab_weak [(0, ab_R 0), (1, ab_R (8 * w + 14)), (3, ab_I deep), (4, ab_L _), (6, ab_I _)] ⟨rfl, rfl, rfl, rfl, rfl, trivial⟩ ?_
    rw [show c_try P h w x deep = c_tryF P (P h w x deep) w ((P h w x deep).2.2 (8 * w + 18) x.toNatClampNeg) deep by rw [c_try, if_neg c26]]
    exact tlX3_doTry hP hI hw hp1 i1 k1 co1
  · refine ab_lload (pc := 29) dX3_doTry_29 rfl ?_
    refine ab_S1 (pc := 31) dX3_doTry_31 msX3_89 rfl (kX3_howOf k1) (ab_ki fun r31 h31 e31 => ?_)
    obtain ⟨rfl, rfl⟩ := And.intro e31.1.symm e31.2.symm
    refine ab_iconst (pc := 34) (v := 4) dX3_doTry_34 (by decide) ?_
    refine ab_icmp_ne (pc := 35) 81 dX3_doTry_35 (by decide) (fun c35 => ?_) (fun c35 => ?_)
    · first
        | (refine ab_weak [(0, ab_R 0), (1, ab_R (8 * w + 14)), (3, ab_I deep), (4, ab_L _), (6, ab_I _)] ⟨rfl, rfl, rfl, rfl, rfl, trivial⟩ ?_
           rw [show c_try P h w x deep = c_tryF P (P (ab_up (P h w x deep).2.2 4 7 (P h w x deep).2.1) w ((P h w x deep).2.2 (8 * w + 18) x.toNatClampNeg) deep) w ((P (ab_up (P h w x deep).2.2 4 7 (P h w x deep).2.1) w ((P h w x deep).2.2 (8 * w + 18) x.toNatClampNeg) deep).2.2 (8 * w + 18) ((P h w x deep).2.2 (8 * w + 18) x.toNatClampNeg).toNatClampNeg) deep by rw [c_try, if_pos c26, c_tryC, if_pos c35, if_pos c53]]
           exact tmX3_doTry hP hI hw hp1 i2 k2 co2)
        | (refine ab_weak [(0, ab_R 0), (1, ab_R (8 * w + 14)), (3, ab_I deep), (4, ab_L _), (6, ab_I _)] ⟨rfl, rfl, rfl, rfl, rfl, trivial⟩ ?_
           rw [show c_try P h w x deep = c_tryF P (P h w x deep) w ((P h w x deep).2.2 (8 * w + 18) ((P h w x deep).2.2 (8 * w + 18) x.toNatClampNeg).toNatClampNeg) deep by first | rw [c_try, if_pos c26, c_tryC, if_neg c35] | rw [c_try, if_pos c26, c_tryC, if_pos c35, if_neg c53]]
           exact tmX3_doTry hP hI hw hp1 i1 k1 co1)
    · refine ab_aload_n (pc := 38) dX3_doTry_38 rfl rfl ?_
      refine ab_getr (pc := 39) dX3_doTry_39 fX3_159 (layC_o w hw) rfl ?_
      refine ab_iload_n (pc := 42) dX3_doTry_42 rfl rfl ?_
      refine ab_iald (pc := 43) dX3_doTry_43 (layC_3 w hw) hx ?_
      refine ab_lload (pc := 44) dX3_doTry_44 rfl ?_
      refine ab_S1 (pc := 46) dX3_doTry_46 msX3_93 rfl (kX3_numberOf k1) (ab_ki fun r46 h46 e46 => ?_)
      obtain ⟨rfl, rfl⟩ := And.intro e46.1.symm e46.2.symm
      refine ab_ishr (pc := 49) dX3_doTry_49 ?_
      refine ab_iconst (pc := 50) (v := 1) dX3_doTry_50 (by decide) ?_
      refine ab_iand (pc := 51) dX3_doTry_51 ?_
      refine ab_iconst (pc := 52) (v := 1) dX3_doTry_52 (by decide) ?_
      refine ab_icmp_ne (pc := 53) 81 dX3_doTry_53 (by decide) (fun c53 => ?_) (fun c53 => ?_)
      · first
          | (refine ab_weak [(0, ab_R 0), (1, ab_R (8 * w + 14)), (3, ab_I deep), (4, ab_L _), (6, ab_I _)] ⟨rfl, rfl, rfl, rfl, rfl, trivial⟩ ?_
             rw [show c_try P h w x deep = c_tryF P (P (ab_up (P h w x deep).2.2 4 7 (P h w x deep).2.1) w ((P h w x deep).2.2 (8 * w + 18) x.toNatClampNeg) deep) w ((P (ab_up (P h w x deep).2.2 4 7 (P h w x deep).2.1) w ((P h w x deep).2.2 (8 * w + 18) x.toNatClampNeg) deep).2.2 (8 * w + 18) ((P h w x deep).2.2 (8 * w + 18) x.toNatClampNeg).toNatClampNeg) deep by rw [c_try, if_pos c26, c_tryC, if_pos c35, if_pos c53]]
             exact tmX3_doTry hP hI hw hp1 i2 k2 co2)
          | (refine ab_weak [(0, ab_R 0), (1, ab_R (8 * w + 14)), (3, ab_I deep), (4, ab_L _), (6, ab_I _)] ⟨rfl, rfl, rfl, rfl, rfl, trivial⟩ ?_
             rw [show c_try P h w x deep = c_tryF P (P h w x deep) w ((P h w x deep).2.2 (8 * w + 18) ((P h w x deep).2.2 (8 * w + 18) x.toNatClampNeg).toNatClampNeg) deep by first | rw [c_try, if_pos c26, c_tryC, if_neg c35] | rw [c_try, if_pos c26, c_tryC, if_pos c35, if_neg c53]]
             exact tmX3_doTry hP hI hw hp1 i1 k1 co1)
      · refine ab_aload_n (pc := 56) dX3_doTry_56 rfl rfl ?_
        refine ab_getr (pc := 57) dX3_doTry_57 fX3_19 rfl rfl ?_
        refine ab_getr (pc := 60) dX3_doTry_60 fX3_102 rfl rfl ?_
        refine ab_bipush (pc := 63) (v := 7) dX3_doTry_63 (by decide) ?_
        refine ab_lload (pc := 65) dX3_doTry_65 rfl ?_
        refine ab_S1 (pc := 67) dX3_doTry_67 msX3_93 rfl (kX3_numberOf k1) (ab_ki fun r67 h67 e67 => ?_)
        obtain ⟨rfl, rfl⟩ := And.intro e67.1.symm e67.2.symm
        refine ab_iast (pc := 70) dX3_doTry_70 rfl (show vp_in (nI 7) 8 from vp_in_nI (by omega) (by omega)) ?_
        refine ab_aload_n (pc := 71) dX3_doTry_71 rfl rfl ?_
        refine ab_aload_n (pc := 72) dX3_doTry_72 rfl rfl ?_
        refine ab_iload (pc := 73) dX3_doTry_73 rfl ?_
        refine ab_iload_n (pc := 75) dX3_doTry_75 rfl rfl ?_
        refine ab_V3 (pc := 76) dX3_doTry_76 mvX3_85 rfl rfl (hP _ _ _ _ ⟨i4, hw, Or.inr hp1, co4⟩) (ab_kl fun r76 h76 e76 => ?_)
        obtain ⟨rfl, rfl⟩ := And.intro e76.1.symm e76.2.symm
        refine ab_lstore (pc := 79) dX3_doTry_79 rfl ?_
        first
          | (refine ab_weak [(0, ab_R 0), (1, ab_R (8 * w + 14)), (3, ab_I deep), (4, ab_L _), (6, ab_I _)] ⟨rfl, rfl, rfl, rfl, rfl, trivial⟩ ?_
             rw [show c_try P h w x deep = c_tryF P (P (ab_up (P h w x deep).2.2 4 7 (P h w x deep).2.1) w ((P h w x deep).2.2 (8 * w + 18) x.toNatClampNeg) deep) w ((P (ab_up (P h w x deep).2.2 4 7 (P h w x deep).2.1) w ((P h w x deep).2.2 (8 * w + 18) x.toNatClampNeg) deep).2.2 (8 * w + 18) ((P h w x deep).2.2 (8 * w + 18) x.toNatClampNeg).toNatClampNeg) deep by rw [c_try, if_pos c26, c_tryC, if_pos c35, if_pos c53]]
             exact tmX3_doTry hP hI hw hp1 i2 k2 co2)
          | (refine ab_weak [(0, ab_R 0), (1, ab_R (8 * w + 14)), (3, ab_I deep), (4, ab_L _), (6, ab_I _)] ⟨rfl, rfl, rfl, rfl, rfl, trivial⟩ ?_
             rw [show c_try P h w x deep = c_tryF P (P h w x deep) w ((P h w x deep).2.2 (8 * w + 18) ((P h w x deep).2.2 (8 * w + 18) x.toNatClampNeg).toNatClampNeg) deep by first | rw [c_try, if_pos c26, c_tryC, if_neg c35] | rw [c_try, if_pos c26, c_tryC, if_pos c35, if_neg c53]]
             exact tmX3_doTry hP hI hw hp1 i1 k1 co1)

set_option maxRecDepth 100000 in
set_option maxHeartbeats 300000 in
theorem kX3_doMute {l : Launch} {d : Nat} {h : ab_H} {n : Nat} {P : c_PT} {w : Nat} {x deep : Int32} (hP : c_KP l (d + 6) n P) (hI : c_IP n P) (hpre : c_pre n h w x) (hx : vp_in x 60) : ab_C l layC (d + 7) mX3_doMute [ab_R 0, ab_R (8 * w + 14), ab_I x, ab_I deep] h (ab_ql fun z h' => z = c_way (c_mute P h w x deep).1 (c_mute P h w x deep).2.1 ∧ h' = (c_mute P h w x deep).2.2) := by
  refine ab_enter (by decide) (Nat.le_of_ble_eq_true rfl) ?_
  have hw := hpre.2.1
  obtain ⟨i1, k1, z1, st1, sc1, co1⟩ := hI h w x deep hpre
  refine ab_aload_n (pc := 0) dX3_doMute_0 rfl rfl ?_
  refine ab_aload_n (pc := 1) dX3_doMute_1 rfl rfl ?_
  refine ab_iload_n (pc := 2) dX3_doMute_2 rfl rfl ?_
  refine ab_iload_n (pc := 3) dX3_doMute_3 rfl rfl ?_
  refine ab_V3 (pc := 4) dX3_doMute_4 mvX3_85 rfl rfl (hP _ _ _ _ hpre) (ab_kl fun r4 h4 e4 => ?_)
  obtain ⟨rfl, rfl⟩ := And.intro e4.1.symm e4.2.symm
  refine ab_lstore (pc := 7) dX3_doMute_7 rfl ?_
  refine ab_lload (pc := 9) dX3_doMute_9 rfl ?_
  refine ab_S1 (pc := 11) dX3_doMute_11 msX3_89 rfl (kX3_howOf k1) (ab_ki fun r11 h11 e11 => ?_)
  obtain ⟨rfl, rfl⟩ := And.intro e11.1.symm e11.2.symm
  refine ab_iconst (pc := 14) (v := 5) dX3_doMute_14 (by decide) ?_
  refine ab_icmp_ne (pc := 15) 23 dX3_doMute_15 (by decide) (fun c15 => ?_) (fun c15 => ?_)
  · refine ab_lconst (pc := 23) (v := 0) dX3_doMute_23 (by decide) ?_
    exact ab_retl (pc := 24) dX3_doMute_24 rfl ⟨_, rfl, (by constructor <;> first | rw [c_mute, if_pos c15] | (rw [c_mute, if_neg c15]; done) | (rw [c_mute, if_neg c15]; exact c_way0.symm))⟩
  · refine ab_lload (pc := 18) dX3_doMute_18 rfl ?_
    refine ab_goto (pc := 20) 24 dX3_doMute_20 (by decide) ?_
    exact ab_retl (pc := 24) dX3_doMute_24 rfl ⟨_, rfl, (by constructor <;> first | rw [c_mute, if_pos c15] | (rw [c_mute, if_neg c15]; done) | (rw [c_mute, if_neg c15]; exact c_way0.symm))⟩

set_option maxRecDepth 100000 in
set_option maxHeartbeats 300000 in
theorem kX3_doIf {l : Launch} {d : Nat} {h : ab_H} {n : Nat} {P : c_PT} {w : Nat} {x deep : Int32} (hP : c_KP l (d + 6) n P) (hI : c_IP n P) (hpre : c_pre n h w x) (hx : vp_in x 60) (hn : vp_in (h (8 * w + 16) x.toNatClampNeg) 8) : ab_C l layC (d + 7) mX3_doIf [ab_R 0, ab_R (8 * w + 14), ab_I x, ab_I deep] h (ab_ql fun z h' => z = c_way (c_if P h w x deep).1 (c_if P h w x deep).2.1 ∧ h' = (c_if P h w x deep).2.2) := by
  refine ab_enter (by decide) (Nat.le_of_ble_eq_true rfl) ?_
  have hw := hpre.2.1
  have hp1 := c_pe hpre.1 hw hx
  refine ab_aload_n (pc := 0) dX3_doIf_0 rfl rfl ?_
  refine ab_getr (pc := 1) dX3_doIf_1 fX3_19 rfl rfl ?_
  refine ab_getr (pc := 4) dX3_doIf_4 fX3_102 rfl rfl ?_
  refine ab_aload_n (pc := 7) dX3_doIf_7 rfl rfl ?_
  refine ab_getr (pc := 8) dX3_doIf_8 fX3_156 (layC_o w hw) rfl ?_
  refine ab_iload_n (pc := 11) dX3_doIf_11 rfl rfl ?_
  refine ab_iald (pc := 12) dX3_doIf_12 (layC_2 w hw) hx ?_
  refine ab_iald (pc := 13) dX3_doIf_13 rfl hn ?_
  refine ab_if_eq (pc := 14) 25 dX3_doIf_14 (by decide) (fun c14 => ?_) (fun c14 => ?_)
  · refine ab_aload_n (pc := 25) dX3_doIf_25 rfl rfl ?_
    refine ab_getr (pc := 26) dX3_doIf_26 fX3_138 (layC_o w hw) rfl ?_
    refine ab_iload_n (pc := 29) dX3_doIf_29 rfl rfl ?_
    refine ab_iald (pc := 30) dX3_doIf_30 (layC_4 w hw) hx ?_
    refine ab_istore (pc := 31) dX3_doIf_31 rfl ?_
    refine ab_aload_n (pc := 33) dX3_doIf_33 rfl rfl ?_
    refine ab_getr (pc := 34) dX3_doIf_34 fX3_162 (layC_o w hw) rfl ?_
    refine ab_iload (pc := 37) dX3_doIf_37 rfl ?_
    refine ab_iald (pc := 39) dX3_doIf_39 (layC_1 w hw) hp1 ?_
    refine ab_bipush (pc := 40) (v := 22) dX3_doIf_40 (by decide) ?_
    refine ab_icmp_ne (pc := 42) 56 dX3_doIf_42 (by decide) (fun c42 => ?_) (fun c42 => ?_)
    · refine ab_lconst (pc := 56) (v := 0) dX3_doIf_56 (by decide) ?_
      exact ab_retl (pc := 57) dX3_doIf_57 rfl ⟨_, rfl, (by constructor <;> first | rw [c_if, if_pos c14, if_pos c42] | (rw [c_if, if_pos c14, if_neg c42]; done) | (rw [c_if, if_pos c14, if_neg c42]; exact c_way0.symm))⟩
    · refine ab_aload_n (pc := 45) dX3_doIf_45 rfl rfl ?_
      refine ab_aload_n (pc := 46) dX3_doIf_46 rfl rfl ?_
      refine ab_iload (pc := 47) dX3_doIf_47 rfl ?_
      refine ab_iload_n (pc := 49) dX3_doIf_49 rfl rfl ?_
      refine ab_V3 (pc := 50) dX3_doIf_50 mvX3_85 rfl rfl (hP _ _ _ _ ⟨hpre.1, hw, Or.inr hp1, hpre.2.2.2⟩) (ab_kl fun r50 h50 e50 => ?_)
      obtain ⟨rfl, rfl⟩ := And.intro e50.1.symm e50.2.symm
      refine ab_goto (pc := 53) 57 dX3_doIf_53 (by decide) ?_
      exact ab_retl (pc := 57) dX3_doIf_57 rfl ⟨_, rfl, (by constructor <;> first | rw [c_if, if_pos c14, if_pos c42] | (rw [c_if, if_pos c14, if_neg c42]; done) | (rw [c_if, if_pos c14, if_neg c42]; exact c_way0.symm))⟩
  · refine ab_aload_n (pc := 17) dX3_doIf_17 rfl rfl ?_
    refine ab_aload_n (pc := 18) dX3_doIf_18 rfl rfl ?_
    refine ab_iload_n (pc := 19) dX3_doIf_19 rfl rfl ?_
    refine ab_iload_n (pc := 20) dX3_doIf_20 rfl rfl ?_
    refine ab_V3 (pc := 21) dX3_doIf_21 mvX3_85 rfl rfl (hP _ _ _ _ hpre) (ab_kl fun r21 h21 e21 => ?_)
    obtain ⟨rfl, rfl⟩ := And.intro e21.1.symm e21.2.symm
    exact ab_retl (pc := 24) dX3_doIf_24 rfl ⟨_, rfl, (by constructor <;> rw [c_if, if_neg c14])⟩
