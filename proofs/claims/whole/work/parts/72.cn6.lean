/-! new UndoWorks() -/
set_option maxRecDepth 100000 in
set_option maxHeartbeats 1000000 in
theorem kn3 {l : Launch} {d : Nat} (dC : Nat → ClassId) (dI : Nat → Nat → Nat) (cI cW : ClassId) (o sz : Nat) : Met l yX3_init (Cond.code yX3_init cX3_init 2 none :: ab_all) (ag_rm (d + 2) 77 3988) (va_Pc [.ref o] (fun U => U.heap.size = sz ∧ va_P (dC, dI) vwCl [(o, .inr (3, cn_f3))] U.heap ∧ va_K (dC, dI) vwCl (ab_tys cI cW) U ∧ cn_nest U)) (cn_Q3 (dC, dI) cI cW layC c_h0 o (cn_A o sz)) 77 3988 (cn_A o sz) := by
  refine Met.ofW (cc := cX3_init) (maxL := 2) (ret := none) (by decide) rfl ?_
  intro p e s m args below meth c s₁ B hml hv
  obtain ⟨rfl, hsz, hP, hK, hN⟩ := hv
  have hts0 := atoms_spec (ws := Cond.code yX3_init cX3_init 2 none :: ab_all) B.pre
  have hts : ∀ w ∈ ab_all, w.before #[Value.ref o] s = true := fun w h => hts0 w (List.mem_cons_of_mem _ h)
  subst hsz
  have X : cn_Cx RX3 cX3_init 2 (dC, dI) (ab_tys cI cW) cI s.heap (cn_A o s.heap.size) p s m #[.ref o] meth c := ⟨B.exec, B.bytes, hml, findClass_of_methodNamed B.named, hts, (name_of_methodNamed B.named B.method).1, hK, rfl, fun q h => Or.inr h⟩
  have hx := X.1
  have hb := X.2.1
  have hown := X.2.2.2.1
  have hl := lv_entry ([.ref o] : List Value) (n := 2) (Nat.le_of_ble_eq_true rfl)
  rw [lg_entry_eq]
  generalize (lg_sl ([.ref o] : List Value) ++ List.replicate (2 - (lg_sl ([.ref o] : List Value)).length) Slot.unset).toArray = ls at hl ⊢
  have hD : va_D (cn_A o s.heap.size) [(o, .inr (3, cn_f3))] := cn_D0 (Or.inl rfl)
  have hS : va_S (cn_A o s.heap.size) s.heap s.heap [] := va_S.rf
  generalize hAe : cn_A o s.heap.size = A at X hD hS ⊢
  have tail : ∀ (aw : Nat) (a : Nat → Nat) (H : Heap) (locs : List Loc) (ls : Array Slot), lv_has ls 2 [(0, .ref o)] → va_P (dC, dI) vwCl (cn_x o aw :: (cn_rw cW aw (cn_fw a 8) :: cn_fl cI a 8)) H → va_D A (cn_x o aw :: (cn_rw cW aw (cn_fw a 8) :: cn_fl cI a 8)) → va_S A s.heap H locs →
      W p l e (ag_rm (d + 2) 77 3988) s m #[.ref o] below meth c H locs 65 2640 (MQ below (cn_Q3 (dC, dI) cI cW layC c_h0 o A) #[.ref o] s 77 3988 A) (F0 m 40 ls []) := by
    intro aw a H locs ls hl hP hD hS
    refine lv_aload_n hx hb dX3_init_40 rfl (lv_at hl 0 rfl) ?_
    refine cn_makeN (d := d + 1) (pc := 41) X cN0 cM0 (by decide) hN.2.1 kn0 hP hD hS hl.1 (Nat.le_of_ble_eq_true rfl) (Nat.le_refl _) (Nat.le_refl _) (show 65 + 1 + 5 ≤ 77 by decide) (show 2640 + 7 + 132 ≤ 3988 by decide) dX3_init_41 dX3_init_44 dX3_init_45 (fun dq dd H1 locs1 hP1 hD1 hS1 => ?_)
    replace hP1 : va_P (dC, dI) vwCl ((o, .inr (3, [.ref aw, .null, .null, .int 0, .int 0, .int 0])) :: (cn_rw cW aw (cn_fw a 8) :: (cn_fl cI a 8 ++ cn_w0 cI dq dd))) H1 := hP1
    replace hD1 : va_D A ((o, .inr (3, [.ref aw, .null, .null, .int 0, .int 0, .int 0])) :: (cn_rw cW aw (cn_fw a 8) :: (cn_fl cI a 8 ++ cn_w0 cI dq dd))) := hD1
    refine cn_putF (pc := 48) (ty := .object "UndoWorks$Data") X cF3_19 hP1 hD1 hS1 (by decide +kernel) rfl rfl (Nat.le_of_ble_eq_true rfl) dX3_init_48 (fun H2 locs2 hP2 hD2 hS2 => ?_)
    replace hP2 : va_P (dC, dI) vwCl ((o, .inr (3, [.ref aw, .ref dq, .null, .int 0, .int 0, .int 0])) :: (cn_rw cW aw (cn_fw a 8) :: (cn_fl cI a 8 ++ cn_w0 cI dq dd))) H2 := hP2
    replace hD2 : va_D A ((o, .inr (3, [.ref aw, .ref dq, .null, .int 0, .int 0, .int 0])) :: (cn_rw cW aw (cn_fw a 8) :: (cn_fl cI a 8 ++ cn_w0 cI dq dd))) := hD2
    refine lv_aload_n hx hb dX3_init_51 rfl (lv_at hl 0 rfl) ?_
    refine cn_makeN (d := d + 1) (pc := 52) X cN1 cM1 (by decide) hN.2.2.1 kn1 hP2 hD2 hS2 hl.1 (Nat.le_of_ble_eq_true rfl) (Nat.le_refl _) (Nat.le_refl _) (show 71 + 1 + 5 ≤ 77 by decide) (show 2779 + 9 + 1200 ≤ 3988 by decide) dX3_init_52 dX3_init_55 dX3_init_56 (fun uq uu H3 locs3 hP3 hD3 hS3 => ?_)
    replace hP3 : va_P (dC, dI) vwCl ((o, .inr (3, [.ref aw, .ref dq, .null, .int 0, .int 0, .int 0])) :: (cn_rw cW aw (cn_fw a 8) :: ((cn_fl cI a 8 ++ cn_w0 cI dq dd) ++ cn_w1 cI uq uu))) H3 := hP3
    replace hD3 : va_D A ((o, .inr (3, [.ref aw, .ref dq, .null, .int 0, .int 0, .int 0])) :: (cn_rw cW aw (cn_fw a 8) :: ((cn_fl cI a 8 ++ cn_w0 cI dq dd) ++ cn_w1 cI uq uu))) := hD3
    rw [List.append_assoc] at hP3 hD3
    refine cn_putF (pc := 59) (ty := .object "UndoWorks$UndoList") X cF3_26 hP3 hD3 hS3 (by decide +kernel) rfl rfl (Nat.le_of_ble_eq_true rfl) dX3_init_59 (fun H4 locs4 hP4 hD4 hS4 => ?_)
    replace hP4 : va_P (dC, dI) vwCl (cn_all cI cW o aw dq uq dd uu a) H4 := hP4
    replace hD4 : va_D A (cn_all cI cW o aw dq uq dd uu a) := hD4
    exact W.vret hx hb B.returns (fun t ht hW => ⟨⟨cn_adr o aw dq uq dd uu a, rfl, by rw [ht]; exact cn_fin hP4, cn_finD hD4, rfl, va_K.moved hW.alike hK⟩, hS4.F ht⟩) hS4.2.2 dX3_init_62 B.notSynchronized
  have loop : ∀ (aw : Nat) (n w : Nat) (a : Nat → Nat) (H : Heap) (locs : List Loc) (ls : Array Slot), w + n = 8 → lv_has ls 2 [(0, .ref o), (1, .int (nI w))] → va_P (dC, dI) vwCl (cn_x o aw :: (cn_rw cW aw (cn_fw a w) :: cn_fl cI a w)) H → va_D A (cn_x o aw :: (cn_rw cW aw (cn_fw a w) :: cn_fl cI a w)) → va_S A s.heap H locs →
      W p l e (ag_rm (d + 2) 77 3988) s m #[.ref o] below meth c H locs (1 + 8 * w) (8 + 329 * w) (MQ below (cn_Q3 (dC, dI) cI cW layC c_h0 o A) #[.ref o] s 77 3988 A) (F0 m 15 ls []) := by
    intro aw n
    induction n with
    | zero =>
      intro w a H locs ls hw hl hP hD hS
      have e : w = 8 := by omega
      subst e
      refine lv_iload_n hx hb dX3_init_15 rfl (lv_at hl 1 rfl) ?_
      refine lv_bipush hx hb dX3_init_16 (v := 8) (by decide) ?_
      refine lv_icmp_ge hx hb dX3_init_18 (tgt := 40) (by decide) (fun _ => ?_) (fun q => absurd (show (8 : Int32) ≤ nI 8 by decide) q)
      exact tail aw a H locs ls (lv_sub hl [0] rfl) hP hD hS
    | succ n ih =>
      intro w a H locs ls hw hl hP hD hS
      refine lv_iload_n hx hb dX3_init_15 rfl (lv_at hl 1 rfl) ?_
      refine lv_bipush hx hb dX3_init_16 (v := 8) (by decide) ?_
      refine lv_icmp_ge hx hb dX3_init_18 (tgt := 40) (by decide) (fun q => absurd ((nI_leI (a := 8) (b := w) (by omega) (by omega)).mp q) (by omega)) (fun _ => ?_)
      refine lv_aload_n hx hb dX3_init_21 rfl (lv_at hl 0 rfl) ?_
      refine va_get (D := (dC, dI)) (ci := 3) (v := .ref aw) hx hb hts ab_in3 hown hK hP 0 rfl (show vwCl[3]? = some (RX3, TX3, 6) from rfl) 0 (by decide) (hts (.fieldLink RX3 11 (TX3 0).1 (TX3 0).2.1 (TX3 0).2.2.1) (by decide +kernel)) (fun _ h => h) rfl dX3_init_22 ?_
      refine lv_iload_n hx hb dX3_init_25 rfl (lv_at hl 1 rfl) ?_
      refine cn_makeN (d := d + 1) (pc := 26) X cN2 cM2 (by decide) hN.1 kn2 hP hD hS hl.1 (Nat.le_of_ble_eq_true rfl) (Nat.le_refl _) (Nat.le_refl _) (show 1 + 8 * w + 1 + 7 ≤ 77 by omega) (show 8 + 329 * w + 9 + 320 ≤ 3988 by omega) dX3_init_26 dX3_init_29 dX3_init_30 (fun q qs H1 locs1 hP1 hD1 hS1 => ?_)
      have hat : ((cn_x o aw :: (cn_rw cW aw (cn_fw a w) :: cn_fl cI a w)) ++ cn_w2 cI q qs)[8 * w + 2]? = some (q, .inr (2, [.ref (qs 0), .ref (qs 1), .ref (qs 2), .ref (qs 3), .ref (qs 4), .ref (qs 5), .ref (qs 6), .int 0, .int 0])) := by
        rw [List.getElem?_append_right (by simp only [List.length_cons, cn_fl_len]; omega)]
        simp only [List.length_cons, cn_fl_len, Nat.add_assoc, Nat.reduceAdd, Nat.sub_self]
        rfl
      refine va_astq hx hb hK hP1 hD1 hS1 1 1 (8 * w + 2) 2 rfl rfl hat rfl (vp_in_nI (by omega) (by omega)) dX3_init_33 (fun H2 locs2 hP2 hD2 hS2 => ?_)
      have ea : ∀ j, j < 8 * w → (fun j => if j < 8 * w then a j else if j = 8 * w then q else qs (j - (8 * w + 1))) j = a j := fun j hj => by
        show (if j < 8 * w then a j else if j = 8 * w then q else qs (j - (8 * w + 1))) = a j
        rw [if_pos hj]
      have efl : cn_fl cI a w ++ cn_w2 cI q qs = cn_fl cI (fun j => if j < 8 * w then a j else if j = 8 * w then q else qs (j - (8 * w + 1))) (w + 1) := by
        rw [cn_fl, cn_fl_eq w ea]
        congr 1
        simp only [Nat.lt_irrefl, if_false, if_true]
        congr 1
        funext j
        rw [if_neg (by omega), if_neg (by omega)]
        congr 1
        omega
      have efw : va_up (cn_fw a w) (nI w).toNatClampNeg (some q) = cn_fw (fun j => if j < 8 * w then a j else if j = 8 * w then q else qs (j - (8 * w + 1))) (w + 1) := by
        rw [nI_clamp (by omega)]
        funext k
        unfold va_up cn_fw
        by_cases e : k = w
        · subst e
          rw [if_pos rfl, if_pos (by omega)]
          show some q = some (if 8 * k < 8 * k then a (8 * k) else if 8 * k = 8 * k then q else qs (8 * k - (8 * k + 1)))
          rw [if_neg (by omega), if_pos rfl]
        · rw [if_neg e]
          by_cases e2 : k < w
          · rw [if_pos e2, if_pos (by omega)]
            exact congrArg some (ea (8 * k) (by omega)).symm
          · rw [if_neg e2, if_neg (by omega)]
      replace hP2 : va_P (dC, dI) vwCl (cn_x o aw :: (cn_rw cW aw (va_up (cn_fw a w) (nI w).toNatClampNeg (some q)) :: (cn_fl cI a w ++ cn_w2 cI q qs))) H2 := hP2
      replace hD2 : va_D A (cn_x o aw :: (cn_rw cW aw (va_up (cn_fw a w) (nI w).toNatClampNeg (some q)) :: (cn_fl cI a w ++ cn_w2 cI q qs))) := hD2
      rw [efl, efw] at hP2 hD2
      refine lv_iinc (k := 1) hx hb dX3_init_34 hl rfl rfl (by decide) rfl (fun ls2 hl2 => ?_)
      refine lv_goto hx hb dX3_init_37 (tgt := 15) (by decide) ?_
      refine W.widen (k := 1 + 8 * (w + 1)) (n := 8 + 329 * (w + 1)) (by omega) (by omega) (ih (w + 1) _ H2 locs2 ls2 (by omega) ?_ hP2 hD2 hS2)
      have h9 := lv_sub hl2 [1, 0] rfl
      rw [show nI w + Int32.ofInt 1 = nI (w + 1) from nI_1 w] at h9
      exact h9
  refine lv_aload_n hx hb dX3_init_0 rfl (lv_at hl 0 rfl) ?_
  refine cn_obj X cO3 hl.1 (show 1 ≤ d + 2 by omega) (show 0 + 12 ≤ 40 * (d + 2) by omega) dX3_init_1 ?_
  refine lv_aload_n hx hb dX3_init_4 rfl (lv_at hl 0 rfl) ?_
  refine lv_bipush hx hb dX3_init_5 (v := 8) (by decide) ?_
  refine va_newq (N' := 8) hx hb hown (hts _ cL3_9) hN.2.2.2 hK hP hD hS X.2.2.2.2.2.2.2.2 (by decide) (by decide) (by decide) (show 0 + 1 ≤ 77 by decide) (show 0 + 8 ≤ 3988 by decide) dX3_init_7 (fun aw cA H1 hK1 hP1 hD1 hS1 => ?_)
  have eA := va_K.oneW (i := 1) hK1 rfl
  subst eA
  refine cn_putF (pc := 10) (ty := .array (.object "UndoWorks$Workflow")) X cF3_11 hP1 hD1 hS1 (by decide +kernel) rfl rfl (Nat.le_of_ble_eq_true rfl) dX3_init_10 (fun H2 locs2 hP2 hD2 hS2 => ?_)
  refine lv_iconst hx hb dX3_init_13 (v := 0) (by decide) ?_
  refine lv_istore_n hx hb dX3_init_14 rfl hl (by decide) rfl (fun ls1 hl1 => ?_)
  exact loop aw 8 0 (fun _ => 0) H2 locs2 ls1 rfl (lv_sub hl1 [1, 0] rfl) hP2 hD2 hS2
