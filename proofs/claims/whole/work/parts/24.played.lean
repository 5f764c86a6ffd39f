section
variable {X : Nat × (Nat → Int32)} {d : Nat} {I : Nat → Nat → Int32} {J : Nat → Nat → Int64}
/-! ===== promises 15 to 25, class side ===== -/
theorem AbsC.upEv {rw tx : Tab} {P : Pce} {ds : List Deed} {sh : Shf} {tl : Int32} {ch : Int64 × Int64} {fn : Fnd} {es : List Deed} {I' : Nat → Nat → Int32} (h : AbsC rw tx P ds sh tl ch fn I J) (hf : Fr [25, 26, 27, 28] I I') (h1 : EvC P es I') : AbsC rw tx P es sh tl ch fn I' J :=
  ⟨h.1.keep (hf 3 (by decide)) (fun r hr => hf (5 + r) (by simp; omega)), h.2.1.keep (hf 13 (by decide)) (fun r hr => hf (15 + r) (by simp; omega)), h.2.2.1.keep (by rw [hf 22 (by decide)]) (by rw [hf 22 (by decide)]) (hf 23 (by decide)) (hf 24 (by decide)), h1, h.2.2.2.2.1.keep (hf 31 (by decide)) (fun r hr => hf (33 + r) (by simp; omega)), by rw [hf 0 (by decide)]; exact h.2.2.2.2.2.1, h.2.2.2.2.2.2.1, by rw [hf 0 (by decide)]; exact h.2.2.2.2.2.2.2.1, fun j hj => by rw [hf 47 (by decide)]; exact h.2.2.2.2.2.2.2.2 j hj⟩
theorem AbsC.upSh {rw tx : Tab} {P : Pce} {ds : List Deed} {sh : Shf} {tl : Int32} {ch : Int64 × Int64} {fn : Fnd} {sh' : Shf} {I' : Nat → Nat → Int32} (h : AbsC rw tx P ds sh tl ch fn I J) (hf : Fr [31, 33, 34, 35] I I') (h1 : ShC sh' I') : AbsC rw tx P ds sh' tl ch fn I' J :=
  ⟨h.1.keep (hf 3 (by decide)) (fun r hr => hf (5 + r) (by simp; omega)), h.2.1.keep (hf 13 (by decide)) (fun r hr => hf (15 + r) (by simp; omega)), h.2.2.1.keep (by rw [hf 22 (by decide)]) (by rw [hf 22 (by decide)]) (hf 23 (by decide)) (hf 24 (by decide)), h.2.2.2.1.keep (hf 25 (by decide)) (hf 26 (by decide)) (hf 27 (by decide)) (hf 28 (by decide)), h1, by rw [hf 0 (by decide)]; exact h.2.2.2.2.2.1, h.2.2.2.2.2.2.1, by rw [hf 0 (by decide)]; exact h.2.2.2.2.2.2.2.1, fun j hj => by rw [hf 47 (by decide)]; exact h.2.2.2.2.2.2.2.2 j hj⟩
def S_play (P : Pce) (ds : List Deed) : Int32 × List Deed := if P.2.1 ≤ (evO P ds).1 then (-4, ds) else if 40 ≤ ds.length then (-2, ds) else (nI (hrS P (evO P ds).2.2.1 (evO P ds).1), ds ++ [(0, 0, 0)])
def S_slip (P : Pce) (ds : List Deed) (p d : Int32) : Int32 × List Deed := if inR p P.1 && (decide (d = -1) || decide (d = 1)) then (if -2 ≤ (evO P ds).2.2.1 p.toNatClampNeg + d.toInt ∧ (evO P ds).2.2.1 p.toNatClampNeg + d.toInt ≤ 2 then (if 40 ≤ ds.length then (-2, ds) else (zI ((evO P ds).2.2.1 p.toNatClampNeg + d.toInt + 2), ds ++ [(1, p.toNatClampNeg, (d.toInt + 1).toNat)])) else (-4, ds)) else (-1, ds)
def S_jump (P : Pce) (ds : List Deed) (p q : Int32) : Int32 × List Deed := if inR p P.1 && (inR q P.1 && decide (¬ p = q)) then (if 40 ≤ ds.length then (-2, ds) else (zI ((evO P ds).2.2.1 q.toNatClampNeg - (evO P ds).2.2.1 p.toNatClampNeg + 4), ds ++ [(2, p.toNatClampNeg, q.toNatClampNeg)])) else (-1, ds)
def S_anew (P : Pce) (ds : List Deed) (l : Int32) : Int32 × List Deed := match letP P l with
  | none => (-1, ds)
  | some x => if 40 ≤ ds.length then (-2, ds) else (nI x, ds ++ [(3, 0, x)])
def S_undo (ds : List Deed) (n : Int32) : Int32 × List Deed := if inR n (ds.length + 1) then (nI (ds.length - n.toNatClampNeg), ds.take n.toNatClampNeg) else (-1, ds)
def S_here (P : Pce) (ds : List Deed) (tl : Int32) : Int32 × Int32 := if P.2.1 = 0 then (-4, tl) else (nI (evO P ds).1, nI ((evO P ds).1 - (evO P ds).2.1))
def S_out (P : Pce) (ds : List Deed) (p : Int32) : Int32 := if inR p P.1 then zI ((evO P ds).2.2.1 p.toNatClampNeg + 2) else -1
def S_hear (P : Pce) (ds : List Deed) : Int32 := if P.2.1 ≤ (evO P ds).1 then -4 else nI (hrS P (evO P ds).2.2.1 (evO P ds).1)
def tabHrd (t : Tab) (r : Nat) (s : Evs) : Tab := (upR t.1 r (some (s.1 - s.2.1)), upR t.2 r (fun i => nI (s.2.2.2 (s.2.1 + i))))
def S_heard (P : Pce) (ds : List Deed) (t : Tab) (r : Int32) : Int32 × Tab := if inR r 6 then (nI ((evO P ds).1 - (evO P ds).2.1), tabHrd t r.toNatClampNeg (evO P ds)) else (-1, t)
def S_image (P : Pce) (ds : List Deed) (sh : Shf) (k : Int32) : Int32 × Shf := if inR k 3 then (if P.2.1 = 0 then (-4, sh) else (nI ds.length, upR sh k.toNatClampNeg (some ds))) else (-1, sh)
def S_restore (ds : List Deed) (sh : Shf) (fn : Fnd) (k : Int32) : Int32 × List Deed × Fnd := if inR k 3 then (match sh k.toNatClampNeg with
  | none => (-3, ds, fndS 1 fn)
  | some es => (nI es.length, es, fn)) else (-1, ds, fn)
theorem pc_play {rw tx : Tab} {P : Pce} {ds : List Deed} {sh : Shf} {tl : Int32} {ch : Int64 × Int64} {fn : Fnd} (hA : AbsC rw tx P ds sh tl ch fn I J) (hO : StOK rw tx P ds sh) : Ct X (d + 5) 66 M_X10_play 66 [.ref 0] (I, J, rf0) (RI (fun y9 m => ∃ I', m = (I', J, rf0) ∧ FrC I I' ∧ y9 = (S_play P ds).1 ∧ AbsC rw tx P (S_play P ds).2 sh tl ch fn I' J)) := by
  have hP := hA.2.2.1
  have hQ := hO.2.2.1
  have h14 := hQ.2.1
  have h4 := hQ.1
  have hEv := hA.2.2.2.1
  have hD := hO.2.2.2.1
  have hl40 := hD.1
  have hE := hEv.2.2
  have hR : EvR (evO P ds) := EvR.e.run hQ hD.2
  have hr14 := hR.1
  show Go _ _ _ _ _ _ [_, _] _ _ _
  refine g_aload_n dX10_play_0 rfl ?_
  refine t_getR dX10_play_1 fl_X10_44 rfl (by decide) rfl (by decide) rfl ?_
  refine g_callVi dX10_play_4 ln_X10_187 ⟨_, rfl⟩ rfl (by decide) ⟨_, _, rfl⟩ rfl (Nat.le_of_ble_eq_true rfl) (Nat.le_of_ble_eq_true rfl) (ct_isOver hP hQ hE hR) rfl (fun r4 m4 h4 => ?_)
  obtain ⟨rfl, rfl⟩ := h4
  refine g_if_eq (tgt := 13) dX10_play_7 (by decide) (fun c7 => ?_) (fun c7 => ?_)
  · skip
    refine g_aload_n dX10_play_13 rfl ?_
    refine t_getR dX10_play_14 fl_X10_44 rfl (by decide) rfl (by decide) rfl ?_
    refine g_callVi dX10_play_17 ln_X10_191 ⟨_, rfl⟩ rfl (by decide) ⟨_, _, rfl⟩ rfl (Nat.le_of_ble_eq_true rfl) (Nat.le_of_ble_eq_true rfl) (ct_isFullC hEv.1 (by omega)) rfl (fun r17 m17 h17 => ?_)
    obtain ⟨rfl, rfl⟩ := h17
    refine g_if_eq (tgt := 26) dX10_play_20 (by decide) (fun c20 => ?_) (fun c20 => ?_)
    · skip
      refine g_aload_n dX10_play_26 rfl ?_
      refine t_getR dX10_play_27 fl_X10_44 rfl (by decide) rfl (by decide) rfl ?_
      refine t_getI dX10_play_30 fl_X10_194 rfl (by decide) rfl (by decide) ?_
      rw [hE.1]
      have hok : evOK P (evO P ds) (0, 0, 0) := ⟨by have := of_decide_eq_false (bI_eq c7); omega, rfl, rfl⟩
      refine g_istore_n dX10_play_33 (by decide) ?_
      show Go _ _ _ _ _ _ [_, _] _ _ _
      refine g_aload_n dX10_play_34 rfl ?_
      refine t_getR dX10_play_35 fl_X10_44 rfl (by decide) rfl (by decide) rfl ?_
      refine g_iconst (v := 0) dX10_play_38 (by decide) ?_
      refine g_iconst (v := 0) dX10_play_39 (by decide) ?_
      refine g_iconst (v := 0) dX10_play_40 (by decide) ?_
      refine g_callVv dX10_play_41 ln_X10_197 rfl rfl (by decide) ⟨_, _, rfl⟩ rfl (Nat.le_of_ble_eq_true rfl) (Nat.le_of_ble_eq_true rfl) (ct_act (k := 0) (p := 0) (w := 0) hP hQ hEv hD (by have := of_decide_eq_false (bI_eq c20); omega) ⟨by have := of_decide_eq_false (bI_eq c7); omega, rfl, rfl⟩) rfl (fun m41 h41 => ?_)
      obtain ⟨I1, rfl, hf1, hE1⟩ := h41
      have hEs : EsC (evStep P (evO P ds) (0, 0, 0)) I1 := by have := hE1.2.2; rwa [show evO P (ds ++ [(0, 0, 0)]) = evStep P (evO P ds) (0, 0, 0) from evRun_app P evE ds [(0, 0, 0)]] at this
      refine g_aload_n dX10_play_44 rfl ?_
      refine t_getR dX10_play_45 fl_X10_44 rfl (by decide) rfl (by decide) rfl ?_
      refine g_iload_n dX10_play_48 rfl ?_
      refine g_callVi dX10_play_49 ln_X10_200 ⟨_, rfl⟩ rfl (by decide) ⟨_, _, rfl⟩ rfl (Nat.le_of_ble_eq_true rfl) (Nat.le_of_ble_eq_true rfl) (ct_heardOf (x := (evO P ds).1) hEs (EvR.step hQ hR hok) hR.2.1 (Nat.lt_succ_self _)) rfl (fun r49 m49 h49 => ?_)
      obtain ⟨rfl, rfl⟩ := h49
      refine g_iret dX10_play_52 (fun ty h => by cases h; rfl) ?_
      have hS : S_play P ds = (nI (hrS P (evO P ds).2.2.1 (evO P ds).1), ds ++ [(0, 0, 0)]) := by unfold S_play; rw [if_neg (of_decide_eq_false (bI_eq c7)), if_neg (of_decide_eq_false (bI_eq c20))]
      refine ⟨_, rfl, (FrC.of hf1 (by decide)), ?_, by rw [hS]; exact hA.upEv hf1 hE1⟩
      rw [hS]
      show nI (upR (evO P ds).2.2.2 (evO P ds).1 (hrS P (evO P ds).2.2.1 (evO P ds).1) (evO P ds).1) = _
      rw [upR_s]
    · skip
      refine g_bipush (v := -2) dX10_play_23 (by decide) ?_
      refine g_iret dX10_play_25 (fun ty h => by cases h; rfl) ?_
      have hS : S_play P ds = (-2, ds) := by unfold S_play; rw [if_neg (of_decide_eq_false (bI_eq c7)), if_pos (of_decide_eq_true (bI_ne c20))]
      exact ⟨_, rfl, FrC.rf, by rw [hS], by rw [hS]; exact hA⟩
  · skip
    refine g_bipush (v := -4) dX10_play_10 (by decide) ?_
    refine g_iret dX10_play_12 (fun ty h => by cases h; rfl) ?_
    have hS : S_play P ds = (-4, ds) := by unfold S_play; rw [if_pos (of_decide_eq_true (bI_ne c7))]
    exact ⟨_, rfl, FrC.rf, by rw [hS], by rw [hS]; exact hA⟩
theorem pc_slip {rw tx : Tab} {P : Pce} {ds : List Deed} {sh : Shf} {tl : Int32} {ch : Int64 × Int64} {fn : Fnd} {p e : Int32} (hA : AbsC rw tx P ds sh tl ch fn I J) (hO : StOK rw tx P ds sh) : Ct X (d + 5) 66 M_X10_slip 66 [.ref 0, .int p, .int e] (I, J, rf0) (RI (fun y9 m => ∃ I', m = (I', J, rf0) ∧ FrC I I' ∧ y9 = (S_slip P ds p e).1 ∧ AbsC rw tx P (S_slip P ds p e).2 sh tl ch fn I' J)) := by
  have hP := hA.2.2.1
  have hQ := hO.2.2.1
  have h14 := hQ.2.1
  have h4 := hQ.1
  have hEv := hA.2.2.2.1
  have hD := hO.2.2.2.1
  have hl40 := hD.1
  have hE := hEv.2.2
  have hR : EvR (evO P ds) := EvR.e.run hQ hD.2
  have hr14 := hR.1
  show Go _ _ _ _ _ _ [_, _, _] _ _ _
  refine g_aload_n dX10_slip_0 rfl ?_
  refine t_getR dX10_slip_1 fl_X10_35 rfl (by decide) rfl (by decide) rfl ?_
  refine g_iload_n dX10_slip_4 rfl ?_
  refine g_callVi dX10_slip_5 ln_X10_174 ⟨_, rfl⟩ rfl (by decide) ⟨_, _, rfl⟩ rfl (Nat.le_of_ble_eq_true rfl) (Nat.le_of_ble_eq_true rfl) (ct_hasPlayer hP) rfl (fun r5 m5 h5 => ?_)
  obtain ⟨rfl, rfl⟩ := h5
  refine g_if_eq (tgt := 21) dX10_slip_8 (by decide) (fun c8 => ?_) (fun c8 => ?_)
  · skip
    refine g_iconst (v := -1) dX10_slip_21 (by decide) ?_
    refine g_iret dX10_slip_22 (fun ty h => by cases h; rfl) ?_
    first
      | (have hS : S_slip P ds p e = (-1, ds) := by unfold S_slip; rw [bI_eq c8]; rfl
         exact ⟨_, rfl, FrC.rf, by rw [hS], by rw [hS]; exact hA⟩)
      | (have hS : S_slip P ds (nI p) e = (-1, ds) := by unfold S_slip; rw [decide_eq_false c13, decide_eq_false c18, Bool.or_false, Bool.and_false]; rfl
         exact ⟨_, rfl, FrC.rf, by rw [hS], by rw [hS]; exact hA⟩)
      | fail "no way"
  · skip
    obtain ⟨p, hp, rfl⟩ := inR_ix (by omega) (bI_ne c8)
    refine g_iload_n dX10_slip_11 rfl ?_
    refine g_iconst (v := -1) dX10_slip_12 (by decide) ?_
    refine g_icmp_eq (tgt := 23) dX10_slip_13 (by decide) (fun c13 => ?_) (fun c13 => ?_)
    · skip
      obtain ⟨z, hz, rfl⟩ : ∃ z : Int, (z = -1 ∨ z = 1) ∧ e = zI z := by
        first
          | exact ⟨-1, Or.inl rfl, by rw [c13]; decide⟩
          | exact ⟨1, Or.inr rfl, by rw [c18]; rfl⟩
          | fail "no way"
      have hdi : (zI z).toInt = z := z_int (by omega)
      have hdb : (decide (zI z = -1) || decide (zI z = 1)) = true := by
        rcases hz with rfl | rfl <;> decide
      refine g_aload_n dX10_slip_23 rfl ?_
      refine t_getR dX10_slip_24 fl_X10_44 rfl (by decide) rfl (by decide) rfl ?_
      refine g_iload_n dX10_slip_27 rfl ?_
      refine g_iload_n dX10_slip_28 rfl ?_
      refine g_callVi dX10_slip_29 ln_X10_203 ⟨_, rfl⟩ rfl (by decide) ⟨_, _, rfl⟩ rfl (Nat.le_of_ble_eq_true rfl) (Nat.le_of_ble_eq_true rfl) (ct_canSlip (z := z) hE.2.2.1 hR.2.2.1 (by omega) (by omega)) rfl (fun r29 m29 h29 => ?_)
      obtain ⟨rfl, rfl⟩ := h29
      refine g_if_ne (tgt := 38) dX10_slip_32 (by decide) (fun c32 => ?_) (fun c32 => ?_)
      · skip
        refine g_aload_n dX10_slip_38 rfl ?_
        refine t_getR dX10_slip_39 fl_X10_44 rfl (by decide) rfl (by decide) rfl ?_
        refine g_callVi dX10_slip_42 ln_X10_191 ⟨_, rfl⟩ rfl (by decide) ⟨_, _, rfl⟩ rfl (Nat.le_of_ble_eq_true rfl) (Nat.le_of_ble_eq_true rfl) (ct_isFullC hEv.1 (by omega)) rfl (fun r42 m42 h42 => ?_)
        obtain ⟨rfl, rfl⟩ := h42
        refine g_if_eq (tgt := 51) dX10_slip_45 (by decide) (fun c45 => ?_) (fun c45 => ?_)
        · skip
          refine g_aload_n dX10_slip_51 rfl ?_
          refine t_getR dX10_slip_52 fl_X10_44 rfl (by decide) rfl (by decide) rfl ?_
          refine g_iconst (v := 1) dX10_slip_55 (by decide) ?_
          refine g_iload_n dX10_slip_56 rfl ?_
          refine g_iload_n dX10_slip_57 rfl ?_
          refine g_iconst (v := 1) dX10_slip_58 (by decide) ?_
          refine g_iadd dX10_slip_59 ?_
          have hcs := of_decide_eq_true (bI_ne c32)
          have hok : evOK P (evO P ds) (1, p, (z + 1).toNat) := ⟨hp, by show (z + 1).toNat = 0 ∨ (z + 1).toNat = 2; omega, by show -2 ≤ (evO P ds).2.2.1 p + ((z + 1).toNat : Int) - 1; omega, by show (evO P ds).2.2.1 p + ((z + 1).toNat : Int) - 1 ≤ 2; omega⟩
          rw [show zI z + 1 = nI (z + 1).toNat by rw [show (1 : Int32) = zI 1 from rfl, z_add, z_nat (by omega)]]
          refine g_callVv dX10_slip_60 ln_X10_197 rfl rfl (by decide) ⟨_, _, rfl⟩ rfl (Nat.le_of_ble_eq_true rfl) (Nat.le_of_ble_eq_true rfl) (ct_act (k := 1) (p := p) (w := (z + 1).toNat) hP hQ hEv hD (by have := of_decide_eq_false (bI_eq c45); omega) hok) rfl (fun m60 h60 => ?_)
          obtain ⟨I1, rfl, hf1, hE1⟩ := h60
          have hEs : EsC (evStep P (evO P ds) (1, p, (z + 1).toNat)) I1 := by have := hE1.2.2; rwa [show evO P (ds ++ [(1, p, (z + 1).toNat)]) = evStep P (evO P ds) (1, p, (z + 1).toNat) from evRun_app P evE ds [(1, p, (z + 1).toNat)]] at this
          refine g_aload_n dX10_slip_63 rfl ?_
          refine t_getR dX10_slip_64 fl_X10_44 rfl (by decide) rfl (by decide) rfl ?_
          refine g_iload_n dX10_slip_67 rfl ?_
          refine g_callVi dX10_slip_68 ln_X10_206 ⟨_, rfl⟩ rfl (by decide) ⟨_, _, rfl⟩ rfl (Nat.le_of_ble_eq_true rfl) (Nat.le_of_ble_eq_true rfl) (ct_outOf (p := p) hEs.2.2.1 (by omega)) rfl (fun r68 m68 h68 => ?_)
          obtain ⟨rfl, rfl⟩ := h68
          refine g_iconst (v := 2) dX10_slip_71 (by decide) ?_
          refine g_iadd dX10_slip_72 ?_
          refine g_iret dX10_slip_73 (fun ty h => by cases h; rfl) ?_
          have hS : S_slip P ds (nI p) (zI z) = (zI ((evO P ds).2.2.1 p + z + 2), ds ++ [(1, p, (z + 1).toNat)]) := by unfold S_slip; rw [inR_nI (by omega) hp, hdb, hdi, cl_nI (by omega)]; exact (if_pos hcs).trans (if_neg (of_decide_eq_false (bI_eq c45)))
          refine ⟨_, rfl, (FrC.of hf1 (by decide)), ?_, by rw [hS]; exact hA.upEv hf1 hE1⟩
          rw [hS]
          show zI (upR (evO P ds).2.2.1 p ((evO P ds).2.2.1 p + ((z + 1).toNat : Int) - 1) p) + 2 = zI ((evO P ds).2.2.1 p + z + 2)
          rw [upR_s, show (2 : Int32) = zI 2 from rfl, z_add, show (evO P ds).2.2.1 p + ((z + 1).toNat : Int) - 1 + 2 = (evO P ds).2.2.1 p + z + 2 by omega]
        · skip
          refine g_bipush (v := -2) dX10_slip_48 (by decide) ?_
          refine g_iret dX10_slip_50 (fun ty h => by cases h; rfl) ?_
          have hS : S_slip P ds (nI p) (zI z) = (-2, ds) := by unfold S_slip; rw [inR_nI (by omega) hp, hdb, hdi, cl_nI (by omega)]; exact (if_pos (of_decide_eq_true (bI_ne c32))).trans (if_pos (of_decide_eq_true (bI_ne c45)))
          exact ⟨_, rfl, FrC.rf, by rw [hS], by rw [hS]; exact hA⟩
      · skip
        refine g_bipush (v := -4) dX10_slip_35 (by decide) ?_
        refine g_iret dX10_slip_37 (fun ty h => by cases h; rfl) ?_
        have hS : S_slip P ds (nI p) (zI z) = (-4, ds) := by unfold S_slip; rw [inR_nI (by omega) hp, hdb, hdi, cl_nI (by omega)]; exact if_neg (of_decide_eq_false (bI_eq c32))
        exact ⟨_, rfl, FrC.rf, by rw [hS], by rw [hS]; exact hA⟩
    · skip
      refine g_iload_n dX10_slip_16 rfl ?_
      refine g_iconst (v := 1) dX10_slip_17 (by decide) ?_
      refine g_icmp_eq (tgt := 23) dX10_slip_18 (by decide) (fun c18 => ?_) (fun c18 => ?_)
      · skip
        obtain ⟨z, hz, rfl⟩ : ∃ z : Int, (z = -1 ∨ z = 1) ∧ e = zI z := by
          first
            | exact ⟨-1, Or.inl rfl, by rw [c13]; decide⟩
            | exact ⟨1, Or.inr rfl, by rw [c18]; rfl⟩
            | fail "no way"
        have hdi : (zI z).toInt = z := z_int (by omega)
        have hdb : (decide (zI z = -1) || decide (zI z = 1)) = true := by
          rcases hz with rfl | rfl <;> decide
        refine g_aload_n dX10_slip_23 rfl ?_
        refine t_getR dX10_slip_24 fl_X10_44 rfl (by decide) rfl (by decide) rfl ?_
        refine g_iload_n dX10_slip_27 rfl ?_
        refine g_iload_n dX10_slip_28 rfl ?_
        refine g_callVi dX10_slip_29 ln_X10_203 ⟨_, rfl⟩ rfl (by decide) ⟨_, _, rfl⟩ rfl (Nat.le_of_ble_eq_true rfl) (Nat.le_of_ble_eq_true rfl) (ct_canSlip (z := z) hE.2.2.1 hR.2.2.1 (by omega) (by omega)) rfl (fun r29 m29 h29 => ?_)
        obtain ⟨rfl, rfl⟩ := h29
        refine g_if_ne (tgt := 38) dX10_slip_32 (by decide) (fun c32 => ?_) (fun c32 => ?_)
        · skip
          refine g_aload_n dX10_slip_38 rfl ?_
          refine t_getR dX10_slip_39 fl_X10_44 rfl (by decide) rfl (by decide) rfl ?_
          refine g_callVi dX10_slip_42 ln_X10_191 ⟨_, rfl⟩ rfl (by decide) ⟨_, _, rfl⟩ rfl (Nat.le_of_ble_eq_true rfl) (Nat.le_of_ble_eq_true rfl) (ct_isFullC hEv.1 (by omega)) rfl (fun r42 m42 h42 => ?_)
          obtain ⟨rfl, rfl⟩ := h42
          refine g_if_eq (tgt := 51) dX10_slip_45 (by decide) (fun c45 => ?_) (fun c45 => ?_)
          · skip
            refine g_aload_n dX10_slip_51 rfl ?_
            refine t_getR dX10_slip_52 fl_X10_44 rfl (by decide) rfl (by decide) rfl ?_
            refine g_iconst (v := 1) dX10_slip_55 (by decide) ?_
            refine g_iload_n dX10_slip_56 rfl ?_
            refine g_iload_n dX10_slip_57 rfl ?_
            refine g_iconst (v := 1) dX10_slip_58 (by decide) ?_
            refine g_iadd dX10_slip_59 ?_
            have hcs := of_decide_eq_true (bI_ne c32)
            have hok : evOK P (evO P ds) (1, p, (z + 1).toNat) := ⟨hp, by show (z + 1).toNat = 0 ∨ (z + 1).toNat = 2; omega, by show -2 ≤ (evO P ds).2.2.1 p + ((z + 1).toNat : Int) - 1; omega, by show (evO P ds).2.2.1 p + ((z + 1).toNat : Int) - 1 ≤ 2; omega⟩
            rw [show zI z + 1 = nI (z + 1).toNat by rw [show (1 : Int32) = zI 1 from rfl, z_add, z_nat (by omega)]]
            refine g_callVv dX10_slip_60 ln_X10_197 rfl rfl (by decide) ⟨_, _, rfl⟩ rfl (Nat.le_of_ble_eq_true rfl) (Nat.le_of_ble_eq_true rfl) (ct_act (k := 1) (p := p) (w := (z + 1).toNat) hP hQ hEv hD (by have := of_decide_eq_false (bI_eq c45); omega) hok) rfl (fun m60 h60 => ?_)
            obtain ⟨I1, rfl, hf1, hE1⟩ := h60
            have hEs : EsC (evStep P (evO P ds) (1, p, (z + 1).toNat)) I1 := by have := hE1.2.2; rwa [show evO P (ds ++ [(1, p, (z + 1).toNat)]) = evStep P (evO P ds) (1, p, (z + 1).toNat) from evRun_app P evE ds [(1, p, (z + 1).toNat)]] at this
            refine g_aload_n dX10_slip_63 rfl ?_
            refine t_getR dX10_slip_64 fl_X10_44 rfl (by decide) rfl (by decide) rfl ?_
            refine g_iload_n dX10_slip_67 rfl ?_
            refine g_callVi dX10_slip_68 ln_X10_206 ⟨_, rfl⟩ rfl (by decide) ⟨_, _, rfl⟩ rfl (Nat.le_of_ble_eq_true rfl) (Nat.le_of_ble_eq_true rfl) (ct_outOf (p := p) hEs.2.2.1 (by omega)) rfl (fun r68 m68 h68 => ?_)
            obtain ⟨rfl, rfl⟩ := h68
            refine g_iconst (v := 2) dX10_slip_71 (by decide) ?_
            refine g_iadd dX10_slip_72 ?_
            refine g_iret dX10_slip_73 (fun ty h => by cases h; rfl) ?_
            have hS : S_slip P ds (nI p) (zI z) = (zI ((evO P ds).2.2.1 p + z + 2), ds ++ [(1, p, (z + 1).toNat)]) := by unfold S_slip; rw [inR_nI (by omega) hp, hdb, hdi, cl_nI (by omega)]; exact (if_pos hcs).trans (if_neg (of_decide_eq_false (bI_eq c45)))
            refine ⟨_, rfl, (FrC.of hf1 (by decide)), ?_, by rw [hS]; exact hA.upEv hf1 hE1⟩
            rw [hS]
            show zI (upR (evO P ds).2.2.1 p ((evO P ds).2.2.1 p + ((z + 1).toNat : Int) - 1) p) + 2 = zI ((evO P ds).2.2.1 p + z + 2)
            rw [upR_s, show (2 : Int32) = zI 2 from rfl, z_add, show (evO P ds).2.2.1 p + ((z + 1).toNat : Int) - 1 + 2 = (evO P ds).2.2.1 p + z + 2 by omega]
          · skip
            refine g_bipush (v := -2) dX10_slip_48 (by decide) ?_
            refine g_iret dX10_slip_50 (fun ty h => by cases h; rfl) ?_
            have hS : S_slip P ds (nI p) (zI z) = (-2, ds) := by unfold S_slip; rw [inR_nI (by omega) hp, hdb, hdi, cl_nI (by omega)]; exact (if_pos (of_decide_eq_true (bI_ne c32))).trans (if_pos (of_decide_eq_true (bI_ne c45)))
            exact ⟨_, rfl, FrC.rf, by rw [hS], by rw [hS]; exact hA⟩
        · skip
          refine g_bipush (v := -4) dX10_slip_35 (by decide) ?_
          refine g_iret dX10_slip_37 (fun ty h => by cases h; rfl) ?_
          have hS : S_slip P ds (nI p) (zI z) = (-4, ds) := by unfold S_slip; rw [inR_nI (by omega) hp, hdb, hdi, cl_nI (by omega)]; exact if_neg (of_decide_eq_false (bI_eq c32))
          exact ⟨_, rfl, FrC.rf, by rw [hS], by rw [hS]; exact hA⟩
      · skip
        refine g_iconst (v := -1) dX10_slip_21 (by decide) ?_
        refine g_iret dX10_slip_22 (fun ty h => by cases h; rfl) ?_
        first
          | (have hS : S_slip P ds p e = (-1, ds) := by unfold S_slip; rw [bI_eq c8]; rfl
             exact ⟨_, rfl, FrC.rf, by rw [hS], by rw [hS]; exact hA⟩)
          | (have hS : S_slip P ds (nI p) e = (-1, ds) := by unfold S_slip; rw [decide_eq_false c13, decide_eq_false c18, Bool.or_false, Bool.and_false]; rfl
             exact ⟨_, rfl, FrC.rf, by rw [hS], by rw [hS]; exact hA⟩)
          | fail "no way"
theorem pc_jump {rw tx : Tab} {P : Pce} {ds : List Deed} {sh : Shf} {tl : Int32} {ch : Int64 × Int64} {fn : Fnd} {p q : Int32} (hA : AbsC rw tx P ds sh tl ch fn I J) (hO : StOK rw tx P ds sh) : Ct X (d + 5) 66 M_X10_jump 66 [.ref 0, .int p, .int q] (I, J, rf0) (RI (fun y9 m => ∃ I', m = (I', J, rf0) ∧ FrC I I' ∧ y9 = (S_jump P ds p q).1 ∧ AbsC rw tx P (S_jump P ds p q).2 sh tl ch fn I' J)) := by
  have hP := hA.2.2.1
  have hQ := hO.2.2.1
  have h14 := hQ.2.1
  have h4 := hQ.1
  have hEv := hA.2.2.2.1
  have hD := hO.2.2.2.1
  have hl40 := hD.1
  have hE := hEv.2.2
  have hR : EvR (evO P ds) := EvR.e.run hQ hD.2
  have hr14 := hR.1
  show Go _ _ _ _ _ _ [_, _, _, _] _ _ _
  refine g_aload_n dX10_jump_0 rfl ?_
  refine t_getR dX10_jump_1 fl_X10_35 rfl (by decide) rfl (by decide) rfl ?_
  refine g_iload_n dX10_jump_4 rfl ?_
  refine g_callVi dX10_jump_5 ln_X10_174 ⟨_, rfl⟩ rfl (by decide) ⟨_, _, rfl⟩ rfl (Nat.le_of_ble_eq_true rfl) (Nat.le_of_ble_eq_true rfl) (ct_hasPlayer hP) rfl (fun r5 m5 h5 => ?_)
  obtain ⟨rfl, rfl⟩ := h5
  refine g_if_eq (tgt := 27) dX10_jump_8 (by decide) (fun c8 => ?_) (fun c8 => ?_)
  · skip
    refine g_iconst (v := -1) dX10_jump_27 (by decide) ?_
    refine g_iret dX10_jump_28 (fun ty h => by cases h; rfl) ?_
    have hS : S_jump P ds p q = (-1, ds) := by
      unfold S_jump
      first
        | (rw [bI_eq c8]; rfl)
        | (rw [bI_eq c19, Bool.false_and, Bool.and_false]; rfl)
        | (rw [decide_eq_false (not_not_intro c24), Bool.and_false, Bool.and_false]; rfl)
        | fail "no way"
    exact ⟨_, rfl, FrC.rf, by rw [hS], by rw [hS]; exact hA⟩
  · skip
    refine g_aload_n dX10_jump_11 rfl ?_
    refine t_getR dX10_jump_12 fl_X10_35 rfl (by decide) rfl (by decide) rfl ?_
    refine g_iload_n dX10_jump_15 rfl ?_
    refine g_callVi dX10_jump_16 ln_X10_174 ⟨_, rfl⟩ rfl (by decide) ⟨_, _, rfl⟩ rfl (Nat.le_of_ble_eq_true rfl) (Nat.le_of_ble_eq_true rfl) (ct_hasPlayer hP) rfl (fun r16 m16 h16 => ?_)
    obtain ⟨rfl, rfl⟩ := h16
    refine g_if_eq (tgt := 27) dX10_jump_19 (by decide) (fun c19 => ?_) (fun c19 => ?_)
    · skip
      refine g_iconst (v := -1) dX10_jump_27 (by decide) ?_
      refine g_iret dX10_jump_28 (fun ty h => by cases h; rfl) ?_
      have hS : S_jump P ds p q = (-1, ds) := by
        unfold S_jump
        first
          | (rw [bI_eq c8]; rfl)
          | (rw [bI_eq c19, Bool.false_and, Bool.and_false]; rfl)
          | (rw [decide_eq_false (not_not_intro c24), Bool.and_false, Bool.and_false]; rfl)
          | fail "no way"
      exact ⟨_, rfl, FrC.rf, by rw [hS], by rw [hS]; exact hA⟩
    · skip
      refine g_iload_n dX10_jump_22 rfl ?_
      refine g_iload_n dX10_jump_23 rfl ?_
      refine g_icmp_ne (tgt := 29) dX10_jump_24 (by decide) (fun c24 => ?_) (fun c24 => ?_)
      · skip
        have q1 := bI_ne c8
        have q2 := bI_ne c19
        obtain ⟨p, hp, rfl⟩ := inR_ix (by omega) q1
        obtain ⟨q, hq, rfl⟩ := inR_ix (by omega) q2
        refine g_aload_n dX10_jump_29 rfl ?_
        refine t_getR dX10_jump_30 fl_X10_44 rfl (by decide) rfl (by decide) rfl ?_
        refine g_callVi dX10_jump_33 ln_X10_191 ⟨_, rfl⟩ rfl (by decide) ⟨_, _, rfl⟩ rfl (Nat.le_of_ble_eq_true rfl) (Nat.le_of_ble_eq_true rfl) (ct_isFullC hEv.1 (by omega)) rfl (fun r33 m33 h33 => ?_)
        obtain ⟨rfl, rfl⟩ := h33
        refine g_if_eq (tgt := 42) dX10_jump_36 (by decide) (fun c36 => ?_) (fun c36 => ?_)
        · skip
          refine g_aload_n dX10_jump_42 rfl ?_
          refine t_getR dX10_jump_43 fl_X10_44 rfl (by decide) rfl (by decide) rfl ?_
          refine g_iload_n dX10_jump_46 rfl ?_
          refine g_callVi dX10_jump_47 ln_X10_206 ⟨_, rfl⟩ rfl (by decide) ⟨_, _, rfl⟩ rfl (Nat.le_of_ble_eq_true rfl) (Nat.le_of_ble_eq_true rfl) (ct_outOf (p := p) hE.2.2.1 (by omega)) rfl (fun r47 m47 h47 => ?_)
          obtain ⟨rfl, rfl⟩ := h47
          refine g_istore_n dX10_jump_50 (by decide) ?_
          show Go _ _ _ _ _ _ [_, _, _, _] _ _ _
          refine g_aload_n dX10_jump_51 rfl ?_
          refine t_getR dX10_jump_52 fl_X10_44 rfl (by decide) rfl (by decide) rfl ?_
          refine g_iconst (v := 2) dX10_jump_55 (by decide) ?_
          refine g_iload_n dX10_jump_56 rfl ?_
          refine g_iload_n dX10_jump_57 rfl ?_
          refine g_callVv dX10_jump_58 ln_X10_197 rfl rfl (by decide) ⟨_, _, rfl⟩ rfl (Nat.le_of_ble_eq_true rfl) (Nat.le_of_ble_eq_true rfl) (ct_act (k := 2) (p := p) (w := q) hP hQ hEv hD (by have := of_decide_eq_false (bI_eq c36); omega) ⟨hp, hq⟩) rfl (fun m58 h58 => ?_)
          obtain ⟨I1, rfl, hf1, hE1⟩ := h58
          have hEs : EsC (evStep P (evO P ds) (2, p, q)) I1 := by have := hE1.2.2; rwa [show evO P (ds ++ [(2, p, q)]) = evStep P (evO P ds) (2, p, q) from evRun_app P evE ds [(2, p, q)]] at this
          refine g_aload_n dX10_jump_61 rfl ?_
          refine t_getR dX10_jump_62 fl_X10_44 rfl (by decide) rfl (by decide) rfl ?_
          refine g_iload_n dX10_jump_65 rfl ?_
          refine g_callVi dX10_jump_66 ln_X10_206 ⟨_, rfl⟩ rfl (by decide) ⟨_, _, rfl⟩ rfl (Nat.le_of_ble_eq_true rfl) (Nat.le_of_ble_eq_true rfl) (ct_outOf (p := p) hEs.2.2.1 (by omega)) rfl (fun r66 m66 h66 => ?_)
          obtain ⟨rfl, rfl⟩ := h66
          refine g_iload_n dX10_jump_69 rfl ?_
          refine g_isub dX10_jump_70 ?_
          refine g_iconst (v := 4) dX10_jump_71 (by decide) ?_
          refine g_iadd dX10_jump_72 ?_
          refine g_iret dX10_jump_73 (fun ty h => by cases h; rfl) ?_
          have hS : S_jump P ds (nI p) (nI q) = (zI ((evO P ds).2.2.1 q - (evO P ds).2.2.1 p + 4), ds ++ [(2, p, q)]) := by unfold S_jump; rw [q1, q2, decide_eq_true c24, cl_nI (by omega), cl_nI (by omega)]; exact if_neg (of_decide_eq_false (bI_eq c36))
          refine ⟨_, rfl, (FrC.of hf1 (by decide)), ?_, by rw [hS]; exact hA.upEv hf1 hE1⟩
          rw [hS]
          show zI (upR (evO P ds).2.2.1 p ((evO P ds).2.2.1 q) p) - zI ((evO P ds).2.2.1 p) + 4 = zI ((evO P ds).2.2.1 q - (evO P ds).2.2.1 p + 4)
          rw [upR_s, show (4 : Int32) = zI 4 from rfl, z_sub, z_add]
        · skip
          refine g_bipush (v := -2) dX10_jump_39 (by decide) ?_
          refine g_iret dX10_jump_41 (fun ty h => by cases h; rfl) ?_
          have hS : S_jump P ds (nI p) (nI q) = (-2, ds) := by unfold S_jump; rw [q1, q2, decide_eq_true c24, cl_nI (by omega), cl_nI (by omega)]; exact if_pos (of_decide_eq_true (bI_ne c36))
          exact ⟨_, rfl, FrC.rf, by rw [hS], by rw [hS]; exact hA⟩
      · skip
        refine g_iconst (v := -1) dX10_jump_27 (by decide) ?_
        refine g_iret dX10_jump_28 (fun ty h => by cases h; rfl) ?_
        have hS : S_jump P ds p q = (-1, ds) := by
          unfold S_jump
          first
            | (rw [bI_eq c8]; rfl)
            | (rw [bI_eq c19, Bool.false_and, Bool.and_false]; rfl)
            | (rw [decide_eq_false (not_not_intro c24), Bool.and_false, Bool.and_false]; rfl)
            | fail "no way"
        exact ⟨_, rfl, FrC.rf, by rw [hS], by rw [hS]; exact hA⟩
theorem pc_anew {rw tx : Tab} {P : Pce} {ds : List Deed} {sh : Shf} {tl : Int32} {ch : Int64 × Int64} {fn : Fnd} {l : Int32} (hA : AbsC rw tx P ds sh tl ch fn I J) (hO : StOK rw tx P ds sh) : Ct X (d + 5) 66 M_X10_anew 66 [.ref 0, .int l] (I, J, rf0) (RI (fun y9 m => ∃ I', m = (I', J, rf0) ∧ FrC I I' ∧ y9 = (S_anew P ds l).1 ∧ AbsC rw tx P (S_anew P ds l).2 sh tl ch fn I' J)) := by
  have hP := hA.2.2.1
  have hQ := hO.2.2.1
  have h14 := hQ.2.1
  have h4 := hQ.1
  have hEv := hA.2.2.2.1
  have hD := hO.2.2.2.1
  have hl40 := hD.1
  have hE := hEv.2.2
  have hR : EvR (evO P ds) := EvR.e.run hQ hD.2
  have hr14 := hR.1
  show Go _ _ _ _ _ _ [_, _, _] _ _ _
  refine g_aload_n dX10_anew_0 rfl ?_
  refine t_getR dX10_anew_1 fl_X10_35 rfl (by decide) rfl (by decide) rfl ?_
  refine g_iload_n dX10_anew_4 rfl ?_
  refine g_callVi dX10_anew_5 ln_X10_209 ⟨_, rfl⟩ rfl (by decide) ⟨_, _, rfl⟩ rfl (Nat.le_of_ble_eq_true rfl) (Nat.le_of_ble_eq_true rfl) (ct_placeOfLetter hP hQ) rfl (fun r5 m5 h5 => ?_)
  obtain ⟨rfl, rfl⟩ := h5
  refine g_istore_n dX10_anew_8 (by decide) ?_
  show Go _ _ _ _ _ _ [_, _, _] _ _ _
  refine g_iload_n dX10_anew_9 rfl ?_
  refine g_bipush (v := -9) dX10_anew_10 (by decide) ?_
  refine g_icmp_ne (tgt := 17) dX10_anew_12 (by decide) (fun c12 => ?_) (fun c12 => ?_)
  · skip
    obtain ⟨x, hlp⟩ : ∃ x, letP P l = some x := by
      cases hh : letP P l with
      | none => rw [hh] at c12; exact absurd rfl c12
      | some q => exact ⟨q, rfl⟩
    have hx : x < P.2.1 := (fstN_spec hlp).1
    rw [hlp]
    show Go _ _ _ _ _ _ [_, _, .int (nI x)] _ _ _
    refine g_aload_n dX10_anew_17 rfl ?_
    refine t_getR dX10_anew_18 fl_X10_44 rfl (by decide) rfl (by decide) rfl ?_
    refine g_callVi dX10_anew_21 ln_X10_191 ⟨_, rfl⟩ rfl (by decide) ⟨_, _, rfl⟩ rfl (Nat.le_of_ble_eq_true rfl) (Nat.le_of_ble_eq_true rfl) (ct_isFullC hEv.1 (by omega)) rfl (fun r21 m21 h21 => ?_)
    obtain ⟨rfl, rfl⟩ := h21
    refine g_if_eq (tgt := 30) dX10_anew_24 (by decide) (fun c24 => ?_) (fun c24 => ?_)
    · skip
      refine g_aload_n dX10_anew_30 rfl ?_
      refine t_getR dX10_anew_31 fl_X10_44 rfl (by decide) rfl (by decide) rfl ?_
      refine g_iconst (v := 3) dX10_anew_34 (by decide) ?_
      refine g_iconst (v := 0) dX10_anew_35 (by decide) ?_
      refine g_iload_n dX10_anew_36 rfl ?_
      refine g_callVv dX10_anew_37 ln_X10_197 rfl rfl (by decide) ⟨_, _, rfl⟩ rfl (Nat.le_of_ble_eq_true rfl) (Nat.le_of_ble_eq_true rfl) (ct_act (k := 3) (p := 0) (w := x) hP hQ hEv hD (by have := of_decide_eq_false (bI_eq c24); omega) ⟨rfl, hx⟩) rfl (fun m37 h37 => ?_)
      obtain ⟨I1, rfl, hf1, hE1⟩ := h37
      refine g_iload_n dX10_anew_40 rfl ?_
      refine g_iret dX10_anew_41 (fun ty h => by cases h; rfl) ?_
      have hS : S_anew P ds l = (nI x, ds ++ [(3, 0, x)]) := by unfold S_anew; rw [hlp]; exact if_neg (of_decide_eq_false (bI_eq c24))
      exact ⟨_, rfl, (FrC.of hf1 (by decide)), by rw [hS], by rw [hS]; exact hA.upEv hf1 hE1⟩
    · skip
      refine g_bipush (v := -2) dX10_anew_27 (by decide) ?_
      refine g_iret dX10_anew_29 (fun ty h => by cases h; rfl) ?_
      have hS : S_anew P ds l = (-2, ds) := by unfold S_anew; rw [hlp]; exact if_pos (of_decide_eq_true (bI_ne c24))
      exact ⟨_, rfl, FrC.rf, by rw [hS], by rw [hS]; exact hA⟩
  · skip
    refine g_iconst (v := -1) dX10_anew_15 (by decide) ?_
    refine g_iret dX10_anew_16 (fun ty h => by cases h; rfl) ?_
    have hS : S_anew P ds l = (-1, ds) := by
      unfold S_anew
      cases hh : letP P l with
      | none => rfl
      | some x =>
        rw [hh] at c12
        have hx : x < P.2.1 := (fstN_spec hh).1
        have := congrArg Int32.toInt (show nI x = -9 from c12)
        rw [nI_toInt (by omega), show (-9 : Int32).toInt = -9 by decide] at this
        omega
    exact ⟨_, rfl, FrC.rf, by rw [hS], by rw [hS]; exact hA⟩
theorem pc_undo {rw tx : Tab} {P : Pce} {ds : List Deed} {sh : Shf} {tl : Int32} {ch : Int64 × Int64} {fn : Fnd} {n : Int32} (hA : AbsC rw tx P ds sh tl ch fn I J) (hO : StOK rw tx P ds sh) : Ct X (d + 5) 66 M_X10_undo 66 [.ref 0, .int n] (I, J, rf0) (RI (fun y9 m => ∃ I', m = (I', J, rf0) ∧ FrC I I' ∧ y9 = (S_undo ds n).1 ∧ AbsC rw tx P (S_undo ds n).2 sh tl ch fn I' J)) := by
  have hP := hA.2.2.1
  have hQ := hO.2.2.1
  have h14 := hQ.2.1
  have h4 := hQ.1
  have hEv := hA.2.2.2.1
  have hD := hO.2.2.2.1
  have hl40 := hD.1
  have hE := hEv.2.2
  have hR : EvR (evO P ds) := EvR.e.run hQ hD.2
  have hr14 := hR.1
  show Go _ _ _ _ _ _ [_, _, _] _ _ _
  refine g_iload_n dX10_undo_0 rfl ?_
  refine g_if_lt (tgt := 15) dX10_undo_1 (by decide) (fun c1 => ?_) (fun c1 => ?_)
  · skip
    refine g_iconst (v := -1) dX10_undo_15 (by decide) ?_
    refine g_iret dX10_undo_16 (fun ty h => by cases h; rfl) ?_
    have hS : S_undo ds n = (-1, ds) := by
      unfold S_undo
      rw [if_neg (fun q => by
        obtain ⟨j, hj, rfl⟩ := inR_ix (by omega) q
        first
          | exact absurd c1 (nI_neg (by omega))
          | exact c12 (nI_le (by omega) (by omega)))]
    exact ⟨_, rfl, FrC.rf, by rw [hS], by rw [hS]; exact hA⟩
  · skip
    refine g_iload_n dX10_undo_4 rfl ?_
    refine g_aload_n dX10_undo_5 rfl ?_
    refine t_getR dX10_undo_6 fl_X10_44 rfl (by decide) rfl (by decide) rfl ?_
    refine t_getI dX10_undo_9 fl_X10_212 rfl (by decide) rfl (by decide) ?_
    rw [hEv.1]
    refine g_icmp_le (tgt := 17) dX10_undo_12 (by decide) (fun c12 => ?_) (fun c12 => ?_)
    · skip
      obtain ⟨n, hn31, rfl⟩ := nI_of c1
      have hn : n ≤ ds.length := (nI_leI hn31 (by omega)).mp c12
      refine g_aload_n dX10_undo_17 rfl ?_
      refine t_getR dX10_undo_18 fl_X10_44 rfl (by decide) rfl (by decide) rfl ?_
      refine t_getI dX10_undo_21 fl_X10_212 rfl (by decide) rfl (by decide) ?_
      refine g_iload_n dX10_undo_24 rfl ?_
      rw [hEv.1]
      refine g_isub dX10_undo_25 ?_
      rw [pk_sub hn]
      refine g_istore_n dX10_undo_26 (by decide) ?_
      show Go _ _ _ _ _ _ [_, _, _] _ _ _
      refine g_aload_n dX10_undo_27 rfl ?_
      refine t_getR dX10_undo_28 fl_X10_44 rfl (by decide) rfl (by decide) rfl ?_
      refine g_iload_n dX10_undo_31 rfl ?_
      refine g_callVv dX10_undo_32 ln_X10_158 rfl rfl (by decide) ⟨_, _, rfl⟩ rfl (Nat.le_of_ble_eq_true rfl) (Nat.le_of_ble_eq_true rfl) (ct_replay hP hQ hEv.2.1 hD (by omega)) rfl (fun m32 h32 => ?_)
      obtain ⟨I1, rfl, hf1, hn1, hE1⟩ := h32
      refine g_iload_n dX10_undo_35 rfl ?_
      refine g_iret dX10_undo_36 (fun ty h => by cases h; rfl) ?_
      have hS : S_undo ds (nI n) = (nI (ds.length - n), ds.take n) := by unfold S_undo; rw [inR_nI (by omega) (show n < ds.length + 1 by omega), cl_nI (by omega)]; rfl
      have hE9 : EvC P (ds.take n) I1 := ⟨by rw [hn1, List.length_take, Nat.min_eq_left hn], fun i d' hd' => by
        rw [hf1 27 (by decide)]
        exact hEv.2.1 i d' (by
          rw [List.getElem?_take] at hd'
          split at hd'
          · exact hd'
          · cases hd'), hE1⟩
      exact ⟨_, rfl, (FrC.of hf1 (by decide)), by rw [hS], by rw [hS]; exact hA.upEv (hf1.mono (by decide)) hE9⟩
    · skip
      refine g_iconst (v := -1) dX10_undo_15 (by decide) ?_
      refine g_iret dX10_undo_16 (fun ty h => by cases h; rfl) ?_
      have hS : S_undo ds n = (-1, ds) := by
        unfold S_undo
        rw [if_neg (fun q => by
          obtain ⟨j, hj, rfl⟩ := inR_ix (by omega) q
          first
            | exact absurd c1 (nI_neg (by omega))
            | exact c12 (nI_le (by omega) (by omega)))]
      exact ⟨_, rfl, FrC.rf, by rw [hS], by rw [hS]; exact hA⟩
theorem pc_here {rw tx : Tab} {P : Pce} {ds : List Deed} {sh : Shf} {tl : Int32} {ch : Int64 × Int64} {fn : Fnd} (hA : AbsC rw tx P ds sh tl ch fn I J) (hO : StOK rw tx P ds sh) : Ct X (d + 1) 66 M_X10_here 66 [.ref 0] (I, J, rf0) (RI (fun y9 m => ∃ I', m = (I', J, rf0) ∧ FrC I I' ∧ y9 = (S_here P ds tl).1 ∧ AbsC rw tx P ds sh (S_here P ds tl).2 ch fn I' J)) := by
  have hP := hA.2.2.1
  have hQ := hO.2.2.1
  have h14 := hQ.2.1
  have h4 := hQ.1
  have hEv := hA.2.2.2.1
  have hD := hO.2.2.2.1
  have hl40 := hD.1
  have hE := hEv.2.2
  have hR : EvR (evO P ds) := EvR.e.run hQ hD.2
  have hr14 := hR.1
  show Go _ _ _ _ _ _ [_] _ _ _
  refine g_aload_n dX10_here_0 rfl ?_
  refine t_getR dX10_here_1 fl_X10_35 rfl (by decide) rfl (by decide) rfl ?_
  refine g_callVi dX10_here_4 ln_X10_215 ⟨_, rfl⟩ rfl (by decide) ⟨_, _, rfl⟩ rfl (Nat.le_of_ble_eq_true rfl) (Nat.le_of_ble_eq_true rfl) (ct_isEmpty hP hQ) rfl (fun r4 m4 h4 => ?_)
  obtain ⟨rfl, rfl⟩ := h4
  refine g_if_eq (tgt := 13) dX10_here_7 (by decide) (fun c7 => ?_) (fun c7 => ?_)
  · skip
    refine g_aload_n dX10_here_13 rfl ?_
    refine g_aload_n dX10_here_14 rfl ?_
    refine t_getR dX10_here_15 fl_X10_44 rfl (by decide) rfl (by decide) rfl ?_
    refine t_getI dX10_here_18 fl_X10_194 rfl (by decide) rfl (by decide) ?_
    refine g_aload_n dX10_here_21 rfl ?_
    refine t_getR dX10_here_22 fl_X10_44 rfl (by decide) rfl (by decide) rfl ?_
    refine t_getI dX10_here_25 fl_X10_218 rfl (by decide) rfl (by decide) ?_
    refine g_isub dX10_here_28 ?_
    rw [hE.1, hE.2.1, pk_sub hR.2.1]
    refine t_putI dX10_here_29 fl_X10_111 rfl (by decide) rfl (by decide) ?_
    refine g_aload_n dX10_here_32 rfl ?_
    refine t_getR dX10_here_33 fl_X10_44 rfl (by decide) rfl (by decide) rfl ?_
    refine t_getI dX10_here_36 fl_X10_194 rfl (by decide) rfl (by decide) ?_
    refine g_iret dX10_here_39 (fun ty h => by cases h; rfl) ?_
    have hS : S_here P ds tl = (nI (evO P ds).1, nI ((evO P ds).1 - (evO P ds).2.1)) := by unfold S_here; rw [if_neg (of_decide_eq_false (bI_eq c7))]
    exact ⟨_, rfl, FrC.rf.up (by decide), by rw [hS, upR_n (by decide)]; exact hE.1, by rw [hS]; exact hA.told⟩
  · skip
    refine g_bipush (v := -4) dX10_here_10 (by decide) ?_
    refine g_iret dX10_here_12 (fun ty h => by cases h; rfl) ?_
    have hS : S_here P ds tl = (-4, tl) := by unfold S_here; rw [if_pos (of_decide_eq_true (bI_ne c7))]
    exact ⟨_, rfl, FrC.rf, by rw [hS], by rw [hS]; exact hA⟩
theorem pc_out {rw tx : Tab} {P : Pce} {ds : List Deed} {sh : Shf} {tl : Int32} {ch : Int64 × Int64} {fn : Fnd} {p : Int32} (hA : AbsC rw tx P ds sh tl ch fn I J) (hO : StOK rw tx P ds sh) : Ct X (d + 1) 66 M_X10_out 66 [.ref 0, .int p] (I, J, rf0) (RI (fun y9 m => ∃ I', m = (I', J, rf0) ∧ FrC I I' ∧ y9 = S_out P ds p ∧ AbsC rw tx P ds sh tl ch fn I' J)) := by
  have hP := hA.2.2.1
  have hQ := hO.2.2.1
  have h14 := hQ.2.1
  have h4 := hQ.1
  have hEv := hA.2.2.2.1
  have hD := hO.2.2.2.1
  have hl40 := hD.1
  have hE := hEv.2.2
  have hR : EvR (evO P ds) := EvR.e.run hQ hD.2
  have hr14 := hR.1
  show Go _ _ _ _ _ _ [_, _] _ _ _
  refine g_aload_n dX10_out_0 rfl ?_
  refine t_getR dX10_out_1 fl_X10_35 rfl (by decide) rfl (by decide) rfl ?_
  refine g_iload_n dX10_out_4 rfl ?_
  refine g_callVi dX10_out_5 ln_X10_174 ⟨_, rfl⟩ rfl (by decide) ⟨_, _, rfl⟩ rfl (Nat.le_of_ble_eq_true rfl) (Nat.le_of_ble_eq_true rfl) (ct_hasPlayer hP) rfl (fun r5 m5 h5 => ?_)
  obtain ⟨rfl, rfl⟩ := h5
  refine g_if_ne (tgt := 13) dX10_out_8 (by decide) (fun c8 => ?_) (fun c8 => ?_)
  · skip
    have q1 := bI_ne c8
    obtain ⟨p, hp, rfl⟩ := inR_ix (by omega) q1
    refine g_aload_n dX10_out_13 rfl ?_
    refine t_getR dX10_out_14 fl_X10_44 rfl (by decide) rfl (by decide) rfl ?_
    refine g_iload_n dX10_out_17 rfl ?_
    refine g_callVi dX10_out_18 ln_X10_206 ⟨_, rfl⟩ rfl (by decide) ⟨_, _, rfl⟩ rfl (Nat.le_of_ble_eq_true rfl) (Nat.le_of_ble_eq_true rfl) (ct_outOf (p := p) hE.2.2.1 (by omega)) rfl (fun r18 m18 h18 => ?_)
    obtain ⟨rfl, rfl⟩ := h18
    refine g_iconst (v := 2) dX10_out_21 (by decide) ?_
    refine g_iadd dX10_out_22 ?_
    refine g_iret dX10_out_23 (fun ty h => by cases h; rfl) ?_
    refine ⟨_, rfl, FrC.rf, ?_, hA⟩
    unfold S_out
    rw [q1, cl_nI (by omega), show (2 : Int32) = zI 2 from rfl, z_add]
    rfl
  · skip
    refine g_iconst (v := -1) dX10_out_11 (by decide) ?_
    refine g_iret dX10_out_12 (fun ty h => by cases h; rfl) ?_
    refine ⟨_, rfl, FrC.rf, ?_, hA⟩
    unfold S_out
    rw [bI_eq c8]
    rfl
theorem pc_hear {rw tx : Tab} {P : Pce} {ds : List Deed} {sh : Shf} {tl : Int32} {ch : Int64 × Int64} {fn : Fnd} (hA : AbsC rw tx P ds sh tl ch fn I J) (hO : StOK rw tx P ds sh) : Ct X (d + 3) 66 M_X10_hear 66 [.ref 0] (I, J, rf0) (RI (fun y9 m => ∃ I', m = (I', J, rf0) ∧ FrC I I' ∧ y9 = S_hear P ds ∧ AbsC rw tx P ds sh tl ch fn I' J)) := by
  have hP := hA.2.2.1
  have hQ := hO.2.2.1
  have h14 := hQ.2.1
  have h4 := hQ.1
  have hEv := hA.2.2.2.1
  have hD := hO.2.2.2.1
  have hl40 := hD.1
  have hE := hEv.2.2
  have hR : EvR (evO P ds) := EvR.e.run hQ hD.2
  have hr14 := hR.1
  show Go _ _ _ _ _ _ [_] _ _ _
  refine g_aload_n dX10_hear_0 rfl ?_
  refine t_getR dX10_hear_1 fl_X10_44 rfl (by decide) rfl (by decide) rfl ?_
  refine g_callVi dX10_hear_4 ln_X10_187 ⟨_, rfl⟩ rfl (by decide) ⟨_, _, rfl⟩ rfl (Nat.le_of_ble_eq_true rfl) (Nat.le_of_ble_eq_true rfl) (ct_isOver hP hQ hE hR) rfl (fun r4 m4 h4 => ?_)
  obtain ⟨rfl, rfl⟩ := h4
  refine g_if_eq (tgt := 13) dX10_hear_7 (by decide) (fun c7 => ?_) (fun c7 => ?_)
  · skip
    refine g_aload_n dX10_hear_13 rfl ?_
    refine t_getR dX10_hear_14 fl_X10_35 rfl (by decide) rfl (by decide) rfl ?_
    refine g_aload_n dX10_hear_17 rfl ?_
    refine t_getR dX10_hear_18 fl_X10_44 rfl (by decide) rfl (by decide) rfl ?_
    refine t_getI dX10_hear_21 fl_X10_194 rfl (by decide) rfl (by decide) ?_
    refine g_aload_n dX10_hear_24 rfl ?_
    refine t_getR dX10_hear_25 fl_X10_44 rfl (by decide) rfl (by decide) rfl ?_
    refine t_getR dX10_hear_28 fl_X10_221 rfl (by decide) rfl (by decide) rfl ?_
    rw [hE.1]
    refine g_callVi dX10_hear_31 ln_X10_224 ⟨_, rfl⟩ rfl (by decide) ⟨_, _, rfl⟩ rfl (Nat.le_of_ble_eq_true rfl) (Nat.le_of_ble_eq_true rfl) (ct_heardOn hP hQ (by have := of_decide_eq_false (bI_eq c7); omega) hR.2.2.1 (OA.of hE.2.2.1 rfl (by decide))) rfl (fun r31 m31 h31 => ?_)
    obtain ⟨rfl, rfl⟩ := h31
    refine g_iret dX10_hear_34 (fun ty h => by cases h; rfl) ?_
    refine ⟨_, rfl, FrC.rf, ?_, hA⟩
    unfold S_hear
    rw [if_neg (of_decide_eq_false (bI_eq c7))]
  · skip
    refine g_bipush (v := -4) dX10_hear_10 (by decide) ?_
    refine g_iret dX10_hear_12 (fun ty h => by cases h; rfl) ?_
    refine ⟨_, rfl, FrC.rf, ?_, hA⟩
    unfold S_hear
    rw [if_pos (of_decide_eq_true (bI_ne c7))]
theorem RwC.hrd {t : Tab} {j : Nat} {s : Evs} {g : Nat → Int32} (h : RwC t I) (hj : j < 6) (hg : ∀ i, i < s.1 - s.2.1 → g i = nI (s.2.2.2 (s.2.1 + i))) : RwC (tabHrd t j s) (upR (upR I 3 (upd (I 3) j (nI (s.1 - s.2.1)))) (5 + j) g) := by
  intro r hr
  refine ⟨?_, fun c' hc' i hi => ?_⟩
  · rw [upR_n (by omega), upR_s]
    by_cases e : r = j
    · subst e; rw [pk_us]; show _ = szI (upR t.1 r _ r); rw [upR_s]; rfl
    · rw [pk_un e]; show _ = szI (upR t.1 j _ r); rw [upR_n e]; exact (h r hr).1
  · by_cases e : r = j
    · subst e
      rw [show (tabHrd t r s).1 r = some (s.1 - s.2.1) from upR_s] at hc'
      cases hc'
      show (upR (β := Nat → Int32) _ (5 + r) g) (5 + r) (0 + i) = upR t.2 r (fun i => nI (s.2.2.2 (s.2.1 + i))) r i
      rw [upR_s, upR_s, Nat.zero_add, hg i hi]
    · rw [show (tabHrd t j s).1 r = t.1 r from upR_n e] at hc'
      show (upR (β := Nat → Int32) _ (5 + j) g) (5 + r) (0 + i) = upR t.2 j _ r i
      rw [upR_n (by omega), upR_n (by omega), upR_n e]
      exact (h r hr).2 c' hc' i hi
theorem pc_heard {rw tx : Tab} {P : Pce} {ds : List Deed} {sh : Shf} {tl : Int32} {ch : Int64 × Int64} {fn : Fnd} {r : Int32} (hA : AbsC rw tx P ds sh tl ch fn I J) (hO : StOK rw tx P ds sh) : Ct X (d + 4) 66 M_X10_heard 66 [.ref 0, .int r] (I, J, rf0) (RI (fun y9 m => ∃ I', m = (I', J, rf0) ∧ FrC I I' ∧ y9 = (S_heard P ds rw r).1 ∧ AbsC (S_heard P ds rw r).2 tx P ds sh tl ch fn I' J)) := by
  have hP := hA.2.2.1
  have hQ := hO.2.2.1
  have h14 := hQ.2.1
  have h4 := hQ.1
  have hEv := hA.2.2.2.1
  have hD := hO.2.2.2.1
  have hl40 := hD.1
  have hE := hEv.2.2
  have hR : EvR (evO P ds) := EvR.e.run hQ hD.2
  have hr14 := hR.1
  show Go _ _ _ _ _ _ [_, _, _, _] _ _ _
  refine g_aload_n dX10_heard_0 rfl ?_
  refine t_getR dX10_heard_1 fl_X10_10 rfl (by decide) rfl (by decide) rfl ?_
  refine t_getR dX10_heard_4 fl_X10_86 rfl (by decide) rfl (by decide) rfl ?_
  refine g_iload_n dX10_heard_7 rfl ?_
  refine g_callVi dX10_heard_8 ln_X10_90 ⟨_, rfl⟩ rfl (by decide) ⟨_, _, rfl⟩ rfl (Nat.le_of_ble_eq_true rfl) (Nat.le_of_ble_eq_true rfl) (ct_isNumber sz_rows) rfl (fun r8 m8 h8 => ?_)
  obtain ⟨rfl, rfl⟩ := h8
  refine g_if_ne (tgt := 16) dX10_heard_11 (by decide) (fun c11 => ?_) (fun c11 => ?_)
  · skip
    have q1 := bI_ne c11
    obtain ⟨j, hj, rfl⟩ := inR_ix (by decide) q1
    refine g_aload_n dX10_heard_16 rfl ?_
    refine t_getR dX10_heard_17 fl_X10_44 rfl (by decide) rfl (by decide) rfl ?_
    refine t_getI dX10_heard_20 fl_X10_194 rfl (by decide) rfl (by decide) ?_
    refine g_aload_n dX10_heard_23 rfl ?_
    refine t_getR dX10_heard_24 fl_X10_44 rfl (by decide) rfl (by decide) rfl ?_
    refine t_getI dX10_heard_27 fl_X10_218 rfl (by decide) rfl (by decide) ?_
    refine g_isub dX10_heard_30 ?_
    rw [hE.1, hE.2.1, pk_sub hR.2.1]
    refine g_istore_n dX10_heard_31 (by decide) ?_
    show Go _ _ _ _ _ _ [_, _, _, _] _ _ _
    refine g_aload_n dX10_heard_32 rfl ?_
    refine t_getR dX10_heard_33 fl_X10_10 rfl (by decide) rfl (by decide) rfl ?_
    refine g_iload_n dX10_heard_36 rfl ?_
    refine g_iload_n dX10_heard_37 rfl ?_
    refine g_callVv dX10_heard_38 ln_X10_100 rfl rfl (by decide) ⟨_, _, rfl⟩ rfl (Nat.le_of_ble_eq_true rfl) (Nat.le_of_ble_eq_true rfl) (ct_make_R hj (by omega)) rfl (fun m38 h38 => ?_)
    obtain ⟨g0, rfl, -⟩ := h38
    refine g_iconst (v := 0) dX10_heard_41 (by decide) ?_
    refine g_istore_n dX10_heard_42 (by decide) ?_
    show Go _ _ _ _ _ _ [_, _, _, _] _ _ _
    generalize hI1 : upR I 3 (upd (I 3) j (nI ((evO P ds).1 - (evO P ds).2.1))) = I1
    have hr2 := hR.2.1
    have hfold : ∀ i q, q < i → foldN (fun (i : Nat) (g : Nat → Int32) => upd g i (nI ((evO P ds).2.2.2 ((evO P ds).2.1 + i)))) g0 i q = nI ((evO P ds).2.2.2 ((evO P ds).2.1 + q)) := by
      intro i
      induction i with
      | zero => intro q hq; omega
      | succ i ih =>
        intro q hq
        show upd (foldN (fun (i : Nat) (g : Nat → Int32) => upd g i (nI ((evO P ds).2.2.2 ((evO P ds).2.1 + i)))) g0 i) i _ q = _
        by_cases e : q = i
        · subst e; rw [pk_us]
        · rw [pk_un e]; exact ih q (by omega)
    have hne : ∀ (g : Nat → Int32) q, q ≠ 3 → q ≠ 5 + j → upR I1 (5 + j) g q = I q := fun g q h1 h2 => by rw [upR_n h2, ← hI1, upR_n h1]
    refine go_for (fun (i : Nat) (g : Nat → Int32) => upd g i (nI ((evO P ds).2.2.2 ((evO P ds).2.1 + i)))) g0 ((evO P ds).1 - (evO P ds).2.1) (fun i g => Go X (d + 4) 66 M_X10_heard 66 43 [.ref 0, .int (nI j), .int (nI ((evO P ds).1 - (evO P ds).2.1)), .int (nI i)] [] (upR I1 (5 + j) g, J, rf0) (RI (fun y9 m => ∃ I', m = (I', J, rf0) ∧ FrC I I' ∧ y9 = (S_heard P ds rw (nI j)).1 ∧ AbsC (S_heard P ds rw (nI j)).2 tx P ds sh tl ch fn I' J))) (fun i hi kk => ?_) ?_
    · have hE2 : EsC (evO P ds) (upR I1 (5 + j) (foldN (fun (i : Nat) (g : Nat → Int32) => upd g i (nI ((evO P ds).2.2.2 ((evO P ds).2.1 + i)))) g0 i)) := ⟨by rw [hne _ 25 (by decide) (by omega)]; exact hE.1, by rw [hne _ 25 (by decide) (by omega)]; exact hE.2.1, hE.2.2.1.keep (hne _ 28 (by decide) (by omega)), fun x a b => by rw [hne _ 26 (by decide) (by omega)]; exact hE.2.2.2 x a b⟩
      have hs2 : upR I1 (5 + j) (foldN (fun (i : Nat) (g : Nat → Int32) => upd g i (nI ((evO P ds).2.2.2 ((evO P ds).2.1 + i)))) g0 i) 3 j = nI ((evO P ds).1 - (evO P ds).2.1) := by rw [upR_n (by omega), ← hI1, upR_s, pk_us]
      refine g_iload_n dX10_heard_43 rfl ?_
      refine g_iload_n dX10_heard_44 rfl ?_
      refine g_icmp_ge (tgt := 79) dX10_heard_45 (by decide) (fun c45 => ?_) (fun c45 => ?_)
      · exact absurd (nI_lt hi (by omega)) (Int32.not_lt.mpr c45)
      · skip
        refine g_aload_n dX10_heard_48 rfl ?_
        refine t_getR dX10_heard_49 fl_X10_10 rfl (by decide) rfl (by decide) rfl ?_
        refine g_iload_n dX10_heard_52 rfl ?_
        refine g_iload_n dX10_heard_53 rfl ?_
        refine g_aload_n dX10_heard_54 rfl ?_
        refine t_getR dX10_heard_55 fl_X10_44 rfl (by decide) rfl (by decide) rfl ?_
        refine g_aload_n dX10_heard_58 rfl ?_
        refine t_getR dX10_heard_59 fl_X10_44 rfl (by decide) rfl (by decide) rfl ?_
        refine t_getI dX10_heard_62 fl_X10_218 rfl (by decide) rfl (by decide) ?_
        refine g_iload_n dX10_heard_65 rfl ?_
        refine g_iadd dX10_heard_66 ?_
        rw [hE2.2.1, nI_add]
        refine g_callVi dX10_heard_67 ln_X10_200 ⟨_, rfl⟩ rfl (by decide) ⟨_, _, rfl⟩ rfl (Nat.le_of_ble_eq_true rfl) (Nat.le_of_ble_eq_true rfl) (ct_heardOf (x := (evO P ds).2.1 + i) hE2 hR (by omega) (by omega)) rfl (fun r67 m67 h67 => ?_)
        obtain ⟨rfl, rfl⟩ := h67
        refine g_callVv dX10_heard_70 ln_X10_115 rfl rfl (by decide) ⟨_, _, rfl⟩ rfl (Nat.le_of_ble_eq_true rfl) (Nat.le_of_ble_eq_true rfl) (ct_set_R hj hs2 (by omega) hi) rfl (fun m70 h70 => ?_)
        subst h70
        refine g_iinc dX10_heard_73 rfl (by decide) ?_
        show Go _ _ _ _ _ _ [_, _, _, _] _ _ _
        refine g_goto (tgt := 43) dX10_heard_76 (by decide) ?_
        rw [nI_inc]
        have e9 : upR (upR I1 (5 + j) (foldN (fun (i : Nat) (g : Nat → Int32) => upd g i (nI ((evO P ds).2.2.2 ((evO P ds).2.1 + i)))) g0 i)) (5 + j) (upd (upR I1 (5 + j) (foldN (fun (i : Nat) (g : Nat → Int32) => upd g i (nI ((evO P ds).2.2.2 ((evO P ds).2.1 + i)))) g0 i) (5 + j)) i (nI ((evO P ds).2.2.2 ((evO P ds).2.1 + i)))) = upR I1 (5 + j) (foldN (fun (i : Nat) (g : Nat → Int32) => upd g i (nI ((evO P ds).2.2.2 ((evO P ds).2.1 + i)))) g0 (i + 1)) := by
          funext q
          by_cases hq : q = 5 + j
          · subst hq; rw [upR_s, upR_s, upR_s]; rfl
          · rw [upR_n hq, upR_n hq, upR_n hq]
        rw [e9]
        exact kk
    · skip
      refine g_iload_n dX10_heard_43 rfl ?_
      refine g_iload_n dX10_heard_44 rfl ?_
      refine g_icmp_ge (tgt := 79) dX10_heard_45 (by decide) (fun c45 => ?_) (fun c45 => ?_)
      · rw [← hI1]
        refine g_iload_n dX10_heard_79 rfl ?_
        refine g_iret dX10_heard_80 (fun ty h => by cases h; rfl) ?_
        have hS : S_heard P ds rw (nI j) = (nI ((evO P ds).1 - (evO P ds).2.1), tabHrd rw j (evO P ds)) := by unfold S_heard; rw [q1, cl_nI (by omega)]; rfl
        exact ⟨_, rfl, (FrC.rf.up (by decide)).up (by omega), by rw [hS], by rw [hS]; exact hA.upRw ((Fr.rf.up (by decide)).up (by simp; omega)) (RwC.hrd hA.1 hj (fun i hi => hfold _ i hi))⟩
      · exact absurd (Int32.le_refl _) c45
  · skip
    refine g_iconst (v := -1) dX10_heard_14 (by decide) ?_
    refine g_iret dX10_heard_15 (fun ty h => by cases h; rfl) ?_
    have hS : S_heard P ds rw r = (-1, rw) := by unfold S_heard; rw [bI_eq c11]; rfl
    exact ⟨_, rfl, FrC.rf, by rw [hS], by rw [hS]; exact hA⟩
theorem ct_keep {ds : List Deed} {j : Nat} (hj : j < 3) (hl : I 25 4 = nI ds.length) (hds : DsC 27 ds I) (hn : ds.length ≤ 40) : Ct X (d + 2) 66 M_X6_keep 66 [.ref 29, .int (nI j), .ref 25] (I, J, rf0) (RV (fun m => ∃ I', m = (I', J, rf0) ∧ Fr [31, 33, 34, 35] I I' ∧ I' 31 = upd (I 31) j (nI ds.length) ∧ (∀ k, k < 3 → k ≠ j → I' (33 + k) = I (33 + k)) ∧ DsC (33 + j) ds I')) := by
  show Go _ _ _ _ _ _ [_, _, _] _ _ _
  refine g_aload_n dX6_keep_0 rfl ?_
  refine t_getR dX6_keep_1 fl_X6_16 rfl (by decide) rfl (by decide) rfl ?_
  refine g_iload_n dX6_keep_4 rfl ?_
  refine g_callVi dX6_keep_5 ln_X6_25 ⟨_, rfl⟩ rfl (by decide) ⟨_, _, rfl⟩ rfl (Nat.le_of_ble_eq_true rfl) (Nat.le_of_ble_eq_true rfl) (ct_isNumber sz_shelf) rfl (fun r5 m5 h5 => ?_)
  obtain ⟨rfl, rfl⟩ := h5
  refine g_if_ne (tgt := 12) dX6_keep_8 (by decide) (fun c8 => ?_) (fun c8 => ?_)
  · skip
    refine g_aload_n dX6_keep_12 rfl ?_
    refine t_getR dX6_keep_13 fl_X6_29 rfl (by decide) rfl (by decide) rfl ?_
    refine g_iconst (v := 0) dX6_keep_16 (by decide) ?_
    refine g_aload_n dX6_keep_17 rfl ?_
    refine t_getR dX6_keep_18 fl_X6_22 rfl (by decide) rfl (by decide) rfl ?_
    refine g_iload_n dX6_keep_21 rfl ?_
    refine t_aald dX6_keep_22 rfl (Or.inl rfl) (by decide) (in_nI hj (by decide)) (rf_kept hj) ?_
    refine g_iconst (v := 0) dX6_keep_23 (by decide) ?_
    refine g_bipush (v := 40) dX6_keep_24 (by decide) ?_
    refine t_copy dX6_keep_26 ac_X6_34 rfl (shp_kept hj) (by decide) (by omega) (by decide) (by decide) (by decide) (by decide) (by decide) (Nat.le_of_ble_eq_true rfl) ?_
    refine g_aload_n dX6_keep_29 rfl ?_
    refine t_getR dX6_keep_30 fl_X6_16 rfl (by decide) rfl (by decide) rfl ?_
    refine g_iload_n dX6_keep_33 rfl ?_
    refine g_aload_n dX6_keep_34 rfl ?_
    refine t_getI dX6_keep_35 fl_X6_40 rfl (by decide) rfl (by decide) ?_
    refine g_callVv dX6_keep_38 ln_X6_44 rfl rfl (by decide) ⟨_, _, rfl⟩ rfl (Nat.le_of_ble_eq_true rfl) (Nat.le_of_ble_eq_true rfl) (ct_become sz_shelf) rfl (fun m38 h38 => ?_)
    subst h38
    rw [bec_nI (by decide) hj]
    refine g_vret dX6_keep_41 ?_
    rw [upR_n (a := 25) (by omega), hl, upR_n (a := 31) (by omega)]
    refine ⟨_, rfl, (Fr.rf.up (by simp; omega)).up (by decide), upR_s, fun k hk hkj => by rw [upR_n (by omega), upR_n (by omega)], fun i d' hd' => ?_⟩
    have hi := (List.getElem?_eq_some_iff.mp hd').1
    rw [upR_n (by omega), upR_s, show (0 : Int32).toNatClampNeg = 0 by decide, show (40 : Int32).toNatClampNeg = 40 by decide, pk_cpy_in (by omega) (by omega), show 0 + (i - 0) = i by omega]
    exact hds i d' hd'
  · exact absurd c8 (by rw [inR_nI (by decide) hj]; decide)
theorem ct_bringBack {P : Pce} {es : List Deed} {sh : Shf} {j : Nat} (hP : PcC P I) (hO : PcOK P) (hj : j < 3) (hsh : ShC sh I) (hes : sh j = some es) (hD : DsOK P es) : Ct X (d + 5) 66 M_X6_bringBack 66 [.ref 29, .int (nI j), .ref 25] (I, J, rf0) (RV (fun m => ∃ I', m = (I', J, rf0) ∧ Fr [25, 26, 27, 28] I I' ∧ EvC P es I')) := by
  have h40 := hD.1
  have hs31 : I 31 j = nI es.length := by have := (hsh j hj).1; rw [hes] at this; exact this
  have hds := (hsh j hj).2 es hes
  show Go _ _ _ _ _ _ [_, _, _] _ _ _
  refine g_aload_n dX6_bringBack_0 rfl ?_
  refine t_getR dX6_bringBack_1 fl_X6_16 rfl (by decide) rfl (by decide) rfl ?_
  refine g_iload_n dX6_bringBack_4 rfl ?_
  refine g_callVi dX6_bringBack_5 ln_X6_48 ⟨_, rfl⟩ rfl (by decide) ⟨_, _, rfl⟩ rfl (Nat.le_of_ble_eq_true rfl) (Nat.le_of_ble_eq_true rfl) (ct_isThere sz_shelf) rfl (fun r5 m5 h5 => ?_)
  obtain ⟨rfl, rfl⟩ := h5
  rw [ofV_nI (by decide) hj, hs31]
  refine g_if_ne (tgt := 12) dX6_bringBack_8 (by decide) (fun c8 => ?_) (fun c8 => ?_)
  · skip
    refine g_aload_n dX6_bringBack_12 rfl ?_
    refine t_getR dX6_bringBack_13 fl_X6_22 rfl (by decide) rfl (by decide) rfl ?_
    refine g_iload_n dX6_bringBack_16 rfl ?_
    refine t_aald dX6_bringBack_17 rfl (Or.inl rfl) (by decide) (in_nI hj (by decide)) (rf_kept hj) ?_
    refine g_iconst (v := 0) dX6_bringBack_18 (by decide) ?_
    refine g_aload_n dX6_bringBack_19 rfl ?_
    refine t_getR dX6_bringBack_20 fl_X6_29 rfl (by decide) rfl (by decide) rfl ?_
    refine g_iconst (v := 0) dX6_bringBack_23 (by decide) ?_
    refine g_bipush (v := 40) dX6_bringBack_24 (by decide) ?_
    refine t_copy dX6_bringBack_26 ac_X6_34 (shp_kept hj) rfl (by omega) (by decide) (by decide) (by decide) (by decide) (by decide) (by decide) (Nat.le_of_ble_eq_true rfl) ?_
    rw [show (0 : Int32).toNatClampNeg = 0 by decide, show (40 : Int32).toNatClampNeg = 40 by decide]
    have hP2 : PcC P (upR I 27 (va_cpy (I (33 + j)) (I 27) 0 0 40)) := hP.keep (by rw [upR_n (by decide)]) (by rw [upR_n (by decide)]) (upR_n (by decide)) (upR_n (by decide))
    have hds2 : DsC 27 es (upR I 27 (va_cpy (I (33 + j)) (I 27) 0 0 40)) := fun i d' hd' => by
      have hi := (List.getElem?_eq_some_iff.mp hd').1
      rw [upR_s, pk_cpy_in (by omega) (by omega), show 0 + (i - 0) = i by omega]
      exact hds i d' hd'
    refine g_aload_n dX6_bringBack_29 rfl ?_
    refine g_aload_n dX6_bringBack_30 rfl ?_
    refine t_getR dX6_bringBack_31 fl_X6_16 rfl (by decide) rfl (by decide) rfl ?_
    refine g_iload_n dX6_bringBack_34 rfl ?_
    refine g_callVi dX6_bringBack_35 ln_X6_51 ⟨_, rfl⟩ rfl (by decide) ⟨_, _, rfl⟩ rfl (Nat.le_of_ble_eq_true rfl) (Nat.le_of_ble_eq_true rfl) (ct_of sz_shelf) rfl (fun r35 m35 h35 => ?_)
    obtain ⟨rfl, rfl⟩ := h35
    rw [ofV_nI (by decide) hj, upR_n (a := 31) (by decide), hs31]
    refine g_callVv dX6_bringBack_38 ln_X6_55 rfl rfl (by decide) ⟨_, _, rfl⟩ rfl (Nat.le_of_ble_eq_true rfl) (Nat.le_of_ble_eq_true rfl) (ct_replay (n := es.length) hP2 hO hds2 hD (Nat.le_refl _)) rfl (fun m38 h38 => ?_)
    obtain ⟨I2, rfl, hf2, hn2, hE2⟩ := h38
    refine g_vret dX6_bringBack_41 ?_
    rw [List.take_length] at hE2
    refine ⟨I2, rfl, fun q hq => ?_, hn2, fun i d' hd' => ?_, hE2⟩
    · have q2 : q ∉ [25, 26, 28] := fun e => hq (by simp at e ⊢; omega)
      have q3 : q ≠ 27 := fun e => hq (by rw [e]; decide)
      rw [hf2 q q2, upR_n q3]
    · rw [hf2 27 (by decide)]; exact hds2 i d' hd'
  · exact absurd c8 (by rw [decide_eq_true (show ¬ nI es.length = -1 from szI_ne (c := es.length) (by omega))]; decide)
theorem pc_image {rw tx : Tab} {P : Pce} {ds : List Deed} {sh : Shf} {tl : Int32} {ch : Int64 × Int64} {fn : Fnd} {k : Int32} (hA : AbsC rw tx P ds sh tl ch fn I J) (hO : StOK rw tx P ds sh) : Ct X (d + 3) 66 M_X10_image 66 [.ref 0, .int k] (I, J, rf0) (RI (fun y9 m => ∃ I', m = (I', J, rf0) ∧ FrC I I' ∧ y9 = (S_image P ds sh k).1 ∧ AbsC rw tx P ds (S_image P ds sh k).2 tl ch fn I' J)) := by
  have hP := hA.2.2.1
  have hQ := hO.2.2.1
  have h14 := hQ.2.1
  have h4 := hQ.1
  have hEv := hA.2.2.2.1
  have hD := hO.2.2.2.1
  have hl40 := hD.1
  have hE := hEv.2.2
  have hR : EvR (evO P ds) := EvR.e.run hQ hD.2
  have hr14 := hR.1
  show Go _ _ _ _ _ _ [_, _] _ _ _
  refine g_aload_n dX10_image_0 rfl ?_
  refine t_getR dX10_image_1 fl_X10_51 rfl (by decide) rfl (by decide) rfl ?_
  refine t_getR dX10_image_4 fl_X10_161 rfl (by decide) rfl (by decide) rfl ?_
  refine g_iload_n dX10_image_7 rfl ?_
  refine g_callVi dX10_image_8 ln_X10_90 ⟨_, rfl⟩ rfl (by decide) ⟨_, _, rfl⟩ rfl (Nat.le_of_ble_eq_true rfl) (Nat.le_of_ble_eq_true rfl) (ct_isNumber sz_shelf) rfl (fun r8 m8 h8 => ?_)
  obtain ⟨rfl, rfl⟩ := h8
  refine g_if_ne (tgt := 16) dX10_image_11 (by decide) (fun c11 => ?_) (fun c11 => ?_)
  · skip
    have q1 := bI_ne c11
    obtain ⟨j, hj, rfl⟩ := inR_ix (by decide) q1
    refine g_aload_n dX10_image_16 rfl ?_
    refine t_getR dX10_image_17 fl_X10_35 rfl (by decide) rfl (by decide) rfl ?_
    refine g_callVi dX10_image_20 ln_X10_215 ⟨_, rfl⟩ rfl (by decide) ⟨_, _, rfl⟩ rfl (Nat.le_of_ble_eq_true rfl) (Nat.le_of_ble_eq_true rfl) (ct_isEmpty hP hQ) rfl (fun r20 m20 h20 => ?_)
    obtain ⟨rfl, rfl⟩ := h20
    refine g_if_eq (tgt := 29) dX10_image_23 (by decide) (fun c23 => ?_) (fun c23 => ?_)
    · skip
      refine g_aload_n dX10_image_29 rfl ?_
      refine t_getR dX10_image_30 fl_X10_51 rfl (by decide) rfl (by decide) rfl ?_
      refine g_iload_n dX10_image_33 rfl ?_
      refine g_aload_n dX10_image_34 rfl ?_
      refine t_getR dX10_image_35 fl_X10_44 rfl (by decide) rfl (by decide) rfl ?_
      refine g_callVv dX10_image_38 ln_X10_228 rfl rfl (by decide) ⟨_, _, rfl⟩ rfl (Nat.le_of_ble_eq_true rfl) (Nat.le_of_ble_eq_true rfl) (ct_keep hj hEv.1 hEv.2.1 hl40) rfl (fun m38 h38 => ?_)
      obtain ⟨I1, rfl, hf1, h31, hoth, hnew⟩ := h38
      refine g_aload_n dX10_image_41 rfl ?_
      refine t_getR dX10_image_42 fl_X10_44 rfl (by decide) rfl (by decide) rfl ?_
      refine t_getI dX10_image_45 fl_X10_212 rfl (by decide) rfl (by decide) ?_
      refine g_iret dX10_image_48 (fun ty h => by cases h; rfl) ?_
      have hS : S_image P ds sh (nI j) = (nI ds.length, upR sh j (some ds)) := by unfold S_image; rw [q1, cl_nI (by omega)]; exact if_neg (of_decide_eq_false (bI_eq c23))
      have hSh : ShC (upR sh j (some ds)) I1 := by
        intro k hk
        by_cases e : k = j
        · subst e
          rw [upR_s, h31, pk_us]
          exact ⟨rfl, fun es he => by cases he; exact hnew⟩
        · rw [upR_n e, h31, pk_un e]
          exact ⟨(hA.2.2.2.2.1 k hk).1, fun es he => ((hA.2.2.2.2.1 k hk).2 es he).keep (hoth k hk e)⟩
      exact ⟨_, rfl, FrC.of hf1 (by decide), by rw [hS, hf1 25 (by decide)]; exact hEv.1, by rw [hS]; exact hA.upSh hf1 hSh⟩
    · skip
      refine g_bipush (v := -4) dX10_image_26 (by decide) ?_
      refine g_iret dX10_image_28 (fun ty h => by cases h; rfl) ?_
      have hS : S_image P ds sh (nI j) = (-4, sh) := by unfold S_image; rw [q1]; exact if_pos (of_decide_eq_true (bI_ne c23))
      exact ⟨_, rfl, FrC.rf, by rw [hS], by rw [hS]; exact hA⟩
  · skip
    refine g_iconst (v := -1) dX10_image_14 (by decide) ?_
    refine g_iret dX10_image_15 (fun ty h => by cases h; rfl) ?_
    have hS : S_image P ds sh k = (-1, sh) := by unfold S_image; rw [bI_eq c11]; rfl
    exact ⟨_, rfl, FrC.rf, by rw [hS], by rw [hS]; exact hA⟩
theorem pc_restore {rw tx : Tab} {P : Pce} {ds : List Deed} {sh : Shf} {tl : Int32} {ch : Int64 × Int64} {fn : Fnd} {k : Int32} (hA : AbsC rw tx P ds sh tl ch fn I J) (hO : StOK rw tx P ds sh) : Ct X (d + 6) 66 M_X10_restore 66 [.ref 0, .int k] (I, J, rf0) (RI (fun y9 m => ∃ I', m = (I', J, rf0) ∧ FrC I I' ∧ y9 = (S_restore ds sh fn k).1 ∧ AbsC rw tx P (S_restore ds sh fn k).2.1 sh tl ch (S_restore ds sh fn k).2.2 I' J)) := by
  have hP := hA.2.2.1
  have hQ := hO.2.2.1
  have h14 := hQ.2.1
  have h4 := hQ.1
  have hEv := hA.2.2.2.1
  have hD := hO.2.2.2.1
  have hl40 := hD.1
  have hE := hEv.2.2
  have hR : EvR (evO P ds) := EvR.e.run hQ hD.2
  have hr14 := hR.1
  show Go _ _ _ _ _ _ [_, _] _ _ _
  refine g_aload_n dX10_restore_0 rfl ?_
  refine t_getR dX10_restore_1 fl_X10_51 rfl (by decide) rfl (by decide) rfl ?_
  refine t_getR dX10_restore_4 fl_X10_161 rfl (by decide) rfl (by decide) rfl ?_
  refine g_iload_n dX10_restore_7 rfl ?_
  refine g_callVi dX10_restore_8 ln_X10_90 ⟨_, rfl⟩ rfl (by decide) ⟨_, _, rfl⟩ rfl (Nat.le_of_ble_eq_true rfl) (Nat.le_of_ble_eq_true rfl) (ct_isNumber sz_shelf) rfl (fun r8 m8 h8 => ?_)
  obtain ⟨rfl, rfl⟩ := h8
  refine g_if_ne (tgt := 16) dX10_restore_11 (by decide) (fun c11 => ?_) (fun c11 => ?_)
  · skip
    have q1 := bI_ne c11
    obtain ⟨j, hj, rfl⟩ := inR_ix (by decide) q1
    refine g_aload_n dX10_restore_16 rfl ?_
    refine t_getR dX10_restore_17 fl_X10_51 rfl (by decide) rfl (by decide) rfl ?_
    refine t_getR dX10_restore_20 fl_X10_161 rfl (by decide) rfl (by decide) rfl ?_
    refine g_iload_n dX10_restore_23 rfl ?_
    refine g_callVi dX10_restore_24 ln_X10_126 ⟨_, rfl⟩ rfl (by decide) ⟨_, _, rfl⟩ rfl (Nat.le_of_ble_eq_true rfl) (Nat.le_of_ble_eq_true rfl) (ct_isThere sz_shelf) rfl (fun r24 m24 h24 => ?_)
    obtain ⟨rfl, rfl⟩ := h24
    rw [ofV_nI (by decide) hj, (hA.2.2.2.2.1 j hj).1]
    refine g_if_ne (tgt := 36) dX10_restore_27 (by decide) (fun c27 => ?_) (fun c27 => ?_)
    · skip
      obtain ⟨es, hes⟩ : ∃ es, sh j = some es := by
        cases hh : sh j with
        | none => rw [hh] at c27; exact absurd rfl c27
        | some q => exact ⟨q, rfl⟩
      have hDe := hO.2.2.2.2 j hj es hes
      refine g_aload_n dX10_restore_36 rfl ?_
      refine t_getR dX10_restore_37 fl_X10_51 rfl (by decide) rfl (by decide) rfl ?_
      refine g_iload_n dX10_restore_40 rfl ?_
      refine g_aload_n dX10_restore_41 rfl ?_
      refine t_getR dX10_restore_42 fl_X10_44 rfl (by decide) rfl (by decide) rfl ?_
      refine g_callVv dX10_restore_45 ln_X10_232 rfl rfl (by decide) ⟨_, _, rfl⟩ rfl (Nat.le_of_ble_eq_true rfl) (Nat.le_of_ble_eq_true rfl) (ct_bringBack hP hQ hj hA.2.2.2.2.1 hes hDe) rfl (fun m45 h45 => ?_)
      obtain ⟨I1, rfl, hf1, hE1⟩ := h45
      refine g_aload_n dX10_restore_48 rfl ?_
      refine t_getR dX10_restore_49 fl_X10_44 rfl (by decide) rfl (by decide) rfl ?_
      refine t_getI dX10_restore_52 fl_X10_212 rfl (by decide) rfl (by decide) ?_
      refine g_iret dX10_restore_55 (fun ty h => by cases h; rfl) ?_
      have hS : S_restore ds sh fn (nI j) = (nI es.length, es, fn) := by unfold S_restore; rw [q1, cl_nI (by omega), hes]; rfl
      exact ⟨_, rfl, FrC.of hf1 (by decide), by rw [hS]; exact hE1.1, by rw [hS]; exact hA.upEv hf1 hE1⟩
    · skip
      refine g_aload_n dX10_restore_30 rfl ?_
      refine g_iconst (v := 1) dX10_restore_31 (by decide) ?_
      refine g_callVi dX10_restore_32 ln_X10_96 ⟨_, rfl⟩ rfl (by decide) ⟨_, _, rfl⟩ rfl (Nat.le_of_ble_eq_true rfl) (Nat.le_of_ble_eq_true rfl) (ct_find (w := 1) (by decide)) rfl (fun r32 m32 h32 => ?_)
      obtain ⟨rfl, rfl⟩ := h32
      refine g_iret dX10_restore_35 (fun ty h => by cases h; rfl) ?_
      have hno : sh j = none := by
        cases hh : sh j with
        | none => rfl
        | some es =>
          rw [hh] at c27
          have := (hO.2.2.2.2 j hj es hh).1
          exact absurd c27 (by rw [decide_eq_true (show ¬ szI (Option.map List.length (some es)) = -1 from szI_ne (c := es.length) (by omega))]; decide)
      have hS : S_restore ds sh fn (nI j) = (-3, ds, fndS 1 fn) := by unfold S_restore; rw [q1, cl_nI (by omega), hno]; rfl
      exact ⟨_, rfl, FrC.find, by rw [hS], by rw [hS]; exact hA.find (by decide)⟩
  · skip
    refine g_iconst (v := -1) dX10_restore_14 (by decide) ?_
    refine g_iret dX10_restore_15 (fun ty h => by cases h; rfl) ?_
    have hS : S_restore ds sh fn k = (-1, ds, fn) := by unfold S_restore; rw [bI_eq c11]; rfl
    exact ⟨_, rfl, FrC.rf, by rw [hS], by rw [hS]; exact hA⟩
end
